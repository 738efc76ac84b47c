/-! bytes made, copied; strings read -/
def Fb (f : Nat → Int32) : Prop := ∀ j, fits .byte (.int (f j)) = true
theorem P_nil {D : va_G} {H : Heap} : va_P D vwCl [] H := fun k q h => by cases h
theorem at_P2 {D : va_G} {x y : Nat × va_E} {H : Heap} (h1 : va_at D vwCl x H) (h2 : va_at D vwCl y H) : va_P D vwCl [x, y] H := fun k q hk => by
  have hz : k < 2 := (List.getElem?_eq_some_iff.mp hk).1
  obtain rfl | rfl : k = 0 ∨ k = 1 := by omega
  · cases hk; exact h1
  · cases hk; exact h2
/-- an array of bytes to read from -/
def Sr (s : State) (H : Heap) (a0 n0 : Nat) (f : Nat → Int32) : Prop := ∃ scr : Cell, H[a0]? = some scr ∧ s.isArrayOf scr .byte ∧ scr.vm ≠ .unknown ∧ n0 ≤ scr.slots.size ∧ ∀ j, j < n0 → scr.slots[j]? = some (.int (f j))
def JR (l : Launch) (y : MethodName) (b : ByteArray) (n : Nat) (ret : Option FieldType) (d : Nat) (D : va_G) (Y : Nat → ClassId) (Φ : State → Heap → Prop) (As : List Value) (r : Int32) : Prop :=
  Met l y (wc y b n ret) (rmD d 0 0) (va_Pc As (PE D Y Φ)) (RQ ret r) 0 0 (fun _ => False)
def NoA : Nat → Prop := fun _ => False
theorem nA_S {s : State} : va_S NoA s.heap s.heap [] := va_S.rf
section JCR
variable {p : Program} {l : Launch} {ev : Env} {R : Room} {s : State} {m : MethodId} {args : Array Value} {below : List Frame} {meth : Method} {c : Code} {H : Heap} {locs : List Loc} {cells slots : Nat} {Q : State → Prop}
variable {cc : ByteArray} {pc nL idx : Nat} {ls : Array Slot} {rest st0 : List Value} {own : String} {D : va_G} {Y : Nat → ClassId}
variable {y : MethodName} {b : ByteArray} {n ar d : Nat} {ret : Option FieldType} {Φ : State → Heap → Prop} {As : List Value} {A : Nat → Prop} {r : Int32}
theorem jr_V {C : String} {a : Nat} (F : Fx p c cc nL s m args own D Y) (hMv : Mv Φ) (hΦ : Φ s H) (k : CKC C s y b n ret ar) (hl : Cond.methodLink own idx y ∈ LW) (hrec : Rc C a s H)
    (hM : JR l y b n ret d D Y Φ (.ref a :: As) r) (hn : As.length = ar) (hsz : ls.size = nL) (hR : d + 1 ≤ R.frames ∧ 8 + (n + 11) + 40 * d ≤ R.locals) (hst : st0 = As.reverse ++ .ref a :: rest) (hcat : (rest.map fun v => v.category).sum ≤ 8) (hc : cells ≤ R.cells ∧ slots ≤ R.slots) (hdg : decode cc pc = .ok (.invokevirtual idx, 3))
    (kk : okR ret r → W p l ev R s m args below meth c H locs cells slots Q (F0 m (pc + 3) ls (.int r :: rest))) : W p l ev R s m args below meth c H locs cells slots Q (F0 m pc ls st0) := by
  subst hst
  refine vp_callSi (W.runV (As := As) (rest := rest) F.1 hM (ck_C F.1.2.2.2.2 k hl rfl rfl hR) ⟨PE.blind hMv, hrec, fun U hU hW => ⟨rfl, PE.of hMv F.2 hΦ hU hW⟩⟩ rfl hn hsz rfl (lv_room hcat) hdg hc) (fun v hv => ?_)
  obtain ⟨rfl, ho⟩ := hv
  exact kk ho
theorem jr_S (F : Fx p c cc nL s m args own D Y) (hMv : Mv Φ) (hΦ : Φ s H) (k : CKS y b n ret ar) (hl : Cond.methodLink own idx y ∈ LW)
    (hM : JR l y b n ret d D Y Φ As r) (hn : As.length = ar) (hsz : ls.size = nL) (hR : d + 1 ≤ R.frames ∧ 8 + (n + 11) + 40 * d ≤ R.locals) (hst : st0 = As.reverse ++ rest) (hcat : (rest.map fun v => v.category).sum ≤ 8) (hc : cells ≤ R.cells ∧ slots ≤ R.slots) (hdg : decode cc pc = .ok (.invokestatic idx, 3))
    (kk : okR ret r → W p l ev R s m args below meth c H locs cells slots Q (F0 m (pc + 3) ls (.int r :: rest))) : W p l ev R s m args below meth c H locs cells slots Q (F0 m pc ls st0) := by
  subst hst
  refine vp_callSi (W.runS (As := As) (rest := rest) F.1 hM (ck_S F.1.2.2.2.2 k hl rfl rfl hR) ⟨PE.blind hMv, fun U hU hW => ⟨rfl, PE.of hMv F.2 hΦ hU hW⟩⟩ rfl hn hsz rfl (lv_room hcat) hdg hc) (fun v hv => ?_)
  obtain ⟨rfl, ho⟩ := hv
  exact kk ho
theorem jr_end {ty : FieldType} {v : Int32} (F : Fx p c cc nL s m args own D Y) (hr : meth.sig.returnType = some ty) (hk : meth.locks = false) (ho : okR (some ty) v) (h : some v = some r) (hdg : decode cc pc = .ok (.ireturn, 1)) : W p l ev (rmD d 0 0) s m args below meth c s.heap [] 0 0 (MQ below (RQ (some ty) r) args s 0 0 (fun _ => False)) (F0 m pc ls [.int v]) := by
  cases h
  exact W.zret F.1.1 F.1.2.1 hr ho (fun t ht _ => ⟨r, rfl, ⟨rfl, ho⟩, ht⟩) (fun q hq => by cases hq) hdg hk
theorem Sr.of {a0 n0 : Nat} {f : Nat → Int32} (F : Fx p c cc nL s m args own D Y) (h : H[a0]? = some (vp_cell (Y 6) (n0, .inl f))) : Sr s H a0 n0 f :=
  ⟨_, h, (F.2.1.2 6 _ rfl).1 n0 (fun j => .int (f j)), (fun q => by cases q), by show n0 ≤ (arrV _ _ _).slots.size; rw [arrV_size]; exact Nat.le_refl _, fun j hj => by show (arrV _ _ _).slots[j]? = _; rw [arrV_read _ _ hj]⟩
/-- a new array of bytes -/
theorem jnew_b {N : Nat} (F : Fx p c cc nL s m args own D Y) {n : Int32} (hn : ¬ n < 0) (hN : n.toNatClampNeg = N) (h16 : N ≤ 100000) (hc : cells + 1 ≤ R.cells) (hs : slots + N ≤ R.slots) (hdg : decode cc pc = .ok (.newarray .byte, 2))
    (kk : ∀ H1 : Heap, H1[H.size]? = some (vp_cell (Y 6) (N, .inl (fun _ => 0))) → H1.size = H.size + 1 → (∀ x : Nat, x < H.size → H1[x]? = H[x]?) → W p l ev R s m args below meth c H1 locs (cells + 1) (slots + N) Q (F0 m (pc + 2) ls (.ref H.size :: rest))) : W p l ev R s m args below meth c H locs cells slots Q (F0 m pc ls (.int n :: rest)) := by
  refine va_newaK (atype := .byte) F.1.1 F.1.2.1 (F.1.2.2.2.2 _ jw_ab) rfl hdg rfl hn hN (by show N * 1 ≤ _; omega) hc hs rfl fun H1 cA e1 z1 o1 hAr hNm => ?_
  cases hNm.symm.trans (F.2.1.2 6 _ rfl).2
  exact kk H1 e1 z1 o1
/-- System.arraycopy of bytes, between two arrays -/
theorem jb_copy {lv : List (Nat × Value)} {a0 a1 n0 n1 : Nat} {f g : Nat → Int32} (F : Fx p c cc nL s m args own D Y) (hl : lv_has ls nL lv) (h0 : Sr s H a0 n0 f) (h1 : H[a1]? = some (vp_cell (Y 6) (n1, .inl g))) (hlink : Cond.methodLink own idx arraycopyName ∈ LW) (hini : Cond.initialized "java/lang/System" ∈ LW)
    {sp dp n : Int32} (g1 : ¬ sp < 0) (g2 : ¬ dp < 0) (g3 : ¬ n < 0) (g4 : sp.toNatClampNeg + n.toNatClampNeg ≤ n0) (g5 : dp.toNatClampNeg + n.toNatClampNeg ≤ n1) (hfit : ∀ i, i < n.toNatClampNeg → fits .byte (.int (f (sp.toNatClampNeg + i))) = true)
    (hframes : 1 ≤ R.frames) (hlocals : (rest.map fun v => v.category).sum + (nativeFrameWords "java/lang/System" "arraycopy" 5 + 11) ≤ R.locals) (hdg : decode cc pc = .ok (.invokestatic idx, 3))
    (kk : ∀ (H1 : Heap) (L : List Loc), H1[a1]? = some (vp_cell (Y 6) (n1, .inl (va_cpy f g sp.toNatClampNeg dp.toNatClampNeg n.toNatClampNeg))) → H1.size = H.size → (∀ x : Nat, x ≠ a1 → H1[x]? = H[x]?) → (∀ z ∈ L, z.base = a1) → W p l ev R s m args below meth c H1 (locs ++ L) cells slots Q (F0 m (pc + 3) ls rest)) : W p l ev R s m args below meth c H locs cells slots Q (F0 m pc ls (.int n :: .int dp :: .ref a1 :: .int sp :: .ref a0 :: rest)) := by
  have hts := F.1.2.2.2.2
  have pos : ∀ z : Int32, ¬ z < 0 → z.toInt = (z.toNatClampNeg : Int) := fun z hz => by
    have h2 := Int32.le_iff_toInt_le.mp (Int32.not_lt.mp hz)
    have h3 : (0 : Int32).toInt = 0 := rfl
    show z.toInt = ((z.toInt.toNat : Nat) : Int)
    omega
  obtain ⟨scr, s1, ⟨s2, k0, hk0, cm0, e0⟩, s3, s4, s5⟩ := h0
  obtain ⟨-, k1, hk1, cm1, e1⟩ := (F.2.1.2 6 _ rfl).1 n1 (fun j => .int (g j))
  intro T hT X
  obtain ⟨vm', X', step⟩ := X.arraycopy F.1.1 F.1.2.2.2.1 (hts _ hlink) (hts _ jw_nac) (hts _ mw_1143) (hts _ hini) (src := a0) (dst := a1) (cs := scr) (cd := vp_cell (Y 6) (n1, .inl g)) (srcPos := sp) (destPos := dp) (n := n) (by rw [hT]; exact s1) (by rw [hT]; exact h1)
    s2 (fun _ h => by cases h) s3 (fun h => by cases h) hk0 hk1 e0 e1 (by simp [refKind]) g1 g2 g3
    (by rw [pos sp g1, pos n g3]; omega)
    (by rw [pos dp g2, pos n g3]; show ¬ _ > ((arrV (Y 6) n1 (fun j => .int (g j))).slots.size : Int); rw [arrV_size]; omega)
    (fun vm₁ _ i hi => by
      have e : scr.slots.getD (sp.toNatClampNeg + i) .null = .int (f (sp.toNatClampNeg + i)) := by
        rw [Array.getD_eq_getD_getElem?, s5 _ (by omega)]
        rfl
      rw [e]
      exact ⟨hfit i hi, trivial⟩)
    (g := F0 m pc ls (.int n :: .int dp :: .ref a1 :: .int sp :: .ref a0 :: rest)) rfl (by rw [F.1.2.2.1.trans hl.1.symm]) (rest := rest) rfl (by rw [F.1.2.1]; exact hdg) hframes (by show 2 * 0 + _ + _ ≤ _; omega)
  have ec : copied scr (vp_cell (Y 6) (n1, .inl g)) sp dp n = vp_cell (Y 6) (n1, .inl (va_cpy f g sp.toNatClampNeg dp.toNatClampNeg n.toNatClampNeg)) := va_copiedX (fun z => .int z) scr (Y 6) f g s5 g4
  rw [ec] at X' step
  have hlt : a1 < H.size := (Array.getElem?_eq_some_iff.mp h1).1
  obtain ⟨t, c1, c2⟩ := kk (H.setIfInBounds a1 (vp_cell (Y 6) (n1, .inl (va_cpy f g sp.toNatClampNeg dp.toNatClampNeg n.toNatClampNeg)))) _ (by simp [Array.getElem?_setIfInBounds, hlt]) (by simp) (fun x hx => by simp [Array.getElem?_setIfInBounds, Ne.symm hx]) (fun z hz => by
    obtain ⟨w, -, hw⟩ := List.mem_map.mp hz
    rw [← hw]) ((T.setVm vm').setCell a1 (vp_cell (Y 6) (n1, .inl (va_cpy f g sp.toNatClampNeg dp.toNatClampNeg n.toNatClampNeg)))) (by rw [← hT]; rfl) X'
  exact ⟨t, step t c1, c2⟩
/-- putfield of the builder, at the head of a world -/
theorem b_put {ws : va_W} (F : Fx p c cc nL s m args own D Y) (hP : va_P D vwCl ws H) (hD : va_D A ws) (hS : va_S A s.heap H locs) {q : Nat} {fs : List Value} (he : ws[0]? = some (q, .inr (11, fs))) (hf : fs.length = 4) (k : Nat) (hk : k < 4) (hlink : Cond.fieldLink own idx "java/lang/AbstractStringBuilder" (TJ4 k).2.1 (TJ4 k).2.2.1 ∈ LW) (hT : (TJ4 k).1 = "java/lang/AbstractStringBuilder") (hfin : (TJ4 k).2.2.2 = false) {ty : FieldType} {v : Value} (hd : parseFieldDescriptor (TJ4 k).2.2.1 = some ty) (hn : narrow ty v = v) (hfit : fits ty v = true) (hdg : decode cc pc = .ok (.putfield idx, 3))
    (kk : ∀ (H1 : Heap) (locs1 : List Loc), va_P D vwCl (ws.set 0 (q, .inr (11, fs.set k v))) H1 → va_D A (ws.set 0 (q, .inr (11, fs.set k v))) → va_S A s.heap H1 locs1 → W p l ev R s m args below meth c H1 locs1 cells slots Q (F0 m (pc + 3) ls rest)) : W p l ev R s m args below meth c H locs cells slots Q (F0 m pc ls (v :: .ref q :: rest)) :=
  va_put F.1.1 F.1.2.1 F.1.2.2.2.2 i_J4 tyJ4 tyJ4_ok nmJ4 F.1.2.2.2.1 F.2.1 hP hD hS 0 he cl11 k hk (F.1.2.2.2.2 _ hlink) (fun x h => by rw [hT] at h; exact h) hfin hd hn hfit (by omega) hdg kk
end JCR
/-! a string's own methods -/
def ΦS (a v : Nat) (bs : List Int32) : State → Heap → Prop := fun U H => va_Z RS' "COMPACT_STRINGS" "Z" (.int 1) NoA U H ∧ va_Zq "jdk/internal/util/Preconditions" "SIOOBE_FORMATTER" "Ljava/util/function/BiFunction;" NoA U H ∧ Str a v bs NoA U H ∧ bs.length ≤ 1000
theorem ΦS_mv {a v : Nat} {bs : List Int32} : Mv (ΦS a v bs) := ⟨fun U H g mk x h => by
  have hv : U.vm.Alike (U.calling g mk x).vm := Vm.Alike.refl U.vm
  exact ⟨va_Z.moved hv h.1, va_Zq.moved hv h.2.1, Str.moved (u := U) (U := U.calling g mk x) hv h.2.2.1, h.2.2.2⟩, fun s U H hW h => ⟨va_Z.moved hW.alike h.1, va_Zq.moved hW.alike h.2.1, Str.moved hW.alike h.2.2.1, h.2.2.2⟩⟩
theorem ΦS_rec {a v : Nat} {bs : List Int32} {s : State} {H : Heap} (h : ΦS a v bs s H) : Rc RS' a s H := by
  obtain ⟨cell, h1, h2, h3, -⟩ := h.2.2.1.1
  exact ⟨cell, h1, h2, h3⟩
theorem ckc_V {y : MethodName} {b : ByteArray} {n ar : Nat} {ret : Option FieldType} {s : State} {A0 : Array Value} (hts : ∀ w ∈ LW, w.before A0 s = true) (k : CKV y b n ret ar) : CKC y.cls s y b n ret ar := ⟨k.1, fun A => hts _ k.2.1, k.2.2.1, k.2.2.2.1, k.2.2.2.2⟩
theorem s_coder (l : Launch) (D : va_G) (Y : Nat → ClassId) {a v : Nat} {bs : List Int32} : JR l yJ0_coder_7d493 cJ0_coder_7d493 1 (some .byte) 0 D Y (ΦS a v bs) [.ref a] 0 := by
  refine JM_of (ret := some .byte) (by decide) (Nat.le_of_ble_eq_true rfl) (lv := [(0, .ref a)]) rfl ?_
  intro p ev s m below meth c ls F hΦ hr hk hnm hl
  have F : Fx p c cJ0_coder_7d493 1 s m _ RJ0 D Y := F
  have hx := F.1.1
  have hb := F.1.2.1
  have hts := F.1.2.2.2.2
  have hown := F.1.2.2.2.1
  refine va_gets hx hb hΦ.1 nA_S hown (hts _ mw_1184) (fun _ h => h) dJ0_coder_7d493_0 ?_
  refine lv_if_eq (tgt := 13) hx hb dJ0_coder_7d493_3 (by decide) (fun c1 => ?_) (fun c1 => ?_)
  · exact absurd c1 (show ¬ ((1 : Int32) = 0) by decide)
  refine lv_aload_n hx hb dJ0_coder_7d493_6 rfl (lv_at hl 0 rfl) ?_
  refine vk_getf hx hb hΦ.2.2.1.2.1 nA_S hown (hts _ mw_1325) (fun _ h => h) dJ0_coder_7d493_7 ?_
  refine lv_goto (tgt := 14) hx hb dJ0_coder_7d493_10 (by decide) ?_
  exact jr_end F hr hk rfl rfl dJ0_coder_7d493_14
theorem s_isLatin1 (l : Launch) (D : va_G) (Y : Nat → ClassId) {a v : Nat} {bs : List Int32} : JR l yJ0_isLatin1_aae02 cJ0_isLatin1_aae02 1 (some .boolean) 0 D Y (ΦS a v bs) [.ref a] 1 := by
  refine JM_of (ret := some .boolean) (by decide) (Nat.le_of_ble_eq_true rfl) (lv := [(0, .ref a)]) rfl ?_
  intro p ev s m below meth c ls F hΦ hr hk hnm hl
  have F : Fx p c cJ0_isLatin1_aae02 1 s m _ RJ0 D Y := F
  have hx := F.1.1
  have hb := F.1.2.1
  have hts := F.1.2.2.2.2
  have hown := F.1.2.2.2.1
  refine va_gets hx hb hΦ.1 nA_S hown (hts _ mw_1184) (fun _ h => h) dJ0_isLatin1_aae02_0 ?_
  refine lv_if_eq (tgt := 17) hx hb dJ0_isLatin1_aae02_3 (by decide) (fun c1 => ?_) (fun c1 => ?_)
  · exact absurd c1 (show ¬ ((1 : Int32) = 0) by decide)
  refine lv_aload_n hx hb dJ0_isLatin1_aae02_6 rfl (lv_at hl 0 rfl) ?_
  refine vk_getf hx hb hΦ.2.2.1.2.1 nA_S hown (hts _ mw_1325) (fun _ h => h) dJ0_isLatin1_aae02_7 ?_
  refine lv_if_ne (tgt := 17) hx hb dJ0_isLatin1_aae02_10 (by decide) (fun c2 => absurd rfl c2) (fun c2 => ?_)
  refine lv_iconst (v := 1) hx hb dJ0_isLatin1_aae02_13 (by decide) ?_
  refine lv_goto (tgt := 18) hx hb dJ0_isLatin1_aae02_14 (by decide) ?_
  exact jr_end F hr hk rfl rfl dJ0_isLatin1_aae02_18
theorem s_length (l : Launch) (D : va_G) (Y : Nat → ClassId) {a v : Nat} {bs : List Int32} : JR l yJ0_length_8abf5 cJ0_length_8abf5 1 (some .int) 1 D Y (ΦS a v bs) [.ref a] (nI bs.length) := by
  refine JM_of (ret := some .int) (by decide) (Nat.le_of_ble_eq_true rfl) (lv := [(0, .ref a)]) rfl ?_
  intro p ev s m below meth c ls F hΦ hr hk hnm hl
  have F : Fx p c cJ0_length_8abf5 1 s m _ RJ0 D Y := F
  have hx := F.1.1
  have hb := F.1.2.1
  have hts := F.1.2.2.2.2
  have hown := F.1.2.2.2.1
  refine lv_aload_n hx hb dJ0_length_8abf5_0 rfl (lv_at hl 0 rfl) ?_
  refine vk_getf hx hb hΦ.2.2.1.2.2.1 nA_S hown (hts _ mw_1324) (fun _ h => h) dJ0_length_8abf5_1 ?_
  refine va_tlen (v := nI bs.length) hx hb hΦ.2.2.1.2.2.2 nA_S rfl dJ0_length_8abf5_4 ?_
  refine lv_aload_n hx hb dJ0_length_8abf5_5 rfl (lv_at hl 0 rfl) ?_
  refine jr_V F ΦS_mv hΦ (ckc_V hts k_J0_coder_7d493) mw_1180 (ΦS_rec hΦ) (s_coder l D Y) rfl hl.1 ⟨Nat.le_of_ble_eq_true rfl, Nat.le_of_ble_eq_true rfl⟩ (rest := [.int (nI bs.length)]) rfl (Nat.le_of_ble_eq_true rfl) ⟨Nat.le_of_ble_eq_true rfl, Nat.le_of_ble_eq_true rfl⟩ dJ0_length_8abf5_6 (fun _ => ?_)
  refine lv_ishr hx hb dJ0_length_8abf5_9 ?_
  rw [show (((nI bs.length) >>> ((0 : Int32) &&& 31)) : Int32) = (nI bs.length) from jshr _]
  exact jr_end F hr hk rfl rfl dJ0_length_8abf5_10
