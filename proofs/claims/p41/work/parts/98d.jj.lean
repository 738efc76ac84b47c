/-! leaves of toString -/
theorem va_P_of {D : va_G} {ws : va_W} {H : Heap} (h : ∀ x ∈ ws, va_at D vwCl x H) : va_P D vwCl ws H := fun _ q hk => h q (List.mem_of_getElem? hk)
theorem va_D_of {A : Nat → Prop} {ws : va_W} (hn : (ws.map (·.1)).Nodup) (hA : ∀ x ∈ ws, A x.1) : va_D A ws := by
  refine ⟨fun i j p q hi hj he => ?_, fun _ q hk => hA q (List.mem_of_getElem? hk)⟩
  have h1 : (ws.map (·.1))[i]? = some p.1 := by rw [List.getElem?_map, hi]; rfl
  have h2 : (ws.map (·.1))[j]? = some q.1 := by rw [List.getElem?_map, hj]; rfl
  obtain ⟨g1, e1⟩ := List.getElem?_eq_some_iff.mp h1
  obtain ⟨g2, e2⟩ := List.getElem?_eq_some_iff.mp h2
  exact (List.getElem_inj hn).mp (e1.trans (he.trans e2.symm))
section JSU
variable {p : Program} {l : Launch} {e : Env} {R : Room} {s : State} {m : MethodId} {args : Array Value} {below : List Frame} {meth : Method} {c : Code} {H : Heap} {locs : List Loc} {cells slots : Nat} {Q : State → Prop}
variable {cc : ByteArray} {pc nL : Nat} {ls : Array Slot} {rest st0 : List Value}
variable {own : String} {idx : Nat} {y x : MethodName} {b : ByteArray} {n ar d : Nat} {ret : Option FieldType} {D : va_G} {Y : Nat → ClassId} {ws : va_W} {As : List Value} {r : Int32}
theorem rd_U {C : String} {cC a : Nat} (F : Fx p c cc nL s m args own D Y) (hP : va_P D vwCl ws H) (hat : ClassAt s C cC) (hrec : Rc C a s H) (hl : Cond.methodLink own idx y ∈ LW) (hsm : Cond.sameMethod y.cls y.cls y.name y.desc ∈ LW) (hsu : Cond.superclass own y.cls ∈ LW) (hin : Cond.instanceMethod y ∈ LW) (hini : Cond.initialized y.cls ∈ LW) (hcd : Cond.code y b n ret ∈ LW) (hd : y.name ≠ "<init>" ∧ (parseMethodDescriptor y.desc).map (fun d => d.parameters.length) = some ar)
    (hM : RD l y b n ret d D Y ws (.ref a :: As) r) (hn : As.length = ar) (hsz : ls.size = nL) (hR : d + 1 ≤ R.frames ∧ 8 + (n + 11) + 40 * d ≤ R.locals) (hst : st0 = As.reverse ++ .ref a :: rest) (hcat : (rest.map fun v => v.category).sum ≤ 8) (hc : cells ≤ R.cells ∧ slots ≤ R.slots) (hdg : decode cc pc = .ok (.invokespecial idx, 3))
    (kk : okR ret r → W p l e R s m args below meth c H locs cells slots Q (F0 m (pc + 3) ls (.int r :: rest))) : W p l e R s m args below meth c H locs cells slots Q (F0 m pc ls st0) := by
  subst hst
  have hg : GoodIn LW (va_wsSU own idx y (wc y b n ret)) := fun w hw => by
    rcases List.mem_append.mp hw with h | h
    · have hm : w ∈ LW := by
        simp only [List.mem_cons, List.not_mem_nil, or_false] at h
        rcases h with rfl | rfl | rfl | rfl | rfl
        · exact hl
        · exact hsm
        · exact hsu
        · exact hin
        · exact hini
      exact LW_goodIn _ hm
    · exact LW_goodc hcd w h
  refine vp_callSi (run_of (va_runSU (As := As) (rest := rest) hat F.1 hM (va_cwSU (ws' := LW) ar F.1.2.2.2.2 hg rfl rfl rfl hd hR) ⟨Bw.blind, hrec, fun U hU hW => ⟨rfl, Bw.of F.2 hP hU hW⟩⟩ rfl hn hsz (g := F0 m pc ls (As.reverse ++ .ref a :: rest)) rfl (lv_room (m := m) (pc := pc) (ls := ls) (rest := As.reverse ++ .ref a :: rest) hcat) hdg hc)) (fun v hv => ?_)
  obtain ⟨rfl, ho⟩ := hv
  exact kk ho
theorem rd_O {C owner : String} {a : Nat} {b0 : ByteArray} {m0 : Nat} {r0 : Option FieldType} (F : Fx p c cc nL s m args own D Y) (hP : va_P D vwCl ws H) (hrec : Rc C a s H) (hl : Cond.methodLink own idx x ∈ LW) (hsm : Cond.sameMethod x.cls owner x.name x.desc ∈ LW) (hi0 : Cond.instanceMethod ⟨owner, x.name, x.desc⟩ ∈ LW) (hse : Cond.selects C x y ∈ LW) (hin : Cond.instanceMethod y ∈ LW) (hini : Cond.initialized y.cls ∈ LW) (hcd : Cond.code y b n ret ∈ LW) (h0 : Cond.code ⟨owner, x.name, x.desc⟩ b0 m0 r0 ∈ LW) (hd : owner ≠ "java/lang/invoke/MethodHandle" ∧ owner ≠ "java/lang/invoke/VarHandle" ∧ (parseMethodDescriptor x.desc).map (fun d => d.parameters.length) = some ar)
    (hM : RD l y b n ret d D Y ws (.ref a :: As) r) (hn : As.length = ar) (hsz : ls.size = nL) (hR : d + 1 ≤ R.frames ∧ 8 + (n + 11) + 40 * d ≤ R.locals) (hst : st0 = As.reverse ++ .ref a :: rest) (hcat : (rest.map fun v => v.category).sum ≤ 8) (hc : cells ≤ R.cells ∧ slots ≤ R.slots) (hdg : decode cc pc = .ok (.invokevirtual idx, 3))
    (kk : okR ret r → W p l e R s m args below meth c H locs cells slots Q (F0 m (pc + 3) ls (.int r :: rest))) : W p l e R s m args below meth c H locs cells slots Q (F0 m pc ls st0) := by
  subst hst
  have hg : GoodIn LW (va_wsO own idx C owner x y (wc y b n ret)) := fun w hw => by
    rcases List.mem_append.mp hw with h | h
    · have hm : w ∈ LW := by
        simp only [List.mem_cons, List.not_mem_nil, or_false] at h
        rcases h with rfl | rfl | rfl | rfl | rfl | rfl
        · exact hl
        · exact hsm
        · exact hi0
        · exact hse
        · exact hin
        · exact hini
      exact LW_goodIn _ hm
    · exact LW_goodc hcd w h
  refine vp_callSi (run_of (va_runU (As := As) (rest := rest) F.1 hM (va_cwO (ws' := LW) ar F.1.2.2.2.2 hg rfl rfl rfl h0 hd hR) ⟨Bw.blind, hrec, fun U hU hW => ⟨rfl, Bw.of F.2 hP hU hW⟩⟩ rfl hn hsz (g := F0 m pc ls (As.reverse ++ .ref a :: rest)) rfl (lv_room (m := m) (pc := pc) (ls := ls) (rest := As.reverse ++ .ref a :: rest) hcat) hdg hc)) (fun v hv => ?_)
  obtain ⟨rfl, ho⟩ := hv
  exact kk ho
end JSU
theorem q_slen (l : Launch) (D : va_G) (Y : Nat → ClassId) (q b n cap : Nat) (f : Nat → Int32) : RD l yJ4_length_8abf5 cJ4_length_8abf5 1 (some .int) 1 D Y (wB Y q b n cap f) [.ref q] (nI n) := by
  refine RD_of (ret := some .int) (by decide) (Nat.le_of_ble_eq_true rfl) (lv := [(0, .ref q)]) rfl ?_
  intro p e s m below meth c ls F hP hr hk hl
  have F : Fx p c cJ4_length_8abf5 1 s m _ RJ4 D Y := F
  have hx := F.1.1
  have hb := F.1.2.1
  obtain ⟨cC, hat⟩ := cl_at F.2
  refine lv_aload_n hx hb dJ4_length_8abf5_0 rfl (lv_at hl 0 rfl) ?_
  refine rd_U (ar := 0) F hP hat (b_rec F hP) mw_1291 jw_slen jw_sup mw_1286 mw_23 mw_1292 (by decide +kernel) (q_blen l D Y q b n cap f) rfl hl.1 ⟨Nat.le_of_ble_eq_true rfl, Nat.le_of_ble_eq_true rfl⟩ (rest := []) rfl (Nat.le_of_ble_eq_true rfl) ⟨Nat.le_of_ble_eq_true rfl, Nat.le_of_ble_eq_true rfl⟩ dJ4_length_8abf5_1 (fun _ => ?_)
  exact rd_end F hr hk rfl rfl dJ4_length_8abf5_4
theorem k4_gv {s : State} {A0 : Array Value} (hts : ∀ w ∈ LW, w.before A0 s = true) : CKC RJ4 s yJ5_getValue_6d5f1 cJ5_getValue_6d5f1 1 (some (.array .byte)) 0 := ⟨mw_1281, fun A => hts _ mw_1283, mw_23, mw_1284, by decide +kernel⟩
theorem q_gv (l : Launch) (D : va_G) (Y : Nat → ClassId) {q b n cap : Nat} {f : Nat → Int32} : JM l yJ5_getValue_6d5f1 cJ5_getValue_6d5f1 1 (some (.array .byte)) 0 0 0 D Y (fun _ H => va_P D vwCl (wB Y q b n cap f) H) [.ref q] (fun v st t => v = some (.ref b) ∧ t.heap = st.heap) (NoA) := by
  refine JM_of (ret := (some (.array .byte))) (by decide) (Nat.le_of_ble_eq_true rfl) (lv := [(0, .ref q)]) rfl ?_
  intro p ev s m below meth c ls F hΦ hr hk hnm hl
  have F : Fx p c cJ5_getValue_6d5f1 1 s m _ RJ5 D Y := F
  have hx := F.1.1
  have hb := F.1.2.1
  have hts := F.1.2.2.2.2
  have hown := F.1.2.2.2.1
  have hP : va_P D vwCl (wB Y q b n cap f) s.heap := hΦ
  refine lv_aload_n hx hb dJ5_getValue_6d5f1_0 rfl (lv_at hl 0 rfl) ?_
  refine b_get F hP 0 (by decide) mw_1090 rfl rfl dJ5_getValue_6d5f1_1 ?_
  exact W.aret hx hb hr (Or.inr ⟨_, rfl⟩) (Or.inr ⟨_, rfl⟩) (fun t ht _ => ⟨_, rfl, ⟨rfl, ht⟩, (nA_S (s := s)).F ht⟩) (fun q hq => by cases hq) dJ5_getValue_6d5f1_4 hk
theorem q_chk (l : Launch) (D : va_G) (Y : Nat → ClassId) {a0 a1 : Int32} (h0 : a0 ≤ a1) : JM l yJ7_checkLength_df160 cJ7_checkLength_df160 2 none 0 0 0 D Y (fun _ _ => True) [.int a0, .int a1] (QN) (NoA) := by
  refine JM_of (ret := none) (by decide) (Nat.le_of_ble_eq_true rfl) (lv := [(0, .int a0), (1, .int a1)]) rfl ?_
  intro p ev s m below meth c ls F hΦ hr hk hnm hl
  have F : Fx p c cJ7_checkLength_df160 2 s m _ RJ7 D Y := F
  have hx := F.1.1
  have hb := F.1.2.1
  have hts := F.1.2.2.2.2
  have hown := F.1.2.2.2.1
  refine lv_iload_n hx hb dJ7_checkLength_df160_0 rfl (lv_at hl 1 rfl) ?_
  refine lv_iload_n hx hb dJ7_checkLength_df160_1 rfl (lv_at hl 0 rfl) ?_
  refine lv_icmp_ge (tgt := 37) hx hb dJ7_checkLength_df160_2 (by decide) (fun c1 => ?_) (fun c1 => ?_)
  rotate_left
  · exact absurd h0 c1
  exact W.vret hx hb hr (fun t ht _ => ⟨_, rfl, ⟨rfl, ht⟩, (nA_S (s := s)).F ht⟩) (fun q hq => by cases hq) dJ7_checkLength_df160_37 hk
def PoR (Y : Nat → ClassId) (b cap : Nat) (f : Nat → Int32) (n sz : Nat) : Option Value → State → State → Prop := fun v _ t => ∃ r f', v = some (.ref r) ∧ sz ≤ r ∧ t.heap[r]? = some (vp_cell (Y 6) (n, .inl f')) ∧ (∀ j, j < n → f' j = f j) ∧ t.heap[b]? = some (vp_cell (Y 6) (cap, .inl f))
theorem q_corB (l : Launch) (D : va_G) (Y : Nat → ClassId) {b cap n sz : Nat} {f : Nat → Int32} (hf : Fb f) (h : n ≤ cap ∧ cap ≤ 128) : JM l yJ7_copyOfRangeByte_39247 cJ7_copyOfRangeByte_39247 5 (some (.array .byte)) 1 1 128 D Y (ΦC Y b cap f sz) [.ref b, .int 0, .int (nI n)] (PoR Y b cap f n sz) (AB b b sz) := by
  refine JM_of (ret := (some (.array .byte))) (by decide) (Nat.le_of_ble_eq_true rfl) (lv := [(0, .ref b), (1, .int (0 : Int32)), (2, .int (nI n))]) rfl ?_
  intro p ev s m below meth c ls F hΦ hr hk hnm hl
  have F : Fx p c cJ7_copyOfRangeByte_39247 5 s m _ RJ7 D Y := F
  have hx := F.1.1
  have hb := F.1.2.1
  have hts := F.1.2.2.2.2
  have hown := F.1.2.2.2.1
  obtain ⟨hsz, hcell⟩ := hΦ
  have hblt : b < s.heap.size := (Array.getElem?_eq_some_iff.mp hcell).1
  refine lv_iload_n hx hb dJ7_copyOfRangeByte_39247_0 rfl (lv_at hl 1 rfl) ?_
  refine lv_iload_n hx hb dJ7_copyOfRangeByte_39247_1 rfl (lv_at hl 2 rfl) ?_
  refine jm_S F (mv_h (fun _ => True)) trivial (va_S.rf (A := AB b b sz)) (fun _ z => z.elim) k_J7_checkLength_df160 mw_1300 (q_chk l D Y (a0 := 0) (a1 := nI n) (Int32.not_lt.mp (nI_pos (by omega)))) rfl hl.1 ⟨Nat.le_of_ble_eq_true rfl, Nat.le_of_ble_eq_true rfl⟩ (rest := []) rfl (Nat.le_of_ble_eq_true rfl) ⟨Nat.le_of_ble_eq_true rfl, Nat.le_of_ble_eq_true rfl⟩ dJ7_copyOfRangeByte_39247_2 (fun v2 st t H1 L e0 e1 hp hz hq hS => ?_)
  obtain ⟨rfl, hp⟩ := hp
  obtain rfl : H1 = s.heap := by rw [← e1, hp, e0]
  refine lv_iload_n hx hb dJ7_copyOfRangeByte_39247_5 rfl (lv_at hl 2 rfl) ?_
  refine lv_iload_n hx hb dJ7_copyOfRangeByte_39247_6 rfl (lv_at hl 1 rfl) ?_
  refine lv_isub hx hb dJ7_copyOfRangeByte_39247_7 ?_
  rw [show (((nI n) - (0 : Int32)) : Int32) = (nI n) from Int32.sub_zero _]
  refine lv_istore_n (lv' := [(3, .int (nI n)), (0, .ref b), (1, .int (0 : Int32)), (2, .int (nI n))]) hx hb dJ7_copyOfRangeByte_39247_8 rfl hl (by decide) rfl (fun ls hl => ?_)
  refine lv_iload_n hx hb dJ7_copyOfRangeByte_39247_9 rfl (lv_at hl 0 rfl) ?_
  refine jnew_b (N := n) F (nI_pos (by omega)) (nI_clamp (by omega)) (by omega) (by show 0 + 1 ≤ 1; omega) (by show 0 + n ≤ 128; omega) dJ7_copyOfRangeByte_39247_10 (fun H1 g1 g2 g3 => ?_)
  have hcell1 := (g3 b hblt).trans hcell
  refine lv_astore (lv' := [(4, .ref s.heap.size), (3, .int (nI n)), (0, .ref b), (1, .int (0 : Int32)), (2, .int (nI n))]) hx hb dJ7_copyOfRangeByte_39247_12 hl (by decide) rfl (fun ls hl => ?_)
  refine lv_aload_n hx hb dJ7_copyOfRangeByte_39247_14 rfl (lv_at hl 2 rfl) ?_
  refine lv_iload_n hx hb dJ7_copyOfRangeByte_39247_15 rfl (lv_at hl 3 rfl) ?_
  refine lv_aload hx hb dJ7_copyOfRangeByte_39247_16 (lv_at hl 0 rfl) ?_
  refine lv_iconst (v := 0) hx hb dJ7_copyOfRangeByte_39247_18 (by decide) ?_
  refine lv_aload_n hx hb dJ7_copyOfRangeByte_39247_19 rfl (lv_at hl 2 rfl) ?_
  refine va_alen (ty := .byte) (v := nI cap) hx hb F.2.1 (at_P (D := D) (a := b) (e := .inl (Y 6, cap, .inl f)) hcell1) 0 6 rfl rfl rfl dJ7_copyOfRangeByte_39247_20 ?_
  refine lv_iload_n hx hb dJ7_copyOfRangeByte_39247_21 rfl (lv_at hl 3 rfl) ?_
  refine lv_isub hx hb dJ7_copyOfRangeByte_39247_22 ?_
  rw [show (((nI cap) - (0 : Int32)) : Int32) = (nI cap) from Int32.sub_zero _]
  refine lv_iload_n hx hb dJ7_copyOfRangeByte_39247_23 rfl (lv_at hl 1 rfl) ?_
  refine w_min F hl mw_1141 ⟨Nat.le_of_ble_eq_true rfl, Nat.le_of_ble_eq_true rfl, Nat.le_refl _, (by show 0 + n ≤ 128; omega)⟩ dJ7_copyOfRangeByte_39247_24 ?_
  rw [show (min32 (nI cap) (nI n) : Int32) = nI n from (min_nI (by omega) (by omega)).trans (by rw [show min cap n = n by omega])]
  have ec : (nI n).toNatClampNeg = n := nI_clamp (by omega)
  have e0 : (0 : Int32).toNatClampNeg = 0 := by decide
  refine jb_copy F hl (Sr.of F hcell1) g1 mw_1142 mw_28 (by decide) (by decide) (nI_pos (by omega)) (by rw [ec, e0]; omega) (by rw [ec, e0]; omega) (fun i _ => hf _) (Nat.le_of_ble_eq_true rfl) (Nat.le_of_ble_eq_true rfl) dJ7_copyOfRangeByte_39247_27 (fun H2 L2 k1 k2 k3 k4 => ?_)
  rw [ec, e0] at k1
  refine lv_aload hx hb dJ7_copyOfRangeByte_39247_30 (lv_at hl 0 rfl) ?_
  have hS2 : va_S (AB b b sz) s.heap H2 (L ++ L2) := ⟨by rw [k2, g2]; omega, fun x h1 h2 => (k3 x (by omega)).trans (g3 x h1), fun z hz => by rcases List.mem_append.mp hz with h | h; exact hS.2.2 z h; rw [k4 z h]; exact Or.inr (Or.inr (Nat.le_of_eq hsz.symm))⟩
  refine W.widen (k := 1) (n := 128) (Nat.le_refl _) (by omega) ?_
  exact W.aret hx hb hr (Or.inr ⟨_, rfl⟩) (Or.inr ⟨_, rfl⟩) (fun t ht _ => ⟨_, rfl, ⟨s.heap.size, va_cpy f (fun _ => 0) 0 0 n, rfl, Nat.le_of_eq hsz.symm, by rw [ht]; exact k1, fun j hj => by unfold va_cpy; rw [if_pos (by omega)]; congr 1; omega, by rw [ht, k3 b (by omega)]; exact hcell1⟩, hS2.F ht⟩) hS2.2.2 dJ7_copyOfRangeByte_39247_32 hk
theorem fits_arr {Y : Nat → ClassId} {cap : Nat} {f : Nat → Int32} (hf : Fb f) : ∀ (i : Nat) (v : Value), (vp_cell (Y 6) (cap, .inl f)).slots[i]? = some v → fits .byte v = true := fun i v hv => by
  have hv : (arrV (Y 6) cap (fun j => .int (f j))).slots[i]? = some v := hv
  by_cases hi : i < cap
  · rw [arrV_read _ _ hi] at hv
    cases hv
    exact hf i
  · rw [Array.getElem?_eq_none (by rw [arrV_size]; omega)] at hv
    cases hv
theorem bb_D {Y : Nat → ClassId} {b cap sz : Nat} {f : Nat → Int32} : va_D (AB b b sz) [(b, (.inl (Y 6, cap, .inl f) : va_E))] := va_D_of (by simp) (fun x hx => by simp only [List.mem_cons, List.not_mem_nil, or_false] at hx; subst hx; exact Or.inl rfl)
theorem q_cor0 (l : Launch) (D : va_G) (Y : Nat → ClassId) {b cap n sz : Nat} {f : Nat → Int32} (hf : Fb f) (h : n ≤ cap ∧ cap ≤ 128) (hnc : ¬ n = cap) : JM l yJ7_copyOfRange_39247 cJ7_copyOfRange_39247 3 (some (.array .byte)) 2 1 128 D Y (ΦC Y b cap f sz) [.ref b, .int 0, .int (nI n)] (PoR Y b cap f n sz) (AB b b sz) := by
  refine JM_of (ret := (some (.array .byte))) (by decide) (Nat.le_of_ble_eq_true rfl) (lv := [(0, .ref b), (1, .int (0 : Int32)), (2, .int (nI n))]) rfl ?_
  intro p ev s m below meth c ls F hΦ hr hk hnm hl
  have F : Fx p c cJ7_copyOfRange_39247 3 s m _ RJ7 D Y := F
  have hx := F.1.1
  have hb := F.1.2.1
  have hts := F.1.2.2.2.2
  have hown := F.1.2.2.2.1
  obtain ⟨hsz, hcell⟩ := id hΦ
  have hblt : b < s.heap.size := (Array.getElem?_eq_some_iff.mp hcell).1
  refine lv_iload_n hx hb dJ7_copyOfRange_39247_0 rfl (lv_at hl 1 rfl) ?_
  refine lv_if_ne (tgt := 10) hx hb dJ7_copyOfRange_39247_1 (by decide) (fun c1 => ?_) (fun c1 => ?_)
  · exact absurd (show (0 : Int32) = 0 from rfl) c1
  refine lv_iload_n hx hb dJ7_copyOfRange_39247_4 rfl (lv_at hl 2 rfl) ?_
  refine lv_aload_n hx hb dJ7_copyOfRange_39247_5 rfl (lv_at hl 0 rfl) ?_
  refine va_alen (ty := .byte) (v := nI cap) hx hb F.2.1 (at_P (D := D) (a := b) (e := .inl (Y 6, cap, .inl f)) hcell) 0 6 rfl rfl rfl dJ7_copyOfRange_39247_6 ?_
  refine lv_icmp_eq (tgt := 17) hx hb dJ7_copyOfRange_39247_7 (by decide) (fun c2 => ?_) (fun c2 => ?_)
  · exact absurd c2 (fun z => hnc ((nI_eq (by omega) (by omega)).mp z))
  refine lv_aload_n hx hb dJ7_copyOfRange_39247_10 rfl (lv_at hl 0 rfl) ?_
  refine lv_iload_n hx hb dJ7_copyOfRange_39247_11 rfl (lv_at hl 1 rfl) ?_
  refine lv_iload_n hx hb dJ7_copyOfRange_39247_12 rfl (lv_at hl 2 rfl) ?_
  refine jm_S F ΦC_mv hΦ (va_S.rf (A := AB b b sz)) (fun _ z => z) k_J7_copyOfRangeByte_39247 mw_1297 (q_corB l D Y (b := b) (cap := cap) (n := n) (sz := sz) (f := f) hf h) rfl hl.1 ⟨Nat.le_of_ble_eq_true rfl, Nat.le_of_ble_eq_true rfl⟩ (rest := []) rfl (Nat.le_of_ble_eq_true rfl) ⟨Nat.le_of_ble_eq_true rfl, Nat.le_of_ble_eq_true rfl⟩ dJ7_copyOfRange_39247_13 (fun v2 st t H1 L e0 e1 hp hz hq hS => ?_)
  obtain ⟨r, f', rfl, hp1, hp2, hp3, hp4⟩ := hp
  rw [e1] at hp2 hp4
  exact W.aret hx hb hr (Or.inr ⟨_, rfl⟩) (Or.inr ⟨_, rfl⟩) (fun t9 ht _ => ⟨_, rfl, ⟨r, f', rfl, hp1, by rw [ht]; exact hp2, hp3, by rw [ht]; exact hp4⟩, hS.F ht⟩) hS.2.2 dJ7_copyOfRange_39247_16 hk
theorem q_cor1 (l : Launch) (D : va_G) (Y : Nat → ClassId) {b cap sz : Nat} {f : Nat → Int32} (hf : Fb f) (h : cap ≤ 128) : JM l yJ7_copyOfRange_39247 cJ7_copyOfRange_39247 3 (some (.array .byte)) 2 1 128 D Y (ΦC Y b cap f sz) [.ref b, .int 0, .int (nI cap)] (PoR Y b cap f cap sz) (AB b b sz) := by
  refine JM_of (ret := (some (.array .byte))) (by decide) (Nat.le_of_ble_eq_true rfl) (lv := [(0, .ref b), (1, .int (0 : Int32)), (2, .int (nI cap))]) rfl ?_
  intro p ev s m below meth c ls F hΦ hr hk hnm hl
  have F : Fx p c cJ7_copyOfRange_39247 3 s m _ RJ7 D Y := F
  have hx := F.1.1
  have hb := F.1.2.1
  have hts := F.1.2.2.2.2
  have hown := F.1.2.2.2.1
  obtain ⟨hsz, hcell⟩ := id hΦ
  refine lv_iload_n hx hb dJ7_copyOfRange_39247_0 rfl (lv_at hl 1 rfl) ?_
  refine lv_if_ne (tgt := 10) hx hb dJ7_copyOfRange_39247_1 (by decide) (fun c1 => ?_) (fun c1 => ?_)
  · exact absurd (show (0 : Int32) = 0 from rfl) c1
  refine lv_iload_n hx hb dJ7_copyOfRange_39247_4 rfl (lv_at hl 2 rfl) ?_
  refine lv_aload_n hx hb dJ7_copyOfRange_39247_5 rfl (lv_at hl 0 rfl) ?_
  refine va_alen (ty := .byte) (v := nI cap) hx hb F.2.1 (at_P (D := D) (a := b) (e := .inl (Y 6, cap, .inl f)) hcell) 0 6 rfl rfl rfl dJ7_copyOfRange_39247_6 ?_
  refine lv_icmp_eq (tgt := 17) hx hb dJ7_copyOfRange_39247_7 (by decide) (fun c2 => ?_) (fun c2 => ?_)
  rotate_left
  · exact absurd rfl c2
  refine lv_aload_n hx hb dJ7_copyOfRange_39247_17 rfl (lv_at hl 0 rfl) ?_
  refine va_clone hx hb (F.1.2.2.1.trans hl.1.symm) hown (hts _ mw_1134) (hts _ jw_scl) (hts _ jw_ncl) (hts _ mw_1137) (hts _ mw_1138) (F.2.2 _ mw_1139) F.2.1 (at_P (D := D) (a := b) (e := .inl (Y 6, cap, .inl f)) hcell) (bb_D (sz := sz)) (va_S.rf (A := AB b b sz)) (fun q hq => Or.inr (Or.inr (by rw [← hsz]; exact hq))) 0 6 rfl rfl (F.2.1.2 6 _ rfl).2 (fits_arr hf) (Nat.le_of_ble_eq_true rfl) (Nat.le_of_ble_eq_true rfl) (Nat.le_of_ble_eq_true rfl) (by show 0 + cap ≤ 128; omega) dJ7_copyOfRange_39247_18 (fun r H1 _ hP1 hD1 hS => ?_)
  have hr1 : H1[r]? = some (vp_cell (Y 6) (cap, .inl f)) := hP1 1 _ rfl
  have hr2 : H1[b]? = some (vp_cell (Y 6) (cap, .inl f)) := hP1 0 _ rfl
  have hrb : r ≠ b := fun z => by have := hD1.1 1 0 _ _ rfl rfl z; omega
  have hrs : sz ≤ r := by rcases hD1.2 1 _ rfl with z | z | z; exact absurd z hrb; exact absurd z hrb; exact z
  refine va_castA hx hb hown (hts _ mw_1140) hP1 1 rfl (F.2.1.2 6 _ rfl).2 dJ7_copyOfRange_39247_21 ?_
  refine W.widen (k := 1) (n := 128) (Nat.le_refl _) (by show 0 + cap ≤ 128; omega) ?_
  exact W.aret hx hb hr (Or.inr ⟨_, rfl⟩) (Or.inr ⟨_, rfl⟩) (fun t9 ht _ => ⟨_, rfl, ⟨r, f, rfl, hrs, by rw [ht]; exact hr1, fun _ _ => rfl, by rw [ht]; exact hr2⟩, hS.F ht⟩) hS.2.2 dJ7_copyOfRange_39247_24 hk
theorem q_cor (l : Launch) (D : va_G) (Y : Nat → ClassId) {b cap n sz : Nat} {f : Nat → Int32} (hf : Fb f) (h : n ≤ cap ∧ cap ≤ 128) : JM l yJ7_copyOfRange_39247 cJ7_copyOfRange_39247 3 (some (.array .byte)) 2 1 128 D Y (ΦC Y b cap f sz) [.ref b, .int 0, .int (nI n)] (PoR Y b cap f n sz) (AB b b sz) := by
  by_cases e : n = cap
  · subst e
    exact q_cor1 l D Y hf h.2
  · exact q_cor0 l D Y hf h e
