/-! a builder grows, takes a string's bytes -/
def ΦT (A : Nat → Prop) (a v : Nat) (bs : List Int32) : State → Heap → Prop := fun U H => va_Z RS' "COMPACT_STRINGS" "Z" (.int 1) A U H ∧ va_Zq "jdk/internal/util/Preconditions" "SIOOBE_FORMATTER" "Ljava/util/function/BiFunction;" A U H ∧ Str a v bs A U H ∧ bs.length ≤ 1000 ∧ Fb (fun j => bs.getD j 0)
theorem ΦT_mv {A : Nat → Prop} {a v : Nat} {bs : List Int32} : Mv (ΦT A a v bs) := ⟨fun U H g mk x h => by
  have hv : U.vm.Alike (U.calling g mk x).vm := Vm.Alike.refl U.vm
  exact ⟨va_Z.moved hv h.1, va_Zq.moved hv h.2.1, Str.moved (u := U) (U := U.calling g mk x) hv h.2.2.1, h.2.2.2⟩, fun s U H hW h => ⟨va_Z.moved hW.alike h.1, va_Zq.moved hW.alike h.2.1, Str.moved hW.alike h.2.2.1, h.2.2.2⟩⟩
theorem ΦT.S {A : Nat → Prop} {a v : Nat} {bs : List Int32} {U : State} {H : Heap} (h : ΦT A a v bs U H) : ΦS a v bs U H := ⟨h.1.narrow (fun _ z => z.elim), h.2.1.narrow (fun _ z => z.elim), h.2.2.1.narrow (fun _ z => z.elim), h.2.2.2.1⟩
theorem ΦT.kept {A : Nat → Prop} {a v : Nat} {bs : List Int32} {U : State} {H H1 : Heap} (h : ΦT A a v bs U H) (hq : ∀ a : Nat, a < H.size → ¬ A a → H1[a]? = H[a]?) : ΦT A a v bs U H1 := ⟨h.1.kept hq, h.2.1.kept hq, h.2.2.1.kept hq, h.2.2.2⟩
theorem ΦT.narrow {A B : Nat → Prop} {a v : Nat} {bs : List Int32} {U : State} {H : Heap} (h : ΦT A a v bs U H) (hAB : ∀ q, B q → A q) : ΦT B a v bs U H := ⟨h.1.narrow hAB, h.2.1.narrow hAB, h.2.2.1.narrow hAB, h.2.2.2⟩
theorem mv_and {Φ Ψ : State → Heap → Prop} (h1 : Mv Φ) (h2 : Mv Ψ) : Mv (fun U H => Φ U H ∧ Ψ U H) := ⟨fun U H g mk x h => ⟨h1.1 _ _ _ _ _ h.1, h2.1 _ _ _ _ _ h.2⟩, fun s U H hW h => ⟨h1.2 _ _ _ hW h.1, h2.2 _ _ _ hW h.2⟩⟩
theorem mv_h (P : Heap → Prop) : Mv (fun _ H => P H) := ⟨fun _ _ _ _ _ h => h, fun _ _ _ _ h => h⟩
theorem mv_J {A : Nat → Prop} : Mv (Jk A) := ⟨fun _ _ _ _ _ h => h.call, fun _ _ _ hW h => h.warm hW⟩
theorem Sr.str {A : Nat → Prop} {s : State} {H : Heap} {v : Nat} {bs : List Int32} (h : va_T .byte v bs.length (fun j => .int (bs.getD j 0)) A s H) : Sr s H v bs.length (fun j => bs.getD j 0) := by
  obtain ⟨cell, h1, h2, h3, h4, -, h6, -⟩ := h
  exact ⟨cell, h1, h2, h3, h4, h6⟩
theorem cl_at {s : State} {D : va_G} {Y : Nat → ClassId} (hE : Ev D Y s) : ∃ cC, ClassAt s RJ4 cC := by
  obtain ⟨-, hfc, kC, hkC, hkind⟩ := hE.1.1 11 _ cl11
  exact ⟨_, hfc, kC, hkC, hkind⟩
theorem okb {k : Nat} (h : k < 128) : fits .byte (.int (nI k)) = true ∧ (nI k).toInt8.toInt32 = nI k ∧ vp_nar .byte (nI k) = nI k := by
  have : ∀ k : Nat, k < 128 → fits .byte (.int (nI k)) = true ∧ (nI k).toInt8.toInt32 = nI k ∧ vp_nar .byte (nI k) = nI k := by decide +kernel
  exact this k h
theorem Fb_0 : Fb (fun _ => 0) := fun _ => rfl
theorem Fb_cpy {f g : Nat → Int32} (hf : Fb f) (hg : Fb g) (sp dp n : Nat) : Fb (va_cpy f g sp dp n) := fun j => by
  unfold va_cpy
  by_cases h : dp ≤ j ∧ j < dp + n
  · rw [if_pos h]; exact hf _
  · rw [if_neg h]; exact hg _
theorem Fb_upd {f : Nat → Int32} (hf : Fb f) {k : Nat} (hk : k < 128) (i : Nat) : Fb (upd f i (nI k)) := fun j => by
  by_cases h : j = i
  · rw [h, pk_us]; exact (okb hk).1
  · rw [pk_un h]; exact hf j
/-- a builder and what it lives with -/
def ΦB (D : va_G) (Y : Nat → ClassId) (q b n cap : Nat) (f : Nat → Int32) (sz : Nat) : State → Heap → Prop := fun U H => (H.size = sz ∧ q ≠ b ∧ n ≤ cap ∧ cap ≤ 128 ∧ Fb f ∧ va_P D vwCl (wB Y q b n cap f) H) ∧ Jk (AB q b sz) U H
theorem ΦB_mv {D : va_G} {Y : Nat → ClassId} {q b n cap : Nat} {f : Nat → Int32} {sz : Nat} : Mv (ΦB D Y q b n cap f sz) := mv_and (mv_h _) mv_J
theorem wB_lt {D : va_G} {Y : Nat → ClassId} {q b n cap : Nat} {f : Nat → Int32} {H : Heap} (h : va_P D vwCl (wB Y q b n cap f) H) : q < H.size ∧ b < H.size := ⟨(h 0 _ rfl).lt, (h 1 _ rfl).lt⟩
def PoE (D : va_G) (Y : Nat → ClassId) (q b n : Nat) (f : Nat → Int32) (sz k : Nat) : Option Value → State → State → Prop := fun v _ t => v = none ∧ ∃ b' cap' f', (b' = b ∨ sz ≤ b') ∧ q ≠ b' ∧ k ≤ cap' ∧ n ≤ cap' ∧ cap' ≤ 128 ∧ Fb f' ∧ (∀ j, j < n → f' j = f j) ∧ va_P D vwCl (wB Y q b' n cap' f') t.heap
theorem ck_pv {s : State} (hj : Sj s) {y : MethodName} {b : ByteArray} {n ar : Nat} {ret : Option FieldType} (hy : y ∈ pv4) (h1 : Cond.instanceMethod y ∈ LW) (h2 : Cond.initialized y.cls ∈ LW) (h3 : Cond.code y b n ret ∈ LW) (h4 : y.cls ≠ "java/lang/invoke/MethodHandle" ∧ y.cls ≠ "java/lang/invoke/VarHandle" ∧ (parseMethodDescriptor y.desc).map (fun d => d.parameters.length) = some ar) : CKC RJ4 s y b n ret ar := ⟨h1, fun A => hj.use hy, h2, h3, h4⟩
theorem pv_0 : yJ5_ensureCapacityInternal_d00df ∈ pv4 := List.mem_cons_self
theorem pv_1 : yJ5_newCapacity_0f7a4 ∈ pv4 := List.mem_cons_of_mem _ List.mem_cons_self
theorem pv_2 : yJ5_putStringAt_47b60 ∈ pv4 := List.mem_cons_of_mem _ (List.mem_cons_of_mem _ List.mem_cons_self)
theorem pv_3 : yJ5_inflateIfNeededFor_a7421 ∈ pv4 := List.mem_cons_of_mem _ (List.mem_cons_of_mem _ (List.mem_cons_of_mem _ List.mem_cons_self))
theorem k4_nc {s : State} (hj : Sj s) : CKC RJ4 s yJ5_newCapacity_0f7a4 cJ5_newCapacity_0f7a4 6 (some .int) 1 := ck_pv hj pv_1 mw_1120 mw_23 mw_1121 (by decide +kernel)
theorem k4_en {s : State} (hj : Sj s) : CKC RJ4 s yJ5_ensureCapacityInternal_d00df cJ5_ensureCapacityInternal_d00df 3 none 1 := ck_pv hj pv_0 mw_1116 mw_23 mw_1117 (by decide +kernel)
theorem k4_ps {s : State} (hj : Sj s) : CKC RJ4 s yJ5_putStringAt_47b60 cJ5_putStringAt_47b60 3 none 2 := ck_pv hj pv_2 mw_1187 mw_23 mw_1188 (by decide +kernel)
theorem k4_in {s : State} (hj : Sj s) : CKC RJ4 s yJ5_inflateIfNeededFor_a7421 cJ5_inflateIfNeededFor_a7421 2 none 1 := ck_pv hj pv_3 mw_1191 mw_23 mw_1192 (by decide +kernel)
theorem q_ensure (l : Launch) (D : va_G) (Y : Nat → ClassId) {q b n cap k sz : Nat} {f : Nat → Int32} (hk64 : k ≤ 64) : JM l yJ5_ensureCapacityInternal_d00df cJ5_ensureCapacityInternal_d00df 3 none 3 1 128 D Y (ΦB D Y q b n cap f sz) [.ref q, .int (nI k)] (PoE D Y q b n f sz k) (AB q b sz) := by
  refine JM_of (ret := none) (by decide) (Nat.le_of_ble_eq_true rfl) (lv := [(0, .ref q), (1, .int (nI k))]) rfl ?_
  intro p ev s m below meth c ls F hΦ hr hk hnm hl
  have F : Fx p c cJ5_ensureCapacityInternal_d00df 3 s m _ RJ5 D Y := F
  have hx := F.1.1
  have hb := F.1.2.1
  have hts := F.1.2.2.2.2
  have hown := F.1.2.2.2.1
  obtain ⟨⟨hsz, hne, hnc, hcm, hfb, hP⟩, hJ⟩ := hΦ
  have hD := wB_D (Y := Y) (n := n) (cap := cap) (sz := sz) (f := f) hne
  have hlt := wB_lt hP
  refine lv_aload_n hx hb dJ5_ensureCapacityInternal_d00df_0 rfl (lv_at hl 0 rfl) ?_
  refine b_get F hP 0 (by decide) mw_1090 rfl rfl dJ5_ensureCapacityInternal_d00df_1 ?_
  refine b_len F hP dJ5_ensureCapacityInternal_d00df_4 ?_
  refine lv_aload_n hx hb dJ5_ensureCapacityInternal_d00df_5 rfl (lv_at hl 0 rfl) ?_
  refine b_get F hP 1 (by decide) mw_1091 rfl rfl dJ5_ensureCapacityInternal_d00df_6 ?_
  refine lv_ishr hx hb dJ5_ensureCapacityInternal_d00df_9 ?_
  rw [show (((nI cap) >>> ((0 : Int32) &&& 31)) : Int32) = (nI cap) from jshr _]
  refine lv_istore_n (lv' := [(2, .int (nI cap)), (0, .ref q), (1, .int (nI k))]) hx hb dJ5_ensureCapacityInternal_d00df_10 rfl hl (by decide) rfl (fun ls hl => ?_)
  refine lv_iload_n hx hb dJ5_ensureCapacityInternal_d00df_11 rfl (lv_at hl 2 rfl) ?_
  refine lv_iload_n hx hb dJ5_ensureCapacityInternal_d00df_12 rfl (lv_at hl 0 rfl) ?_
  refine lv_isub hx hb dJ5_ensureCapacityInternal_d00df_13 ?_
  have e1 : (nI k - nI cap).toInt = (k : Int) - cap := pk_sub_toInt (by omega) (by omega)
  have e0 : (0 : Int32).toInt = 0 := rfl
  refine lv_if_le (tgt := 38) hx hb dJ5_ensureCapacityInternal_d00df_14 (by decide) (fun c1 => ?_) (fun c1 => ?_)
  · have hkc : k ≤ cap := by rw [Int32.le_iff_toInt_le, e1, e0] at c1; omega
    refine W.widen (k := 1) (n := 128) (by omega) (by omega) ?_
    exact W.vret hx hb hr (fun t ht _ => ⟨_, rfl, ⟨rfl, b, cap, f, Or.inl rfl, hne, hkc, hnc, hcm, hfb, fun _ _ => rfl, by rw [ht]; exact hP⟩, (va_S.rf (A := AB q b sz)).F ht⟩) (fun q hq => by cases hq) dJ5_ensureCapacityInternal_d00df_38 hk
  · have hkc : cap < k := Nat.not_le.mp fun z => c1 (by rw [Int32.le_iff_toInt_le, e1, e0]; omega)
    refine lv_aload_n hx hb dJ5_ensureCapacityInternal_d00df_17 rfl (lv_at hl 1 rfl) ?_
    refine lv_aload_n hx hb dJ5_ensureCapacityInternal_d00df_18 rfl (lv_at hl 1 rfl) ?_
    refine b_get F hP 0 (by decide) mw_1090 rfl rfl dJ5_ensureCapacityInternal_d00df_19 ?_
    refine lv_aload_n hx hb dJ5_ensureCapacityInternal_d00df_22 rfl (lv_at hl 1 rfl) ?_
    refine lv_iload_n hx hb dJ5_ensureCapacityInternal_d00df_23 rfl (lv_at hl 2 rfl) ?_
    refine rd_C F hP (k4_nc hJ.2.2) mw_1118 (b_rec F hP) (q_newCapacity l D Y q b n cap f (k := k) ⟨hkc, by omega⟩) rfl hl.1 ⟨Nat.le_of_ble_eq_true rfl, Nat.le_of_ble_eq_true rfl⟩ (rest := [.ref b, .ref q]) rfl (Nat.le_of_ble_eq_true rfl) ⟨Nat.le_of_ble_eq_true rfl, Nat.le_of_ble_eq_true rfl⟩ dJ5_ensureCapacityInternal_d00df_24 (fun _ => ?_)
    refine lv_aload_n hx hb dJ5_ensureCapacityInternal_d00df_27 rfl (lv_at hl 1 rfl) ?_
    refine b_get F hP 1 (by decide) mw_1091 rfl rfl dJ5_ensureCapacityInternal_d00df_28 ?_
    refine lv_ishl hx hb dJ5_ensureCapacityInternal_d00df_31 ?_
    rw [show (((nI (cap + max (k - cap) (cap + 2))) <<< ((0 : Int32) &&& 31)) : Int32) = (nI (cap + max (k - cap) (cap + 2))) from jshl _]
    generalize hN : cap + max (k - cap) (cap + 2) = N
    have hb1 : s.heap[b]? = some (vp_cell (Y 6) (cap, .inl f)) := hP 1 _ rfl
    refine jm_S F ΦC_mv (Φ := ΦC Y b cap f s.heap.size) ⟨rfl, hb1⟩ (va_S.rf (A := AB q b sz)) (fun x hx => Or.inr (Or.inr (by rw [← hsz]; exact hx))) k_J7_copyOf_9075b mw_1131 (q_copyOf l D Y (b := b) (cap := cap) (N := N) (sz := s.heap.size) hfb (by omega)) rfl hl.1 ⟨Nat.le_of_ble_eq_true rfl, Nat.le_of_ble_eq_true rfl⟩ (rest := [.ref q]) rfl (Nat.le_of_ble_eq_true rfl) ⟨Nat.le_of_ble_eq_true rfl, by show 0 + N ≤ 128; omega⟩ dJ5_ensureCapacityInternal_d00df_32 (fun v st t H1 L e2 e3 hp hz hq hS => ?_)
    obtain ⟨rfl, hp1, hp2⟩ := hp
    rw [e3] at hp1 hp2
    have hq0 : va_at D vwCl (q, .inr (11, [.ref b, .int 0, .int 0, .int (nI n)])) H1 := (hP 0 _ rfl).kept (hq q hlt.1 (by show ¬ s.heap.size ≤ q; omega))
    have hq1 : va_at D vwCl (s.heap.size, .inl (Y 6, N, .inl (va_cpy f (fun _ => 0) 0 0 cap))) H1 := hp1
    have hDs : va_D (AB q b sz) [(q, .inr (11, [.ref b, .int 0, .int 0, .int (nI n)])), (s.heap.size, .inl (Y 6, N, .inl (va_cpy f (fun _ => 0) 0 0 cap)))] := by
      refine ⟨fun i j x z hi hj hxz => ?_, fun i x hi => ?_⟩
      · have h1 : i < 2 := (List.getElem?_eq_some_iff.mp hi).1
        have h2 : j < 2 := (List.getElem?_eq_some_iff.mp hj).1
        obtain rfl | rfl : i = 0 ∨ i = 1 := by omega
        · obtain rfl | rfl : j = 0 ∨ j = 1 := by omega
          · rfl
          · cases hi; cases hj; exact absurd hxz (by show ¬ q = s.heap.size; omega)
        · obtain rfl | rfl : j = 0 ∨ j = 1 := by omega
          · cases hi; cases hj; exact absurd hxz (by show ¬ s.heap.size = q; omega)
          · rfl
      · have h1 : i < 2 := (List.getElem?_eq_some_iff.mp hi).1
        obtain rfl | rfl : i = 0 ∨ i = 1 := by omega
        · cases hi; exact Or.inl rfl
        · cases hi; exact Or.inr (Or.inr (Nat.le_of_eq hsz.symm))
    refine b_put F (at_P2 hq0 hq1) hDs hS (fs := [.ref b, .int 0, .int 0, .int (nI n)]) rfl rfl 0 (by decide) mw_1090 rfl rfl (ty := .array .byte) (v := .ref s.heap.size) (by decide) rfl rfl dJ5_ensureCapacityInternal_d00df_35 (fun H2 L2 hP2 _ hS2 => ?_)
    refine W.widen (k := 1) (n := 128) (Nat.le_refl _) (by show 0 + N ≤ 128; omega) ?_
    exact W.vret hx hb hr (fun t ht _ => ⟨_, rfl, ⟨rfl, s.heap.size, N, va_cpy f (fun _ => 0) 0 0 cap, Or.inr (Nat.le_of_eq hsz.symm), by omega, by omega, by omega, by omega, Fb_cpy hfb Fb_0 _ _ _, fun j hj => by unfold va_cpy; rw [if_pos (by omega)]; congr 1; omega, by rw [ht]; exact hP2⟩, hS2.F ht⟩) hS2.2.2 dJ5_ensureCapacityInternal_d00df_38 hk
