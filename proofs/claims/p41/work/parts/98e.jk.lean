/-! toString -/
theorem clS0 : vwCl[0]? = some (RJ0, TJ0, 4) := rfl
theorem hfs0 : ∀ j, j < 4 → defaultValue (tyJ0 j) = vp_V fs0 j := fun j hj => by
  obtain rfl | rfl | rfl | rfl : j = 0 ∨ j = 1 ∨ j = 2 ∨ j = 3 := by omega
  · rfl
  · rfl
  · rfl
  · rfl
def ΦU (D : va_G) (Y : Nat → ClassId) (a q b n cap : Nat) (f : Nat → Int32) (sz : Nat) : State → Heap → Prop := fun U H => ((sz ≤ H.size ∧ sz ≤ a) ∧ (a ≠ q ∧ a ≠ b ∧ q ≠ b) ∧ (n ≤ cap ∧ cap ≤ 128) ∧ Fb f ∧ va_P D vwCl (wB Y q b n cap f) H ∧ va_P D vwCl [(a, .inr (0, fs0))] H) ∧ Jk (AB q b sz) U H
theorem ΦU_mv {D : va_G} {Y : Nat → ClassId} {a q b n cap : Nat} {f : Nat → Int32} {sz : Nat} : Mv (ΦU D Y a q b n cap f sz) := mv_and (mv_h _) mv_J
def wS (Y : Nat → ClassId) (a r n : Nat) (f : Nat → Int32) : va_W := [(a, .inr (0, [.ref r, .int 0, .int 0, .int 0])), (r, .inl (Y 6, n, .inl f))]
def PoS (D : va_G) (Y : Nat → ClassId) (a n : Nat) (f : Nat → Int32) (sz : Nat) : Option Value → State → State → Prop := fun v _ t => v = none ∧ ∃ r f', sz ≤ r ∧ a ≠ r ∧ (∀ j, j < n → f' j = f j) ∧ va_P D vwCl (wS Y a r n f') t.heap
def PoT (D : va_G) (Y : Nat → ClassId) (n : Nat) (f : Nat → Int32) (sz : Nat) : Option Value → State → State → Prop := fun v _ t => ∃ a r f', v = some (.ref a) ∧ sz ≤ a ∧ sz ≤ r ∧ a ≠ r ∧ (∀ j, j < n → f' j = f j) ∧ va_P D vwCl (wS Y a r n f') t.heap
theorem w3_D {a q b sz : Nat} {e1 e2 e3 : va_E} (h : a ≠ q ∧ a ≠ b ∧ q ≠ b) (ha : sz ≤ a) : va_D (AB q b sz) [(a, e1), (q, e2), (b, e3)] := va_D_of (by simp [h.1, h.2.1, h.2.2]) (fun x hx => by
  simp only [List.mem_cons, List.not_mem_nil, or_false] at hx
  rcases hx with rfl | rfl | rfl
  · exact Or.inr (Or.inr ha)
  · exact Or.inl rfl
  · exact Or.inr (Or.inl rfl))
theorem w4_D {a q b r sz : Nat} {e1 e2 : va_E} (h : a ≠ r) (ha : sz ≤ a) (hr : sz ≤ r) : va_D (AB q b sz) [(a, e1), (r, e2)] := va_D_of (by simp [h]) (fun x hx => by
  simp only [List.mem_cons, List.not_mem_nil, or_false] at hx
  rcases hx with rfl | rfl
  · exact Or.inr (Or.inr ha)
  · exact Or.inr (Or.inr hr))
theorem at_P3 {D : va_G} {x y z : Nat × va_E} {H : Heap} (h1 : va_at D vwCl x H) (h2 : va_at D vwCl y H) (h3 : va_at D vwCl z H) : va_P D vwCl [x, y, z] H := va_P_of (fun w hw => by
  simp only [List.mem_cons, List.not_mem_nil, or_false] at hw
  rcases hw with rfl | rfl | rfl
  · exact h1
  · exact h2
  · exact h3)
theorem q_sin0 (l : Launch) (D : va_G) (Y : Nat → ClassId) {a q b n cap sz : Nat} {f : Nat → Int32} : JM l yJ0_init_db425 cJ0_init_db425 5 none 3 1 128 D Y (ΦU D Y a q b n cap f sz) [.ref a, .ref q, .null] (PoS D Y a n f sz) (AB q b sz) := by
  refine JM_of (ret := none) (by decide) (Nat.le_of_ble_eq_true rfl) (lv := [(0, .ref a), (1, .ref q), (2, .null)]) rfl ?_
  intro p ev s m below meth c ls F hΦ hr hk hnm hl
  have F : Fx p c cJ0_init_db425 5 s m _ RJ0 D Y := F
  have hx := F.1.1
  have hb := F.1.2.1
  have hts := F.1.2.2.2.2
  have hown := F.1.2.2.2.1
  obtain ⟨⟨⟨hsz, hsa⟩, hne, ⟨hnc, hcm⟩, hfb, hP, hPa⟩, hJ⟩ := hΦ
  have hΦB : ΦB D Y q b n cap f s.heap.size s s.heap := ⟨⟨rfl, hne.2.2, hnc, hcm, hfb, hP⟩, hJ.narrow (AB_sub (Or.inl rfl) hsz)⟩
  have hlt := wB_lt hP
  have hlta : a < s.heap.size := (hPa 0 _ rfl).lt
  refine lv_aload_n hx hb dJ0_init_db425_0 rfl (lv_at hl 0 rfl) ?_
  refine c_init F mw_1279 hl.1 ⟨Nat.le_of_ble_eq_true rfl, Nat.le_of_ble_eq_true rfl⟩ dJ0_init_db425_1 ?_
  refine lv_aload_n hx hb dJ0_init_db425_4 rfl (lv_at hl 1 rfl) ?_
  refine jm_V F (mv_h _) hP (va_S.rf (A := AB q b sz)) (fun _ z => z.elim) (k4_gv hts) mw_1280 (b_rec F hP) (q_gv l D Y (q := q) (b := b) (n := n) (cap := cap) (f := f)) rfl hl.1 ⟨Nat.le_of_ble_eq_true rfl, Nat.le_of_ble_eq_true rfl⟩ (rest := []) rfl (Nat.le_of_ble_eq_true rfl) ⟨Nat.le_of_ble_eq_true rfl, Nat.le_of_ble_eq_true rfl⟩ dJ0_init_db425_5 (fun v2 st t H1 L e0 e1 hp hz hq hS => ?_)
  obtain ⟨rfl, hp⟩ := hp
  obtain rfl : H1 = s.heap := by rw [← e1, hp, e0]
  refine lv_astore_n (lv' := [(3, .ref b), (0, .ref a), (1, .ref q), (2, .null)]) hx hb dJ0_init_db425_8 rfl hl (by decide) rfl (fun ls hl => ?_)
  refine lv_aload_n hx hb dJ0_init_db425_9 rfl (lv_at hl 2 rfl) ?_
  refine rd_O (C := RJ4) (owner := RJ5) (ar := 0) F hP (b_rec F hP) mw_1285 jw_slen mw_1286 mw_1288 mw_1289 mw_24 mw_1290 mw_1292 (by decide +kernel) (q_slen l D Y q b n cap f) rfl hl.1 ⟨Nat.le_of_ble_eq_true rfl, Nat.le_of_ble_eq_true rfl⟩ (rest := []) rfl (Nat.le_of_ble_eq_true rfl) ⟨Nat.le_of_ble_eq_true rfl, Nat.le_of_ble_eq_true rfl⟩ dJ0_init_db425_10 (fun _ => ?_)
  refine lv_istore (lv' := [(4, .int (nI n)), (3, .ref b), (0, .ref a), (1, .ref q), (2, .null)]) hx hb dJ0_init_db425_13 hl (by decide) rfl (fun ls hl => ?_)
  refine lv_aload_n hx hb dJ0_init_db425_15 rfl (lv_at hl 3 rfl) ?_
  refine jr_V F ΦB_mv hΦB (k4_l1 hts) mw_1293 (b_rec F hP) (q_bLat l D Y) rfl hl.1 ⟨Nat.le_of_ble_eq_true rfl, Nat.le_of_ble_eq_true rfl⟩ (rest := []) rfl (Nat.le_of_ble_eq_true rfl) ⟨Nat.le_of_ble_eq_true rfl, Nat.le_of_ble_eq_true rfl⟩ dJ0_init_db425_16 (fun _ => ?_)
  refine lv_if_eq (tgt := 41) hx hb dJ0_init_db425_19 (by decide) (fun c1 => ?_) (fun c1 => ?_)
  · exact absurd c1 (show ¬ ((1 : Int32) = 0) by decide)
  refine lv_aload_n hx hb dJ0_init_db425_22 rfl (lv_at hl 2 rfl) ?_
  refine lv_iconst (v := 0) hx hb dJ0_init_db425_23 (by decide) ?_
  refine va_putF hx hb hts i_J0 tyJ0 tyJ0_ok nmJ0 hown F.2.1 (at_P3 (hPa 0 _ rfl) (hP 0 _ rfl) (hP 1 _ rfl)) (w3_D hne hsa) hS 0 rfl clS0 1 (by decide) (hts _ mw_1325) (fun x h => h) rfl hnm rfl (ty := .byte) (v := .int 0) (by decide) rfl rfl (by decide) dJ0_init_db425_24 (fun H2 L2 hP2 hD2 hS2 => ?_)
  refine lv_aload_n hx hb dJ0_init_db425_27 rfl (lv_at hl 2 rfl) ?_
  refine lv_aload_n hx hb dJ0_init_db425_28 rfl (lv_at hl 1 rfl) ?_
  refine lv_iconst (v := 0) hx hb dJ0_init_db425_29 (by decide) ?_
  refine lv_iload hx hb dJ0_init_db425_30 (lv_at hl 0 rfl) ?_
  have hsz2 : sz ≤ H2.size := Nat.le_trans hsz hS2.1
  refine jm_S F ΦC_mv (Φ := ΦC Y b cap f H2.size) ⟨rfl, hP2 2 _ rfl⟩ hS2 (fun x hx => by rcases hx with hx | hx | hx; exact Or.inr (Or.inl hx); exact Or.inr (Or.inl hx); exact Or.inr (Or.inr (Nat.le_trans hsz2 hx))) k_J7_copyOfRange_39247 mw_1294 (q_cor l D Y (b := b) (cap := cap) (n := n) (sz := H2.size) (f := f) hfb ⟨hnc, hcm⟩) rfl hl.1 ⟨Nat.le_of_ble_eq_true rfl, Nat.le_of_ble_eq_true rfl⟩ (rest := [.ref a]) rfl (Nat.le_of_ble_eq_true rfl) ⟨Nat.le_of_ble_eq_true rfl, Nat.le_of_ble_eq_true rfl⟩ dJ0_init_db425_32 (fun v2 st t H3 L3 e0 e1 hp hz3 hq3 hS3 => ?_)
  obtain ⟨r, f', rfl, hp1, hp2, hp3, hp4⟩ := hp
  rw [e1] at hp2 hp4
  have hlta2 : a < H2.size := (hP2 0 _ rfl).lt
  have har : a ≠ r := by omega
  have hP3 : va_P D vwCl [(a, .inr (0, fs0.set 1 (.int 0))), (r, .inl (Y 6, n, .inl f'))] H3 := at_P2 ((hP2 0 _ rfl).kept (hq3 a hlta2 (fun z => by rcases z with z | z | z; exact hne.2.1 z; exact hne.2.1 z; omega))) hp2
  refine va_putF hx hb hts i_J0 tyJ0 tyJ0_ok nmJ0 hown F.2.1 hP3 (w4_D har hsa (Nat.le_trans hsz2 hp1)) hS3 0 rfl clS0 0 (by decide) (hts _ mw_1324) (fun x h => h) rfl hnm rfl (ty := .array .byte) (v := .ref r) (by decide) rfl rfl (by decide) dJ0_init_db425_35 (fun H4 L4 hP4 hD4 hS4 => ?_)
  refine lv_goto (tgt := 97) hx hb dJ0_init_db425_38 (by decide) ?_
  exact W.vret hx hb hr (fun t9 ht _ => ⟨_, rfl, ⟨rfl, r, f', Nat.le_trans hsz2 hp1, har, hp3, by rw [ht]; exact hP4⟩, hS4.F ht⟩) hS4.2.2 dJ0_init_db425_97 hk
theorem q_sin (l : Launch) (D : va_G) (Y : Nat → ClassId) {a q b n cap sz : Nat} {f : Nat → Int32} : JM l yJ0_init_81219 cJ0_init_81219 2 none 4 1 128 D Y (ΦU D Y a q b n cap f sz) [.ref a, .ref q] (PoS D Y a n f sz) (AB q b sz) := by
  refine JM_of (ret := none) (by decide) (Nat.le_of_ble_eq_true rfl) (lv := [(0, .ref a), (1, .ref q)]) rfl ?_
  intro p ev s m below meth c ls F hΦ hr hk hnm hl
  have F : Fx p c cJ0_init_81219 2 s m _ RJ0 D Y := F
  have hx := F.1.1
  have hb := F.1.2.1
  have hts := F.1.2.2.2.2
  have hown := F.1.2.2.2.1
  refine lv_aload_n hx hb dJ0_init_81219_0 rfl (lv_at hl 0 rfl) ?_
  refine lv_aload_n hx hb dJ0_init_81219_1 rfl (lv_at hl 1 rfl) ?_
  refine lv_null hx hb dJ0_init_81219_2 ?_
  refine jm_I (ar := 2) F ΦU_mv hΦ (va_S.rf (A := AB q b sz)) (fun _ z => z) mw_1277 mw_20 mw_1278 mw_1276 rfl (by decide +kernel) (q_sin0 l D Y (a := a) (q := q) (b := b) (n := n) (cap := cap) (sz := sz) (f := f)) rfl hl.1 ⟨Nat.le_of_ble_eq_true rfl, Nat.le_of_ble_eq_true rfl⟩ (rest := []) rfl (Nat.le_of_ble_eq_true rfl) ⟨Nat.le_of_ble_eq_true rfl, Nat.le_of_ble_eq_true rfl⟩ dJ0_init_81219_3 (fun v2 st tt H1 L e0 e1 hp hz hq hS => ?_)
  obtain ⟨rfl, r, f', g1, g2, g3, g4⟩ := hp
  exact W.vret hx hb hr (fun t ht _ => ⟨_, rfl, ⟨rfl, r, f', g1, g2, g3, by rw [ht, ← e1]; exact g4⟩, hS.F ht⟩) hS.2.2 dJ0_init_81219_6 hk
theorem q_tos (l : Launch) (D : va_G) (Y : Nat → ClassId) {q b cap sz : Nat} {f : Nat → Int32} {t : List Int32} : JM l yJ4_toString_0e30d cJ4_toString_0e30d 1 (some (.object "java/lang/String")) 5 2 132 D Y (ΦB D Y q b t.length cap f sz) [.ref q] (PoT D Y t.length f sz) (AB q b sz) := by
  refine JM_of (ret := (some (.object "java/lang/String"))) (by decide) (Nat.le_of_ble_eq_true rfl) (lv := [(0, .ref q)]) rfl ?_
  intro p ev s m below meth c ls F hΦ hr hk hnm hl
  have F : Fx p c cJ4_toString_0e30d 1 s m _ RJ4 D Y := F
  have hx := F.1.1
  have hb := F.1.2.1
  have hts := F.1.2.2.2.2
  have hown := F.1.2.2.2.1
  obtain ⟨⟨hsz, hne, hnc, hcm, hfb, hP⟩, hJ⟩ := hΦ
  have hlt := wB_lt hP
  refine va_new hx hb hts i_J0 tyJ0 tyJ0_ok hown (hts _ mw_1272) (hts _ mw_548) (hts _ mw_20) F.2.1 hP (wB_D (sz := sz) hne) (va_S.rf (A := AB q b sz)) (fun z hz => Or.inr (Or.inr (by rw [← hsz]; exact hz))) clS0 (fs := fs0) hfs0 (Nat.le_of_ble_eq_true rfl) (Nat.le_of_ble_eq_true rfl) dJ4_toString_0e30d_0 (fun a H1 hP1 hD1 hS1 => ?_)
  have haq : a ≠ q := fun z => by have := hD1.1 2 0 _ _ rfl rfl z; omega
  have hab : a ≠ b := fun z => by have := hD1.1 2 1 _ _ rfl rfl z; omega
  have hsa : sz ≤ a := by rcases hD1.2 2 _ rfl with z | z | z; exact absurd z haq; exact absurd z hab; exact z
  have hΦU : ΦU D Y a q b t.length cap f sz s H1 := ⟨⟨⟨by rw [← hsz]; exact hS1.1, hsa⟩, ⟨haq, hab, hne⟩, ⟨hnc, hcm⟩, hfb, at_P2 (hP1 0 _ rfl) (hP1 1 _ rfl), at_P (hP1 2 _ rfl)⟩, hJ.kept hS1.2.1⟩
  refine lv_dup hx hb dJ4_toString_0e30d_3 rfl ?_
  refine lv_aload_n hx hb dJ4_toString_0e30d_4 rfl (lv_at hl 0 rfl) ?_
  refine jm_I (ar := 1) F ΦU_mv hΦU hS1 (fun _ z => z) mw_1274 mw_20 mw_1275 mw_1273 rfl (by decide +kernel) (q_sin l D Y (a := a) (q := q) (b := b) (n := t.length) (cap := cap) (sz := sz) (f := f)) rfl hl.1 ⟨Nat.le_of_ble_eq_true rfl, Nat.le_of_ble_eq_true rfl⟩ (rest := [.ref a]) rfl (Nat.le_of_ble_eq_true rfl) ⟨Nat.le_of_ble_eq_true rfl, Nat.le_of_ble_eq_true rfl⟩ dJ4_toString_0e30d_5 (fun v2 st tt H2 L e0 e1 hp hz hq hS => ?_)
  obtain ⟨rfl, r, f', g1, g2, g3, g4⟩ := hp
  exact W.aret hx hb hr (Or.inl ⟨_, rfl⟩) (Or.inr ⟨_, rfl⟩) (fun t9 ht _ => ⟨_, rfl, ⟨a, r, f', rfl, hsa, g1, g2, g3, by rw [ht, ← e1]; exact g4⟩, hS.F ht⟩) hS.2.2 dJ4_toString_0e30d_8 hk
theorem Str_of {p : Program} {c : Code} {cc : ByteArray} {nL : Nat} {s : State} {m : MethodId} {args : Array Value} {own : String} {D : va_G} {Y : Nat → ClassId} {A : Nat → Prop} {H : Heap} {a r : Nat} {t : List Int32} {f : Nat → Int32} (F : Fx p c cc nL s m args own D Y) (hP : va_P D vwCl (wS Y a r t.length f) H) (hc : Ct t f) (ha : ¬ A a) (hr : ¬ A r) : Str a r t A s H := by
  obtain ⟨r0, h1, cell, q1, q2, q3, q4⟩ := hP 0 _ rfl
  have hr0 : r0 = (RJ0, TJ0, 4) := Option.some.inj (h1.symm.trans clS0)
  subst hr0
  obtain ⟨hS, hfc, kC, hkC, hkind⟩ := F.2.1.1 0 _ clS0
  have hOF : ∀ k, k < 4 → va_OF (TJ0 k).1 (TJ0 k).2.1 (TJ0 k).2.2.1 (vp_V [.ref r, .int 0, .int 0, .int 0] k) a A s H := fun k hk => by
    obtain ⟨cf, kf, fi, fd, hi, hsl⟩ := hS k hk
    have hst := (u_facts hfc hkC (u_lays F.1.2.2.2.2 i_J0 hk) hi).1
    exact ⟨cf, kf, fi, fd, cell, hi, hst, q1, (by rw [q3]; exact (fun z => by cases z)), (by rw [hsl]; exact q4 k hk), ha⟩
  refine ⟨⟨cell, q1, by rw [q3]; rfl, by rw [q2]; exact hfc, ha⟩, hOF 1 (by decide), hOF 0 (by decide), ?_⟩
  refine ⟨_, hP 1 _ rfl, (F.2.1.2 6 _ rfl).1 t.length (fun j => .int (f j)), (fun z => by cases z), ?_, ?_, fun j hj => ?_, hr⟩
  · show t.length ≤ (arrV _ _ _).slots.size
    rw [arrV_size]
    exact Nat.le_refl _
  · show (arrV _ _ _).slots.size.toInt32 = _
    rw [arrV_size]
  · show (arrV _ _ _).slots[j]? = _
    rw [arrV_read _ _ hj, hc j hj]
