theorem kC_P {Y : Nat → ClassId} {ad : Nat → Nat} {b r : Nat} (hb : b < 11) (hr : r < 7) (g : Nat → Int32) : kC Y ad (7 * b + r) g = kP Y ad (7 * b + r) r g := by
  have e : (7 * b + r) % 7 = r := by omega
  unfold kC
  rw [if_pos (by omega), e]
theorem kC_P0 {Y : Nat → ClassId} {ad : Nat → Nat} {b : Nat} (hb : b < 11) {g : Nat → Int32} : kC Y ad (7 * b) g = .inr (6, [.ref (ad (7 * b + 1)), .ref (ad (7 * b + 2)), .ref (ad (7 * b + 3)), .ref (ad (7 * b + 4)), .ref (ad (7 * b + 5)), .ref (ad (7 * b + 6)), .int (g 6), .int (g 7), .int (g 8), .int (g 9), .int (g 10)]) := kC_P (r := 0) hb (by decide) g
theorem gP {Y : Nat → ClassId} {ad : Nat → Nat} {b : Nat} {G : Nat → Nat → Int32} (hb : b < 11) : (wsC Y ad G)[7 * b]? = some (ad (7 * b), .inr (6, [.ref (ad (7 * b + 1)), .ref (ad (7 * b + 2)), .ref (ad (7 * b + 3)), .ref (ad (7 * b + 4)), .ref (ad (7 * b + 5)), .ref (ad (7 * b + 6)), .int (G (7 * b) 6), .int (G (7 * b) 7), .int (G (7 * b) 8), .int (G (7 * b) 9), .int (G (7 * b) 10)])) := (wsW_get (7 * b) (by omega)).trans (by rw [kC_P0 hb])
theorem kC_P0s6 {Y : Nat → ClassId} {ad : Nat → Nat} {b : Nat} (hb : b < 11) {g : Nat → Int32} {v : Int32} : (.inr (6, [.ref (ad (7 * b + 1)), .ref (ad (7 * b + 2)), .ref (ad (7 * b + 3)), .ref (ad (7 * b + 4)), .ref (ad (7 * b + 5)), .ref (ad (7 * b + 6)), .int (g 6), .int (g 7), .int (g 8), .int (g 9), .int (g 10)].set 6 (.int v)) : va_E) = kC Y ad (7 * b) (upd g 6 v) := (kC_P0 (Y := Y) (ad := ad) (g := upd g 6 v) hb).symm
theorem kC_P0s7 {Y : Nat → ClassId} {ad : Nat → Nat} {b : Nat} (hb : b < 11) {g : Nat → Int32} {v : Int32} : (.inr (6, [.ref (ad (7 * b + 1)), .ref (ad (7 * b + 2)), .ref (ad (7 * b + 3)), .ref (ad (7 * b + 4)), .ref (ad (7 * b + 5)), .ref (ad (7 * b + 6)), .int (g 6), .int (g 7), .int (g 8), .int (g 9), .int (g 10)].set 7 (.int v)) : va_E) = kC Y ad (7 * b) (upd g 7 v) := (kC_P0 (Y := Y) (ad := ad) (g := upd g 7 v) hb).symm
theorem kC_P0s8 {Y : Nat → ClassId} {ad : Nat → Nat} {b : Nat} (hb : b < 11) {g : Nat → Int32} {v : Int32} : (.inr (6, [.ref (ad (7 * b + 1)), .ref (ad (7 * b + 2)), .ref (ad (7 * b + 3)), .ref (ad (7 * b + 4)), .ref (ad (7 * b + 5)), .ref (ad (7 * b + 6)), .int (g 6), .int (g 7), .int (g 8), .int (g 9), .int (g 10)].set 8 (.int v)) : va_E) = kC Y ad (7 * b) (upd g 8 v) := (kC_P0 (Y := Y) (ad := ad) (g := upd g 8 v) hb).symm
theorem kC_P0s9 {Y : Nat → ClassId} {ad : Nat → Nat} {b : Nat} (hb : b < 11) {g : Nat → Int32} {v : Int32} : (.inr (6, [.ref (ad (7 * b + 1)), .ref (ad (7 * b + 2)), .ref (ad (7 * b + 3)), .ref (ad (7 * b + 4)), .ref (ad (7 * b + 5)), .ref (ad (7 * b + 6)), .int (g 6), .int (g 7), .int (g 8), .int (g 9), .int (g 10)].set 9 (.int v)) : va_E) = kC Y ad (7 * b) (upd g 9 v) := (kC_P0 (Y := Y) (ad := ad) (g := upd g 9 v) hb).symm
theorem kC_P0s10 {Y : Nat → ClassId} {ad : Nat → Nat} {b : Nat} (hb : b < 11) {g : Nat → Int32} {v : Int32} : (.inr (6, [.ref (ad (7 * b + 1)), .ref (ad (7 * b + 2)), .ref (ad (7 * b + 3)), .ref (ad (7 * b + 4)), .ref (ad (7 * b + 5)), .ref (ad (7 * b + 6)), .int (g 6), .int (g 7), .int (g 8), .int (g 9), .int (g 10)].set 10 (.int v)) : va_E) = kC Y ad (7 * b) (upd g 10 v) := (kC_P0 (Y := Y) (ad := ad) (g := upd g 10 v) hb).symm
theorem kC_A0 {Y : Nat → ClassId} {ad : Nat → Nat} {b : Nat} (hb : b < 11) (g : Nat → Int32) : kC Y ad (7 * b + 1) g = .inl (Y 0, 6, .inl g) := (kC_P (r := 1) hb (by decide) g).trans rfl
theorem kC_A1 {Y : Nat → ClassId} {ad : Nat → Nat} {b : Nat} (hb : b < 11) (g : Nat → Int32) : kC Y ad (7 * b + 2) g = .inl (Y 0, 4, .inl g) := (kC_P (r := 2) hb (by decide) g).trans rfl
theorem kC_A2 {Y : Nat → ClassId} {ad : Nat → Nat} {b : Nat} (hb : b < 11) (g : Nat → Int32) : kC Y ad (7 * b + 3) g = .inl (Y 0, 4, .inl g) := (kC_P (r := 3) hb (by decide) g).trans rfl
theorem kC_A3 {Y : Nat → ClassId} {ad : Nat → Nat} {b : Nat} (hb : b < 11) (g : Nat → Int32) : kC Y ad (7 * b + 4) g = .inl (Y 0, 16, .inl g) := (kC_P (r := 4) hb (by decide) g).trans rfl
theorem kC_A4 {Y : Nat → ClassId} {ad : Nat → Nat} {b : Nat} (hb : b < 11) (g : Nat → Int32) : kC Y ad (7 * b + 5) g = .inl (Y 0, 16, .inl g) := (kC_P (r := 5) hb (by decide) g).trans rfl
theorem kC_A5 {Y : Nat → ClassId} {ad : Nat → Nat} {b : Nat} (hb : b < 11) (g : Nat → Int32) : kC Y ad (7 * b + 6) g = .inl (Y 0, 16, .inl g) := (kC_P (r := 6) hb (by decide) g).trans rfl
theorem inb11 {x : Int32} (h : inb x 8) : 3 + x.toNatClampNeg < 11 := by have := inb8 h; omega
def f_cpL (i1 z1 i2 z2 : Nat) (n : Nat) (G : GT) (y : Int32) : Option GT := lq2 (fun (k : GT → Int32 → Option GT) (G : GT) (x : Int32) => if nI z2 ≤ x then some G else k (upR G i2 (put32 z2 (G i2) x (cell32 z1 (G i1) x))) (x + 1)) n G y
set_option maxRecDepth 100000 in
set_option maxHeartbeats 4000000 in
theorem q_X9_copyRow (l : Launch) (D : va_G) (Y : Nat → ClassId) (ad : Nat → Nat) (hI : Inj 90 ad) (G : GT) (i1 z1 i2 z2 : Nat) (hz : i1 < 90 ∧ z1 < 2 ^ 31 ∧ i2 < 90 ∧ z2 < 2 ^ 31) (he1 : ∀ g, kC Y ad i1 g = .inl (Y 0, z1, .inl g)) (he2 : ∀ g, kC Y ad i2 g = .inl (Y 0, z2, .inl g)) (G' : GT) (h : f_cpL i1 z1 i2 z2 4096 G 0 = some G') : WV l yX9_copyRow cX9_copyRow 3 2 D Y 90 ad (kC Y ad) G [.ref (ad i1), .ref (ad i2)] G' := by
  refine W_of (ret := none) (by decide) (Nat.le_of_ble_eq_true rfl) (lv := [(0, .ref (ad i1)), (1, .ref (ad i2))]) rfl ?_
  intro p e s m below meth c ls F hP hS hr hk hl
  have F : Fx p c cX9_copyRow 3 s m _ RX9 D Y := F
  have hx := F.1.1
  have hb := F.1.2.1
  have key : ∀ (n : Nat) (G : GT) (x2 : Int32) (H : Heap) (locs : List Loc), va_P D vwCl (wsC Y ad G) H → va_S (AW 90 ad) s.heap H locs → ∀ ls : Array Slot, lv_has ls 3 [(0, .ref (ad i1)), (1, .ref (ad i2)), (2, .int x2)] → f_cpL i1 z1 i2 z2 n G x2 = some G' → WW p l e 2 s m ([.ref (ad i1), .ref (ad i2)] : List Value).toArray below meth c H locs (WQv D (wsC Y ad G') (AW 90 ad)) (AW 90 ad) (F0 m 2 ls []) := by
    intro n
    induction n with
    | zero => intro G x2 H locs hP hS ls hl h; exact lqZ2 h
    | succ n ih =>
      intro G x2 H locs hP hS ls hl h
      have h := lqS2 h
      have hg2 : (wsC Y ad G)[i2]? = some (ad i2, .inl (Y 0, z2, .inl (G i2))) := (wsW_get i2 hz.2.2.1).trans (by rw [he2])
      refine lv_iload_n hx hb dX9_copyRow_2 rfl (lv_at hl 2 rfl) ?_
      refine lv_aload_n hx hb dX9_copyRow_3 rfl (lv_at hl 1 rfl) ?_
      refine alen F hP i2 hg2 dX9_copyRow_4 ?_
      refine lv_icmp_ge (tgt := 24) hx hb dX9_copyRow_5 (by decide) (fun c1 => ?_) (fun c1 => ?_)
      · have h := ifT h c1
        exact wv_end F hP hS hr hk h dX9_copyRow_24
      · have h := ifF h c1
        refine lv_aload_n hx hb dX9_copyRow_8 rfl (lv_at hl 1 rfl) ?_
        refine lv_iload_n hx hb dX9_copyRow_9 rfl (lv_at hl 2 rfl) ?_
        refine lv_aload_n hx hb dX9_copyRow_10 rfl (lv_at hl 0 rfl) ?_
        refine lv_iload_n hx hb dX9_copyRow_11 rfl (lv_at hl 2 rfl) ?_
        refine rd_S F hP k_X9_cell mw_489 (q_X9_cell l D Y ad G i1 z1 ⟨hz.1, hz.2.1⟩ he1 x2 _ rfl) rfl hl.1 ⟨Nat.le_of_ble_eq_true rfl, Nat.le_of_ble_eq_true rfl⟩ (rest := [.int x2, .ref (ad i2)]) rfl (Nat.le_of_ble_eq_true rfl) ⟨Nat.le_of_ble_eq_true rfl, Nat.le_of_ble_eq_true rfl⟩ dX9_copyRow_12 (fun _ => ?_)
        refine wv_S F hP hS k_X9_put mw_490 (q_X9_put l D Y ad hI G i2 z2 ⟨hz.2.2.1, hz.2.2.2⟩ he2 x2 (cell32 z1 (G i1) x2)) rfl hl.1 ⟨Nat.le_of_ble_eq_true rfl, Nat.le_of_ble_eq_true rfl⟩ (rest := []) rfl (Nat.le_of_ble_eq_true rfl) ⟨Nat.le_of_ble_eq_true rfl, Nat.le_of_ble_eq_true rfl⟩ dX9_copyRow_15 (fun H locs hP hS => ?_)
        refine lv_iinc (v := x2 + 1) (lv' := [(2, .int (x2 + 1)), (0, .ref (ad i1)), (1, .ref (ad i2))]) hx hb dX9_copyRow_18 hl (k := 2) rfl rfl (by decide) rfl (fun ls hl => ?_)
        refine lv_goto (tgt := 2) hx hb dX9_copyRow_21 (by decide) ?_
        exact ih _ (x2 + 1) _ _ hP hS ls (lv_sub hl [1, 2, 0] rfl) h
  refine lv_iconst (v := 0) hx hb dX9_copyRow_0 (by decide) ?_
  refine lv_istore_n (lv' := [(2, .int 0), (0, .ref (ad i1)), (1, .ref (ad i2))]) hx hb dX9_copyRow_1 rfl hl (by decide) rfl (fun ls hl => ?_)
  exact key 4096 G 0 _ _ hP hS ls (lv_sub hl [1, 2, 0] rfl) h
/-- a print comes back -/
def RPg (l : Launch) (y : MethodName) (b : ByteArray) (n : Nat) (ret : Option FieldType) (d : Nat) (D : va_G) (Y : Nat → ClassId) (ws : va_W) (As : List Value) (q : Nat) : Prop :=
  Met l y (wc y b n ret) (rmD d 0 0) (va_Pc As (Bw D Y ws)) (va_Sq (fun v => v = some q)) 0 0 (fun _ => False)
theorem rp_V {p : Program} {l : Launch} {e : Env} {R : Room} {s : State} {m : MethodId} {args : Array Value} {below : List Frame} {meth : Method} {c : Code} {H : Heap} {locs : List Loc} {cells slots : Nat} {Q : State → Prop} {cc : ByteArray} {pc nL : Nat} {ls : Array Slot} {rest st0 : List Value} {own : String} {idx : Nat} {y : MethodName} {b : ByteArray} {n ar : Nat} {ret : Option FieldType} {D : va_G} {Y : Nat → ClassId} {ws : va_W} {As : List Value} {q : Nat} {a : Nat} (F : Fx p c cc nL s m args own D Y) (hP : va_P D vwCl ws H) {d' : Nat} (k : CKV y b n ret ar) (hl : Cond.methodLink own idx y ∈ LW) (q0 ci : Nat) {T : u_T} {N : Nat} (hci : vwCl[ci]? = some (y.cls, T, N)) {fs : List Value} (he : ws[q0]? = some (a, .inr (ci, fs)))
    (hM : RPg l y b n ret d' D Y ws (.ref a :: As) q) (hn : As.length = ar) (hsz : ls.size = nL) (hR : d' + 1 ≤ R.frames ∧ 8 + (n + 11) + 40 * d' ≤ R.locals) (hst : st0 = As.reverse ++ .ref a :: rest) (hcat : (rest.map fun v => v.category).sum ≤ 8) (hc : cells ≤ R.cells ∧ slots ≤ R.slots) (hdg : decode cc pc = .ok (.invokevirtual idx, 3))
    (kk : W p l e R s m args below meth c H locs cells slots Q (F0 m (pc + 3) ls (.ref q :: rest))) : W p l e R s m args below meth c H locs cells slots Q (F0 m pc ls st0) := by
  subst hst
  refine va_csq (W.runV (As := As) (rest := rest) F.1 hM (ck_V F.1.2.2.2.2 k hl rfl rfl hR) ⟨Bw.blind, va_recv F.2.1 hP hci he, fun U hU hW => ⟨rfl, Bw.of F.2 hP hU hW⟩⟩ rfl hn hsz rfl (lv_room hcat) hdg hc) (fun v hv => ?_)
  subst hv
  exact kk
set_option maxRecDepth 100000 in
set_option maxHeartbeats 4000000 in
theorem q_X0_pageAt (l : Launch) (D : va_G) (Y : Nat → ClassId) (ad : Nat → Nat) (G : GT) (a1 : Int32) (h : inb a1 8) : RPg l yX0_pageAt cX0_pageAt 2 (some (.object "TinRoofScore$Print")) 1 D Y (wsC Y ad G) [.ref (ad 88), .int a1] (ad (7 * (3 + a1.toNatClampNeg))) := by
  refine Met.ofW (cc := cX0_pageAt) (maxL := 2) (ret := some (.object "TinRoofScore$Print")) (by decide) rfl ?_
  intro p e s m args below meth c s₁ B hml hv
  obtain ⟨rfl, hE, hP⟩ := hv
  have hts := atoms_spec (ws := wc yX0_pageAt cX0_pageAt 2 (some (.object "TinRoofScore$Print"))) B.pre
  have hl := lv_entry [.ref (ad 88), .int a1] (n := 2) (Nat.le_of_ble_eq_true rfl)
  rw [lg_entry_eq]
  have F : Fx p c cX0_pageAt 2 s m _ RX0 D Y := ⟨⟨B.exec, B.bytes, hml, findClass_of_methodNamed B.named, fun w hw => hts w (List.mem_cons_of_mem _ hw)⟩, hE⟩
  have hx := F.1.1
  have hb := F.1.2.1
  have hr := B.returns
  have hk := B.notSynchronized
  generalize (lg_sl ([.ref (ad 88), .int a1]) ++ List.replicate (2 - (lg_sl ([.ref (ad 88), .int a1])).length) Slot.unset).toArray = ls at hl ⊢
  have hl : lv_has ls 2 [(0, .ref (ad 88)), (1, .int a1)] := hl
  refine lv_iload_n hx hb dX0_pageAt_0 rfl (lv_at hl 1 rfl) ?_
  refine lv_if_lt (tgt := 22) hx hb dX0_pageAt_1 (by decide) (fun c1 => absurd h.1 (Int32.not_le.mpr c1)) (fun c1 => ?_)
  refine lv_iload_n hx hb dX0_pageAt_4 rfl (lv_at hl 1 rfl) ?_
  refine lv_aload_n hx hb dX0_pageAt_5 rfl (lv_at hl 0 rfl) ?_
  refine rC_88_0 F hP dX0_pageAt_6 ?_
  refine va_alen (ty := .object "TinRoofScore$Print") (v := nI 8) hx hb F.2.1 hP 89 2 (wsW_get 89 (by decide)) rfl rfl dX0_pageAt_9 ?_
  refine lv_icmp_ge (tgt := 22) hx hb dX0_pageAt_10 (by decide) (fun c2 => absurd h.2 (Int32.not_lt.mpr c2)) (fun c2 => ?_)
  refine lv_aload_n hx hb dX0_pageAt_13 rfl (lv_at hl 0 rfl) ?_
  refine rC_88_0 F hP dX0_pageAt_14 ?_
  refine lv_iload_n hx hb dX0_pageAt_17 rfl (lv_at hl 1 rfl) ?_
  refine va_aldq hx hb F.2.1 hP 89 2 (wsW_get 89 (by decide)) rfl (inbV h (by decide)) dX0_pageAt_18 ?_
  refine lv_goto (tgt := 23) hx hb dX0_pageAt_19 (by decide) ?_
  exact W.aret hx hb hr (Or.inl ⟨_, rfl⟩) (va_rf_or _) (fun t ht _ => ⟨_, rfl, rfl, ht⟩) (fun q hq => by cases hq) dX0_pageAt_23 hk
def f_X5_become (G : GT) (u0 : Nat) (u1 : Nat) : Option (GT) := ((f_cpL (7 * u1 + 1) 6 (7 * u0 + 1) 6 4096 G 0).bind fun G1 => ((f_cpL (7 * u1 + 2) 4 (7 * u0 + 2) 4 4096 G1 0).bind fun G2 => ((f_cpL (7 * u1 + 3) 4 (7 * u0 + 3) 4 4096 G2 0).bind fun G3 => ((f_cpL (7 * u1 + 4) 16 (7 * u0 + 4) 16 4096 G3 0).bind fun G4 => ((f_cpL (7 * u1 + 5) 16 (7 * u0 + 5) 16 4096 G4 0).bind fun G5 => ((f_cpL (7 * u1 + 6) 16 (7 * u0 + 6) 16 4096 G5 0).bind fun G6 => ((some (upR G6 (7 * u0) (upd (G6 (7 * u0)) 6 (G6 (7 * u1) 6)))).bind fun G7 => ((some (upR G7 (7 * u0) (upd (G7 (7 * u0)) 7 (G7 (7 * u1) 7)))).bind fun G8 => ((some (upR G8 (7 * u0) (upd (G8 (7 * u0)) 8 (G8 (7 * u1) 8)))).bind fun G9 => ((some (upR G9 (7 * u0) (upd (G9 (7 * u0)) 9 (G9 (7 * u1) 9)))).bind fun G10 => ((some (upR G10 (7 * u0) (upd (G10 (7 * u0)) 10 (G10 (7 * u1) 10)))).bind fun G11 => some G11)))))))))))
set_option maxRecDepth 100000 in
set_option maxHeartbeats 4000000 in
theorem q_X5_become (l : Launch) (D : va_G) (Y : Nat → ClassId) (ad : Nat → Nat) (hI : Inj 90 ad) (G : GT) (u0 : Nat) (u1 : Nat) (hu0 : u0 < 11) (hu1 : u1 < 11) (G' : GT) (h : f_X5_become G u0 u1 = some G') : WV l yX5_become cX5_become 2 3 D Y 90 ad (kC Y ad) G [.ref (ad (7 * u0)), .ref (ad (7 * u1))] G' := by
  refine W_of (ret := none) (by decide) (Nat.le_of_ble_eq_true rfl) (lv := [(0, .ref (ad (7 * u0))), (1, .ref (ad (7 * u1)))]) rfl ?_
  intro p e s m below meth c ls F hP hS hr hk hl
  have F : Fx p c cX5_become 2 s m _ RX5 D Y := F
  have hx := F.1.1
  have hb := F.1.2.1
  refine lv_aload_n hx hb dX5_become_0 rfl (lv_at hl 1 rfl) ?_
  refine fr F hP (7 * u1) (gP hu1) rfl i_X5 0 (by decide) mw_51 rfl dX5_become_1 ?_
  refine lv_aload_n hx hb dX5_become_4 rfl (lv_at hl 0 rfl) ?_
  refine fr F hP (7 * u0) (gP hu0) rfl i_X5 0 (by decide) mw_51 rfl dX5_become_5 ?_
  obtain ⟨G1, e1, h⟩ := bsome h
  refine wv_SN F hP hS k_X9_copyRow mw_486 (q_X9_copyRow l D Y ad hI G (7 * u1 + 1) 6 (7 * u0 + 1) 6 (by omega) (kC_A0 hu1) (kC_A0 hu0) G1 e1) rfl hl.1 ⟨Nat.le_of_ble_eq_true rfl, Nat.le_of_ble_eq_true rfl⟩ (rest := []) rfl (Nat.le_of_ble_eq_true rfl) ⟨Nat.le_of_ble_eq_true rfl, Nat.le_of_ble_eq_true rfl⟩ dX5_become_8 (fun H locs hP hS => ?_)
  refine lv_aload_n hx hb dX5_become_11 rfl (lv_at hl 1 rfl) ?_
  refine fr F hP (7 * u1) (gP hu1) rfl i_X5 1 (by decide) mw_52 rfl dX5_become_12 ?_
  refine lv_aload_n hx hb dX5_become_15 rfl (lv_at hl 0 rfl) ?_
  refine fr F hP (7 * u0) (gP hu0) rfl i_X5 1 (by decide) mw_52 rfl dX5_become_16 ?_
  obtain ⟨G2, e2, h⟩ := bsome h
  refine wv_SN F hP hS k_X9_copyRow mw_486 (q_X9_copyRow l D Y ad hI G1 (7 * u1 + 2) 4 (7 * u0 + 2) 4 (by omega) (kC_A1 hu1) (kC_A1 hu0) G2 e2) rfl hl.1 ⟨Nat.le_of_ble_eq_true rfl, Nat.le_of_ble_eq_true rfl⟩ (rest := []) rfl (Nat.le_of_ble_eq_true rfl) ⟨Nat.le_of_ble_eq_true rfl, Nat.le_of_ble_eq_true rfl⟩ dX5_become_19 (fun H locs hP hS => ?_)
  refine lv_aload_n hx hb dX5_become_22 rfl (lv_at hl 1 rfl) ?_
  refine fr F hP (7 * u1) (gP hu1) rfl i_X5 2 (by decide) mw_53 rfl dX5_become_23 ?_
  refine lv_aload_n hx hb dX5_become_26 rfl (lv_at hl 0 rfl) ?_
  refine fr F hP (7 * u0) (gP hu0) rfl i_X5 2 (by decide) mw_53 rfl dX5_become_27 ?_
  obtain ⟨G3, e3, h⟩ := bsome h
  refine wv_SN F hP hS k_X9_copyRow mw_486 (q_X9_copyRow l D Y ad hI G2 (7 * u1 + 3) 4 (7 * u0 + 3) 4 (by omega) (kC_A2 hu1) (kC_A2 hu0) G3 e3) rfl hl.1 ⟨Nat.le_of_ble_eq_true rfl, Nat.le_of_ble_eq_true rfl⟩ (rest := []) rfl (Nat.le_of_ble_eq_true rfl) ⟨Nat.le_of_ble_eq_true rfl, Nat.le_of_ble_eq_true rfl⟩ dX5_become_30 (fun H locs hP hS => ?_)
  refine lv_aload_n hx hb dX5_become_33 rfl (lv_at hl 1 rfl) ?_
  refine fr F hP (7 * u1) (gP hu1) rfl i_X5 3 (by decide) mw_54 rfl dX5_become_34 ?_
  refine lv_aload_n hx hb dX5_become_37 rfl (lv_at hl 0 rfl) ?_
  refine fr F hP (7 * u0) (gP hu0) rfl i_X5 3 (by decide) mw_54 rfl dX5_become_38 ?_
  obtain ⟨G4, e4, h⟩ := bsome h
  refine wv_SN F hP hS k_X9_copyRow mw_486 (q_X9_copyRow l D Y ad hI G3 (7 * u1 + 4) 16 (7 * u0 + 4) 16 (by omega) (kC_A3 hu1) (kC_A3 hu0) G4 e4) rfl hl.1 ⟨Nat.le_of_ble_eq_true rfl, Nat.le_of_ble_eq_true rfl⟩ (rest := []) rfl (Nat.le_of_ble_eq_true rfl) ⟨Nat.le_of_ble_eq_true rfl, Nat.le_of_ble_eq_true rfl⟩ dX5_become_41 (fun H locs hP hS => ?_)
  refine lv_aload_n hx hb dX5_become_44 rfl (lv_at hl 1 rfl) ?_
  refine fr F hP (7 * u1) (gP hu1) rfl i_X5 4 (by decide) mw_55 rfl dX5_become_45 ?_
  refine lv_aload_n hx hb dX5_become_48 rfl (lv_at hl 0 rfl) ?_
  refine fr F hP (7 * u0) (gP hu0) rfl i_X5 4 (by decide) mw_55 rfl dX5_become_49 ?_
  obtain ⟨G5, e5, h⟩ := bsome h
  refine wv_SN F hP hS k_X9_copyRow mw_486 (q_X9_copyRow l D Y ad hI G4 (7 * u1 + 5) 16 (7 * u0 + 5) 16 (by omega) (kC_A4 hu1) (kC_A4 hu0) G5 e5) rfl hl.1 ⟨Nat.le_of_ble_eq_true rfl, Nat.le_of_ble_eq_true rfl⟩ (rest := []) rfl (Nat.le_of_ble_eq_true rfl) ⟨Nat.le_of_ble_eq_true rfl, Nat.le_of_ble_eq_true rfl⟩ dX5_become_52 (fun H locs hP hS => ?_)
  refine lv_aload_n hx hb dX5_become_55 rfl (lv_at hl 1 rfl) ?_
  refine fr F hP (7 * u1) (gP hu1) rfl i_X5 5 (by decide) mw_56 rfl dX5_become_56 ?_
  refine lv_aload_n hx hb dX5_become_59 rfl (lv_at hl 0 rfl) ?_
  refine fr F hP (7 * u0) (gP hu0) rfl i_X5 5 (by decide) mw_56 rfl dX5_become_60 ?_
  obtain ⟨G6, e6, h⟩ := bsome h
  refine wv_SN F hP hS k_X9_copyRow mw_486 (q_X9_copyRow l D Y ad hI G5 (7 * u1 + 6) 16 (7 * u0 + 6) 16 (by omega) (kC_A5 hu1) (kC_A5 hu0) G6 e6) rfl hl.1 ⟨Nat.le_of_ble_eq_true rfl, Nat.le_of_ble_eq_true rfl⟩ (rest := []) rfl (Nat.le_of_ble_eq_true rfl) ⟨Nat.le_of_ble_eq_true rfl, Nat.le_of_ble_eq_true rfl⟩ dX5_become_63 (fun H locs hP hS => ?_)
  refine lv_aload_n hx hb dX5_become_66 rfl (lv_at hl 0 rfl) ?_
  refine lv_aload_n hx hb dX5_become_67 rfl (lv_at hl 1 rfl) ?_
  refine fr F hP (7 * u1) (gP hu1) rfl i_X5 6 (by decide) mw_57 rfl dX5_become_68 ?_
  obtain ⟨G7, e7, h⟩ := bsome h
  refine fp F hI hP hS (fun i h => ⟨i, h, rfl⟩) (7 * u0) (by omega) (kC_P0 hu0) rfl i_X5 tyX5 tyX5_ok nmX5 6 (by decide) mw_57 rfl (ty := .int) (v := .int (G6 (7 * u1) 6)) (by decide +kernel) rfl rfl (Nat.le_of_ble_eq_true rfl) (upd (G6 (7 * u0)) 6 (G6 (7 * u1) 6)) (kC_P0s6 hu0) dX5_become_71 (fun H locs hP hS => ?_)
  have hP := cvP e7 hP
  refine lv_aload_n hx hb dX5_become_74 rfl (lv_at hl 0 rfl) ?_
  refine lv_aload_n hx hb dX5_become_75 rfl (lv_at hl 1 rfl) ?_
  refine fr F hP (7 * u1) (gP hu1) rfl i_X5 7 (by decide) mw_58 rfl dX5_become_76 ?_
  obtain ⟨G8, e8, h⟩ := bsome h
  refine fp F hI hP hS (fun i h => ⟨i, h, rfl⟩) (7 * u0) (by omega) (kC_P0 hu0) rfl i_X5 tyX5 tyX5_ok nmX5 7 (by decide) mw_58 rfl (ty := .int) (v := .int (G7 (7 * u1) 7)) (by decide +kernel) rfl rfl (Nat.le_of_ble_eq_true rfl) (upd (G7 (7 * u0)) 7 (G7 (7 * u1) 7)) (kC_P0s7 hu0) dX5_become_79 (fun H locs hP hS => ?_)
  have hP := cvP e8 hP
  refine lv_aload_n hx hb dX5_become_82 rfl (lv_at hl 0 rfl) ?_
  refine lv_aload_n hx hb dX5_become_83 rfl (lv_at hl 1 rfl) ?_
  refine fr F hP (7 * u1) (gP hu1) rfl i_X5 8 (by decide) mw_59 rfl dX5_become_84 ?_
  obtain ⟨G9, e9, h⟩ := bsome h
  refine fp F hI hP hS (fun i h => ⟨i, h, rfl⟩) (7 * u0) (by omega) (kC_P0 hu0) rfl i_X5 tyX5 tyX5_ok nmX5 8 (by decide) mw_59 rfl (ty := .int) (v := .int (G8 (7 * u1) 8)) (by decide +kernel) rfl rfl (Nat.le_of_ble_eq_true rfl) (upd (G8 (7 * u0)) 8 (G8 (7 * u1) 8)) (kC_P0s8 hu0) dX5_become_87 (fun H locs hP hS => ?_)
  have hP := cvP e9 hP
  refine lv_aload_n hx hb dX5_become_90 rfl (lv_at hl 0 rfl) ?_
  refine lv_aload_n hx hb dX5_become_91 rfl (lv_at hl 1 rfl) ?_
  refine fr F hP (7 * u1) (gP hu1) rfl i_X5 9 (by decide) mw_60 rfl dX5_become_92 ?_
  obtain ⟨G10, e10, h⟩ := bsome h
  refine fp F hI hP hS (fun i h => ⟨i, h, rfl⟩) (7 * u0) (by omega) (kC_P0 hu0) rfl i_X5 tyX5 tyX5_ok nmX5 9 (by decide) mw_60 rfl (ty := .int) (v := .int (G9 (7 * u1) 9)) (by decide +kernel) rfl rfl (Nat.le_of_ble_eq_true rfl) (upd (G9 (7 * u0)) 9 (G9 (7 * u1) 9)) (kC_P0s9 hu0) dX5_become_95 (fun H locs hP hS => ?_)
  have hP := cvP e10 hP
  refine lv_aload_n hx hb dX5_become_98 rfl (lv_at hl 0 rfl) ?_
  refine lv_aload_n hx hb dX5_become_99 rfl (lv_at hl 1 rfl) ?_
  refine fr F hP (7 * u1) (gP hu1) rfl i_X5 10 (by decide) mw_61 rfl dX5_become_100 ?_
  obtain ⟨G11, e11, h⟩ := bsome h
  refine fp F hI hP hS (fun i h => ⟨i, h, rfl⟩) (7 * u0) (by omega) (kC_P0 hu0) rfl i_X5 tyX5 tyX5_ok nmX5 10 (by decide) mw_61 rfl (ty := .int) (v := .int (G10 (7 * u1) 10)) (by decide +kernel) rfl rfl (Nat.le_of_ble_eq_true rfl) (upd (G10 (7 * u0)) 10 (G10 (7 * u1) 10)) (kC_P0s10 hu0) dX5_become_103 (fun H locs hP hS => ?_)
  have hP := cvP e11 hP
  exact wv_end F hP hS hr hk h dX5_become_106
def f_X0_keep (G : GT) (u1 : Nat) : Option (GT) := (if inb (G 88 1) 8 then ((f_X5_become G (3 + (G 88 1).toNatClampNeg) u1).bind fun G2 => ((some (upR G2 88 (upd (G2 88) 1 (((G2 88 1) + (1 : Int32)) - ((G2 88 1) + (1 : Int32)) / (8 : Int32) * (8 : Int32))))).bind fun G3 => ((some (upR G3 88 (upd (G3 88) 2 (min32 ((G3 88 2) + (1 : Int32)) (8 : Int32))))).bind fun G4 => some G4))) else none)
set_option maxRecDepth 100000 in
set_option maxHeartbeats 4000000 in
theorem q_X0_keep (l : Launch) (D : va_G) (Y : Nat → ClassId) (ad : Nat → Nat) (hI : Inj 90 ad) (G : GT) (u1 : Nat) (hu1 : u1 < 11) (G' : GT) (h : f_X0_keep G u1 = some G') : WV l yX0_keep cX0_keep 3 4 D Y 90 ad (kC Y ad) G [.ref (ad 88), .ref (ad (7 * u1))] G' := by
  refine W_of (ret := none) (by decide) (Nat.le_of_ble_eq_true rfl) (lv := [(0, .ref (ad 88)), (1, .ref (ad (7 * u1)))]) rfl ?_
  intro p e s m below meth c ls F hP hS hr hk hl
  have F : Fx p c cX0_keep 3 s m _ RX0 D Y := F
  have hx := F.1.1
  have hb := F.1.2.1
  refine lv_aload_n hx hb dX0_keep_0 rfl (lv_at hl 0 rfl) ?_
  refine lv_aload_n hx hb dX0_keep_1 rfl (lv_at hl 0 rfl) ?_
  refine rC_88_1 F hP dX0_keep_2 ?_
  obtain ⟨b1, h⟩ := ckS h
  refine rp_V F hP k_X0_pageAt mw_478 88 2 rfl (wsW_get 88 (by decide)) (q_X0_pageAt l D Y ad G (G 88 1) b1) rfl hl.1 ⟨Nat.le_of_ble_eq_true rfl, Nat.le_of_ble_eq_true rfl⟩ (rest := []) rfl (Nat.le_of_ble_eq_true rfl) ⟨Nat.le_of_ble_eq_true rfl, Nat.le_of_ble_eq_true rfl⟩ dX0_keep_5 ?_
  refine lv_astore_n (lv' := [(2, .ref (ad (7 * (3 + (G 88 1).toNatClampNeg)))), (0, .ref (ad 88)), (1, .ref (ad (7 * u1)))]) hx hb dX0_keep_8 rfl hl (by decide) rfl (fun ls hl => ?_)
  refine lv_aload_n hx hb dX0_keep_9 rfl (lv_at hl 0 rfl) ?_
  refine lv_ifnull hx hb dX0_keep_10 ?_
  refine lv_aload_n hx hb dX0_keep_13 rfl (lv_at hl 0 rfl) ?_
  refine lv_aload_n hx hb dX0_keep_14 rfl (lv_at hl 2 rfl) ?_
  obtain ⟨G2, e2, h⟩ := bsome h
  refine wv_VN F hP hS k_X5_become mw_482 (7 * (3 + (G 88 1).toNatClampNeg)) 6 rfl (gP (inb11 b1)) (q_X5_become l D Y ad hI G (3 + (G 88 1).toNatClampNeg) u1 (inb11 b1) hu1 G2 e2) rfl hl.1 ⟨Nat.le_of_ble_eq_true rfl, Nat.le_of_ble_eq_true rfl⟩ (rest := []) rfl (Nat.le_of_ble_eq_true rfl) ⟨Nat.le_of_ble_eq_true rfl, Nat.le_of_ble_eq_true rfl⟩ dX0_keep_15 (fun H locs hP hS => ?_)
  refine lv_aload_n hx hb dX0_keep_18 rfl (lv_at hl 1 rfl) ?_
  refine lv_aload_n hx hb dX0_keep_19 rfl (lv_at hl 1 rfl) ?_
  refine rC_88_1 F hP dX0_keep_20 ?_
  refine lv_iconst (v := 1) hx hb dX0_keep_23 (by decide) ?_
  refine lv_iadd hx hb dX0_keep_24 ?_
  refine lv_bipush (v := 8) hx hb dX0_keep_25 (by decide) ?_
  refine lv_irem hx hb dX0_keep_27 (by decide) ?_
  obtain ⟨G3, e3, h⟩ := bsome h
  refine pC_88_1 F hI hP hS dX0_keep_28 (fun H locs hP hS => ?_)
  have hP := cvP e3 hP
  refine lv_aload_n hx hb dX0_keep_31 rfl (lv_at hl 1 rfl) ?_
  refine lv_aload_n hx hb dX0_keep_32 rfl (lv_at hl 1 rfl) ?_
  refine rC_88_2 F hP dX0_keep_33 ?_
  refine lv_iconst (v := 1) hx hb dX0_keep_36 (by decide) ?_
  refine lv_iadd hx hb dX0_keep_37 ?_
  refine lv_bipush (v := 8) hx hb dX0_keep_38 (by decide) ?_
  refine w_min F hl mw_493 ⟨Nat.le_of_ble_eq_true rfl, Nat.le_of_ble_eq_true rfl, Nat.le_of_ble_eq_true rfl, Nat.le_of_ble_eq_true rfl⟩ dX0_keep_40 ?_
  obtain ⟨G4, e4, h⟩ := bsome h
  refine pC_88_2 F hI hP hS dX0_keep_43 (fun H locs hP hS => ?_)
  have hP := cvP e4 hP
  exact wv_end F hP hS hr hk h dX0_keep_46
def f_X0_takeBack (G : GT) (u1 : Nat) : Option (GT) := (if inb ((((G 88 1) + (8 : Int32)) - (1 : Int32)) - (((G 88 1) + (8 : Int32)) - (1 : Int32)) / (8 : Int32) * (8 : Int32)) 8 then ((f_X5_become G u1 (3 + ((((G 88 1) + (8 : Int32)) - (1 : Int32)) - (((G 88 1) + (8 : Int32)) - (1 : Int32)) / (8 : Int32) * (8 : Int32)).toNatClampNeg)).bind fun G2 => ((some (upR G2 88 (upd (G2 88) 1 ((((G 88 1) + (8 : Int32)) - (1 : Int32)) - (((G 88 1) + (8 : Int32)) - (1 : Int32)) / (8 : Int32) * (8 : Int32))))).bind fun G3 => ((some (upR G3 88 (upd (G3 88) 2 ((G3 88 2) - (1 : Int32))))).bind fun G4 => some G4))) else none)
set_option maxRecDepth 100000 in
set_option maxHeartbeats 4000000 in
theorem q_X0_takeBack (l : Launch) (D : va_G) (Y : Nat → ClassId) (ad : Nat → Nat) (hI : Inj 90 ad) (G : GT) (u1 : Nat) (hu1 : u1 < 11) (G' : GT) (h : f_X0_takeBack G u1 = some G') : WV l yX0_takeBack cX0_takeBack 4 4 D Y 90 ad (kC Y ad) G [.ref (ad 88), .ref (ad (7 * u1))] G' := by
  refine W_of (ret := none) (by decide) (Nat.le_of_ble_eq_true rfl) (lv := [(0, .ref (ad 88)), (1, .ref (ad (7 * u1)))]) rfl ?_
  intro p e s m below meth c ls F hP hS hr hk hl
  have F : Fx p c cX0_takeBack 4 s m _ RX0 D Y := F
  have hx := F.1.1
  have hb := F.1.2.1
  refine lv_aload_n hx hb dX0_takeBack_0 rfl (lv_at hl 0 rfl) ?_
  refine rC_88_1 F hP dX0_takeBack_1 ?_
  refine lv_bipush (v := 8) hx hb dX0_takeBack_4 (by decide) ?_
  refine lv_iadd hx hb dX0_takeBack_6 ?_
  refine lv_iconst (v := 1) hx hb dX0_takeBack_7 (by decide) ?_
  refine lv_isub hx hb dX0_takeBack_8 ?_
  refine lv_bipush (v := 8) hx hb dX0_takeBack_9 (by decide) ?_
  refine lv_irem hx hb dX0_takeBack_11 (by decide) ?_
  refine lv_istore_n (lv' := [(2, .int (((((G 88 1) + (8 : Int32)) - (1 : Int32)) - (((G 88 1) + (8 : Int32)) - (1 : Int32)) / (8 : Int32) * (8 : Int32)))), (0, .ref (ad 88)), (1, .ref (ad (7 * u1)))]) hx hb dX0_takeBack_12 rfl hl (by decide) rfl (fun ls hl => ?_)
  refine lv_aload_n hx hb dX0_takeBack_13 rfl (lv_at hl 1 rfl) ?_
  refine lv_iload_n hx hb dX0_takeBack_14 rfl (lv_at hl 0 rfl) ?_
  obtain ⟨b1, h⟩ := ckS h
  refine rp_V F hP k_X0_pageAt mw_478 88 2 rfl (wsW_get 88 (by decide)) (q_X0_pageAt l D Y ad G ((((G 88 1) + (8 : Int32)) - (1 : Int32)) - (((G 88 1) + (8 : Int32)) - (1 : Int32)) / (8 : Int32) * (8 : Int32)) b1) rfl hl.1 ⟨Nat.le_of_ble_eq_true rfl, Nat.le_of_ble_eq_true rfl⟩ (rest := []) rfl (Nat.le_of_ble_eq_true rfl) ⟨Nat.le_of_ble_eq_true rfl, Nat.le_of_ble_eq_true rfl⟩ dX0_takeBack_15 ?_
  refine lv_astore_n (lv' := [(3, .ref (ad (7 * (3 + ((((G 88 1) + (8 : Int32)) - (1 : Int32)) - (((G 88 1) + (8 : Int32)) - (1 : Int32)) / (8 : Int32) * (8 : Int32)).toNatClampNeg)))), (2, .int (((((G 88 1) + (8 : Int32)) - (1 : Int32)) - (((G 88 1) + (8 : Int32)) - (1 : Int32)) / (8 : Int32) * (8 : Int32)))), (0, .ref (ad 88)), (1, .ref (ad (7 * u1)))]) hx hb dX0_takeBack_18 rfl hl (by decide) rfl (fun ls hl => ?_)
  refine lv_aload_n hx hb dX0_takeBack_19 rfl (lv_at hl 0 rfl) ?_
  refine lv_ifnull hx hb dX0_takeBack_20 ?_
  refine lv_aload_n hx hb dX0_takeBack_23 rfl (lv_at hl 3 rfl) ?_
  refine lv_aload_n hx hb dX0_takeBack_24 rfl (lv_at hl 0 rfl) ?_
  obtain ⟨G2, e2, h⟩ := bsome h
  refine wv_VN F hP hS k_X5_become mw_482 (7 * u1) 6 rfl (gP hu1) (q_X5_become l D Y ad hI G u1 (3 + ((((G 88 1) + (8 : Int32)) - (1 : Int32)) - (((G 88 1) + (8 : Int32)) - (1 : Int32)) / (8 : Int32) * (8 : Int32)).toNatClampNeg) hu1 (inb11 b1) G2 e2) rfl hl.1 ⟨Nat.le_of_ble_eq_true rfl, Nat.le_of_ble_eq_true rfl⟩ (rest := []) rfl (Nat.le_of_ble_eq_true rfl) ⟨Nat.le_of_ble_eq_true rfl, Nat.le_of_ble_eq_true rfl⟩ dX0_takeBack_25 (fun H locs hP hS => ?_)
  refine lv_aload_n hx hb dX0_takeBack_28 rfl (lv_at hl 2 rfl) ?_
  refine lv_iload_n hx hb dX0_takeBack_29 rfl (lv_at hl 1 rfl) ?_
  obtain ⟨G3, e3, h⟩ := bsome h
  refine pC_88_1 F hI hP hS dX0_takeBack_30 (fun H locs hP hS => ?_)
  have hP := cvP e3 hP
  refine lv_aload_n hx hb dX0_takeBack_33 rfl (lv_at hl 2 rfl) ?_
  refine lv_dup hx hb dX0_takeBack_34 rfl ?_
  refine rC_88_2 F hP dX0_takeBack_35 ?_
  refine lv_iconst (v := 1) hx hb dX0_takeBack_38 (by decide) ?_
  refine lv_isub hx hb dX0_takeBack_39 ?_
  obtain ⟨G4, e4, h⟩ := bsome h
  refine pC_88_2 F hI hP hS dX0_takeBack_40 (fun H locs hP hS => ?_)
  have hP := cvP e4 hP
  exact wv_end F hP hS hr hk h dX0_takeBack_43
