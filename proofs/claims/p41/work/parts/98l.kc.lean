/-! the law's body -/
section LR
variable {p : Program} {l : Launch} {ev : Env} {R : Room} {s : State} {m : MethodId} {args : Array Value} {below : List Frame} {meth : Method} {c : Code} {H : Heap} {locs : List Loc} {cells slots : Nat} {Q : State → Prop}
variable {cc : ByteArray} {pc nL idx : Nat} {ls : Array Slot} {rest st0 : List Value} {own : String} {D : va_G} {Y : Nat → ClassId} {ad : Nat → Nat} {G G' : GT}
theorem lr_i {Φ : State → Prop} {y : MethodName} {b : ByteArray} {n ar d m' : Nat} {r : Int32} {ret : Option FieldType} {As : List Value} (F : Fx p c cc nL s m args own D Y) (hP : va_P D vwCl (wsC Y ad G) H) (hK : Ks ad (AW 90 ad) s s.heap) (hE : Le s) (hS : va_S (AW 90 ad) s.heap H locs) (hΦ : PhB Φ) (hpre : ∀ U : State, U.heap = H → s.WarmedH U.vm → Φ U) (k : CKS y b n ret ar) (hl : Cond.methodLink own idx y ∈ LW)
    (hM : LM l y b n ret d m' D Y ad G Φ As (PI ret r D Y ad G')) (hn : As.length = ar) (hsz : ls.size = nL) (hR : d + 1 ≤ R.frames ∧ 8 + (n + 11) + 40 * d ≤ R.locals) (hst : st0 = As.reverse ++ rest) (hcat : (rest.map fun v => v.category).sum ≤ 8) (hc : cells + m' ≤ R.cells ∧ slots + 16 * m' ≤ R.slots) (hdg : decode cc pc = .ok (.invokestatic idx, 3))
    (kk : ∀ (H1 : Heap) (locs1 : List Loc), va_P D vwCl (wsC Y ad G') H1 → va_S (AW 90 ad) s.heap H1 locs1 → W p l ev R s m args below meth c H1 locs1 (cells + m') (slots + 16 * m') Q (F0 m (pc + 3) ls (.int r :: rest))) : W p l ev R s m args below meth c H locs cells slots Q (F0 m pc ls st0) := by
  subst hst
  intro T hT X
  obtain ⟨v, st₀, t, T', L, h0, X', hL, e1, ⟨v1, hv, hp, hz, hk⟩, st⟩ := W.runS (As := As) (rest := rest) F.1 hM (ck_S F.1.2.2.2.2 k hl rfl rfl hR) ⟨BLw.blind hΦ, fun U hU hW => ⟨rfl, BK.of F.2 hP hK hS hU hW, Le.warm hW hE, hpre U hU hW⟩⟩ rfl hn hsz (g := F0 m pc ls (As.reverse ++ rest)) rfl (lv_room (m := m) (pc := pc) (ls := ls) (rest := As.reverse ++ rest) hcat) hdg hc T hT X
  cases hv
  rw [h0] at hz hk
  obtain ⟨rfl, ho, hP1⟩ := hp
  obtain ⟨t2, a1, c1⟩ := kk t.heap (locs ++ L) hP1 (lS_kp hS hz hk hL) T' e1 X'
  exact ⟨t2, st t2 a1, c1⟩
theorem lr_drawn {kd : Nat → Nat} {n0 b L : Nat} {xs : Nat → Int32} {G1 : GT} (hst : l.stackTraces = false) (F : Fx p c cc nL s m args RL D Y) (hE : Le s) (hz : s.heap.size = n0) (hKd : Ks kd (LA n0) s s.heap) (hX : va_X b L xs s s.heap) (hb0 : b < n0) (hL : L ≤ 260) (d1 : f_L_drawn L xs = some (1, G1)) (hsz : ls.size = nL) (hR : 12 + 1 ≤ R.frames ∧ 8 + (7 + 11) + 40 * 12 ≤ R.locals) (hc : cells + 210 ≤ R.cells ∧ slots + 16 * 210 ≤ R.slots) (hdg : decode cc pc = .ok (.invokestatic 178, 3))
    (kk : ∀ H1 : Heap, va_P D vwCl (wsC Y (adS n0 kd) G1) H1 → s.heap.size ≤ H1.size → (∀ q : Nat, q < s.heap.size → H1[q]? = s.heap[q]?) → W p l ev R s m args below meth c H1 [] (cells + 210) (slots + 16 * 210) Q (F0 m (pc + 3) ls [.ref (adS n0 kd 77)])) : W p l ev R s m args below meth c s.heap [] cells slots Q (F0 m pc ls [.ref b]) := by
  intro T hT X
  obtain ⟨v, st₀, t, T', L', h0, X', hL', e1, ⟨v1, hv, hp, hz1, hk⟩, st⟩ := W.runS (As := [.ref b]) (rest := []) F.1 (q_L_drawn l hst D Y kd n0 b L xs 1 G1 d1) (ck_S F.1.2.2.2.2 k_L_drawn mw_34 rfl rfl hR) ⟨BD.blind, fun U hU hW => ⟨rfl, Ev.warm hW F.2, Le.warm hW hE, by rw [hU]; exact hKd.warm hW, by rw [hU]; exact va_X.moved hW.alike hX, hb0, by rw [hU]; exact hz, hL⟩⟩ rfl rfl hsz (g := F0 m pc ls [.ref b]) rfl (lv_room (m := m) (pc := pc) (ls := ls) (rest := [.ref b]) (Nat.le_of_ble_eq_true rfl)) hdg hc T hT X
  cases hv
  rw [h0] at hz1 hk
  rcases hp with ⟨h9, -⟩ | ⟨-, rfl, hP1⟩
  · exact absurd h9 (by decide)
  · have hnil : L' = [] := List.eq_nil_iff_forall_not_mem.mpr (fun z hz => hL' z hz)
    subst hnil
    obtain ⟨t2, a1, c1⟩ := kk t.heap hP1 hz1 (fun q h => hk q h (fun z => z)) T' e1 X'
    exact ⟨t2, st t2 a1, c1⟩
end LR
set_option maxRecDepth 100000 in
set_option maxHeartbeats 4000000 in
theorem law_run {p : Program} {l : Launch} {ev : Env} {R : Room} {s : State} {m : MethodId} {args : Array Value} {below : List Frame} {meth : Method} {c : Code} {Q : State → Prop} {D : va_G} {Y : Nat → ClassId} {n0 b L : Nat} {xs : Nat → Int32} {kd : Nat → Nat} {ls : Array Slot} (hst : l.stackTraces = false) (F : Fx p c cL_law 2 s m args RL D Y) (hE : Le s) (hz : s.heap.size = n0) (hKd : Ks kd (LA n0) s s.heap) (hJd : Jk (LA n0) s s.heap) (hX : va_X b L xs s s.heap) (hb0 : b < n0) (hL : L ≤ 260) (hR : R.frames = 2048 ∧ R.locals = 94400 ∧ 300000 ≤ R.cells ∧ 4800000 ≤ R.slots) (hl : lv_has ls 2 [(0, .ref b)])
    (hend : ∀ (H1 : Heap) (L1 : List Loc) (ls1 : Array Slot) (cells slots : Nat), cells ≤ 300000 → slots ≤ 4800000 → va_S (LA n0) s.heap H1 L1 → W p l ev R s m args below meth c H1 L1 cells slots Q (F0 m 57 ls1 [.int 1])) : W p l ev R s m args below meth c s.heap [] 0 0 Q (F0 m 0 ls []) := by
  have hx := F.1.1
  have hb := F.1.2.1
  obtain ⟨r1, r2, r3, r4⟩ := hR
  obtain ⟨G1, s1, Ls, d1, hC1, hn1⟩ := L_drawn (N := L) hL xs
  obtain ⟨G2, d2, hC2⟩ := L_lines hC1
  obtain ⟨G3, d3⟩ := L_undone hL xs hC2
  refine lv_aload_n hx hb dL_law_0 rfl (lv_at hl 0 rfl) ?_
  refine lr_drawn hst F hE hz hKd hX hb0 hL d1 hl.1 ⟨by rw [r1]; exact Nat.le_of_ble_eq_true rfl, by rw [r2]; exact Nat.le_of_ble_eq_true rfl⟩ ⟨by omega, by omega⟩ dL_law_1 (fun H hP hz1 hk => ?_)
  obtain ⟨ad, had⟩ : ∃ ad, ad = adS n0 kd := ⟨_, rfl⟩
  rw [← had] at hP ⊢
  have hI : Inj 90 ad := by rw [had]; exact adS_I
  have hn : ∀ q, AW 90 ad q → n0 ≤ q := fun q h => by rw [had] at h; exact adS_A h
  have hK : Ks ad (AW 90 ad) s s.heap := by rw [had]; exact (adS_K hKd).narrow (fun q h => adS_A h)
  have hJ : Jk (AW 90 ad) s s.heap := hJd.narrow hn
  have hS : va_S (AW 90 ad) s.heap H [] := ⟨hz1, fun q h1 _ => hk q h1, fun q h => by cases h⟩
  have hX2 : PhX ad b L xs s := ⟨hX, by omega, fun h => by have := hn _ h; omega, hL⟩
  refine lv_astore_n (lv' := [(1, .ref (ad 77)), (0, .ref b)]) hx hb dL_law_4 rfl hl (by decide) rfl (fun ls hl => ?_)
  refine lv_aload_n hx hb dL_law_5 rfl (lv_at hl 0 rfl) ?_
  refine lv_ifnull hx hb dL_law_6 ?_
  refine lv_aload_n hx hb dL_law_9 rfl (lv_at hl 0 rfl) ?_
  refine lr_i F hP hK hE hS ph0_b ph0_o k_L_parts mw_681 (q_L_parts l hst D Y ad hI G1 (iI 1) G1 (L_parts hC1.1 hC1.2.1)) rfl hl.1 ⟨by rw [r1]; exact Nat.le_of_ble_eq_true rfl, by rw [r2]; exact Nat.le_of_ble_eq_true rfl⟩ (rest := []) rfl (Nat.le_of_ble_eq_true rfl) ⟨by omega, by omega⟩ dL_law_10 (fun H L1 hP hS => ?_)
  refine lv_if_eq (tgt := 56) hx hb dL_law_13 (by decide) (fun c0 => ?_) (fun _ => ?_)
  · exact absurd c0 ne10
  refine lv_aload_n hx hb dL_law_16 rfl (lv_at hl 0 rfl) ?_
  refine lr_i F hP hK hE hS ph0_b ph0_o k_L_faulty mw_793 (q_L_faulty l hst D Y ad hI G1 (iI 1) G1 (L_faulty hC1.1 hC1.2.1)) rfl hl.1 ⟨by rw [r1]; exact Nat.le_of_ble_eq_true rfl, by rw [r2]; exact Nat.le_of_ble_eq_true rfl⟩ (rest := []) rfl (Nat.le_of_ble_eq_true rfl) ⟨by omega, by omega⟩ dL_law_17 (fun H L1 hP hS => ?_)
  refine lv_if_eq (tgt := 56) hx hb dL_law_20 (by decide) (fun c0 => ?_) (fun _ => ?_)
  · exact absurd c0 ne10
  refine lv_aload_n hx hb dL_law_23 rfl (lv_at hl 0 rfl) ?_
  refine lr_i F hP hK hE hS ph0_b ph0_o k_L_tunes mw_951 (q_L_tunes l hst D Y ad hI G1 (iI 1) G1 (L_tunes hC1.1 hC1.2.1 (by omega))) rfl hl.1 ⟨by rw [r1]; exact Nat.le_of_ble_eq_true rfl, by rw [r2]; exact Nat.le_of_ble_eq_true rfl⟩ (rest := []) rfl (Nat.le_of_ble_eq_true rfl) ⟨by omega, by omega⟩ dL_law_24 (fun H L1 hP hS => ?_)
  refine lv_if_eq (tgt := 56) hx hb dL_law_27 (by decide) (fun c0 => ?_) (fun _ => ?_)
  · exact absurd c0 ne10
  refine lv_aload_n hx hb dL_law_30 rfl (lv_at hl 0 rfl) ?_
  refine lr_i F hP hK hE hS ph0_b ph0_o k_L_ranks mw_1021 (q_L_ranks l hst D Y ad hI G1 (iI 1) G1 (L_ranks hC1.1 hC1.2.1)) rfl hl.1 ⟨by rw [r1]; exact Nat.le_of_ble_eq_true rfl, by rw [r2]; exact Nat.le_of_ble_eq_true rfl⟩ (rest := []) rfl (Nat.le_of_ble_eq_true rfl) ⟨by omega, by omega⟩ dL_law_31 (fun H L1 hP hS => ?_)
  refine lv_if_eq (tgt := 56) hx hb dL_law_34 (by decide) (fun c0 => ?_) (fun _ => ?_)
  · exact absurd c0 ne10
  refine lv_aload_n hx hb dL_law_37 rfl (lv_at hl 0 rfl) ?_
  refine lr_i F hP hK hE hS phJ_b (phJ_o hJ hS) k_L_lines mw_1068 (q_L_lines l hst D Y ad hI G1 (iI 1) G2 d2) rfl hl.1 ⟨by rw [r1]; exact Nat.le_of_ble_eq_true rfl, by rw [r2]; exact Nat.le_of_ble_eq_true rfl⟩ (rest := []) rfl (Nat.le_of_ble_eq_true rfl) ⟨by omega, by omega⟩ dL_law_38 (fun H L1 hP hS => ?_)
  refine lv_if_eq (tgt := 56) hx hb dL_law_41 (by decide) (fun c0 => ?_) (fun _ => ?_)
  · exact absurd c0 ne10
  refine lv_aload_n hx hb dL_law_44 rfl (lv_at hl 1 rfl) ?_
  refine lv_aload_n hx hb dL_law_45 rfl (lv_at hl 0 rfl) ?_
  refine lr_i F hP hK hE hS phXJ_b (fun U hU hW => ⟨phX_o hX2 hS U hU hW, phJ_o hJ hS U hU hW⟩) k_L_undone mw_1411 (q_L_undone l hst D Y ad hI G2 L xs b (iI 1) G3 d3) rfl hl.1 ⟨by rw [r1]; exact Nat.le_of_ble_eq_true rfl, by rw [r2]; exact Nat.le_of_ble_eq_true rfl⟩ (rest := []) rfl (Nat.le_of_ble_eq_true rfl) ⟨by omega, by omega⟩ dL_law_46 (fun H L1 hP hS => ?_)
  refine lv_if_eq (tgt := 56) hx hb dL_law_49 (by decide) (fun c0 => ?_) (fun _ => ?_)
  · exact absurd c0 ne10
  refine lv_iconst (v := 1) hx hb dL_law_52 (by decide) ?_
  refine lv_goto (tgt := 57) hx hb dL_law_53 (by decide) ?_
  exact hend H _ ls _ _ (by omega) (by omega) ⟨hS.1, fun q h1 h2 => hS.2.1 q h1 (fun h => h2 (hn q h)), fun z hz => hn _ (hS.2.2 z hz)⟩
