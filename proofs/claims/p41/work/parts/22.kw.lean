/-! methods that use constants -/
def WKi (l : Launch) (y : MethodName) (b : ByteArray) (n : Nat) (ret : Option FieldType) (d : Nat) (D : va_G) (Y : Nat → ClassId) (N : Nat) (ad : Nat → Nat) (kf : Nat → (Nat → Int32) → va_E) (kd : Nat → Nat) (G : GT) (As : List Value) (r : Int32) (G' : GT) : Prop :=
  Met l y (wc y b n ret) (rmD d 0 0) (va_Pc As (BK D Y (wsW N ad kf G) kd (AW N ad))) (WQi ret r D (wsW N ad kf G') (AW N ad)) 0 0 (AW N ad)
def WKv (l : Launch) (y : MethodName) (b : ByteArray) (n : Nat) (d : Nat) (D : va_G) (Y : Nat → ClassId) (N : Nat) (ad : Nat → Nat) (kf : Nat → (Nat → Int32) → va_E) (kd : Nat → Nat) (G : GT) (As : List Value) (G' : GT) : Prop :=
  Met l y (wc y b n none) (rmD d 0 0) (va_Pc As (BK D Y (wsW N ad kf G) kd (AW N ad))) (WQv D (wsW N ad kf G') (AW N ad)) 0 0 (AW N ad)
def WQq (ad : Nat → Nat) (r : Nat) (D : va_G) (ws : va_W) (A : Nat → Prop) : Array Value → State → Outcome → State → Prop := va_Qq (fun v (_ : Unit) => v = ordN ad r) (fun _ t => va_P D vwCl ws t.heap) A
/-- an order comes back, by its code -/
def WKq (l : Launch) (y : MethodName) (b : ByteArray) (n : Nat) (ret : Option FieldType) (d : Nat) (D : va_G) (Y : Nat → ClassId) (N : Nat) (ad : Nat → Nat) (kf : Nat → (Nat → Int32) → va_E) (kd : Nat → Nat) (G : GT) (As : List Value) (r : Nat) (G' : GT) : Prop :=
  Met l y (wc y b n ret) (rmD d 0 0) (va_Pc As (BK D Y (wsW N ad kf G) kd (AW N ad))) (WQq ad r D (wsW N ad kf G') (AW N ad)) 0 0 (AW N ad)
section WKR
variable {p : Program} {l : Launch} {e : Env} {R : Room} {s : State} {m : MethodId} {args : Array Value} {below : List Frame} {meth : Method} {c : Code} {H : Heap} {locs : List Loc} {cells slots : Nat} {Q : State → Prop}
variable {cc : ByteArray} {pc nL : Nat} {ls : Array Slot} {rest st0 : List Value}
variable {own host : String} {idx : Nat} {y : MethodName} {b : ByteArray} {n ar d : Nat} {ret : Option FieldType} {D : va_G} {Y : Nat → ClassId} {As : List Value} {r : Int32} {N : Nat} {ad kd : Nat → Nat} {kf : Nat → (Nat → Int32) → va_E} {G G' : GT} {A : Nat → Prop}
theorem wk_V {a : Nat} (F : Fx p c cc nL s m args own D Y) (hP : va_P D vwCl (wsW N ad kf G) H) (hK : Ks kd (AW N ad) s s.heap) (hS : va_S (AW N ad) s.heap H locs) {d' : Nat} (k : CKV y b n ret ar) (hl : Cond.methodLink own idx y ∈ LW) (q0 ci : Nat) {T : u_T} {M : Nat} (hci : vwCl[ci]? = some (y.cls, T, M)) {fs : List Value} (he : (wsW N ad kf G)[q0]? = some (a, .inr (ci, fs)))
    (hM : WKi l y b n ret d' D Y N ad kf kd G (.ref a :: As) r G') (hn : As.length = ar) (hsz : ls.size = nL) (hR : d' + 1 ≤ R.frames ∧ 8 + (n + 11) + 40 * d' ≤ R.locals) (hst : st0 = As.reverse ++ .ref a :: rest) (hcat : (rest.map fun v => v.category).sum ≤ 8) (hc : cells ≤ R.cells ∧ slots ≤ R.slots) (hdg : decode cc pc = .ok (.invokevirtual idx, 3))
    (kk : ∀ (H1 : Heap) (locs1 : List Loc), okR ret r → va_P D vwCl (wsW N ad kf G') H1 → va_S (AW N ad) s.heap H1 locs1 → W p l e R s m args below meth c H1 locs1 cells slots Q (F0 m (pc + 3) ls (.int r :: rest))) : W p l e R s m args below meth c H locs cells slots Q (F0 m pc ls st0) := by
  subst hst
  refine va_calli (va_runV (As := As) (rest := rest) F.1 hM (ck_V F.1.2.2.2.2 k hl rfl rfl hR) ⟨BK.blind, va_recv F.2.1 hP hci he, fun U hU hW => ⟨rfl, BK.of F.2 hP hK hS hU hW⟩⟩ rfl hn hsz rfl (lv_room hcat) hdg hc) hS (fun _ _ h => h) (fun _ h => h) (fun v u t H1 locs1 ht _ hp hB _ _ hS1 => ?_)
  obtain ⟨rfl, ho⟩ := hp
  exact kk H1 locs1 ho (by rw [← ht]; exact hB) hS1
theorem wk_VN {a : Nat} (F : Fx p c cc nL s m args own D Y) (hP : va_P D vwCl (wsW N ad kf G) H) (hK : Ks kd A s s.heap) (hSS : va_S A s.heap H locs) (hA : ∀ q, AW N ad q → A q) {d' : Nat} (k : CKV y b n ret ar) (hl : Cond.methodLinkNest own idx y host ∈ NW) (q0 ci : Nat) {T : u_T} {M : Nat} (hci : vwCl[ci]? = some (y.cls, T, M)) {fs : List Value} (he : (wsW N ad kf G)[q0]? = some (a, .inr (ci, fs)))
    (hM : WKi l y b n ret d' D Y N ad kf kd G (.ref a :: As) r G') (hn : As.length = ar) (hsz : ls.size = nL) (hR : d' + 1 ≤ R.frames ∧ 8 + (n + 11) + 40 * d' ≤ R.locals) (hst : st0 = As.reverse ++ .ref a :: rest) (hcat : (rest.map fun v => v.category).sum ≤ 8) (hc : cells ≤ R.cells ∧ slots ≤ R.slots) (hdg : decode cc pc = .ok (.invokevirtual idx, 3))
    (kk : ∀ (H1 : Heap) (locs1 : List Loc), okR ret r → va_P D vwCl (wsW N ad kf G') H1 → va_S A s.heap H1 locs1 → W p l e R s m args below meth c H1 locs1 cells slots Q (F0 m (pc + 3) ls (.int r :: rest))) : W p l e R s m args below meth c H locs cells slots Q (F0 m pc ls st0) := by
  subst hst
  refine va_calli (va_runVN (As := As) (rest := rest) F.1 hM (ck_VN F.1.2.2.2.2 F.2.2 k hl rfl rfl hR) ⟨BK.blind, va_recv F.2.1 hP hci he, fun U hU hW => ⟨rfl, ⟨Bw.of F.2 hP hU hW, by rw [hU]; exact ((hK.kept hSS.2.1).narrow hA).warm hW⟩⟩⟩ rfl hn hsz rfl (lv_room hcat) hdg hc) hSS (fun q _ h => hA q h) hA (fun v u t H1 locs1 ht _ hp hB _ _ hS1 => ?_)
  obtain ⟨rfl, ho⟩ := hp
  exact kk H1 locs1 ho (by rw [← ht]; exact hB) hS1
theorem wkv_V {a : Nat} (F : Fx p c cc nL s m args own D Y) (hP : va_P D vwCl (wsW N ad kf G) H) (hK : Ks kd (AW N ad) s s.heap) (hS : va_S (AW N ad) s.heap H locs) {d' : Nat} (k : CKV y b n none ar) (hl : Cond.methodLink own idx y ∈ LW) (q0 ci : Nat) {T : u_T} {M : Nat} (hci : vwCl[ci]? = some (y.cls, T, M)) {fs : List Value} (he : (wsW N ad kf G)[q0]? = some (a, .inr (ci, fs)))
    (hM : WKv l y b n d' D Y N ad kf kd G (.ref a :: As) G') (hn : As.length = ar) (hsz : ls.size = nL) (hR : d' + 1 ≤ R.frames ∧ 8 + (n + 11) + 40 * d' ≤ R.locals) (hst : st0 = As.reverse ++ .ref a :: rest) (hcat : (rest.map fun v => v.category).sum ≤ 8) (hc : cells ≤ R.cells ∧ slots ≤ R.slots) (hdg : decode cc pc = .ok (.invokevirtual idx, 3))
    (kk : ∀ (H1 : Heap) (locs1 : List Loc), va_P D vwCl (wsW N ad kf G') H1 → va_S (AW N ad) s.heap H1 locs1 → W p l e R s m args below meth c H1 locs1 cells slots Q (F0 m (pc + 3) ls rest)) : W p l e R s m args below meth c H locs cells slots Q (F0 m pc ls st0) := by
  subst hst
  exact va_callv (va_runV (As := As) (rest := rest) F.1 hM (ck_V F.1.2.2.2.2 k hl rfl rfl hR) ⟨BK.blind, va_recv F.2.1 hP hci he, fun U hU hW => ⟨rfl, BK.of F.2 hP hK hS hU hW⟩⟩ rfl hn hsz rfl (lv_room hcat) hdg hc) hS (fun _ _ h => h) (fun _ h => h) (fun u t H1 locs1 ht _ _ hB _ _ hS1 => kk H1 locs1 (by rw [← ht]; exact hB) hS1)
theorem wkq_V {a rc : Nat} (F : Fx p c cc nL s m args own D Y) (hP : va_P D vwCl (wsW N ad kf G) H) (hK : Ks kd (AW N ad) s s.heap) (hS : va_S (AW N ad) s.heap H locs) {d' : Nat} (k : CKV y b n ret ar) (hl : Cond.methodLink own idx y ∈ LW) (q0 ci : Nat) {T : u_T} {M : Nat} (hci : vwCl[ci]? = some (y.cls, T, M)) {fs : List Value} (he : (wsW N ad kf G)[q0]? = some (a, .inr (ci, fs)))
    (hM : WKq l y b n ret d' D Y N ad kf kd G (.ref a :: As) rc G') (hn : As.length = ar) (hsz : ls.size = nL) (hR : d' + 1 ≤ R.frames ∧ 8 + (n + 11) + 40 * d' ≤ R.locals) (hst : st0 = As.reverse ++ .ref a :: rest) (hcat : (rest.map fun v => v.category).sum ≤ 8) (hc : cells ≤ R.cells ∧ slots ≤ R.slots) (hdg : decode cc pc = .ok (.invokevirtual idx, 3))
    (kk : ∀ (H1 : Heap) (locs1 : List Loc), va_P D vwCl (wsW N ad kf G') H1 → va_S (AW N ad) s.heap H1 locs1 → W p l e R s m args below meth c H1 locs1 cells slots Q (F0 m (pc + 3) ls (va_rf (ordN ad rc) :: rest))) : W p l e R s m args below meth c H locs cells slots Q (F0 m pc ls st0) := by
  subst hst
  refine va_callq (va_runV (As := As) (rest := rest) F.1 hM (ck_V F.1.2.2.2.2 k hl rfl rfl hR) ⟨BK.blind, va_recv F.2.1 hP hci he, fun U hU hW => ⟨rfl, BK.of F.2 hP hK hS hU hW⟩⟩ rfl hn hsz rfl (lv_room hcat) hdg hc) hS (fun _ _ h => h) (fun _ h => h) (fun v u t H1 locs1 ht _ hp hB _ _ hS1 => ?_)
  subst hp
  exact kk H1 locs1 (by rw [← ht]; exact hB) hS1
theorem wkq_VN {a rc : Nat} (F : Fx p c cc nL s m args own D Y) (hP : va_P D vwCl (wsW N ad kf G) H) (hK : Ks kd A s s.heap) (hSS : va_S A s.heap H locs) (hA : ∀ q, AW N ad q → A q) {d' : Nat} (k : CKV y b n ret ar) (hl : Cond.methodLinkNest own idx y host ∈ NW) (q0 ci : Nat) {T : u_T} {M : Nat} (hci : vwCl[ci]? = some (y.cls, T, M)) {fs : List Value} (he : (wsW N ad kf G)[q0]? = some (a, .inr (ci, fs)))
    (hM : WKq l y b n ret d' D Y N ad kf kd G (.ref a :: As) rc G') (hn : As.length = ar) (hsz : ls.size = nL) (hR : d' + 1 ≤ R.frames ∧ 8 + (n + 11) + 40 * d' ≤ R.locals) (hst : st0 = As.reverse ++ .ref a :: rest) (hcat : (rest.map fun v => v.category).sum ≤ 8) (hc : cells ≤ R.cells ∧ slots ≤ R.slots) (hdg : decode cc pc = .ok (.invokevirtual idx, 3))
    (kk : ∀ (H1 : Heap) (locs1 : List Loc), va_P D vwCl (wsW N ad kf G') H1 → va_S A s.heap H1 locs1 → W p l e R s m args below meth c H1 locs1 cells slots Q (F0 m (pc + 3) ls (va_rf (ordN ad rc) :: rest))) : W p l e R s m args below meth c H locs cells slots Q (F0 m pc ls st0) := by
  subst hst
  refine va_callq (va_runVN (As := As) (rest := rest) F.1 hM (ck_VN F.1.2.2.2.2 F.2.2 k hl rfl rfl hR) ⟨BK.blind, va_recv F.2.1 hP hci he, fun U hU hW => ⟨rfl, ⟨Bw.of F.2 hP hU hW, by rw [hU]; exact ((hK.kept hSS.2.1).narrow hA).warm hW⟩⟩⟩ rfl hn hsz rfl (lv_room hcat) hdg hc) hSS (fun q _ h => hA q h) hA (fun v u t H1 locs1 ht _ hp hB _ _ hS1 => ?_)
  subst hp
  exact kk H1 locs1 (by rw [← ht]; exact hB) hS1
theorem wq_end {v rc : Nat} {nm : String} {vv : Value} (F : Fx p c cc nL s m args own D Y) (hP : va_P D vwCl (wsW N ad kf G) H) (hS : va_S (AW N ad) s.heap H locs) (hr : meth.sig.returnType = some (.object nm)) (hk : meth.locks = false) (hv : vv = va_rf (ordN ad v)) (h : some (v, G) = some (rc, G')) (hdg : decode cc pc = .ok (.areturn, 1)) : WW p l e d s m args below meth c H locs (WQq ad rc D (wsW N ad kf G') (AW N ad)) (AW N ad) (F0 m pc ls [vv]) := by
  cases h
  subst hv
  exact W.aret F.1.1 F.1.2.1 hr (Or.inl ⟨_, rfl⟩) (va_rf_or _) (fun t ht _ => ⟨⟨_, (), rfl, rfl, by show va_P D vwCl _ t.heap; rw [ht]; exact hP⟩, hS.F ht⟩) hS.2.2 hdg hk
/-- an order is laid into a row of orders -/
theorem asto (F : Fx p c cc nL s m args own D Y) (hI : Inj N ad) (hP : va_P D vwCl (wsW N ad kf G) H) (hK : Ks ad A s s.heap) (hS : va_S A s.heap H locs) (hA : ∀ i, i < N → A (ad i)) (q0 : Nat) (hq : q0 < N) {z : Nat} (he : ∀ g, kf q0 g = .inl (Y 3, z, .inr (.inr (.inr (.inr (fun j => ordO ad (g j))))))) {i : Int32} (o : Nat) (ho : o < 8) (hi : vp_in i z) (hdg : decode cc pc = .ok (.aastore, 1))
    (kk : ∀ (H1 : Heap) (locs1 : List Loc), va_P D vwCl (wsW N ad kf (upR G q0 (upd (G q0) i.toNatClampNeg (nI (o + 1))))) H1 → va_S A s.heap H1 locs1 → W p l e R s m args below meth c H1 locs1 cells slots Q (F0 m (pc + 1) ls rest)) : W p l e R s m args below meth c H locs cells slots Q (F0 m pc ls (.ref (ad (100 + o)) :: .int i :: .ref (ad q0) :: rest)) := by
  obtain ⟨cell, h1, h2, h3, -⟩ := (hK.1 o ho).2.1.kept hS.2.1
  obtain ⟨kC, hkC, -⟩ := Vm.findClass_spec h3
  have hany : va_Any RO' s H (ad (100 + o)) := ⟨cell, h1, h2, ⟨kC, hkC⟩, fun comp h => by rw [h3] at h; cases h; exact va_asg _ _⟩
  refine va_astqM F.1.1 F.1.2.1 F.2.1 hP (wsW_D hI hA) hS q0 3 ((wsW_get q0 hq).trans (by rw [he])) rfl hany hi hdg (fun H1 locs1 hP1 _ hS1 => ?_)
  have e : (.inl (Y 3, z, .inr (.inr (.inr (.inr (va_up (fun j => ordO ad (G q0 j)) i.toNatClampNeg (some (ad (100 + o)))))))) : va_E) = kf q0 (upd (G q0) i.toNatClampNeg (nI (o + 1))) := by
    rw [he]
    congr 7
    funext j
    by_cases hj : j = i.toNatClampNeg
    · subst hj
      have e2 : (nI (o + 1)).toNatClampNeg = o + 1 := nI_clamp (by omega)
      simp [va_up, upd, ordO, e2, ordN]
    · simp [va_up, upd, hj]
  rw [e, wsW_set] at hP1
  exact kk H1 locs1 hP1 hS1
theorem aldo {a z : Nat} {f : Nat → Int32} {ws : va_W} (F : Fx p c cc nL s m args own D Y) (hP : va_P D vwCl ws H) (q0 : Nat) (he : ws[q0]? = some (a, .inl (Y 3, z, .inr (.inr (.inr (.inr (fun j => ordO ad (f j)))))))) {i : Int32} (hi : vp_in i z) (hdg : decode cc pc = .ok (.aaload, 1))
    (kk : W p l e R s m args below meth c H locs cells slots Q (F0 m (pc + 1) ls (va_rf (ordN ad (f i.toNatClampNeg).toNatClampNeg) :: rest))) : W p l e R s m args below meth c H locs cells slots Q (F0 m pc ls (.int i :: .ref a :: rest)) :=
  va_aldq F.1.1 F.1.2.1 F.2.1 hP q0 3 he rfl hi hdg kk
theorem aleno {a z : Nat} {f : Nat → Int32} {ws : va_W} (F : Fx p c cc nL s m args own D Y) (hP : va_P D vwCl ws H) (q0 : Nat) (he : ws[q0]? = some (a, .inl (Y 3, z, .inr (.inr (.inr (.inr (fun j => ordO ad (f j)))))))) (hdg : decode cc pc = .ok (.arraylength, 1))
    (kk : W p l e R s m args below meth c H locs cells slots Q (F0 m (pc + 1) ls (.int (nI z) :: rest))) : W p l e R s m args below meth c H locs cells slots Q (F0 m pc ls (.ref a :: rest)) :=
  va_alen (ty := .object "TinRoofScore$Order") F.1.1 F.1.2.1 F.2.1 hP q0 3 he rfl rfl hdg kk
theorem ordRec (hK : Ks kd A s s.heap) (hS : va_S A s.heap H locs) {o : Nat} (ho : o < 8) : ∃ cellB : Cell, H[kd (100 + o)]? = some cellB ∧ cellB.vm.isStatics = false ∧ s.vm.findClass RO' = some cellB.cls := by
  obtain ⟨cell, h1, h2, h3, -⟩ := (hK.1 o ho).2.1.kept hS.2.1
  exact ⟨cell, h1, h2, h3⟩
/-- is it that order -/
theorem acmpo (hK : Ks kd A s s.heap) (hx : p.tables.exec = Jvm.exec) (hb : c.code = cc) (o k : Nat) (ho : o < 8) (hk : k < 8) {off : Int} {tgt : Nat} (hdg : decode cc pc = .ok (.if_acmp .ne off, 3)) (ht : (pc : Int) + off = (tgt : Int))
    (kt : ¬ o = k → W p l e R s m args below meth c H locs cells slots Q (F0 m tgt ls rest)) (kf : o = k → W p l e R s m args below meth c H locs cells slots Q (F0 m (pc + 3) ls rest)) : W p l e R s m args below meth c H locs cells slots Q (F0 m pc ls (.ref (kd (100 + k)) :: .ref (kd (100 + o)) :: rest)) := by
  refine lv_acmp_ne (rx := some (kd (100 + o))) (ry := some (kd (100 + k))) hx hb hdg ht (fun h => kt (fun e => h (by rw [e]))) (fun h => kf (hK.2.1 o k ho hk (Option.some.inj h)))
end WKR
def ncase {α : Type} (c : Nat) (a : Option α) (f : Nat → Option α) : Option α := match c with
  | 0 => a
  | k + 1 => f k
theorem nc0 {α : Type} {a : Option α} {f : Nat → Option α} {r : α} (h : ncase 0 a f = some r) : a = some r := h
theorem ncS {α : Type} {k : Nat} {a : Option α} {f : Nat → Option α} {r : α} (h : ncase (k + 1) a f = some r) : f k = some r := h
theorem woO_lt : ∀ k, k < 8 → woO k < 33 := by decide
theorem diO_lt : ∀ k, k < 8 → diO k < 33 := by decide
theorem inb8 {x : Int32} (h : inb x 8) : x.toNatClampNeg < 8 := by
  rcases pk_ix x (n := 8) (by decide) with h1 | h1 | ⟨j, hj, rfl⟩
  · exact absurd h.1 (Int32.not_le.mpr h1)
  · exact absurd h.2 (Int32.not_lt.mpr h1)
  · rw [nI_clamp (by omega)]; exact hj
theorem vk_getfN {p : Program} {l : Launch} {e : Env} {R : Room} {s : State} {m : MethodId} {args : Array Value} {below : List Frame} {meth : Method} {c : Code} {H : Heap} {locs : List Loc} {cells slots : Nat} {Q : State → Prop} {cc : ByteArray} {pc : Nat} {ls : Array Slot} {rest : List Value} {A : Nat → Prop} (hexec : p.tables.exec = Jvm.exec) (hb : c.code = cc) {o n d own ref host : String} {index q : Nat} {v : Value} (hE : va_OF o n d v q A s s.heap) (hS : va_S A s.heap H locs) (hown : s.vm.findClass own = some m.cls) (hlink : (Cond.fieldLinkNest own index ref n d host).before args s = true) (hsame : ∀ x, s.fieldFound? o n d = some x → s.fieldFound? ref n d = some x) (hdg : decode cc pc = .ok (.getfield index, 3))
    (kk : W p l e R s m args below meth c H locs cells slots Q (F0 m (pc + 3) ls (v :: rest))) : W p l e R s m args below meth c H locs cells slots Q (F0 m pc ls (.ref q :: rest)) := by
  obtain ⟨cf, k, fi, f, cell, h1, h2, h3, h4, h5, h6⟩ := hE.kept hS.2.1
  exact va_Wgetf hexec hb hown hlink (hsame _ h1) h2 h3 h4 (v := v) h5 rfl rfl hdg kk
theorem ldcSW {p : Program} {l : Launch} {e : Env} {R : Room} {s : State} {m : MethodId} {args : Array Value} {below : List Frame} {meth : Method} {c : Code} {H : Heap} {locs : List Loc} {cells slots : Nat} {Q : State → Prop} {cc : ByteArray} {pc : Nat} {ls : Array Slot} {rest : List Value} (hexec : p.tables.exec = Jvm.exec) (hb : c.code = cc) {own tx : String} {index q : Nat} (hown : s.vm.findClass own = some m.cls) (hZ : vk_R own index tx q s) (hdg : decode cc pc = .ok (.ldc_w index, 3))
    (k : W p l e R s m args below meth c H locs cells slots Q (F0 m (pc + 3) ls (.ref q :: rest))) : W p l e R s m args below meth c H locs cells slots Q (F0 m pc ls rest) := by
  intro T hT X
  obtain ⟨t, a1, b1⟩ := k T hT X
  exact ⟨t, X.ldcStringW hexec hown (text := tx) (a := q) hZ.1 hZ.2 (g := F0 m pc ls rest) rfl (by rw [hb]; exact hdg) t a1, b1⟩
