/-! writing methods: the world changes from G to G', nothing else does -/
abbrev GT : Type := Nat → Nat → Int32
def WQi (ret : Option FieldType) (r : Int32) (D : va_G) (ws : va_W) (A : Nat → Prop) : Array Value → State → Outcome → State → Prop := va_Qi (fun v (_ : Unit) => v = r ∧ okR ret r) (fun _ t => va_P D vwCl ws t.heap) A
def WQv (D : va_G) (ws : va_W) (A : Nat → Prop) : Array Value → State → Outcome → State → Prop := va_Qv (fun (_ : Unit) => True) (fun _ t => va_P D vwCl ws t.heap) A
def WR (l : Launch) (y : MethodName) (b : ByteArray) (n : Nat) (ret : Option FieldType) (d : Nat) (D : va_G) (Y : Nat → ClassId) (N : Nat) (ad : Nat → Nat) (kf : Nat → (Nat → Int32) → va_E) (G : GT) (As : List Value) (r : Int32) (G' : GT) : Prop :=
  Met l y (wc y b n ret) (rmD d 0 0) (va_Pc As (Bw D Y (wsW N ad kf G))) (WQi ret r D (wsW N ad kf G') (AW N ad)) 0 0 (AW N ad)
def WV (l : Launch) (y : MethodName) (b : ByteArray) (n : Nat) (d : Nat) (D : va_G) (Y : Nat → ClassId) (N : Nat) (ad : Nat → Nat) (kf : Nat → (Nat → Int32) → va_E) (G : GT) (As : List Value) (G' : GT) : Prop :=
  Met l y (wc y b n none) (rmD d 0 0) (va_Pc As (Bw D Y (wsW N ad kf G))) (WQv D (wsW N ad kf G') (AW N ad)) 0 0 (AW N ad)
abbrev WW (p : Program) (l : Launch) (e : Env) (d : Nat) (s : State) (m : MethodId) (args : Array Value) (below : List Frame) (meth : Method) (c : Code) (H : Heap) (locs : List Loc) (Qc : Array Value → State → Outcome → State → Prop) (A : Nat → Prop) (g : JFrame) : Prop :=
  W p l e (rmD d 0 0) s m args below meth c H locs 0 0 (MQ below Qc args s 0 0 A) g
theorem W_of {l : Launch} {y : MethodName} {b : ByteArray} {n : Nat} {ret : Option FieldType} {d : Nat} {D : va_G} {Y : Nat → ClassId} {ws : va_W} {As : List Value} {Qc : Array Value → State → Outcome → State → Prop} {A : Nat → Prop} {lv : List (Nat × Value)} (hy : plainName y.cls = true) (hn : (lg_sl As).length ≤ n) (hlv : lv_args 0 As = lv)
    (body : ∀ (p : Program) (e : Env) (s : State) (m : MethodId) (below : List Frame) (meth : Method) (c : Code) (ls : Array Slot), Fx p c b n s m As.toArray y.cls D Y → va_P D vwCl ws s.heap → va_S A s.heap s.heap [] → meth.sig.returnType = ret → meth.locks = false → lv_has ls n lv → WW p l e d s m As.toArray below meth c s.heap [] Qc A (F0 m 0 ls [])) : Met l y (wc y b n ret) (rmD d 0 0) (va_Pc As (Bw D Y ws)) Qc 0 0 A := by
  refine Met.ofW (cc := b) (maxL := n) (ret := ret) hy rfl ?_
  intro p e s m args below meth c s₁ B hml hv
  obtain ⟨rfl, hE, hP⟩ := hv
  have hts := atoms_spec (ws := wc y b n ret) B.pre
  have hl := lv_entry As hn
  rw [lg_entry_eq]
  rw [hlv] at hl
  exact body p e s m below meth c _ ⟨⟨B.exec, B.bytes, hml, findClass_of_methodNamed B.named, fun w hw => hts w (List.mem_cons_of_mem _ hw)⟩, hE⟩ hP va_S.rf B.returns B.notSynchronized hl
section WRR
variable {p : Program} {l : Launch} {e : Env} {R : Room} {s : State} {m : MethodId} {args : Array Value} {below : List Frame} {meth : Method} {c : Code} {H : Heap} {locs : List Loc} {cells slots : Nat} {Q : State → Prop}
variable {cc : ByteArray} {pc nL : Nat} {ls : Array Slot} {rest st0 : List Value}
variable {own host : String} {idx : Nat} {y : MethodName} {b : ByteArray} {n ar d : Nat} {ret : Option FieldType} {D : va_G} {Y : Nat → ClassId} {As : List Value} {r : Int32} {N : Nat} {ad : Nat → Nat} {kf : Nat → (Nat → Int32) → va_E} {G G' : GT} {H0 : Heap}
theorem wr_V {a : Nat} (F : Fx p c cc nL s m args own D Y) (hP : va_P D vwCl (wsW N ad kf G) H) (hS : va_S (AW N ad) H0 H locs) {d' : Nat} (k : CKV y b n ret ar) (hl : Cond.methodLink own idx y ∈ LW) (q0 ci : Nat) {T : u_T} {M : Nat} (hci : vwCl[ci]? = some (y.cls, T, M)) {fs : List Value} (he : (wsW N ad kf G)[q0]? = some (a, .inr (ci, fs)))
    (hM : WR l y b n ret d' D Y N ad kf G (.ref a :: As) r G') (hn : As.length = ar) (hsz : ls.size = nL) (hR : d' + 1 ≤ R.frames ∧ 8 + (n + 11) + 40 * d' ≤ R.locals) (hst : st0 = As.reverse ++ .ref a :: rest) (hcat : (rest.map fun v => v.category).sum ≤ 8) (hc : cells ≤ R.cells ∧ slots ≤ R.slots) (hdg : decode cc pc = .ok (.invokevirtual idx, 3))
    (kk : ∀ (H1 : Heap) (locs1 : List Loc), okR ret r → va_P D vwCl (wsW N ad kf G') H1 → va_S (AW N ad) H0 H1 locs1 → W p l e R s m args below meth c H1 locs1 cells slots Q (F0 m (pc + 3) ls (.int r :: rest))) : W p l e R s m args below meth c H locs cells slots Q (F0 m pc ls st0) := by
  subst hst
  refine va_calli (va_runV (As := As) (rest := rest) F.1 hM (ck_V F.1.2.2.2.2 k hl rfl rfl hR) ⟨Bw.blind, va_recv F.2.1 hP hci he, fun U hU hW => ⟨rfl, Bw.of F.2 hP hU hW⟩⟩ rfl hn hsz rfl (lv_room hcat) hdg hc) hS (fun _ _ h => h) (fun _ h => h) (fun v u t H1 locs1 ht _ hp hB _ _ hS1 => ?_)
  obtain ⟨rfl, ho⟩ := hp
  exact kk H1 locs1 ho (by rw [← ht]; exact hB) hS1
theorem wr_VN {a : Nat} (F : Fx p c cc nL s m args own D Y) (hP : va_P D vwCl (wsW N ad kf G) H) (hS : va_S (AW N ad) H0 H locs) {d' : Nat} (k : CKV y b n ret ar) (hl : Cond.methodLinkNest own idx y host ∈ NW) (q0 ci : Nat) {T : u_T} {M : Nat} (hci : vwCl[ci]? = some (y.cls, T, M)) {fs : List Value} (he : (wsW N ad kf G)[q0]? = some (a, .inr (ci, fs)))
    (hM : WR l y b n ret d' D Y N ad kf G (.ref a :: As) r G') (hn : As.length = ar) (hsz : ls.size = nL) (hR : d' + 1 ≤ R.frames ∧ 8 + (n + 11) + 40 * d' ≤ R.locals) (hst : st0 = As.reverse ++ .ref a :: rest) (hcat : (rest.map fun v => v.category).sum ≤ 8) (hc : cells ≤ R.cells ∧ slots ≤ R.slots) (hdg : decode cc pc = .ok (.invokevirtual idx, 3))
    (kk : ∀ (H1 : Heap) (locs1 : List Loc), okR ret r → va_P D vwCl (wsW N ad kf G') H1 → va_S (AW N ad) H0 H1 locs1 → W p l e R s m args below meth c H1 locs1 cells slots Q (F0 m (pc + 3) ls (.int r :: rest))) : W p l e R s m args below meth c H locs cells slots Q (F0 m pc ls st0) := by
  subst hst
  refine va_calli (va_runVN (As := As) (rest := rest) F.1 hM (ck_VN F.1.2.2.2.2 F.2.2 k hl rfl rfl hR) ⟨Bw.blind, va_recv F.2.1 hP hci he, fun U hU hW => ⟨rfl, Bw.of F.2 hP hU hW⟩⟩ rfl hn hsz rfl (lv_room hcat) hdg hc) hS (fun _ _ h => h) (fun _ h => h) (fun v u t H1 locs1 ht _ hp hB _ _ hS1 => ?_)
  obtain ⟨rfl, ho⟩ := hp
  exact kk H1 locs1 ho (by rw [← ht]; exact hB) hS1
theorem wv_V {a : Nat} (F : Fx p c cc nL s m args own D Y) (hP : va_P D vwCl (wsW N ad kf G) H) (hS : va_S (AW N ad) H0 H locs) {d' : Nat} (k : CKV y b n none ar) (hl : Cond.methodLink own idx y ∈ LW) (q0 ci : Nat) {T : u_T} {M : Nat} (hci : vwCl[ci]? = some (y.cls, T, M)) {fs : List Value} (he : (wsW N ad kf G)[q0]? = some (a, .inr (ci, fs)))
    (hM : WV l y b n d' D Y N ad kf G (.ref a :: As) G') (hn : As.length = ar) (hsz : ls.size = nL) (hR : d' + 1 ≤ R.frames ∧ 8 + (n + 11) + 40 * d' ≤ R.locals) (hst : st0 = As.reverse ++ .ref a :: rest) (hcat : (rest.map fun v => v.category).sum ≤ 8) (hc : cells ≤ R.cells ∧ slots ≤ R.slots) (hdg : decode cc pc = .ok (.invokevirtual idx, 3))
    (kk : ∀ (H1 : Heap) (locs1 : List Loc), va_P D vwCl (wsW N ad kf G') H1 → va_S (AW N ad) H0 H1 locs1 → W p l e R s m args below meth c H1 locs1 cells slots Q (F0 m (pc + 3) ls rest)) : W p l e R s m args below meth c H locs cells slots Q (F0 m pc ls st0) := by
  subst hst
  exact va_callv (va_runV (As := As) (rest := rest) F.1 hM (ck_V F.1.2.2.2.2 k hl rfl rfl hR) ⟨Bw.blind, va_recv F.2.1 hP hci he, fun U hU hW => ⟨rfl, Bw.of F.2 hP hU hW⟩⟩ rfl hn hsz rfl (lv_room hcat) hdg hc) hS (fun _ _ h => h) (fun _ h => h) (fun u t H1 locs1 ht _ _ hB _ _ hS1 => kk H1 locs1 (by rw [← ht]; exact hB) hS1)
theorem wv_VN {a : Nat} (F : Fx p c cc nL s m args own D Y) (hP : va_P D vwCl (wsW N ad kf G) H) (hS : va_S (AW N ad) H0 H locs) {d' : Nat} (k : CKV y b n none ar) (hl : Cond.methodLinkNest own idx y host ∈ NW) (q0 ci : Nat) {T : u_T} {M : Nat} (hci : vwCl[ci]? = some (y.cls, T, M)) {fs : List Value} (he : (wsW N ad kf G)[q0]? = some (a, .inr (ci, fs)))
    (hM : WV l y b n d' D Y N ad kf G (.ref a :: As) G') (hn : As.length = ar) (hsz : ls.size = nL) (hR : d' + 1 ≤ R.frames ∧ 8 + (n + 11) + 40 * d' ≤ R.locals) (hst : st0 = As.reverse ++ .ref a :: rest) (hcat : (rest.map fun v => v.category).sum ≤ 8) (hc : cells ≤ R.cells ∧ slots ≤ R.slots) (hdg : decode cc pc = .ok (.invokevirtual idx, 3))
    (kk : ∀ (H1 : Heap) (locs1 : List Loc), va_P D vwCl (wsW N ad kf G') H1 → va_S (AW N ad) H0 H1 locs1 → W p l e R s m args below meth c H1 locs1 cells slots Q (F0 m (pc + 3) ls rest)) : W p l e R s m args below meth c H locs cells slots Q (F0 m pc ls st0) := by
  subst hst
  exact va_callv (va_runVN (As := As) (rest := rest) F.1 hM (ck_VN F.1.2.2.2.2 F.2.2 k hl rfl rfl hR) ⟨Bw.blind, va_recv F.2.1 hP hci he, fun U hU hW => ⟨rfl, Bw.of F.2 hP hU hW⟩⟩ rfl hn hsz rfl (lv_room hcat) hdg hc) hS (fun _ _ h => h) (fun _ h => h) (fun u t H1 locs1 ht _ _ hB _ _ hS1 => kk H1 locs1 (by rw [← ht]; exact hB) hS1)
theorem wv_S (F : Fx p c cc nL s m args own D Y) (hP : va_P D vwCl (wsW N ad kf G) H) (hS : va_S (AW N ad) H0 H locs) {d' : Nat} (k : CKS y b n none ar) (hl : Cond.methodLink own idx y ∈ LW)
    (hM : WV l y b n d' D Y N ad kf G As G') (hn : As.length = ar) (hsz : ls.size = nL) (hR : d' + 1 ≤ R.frames ∧ 8 + (n + 11) + 40 * d' ≤ R.locals) (hst : st0 = As.reverse ++ rest) (hcat : (rest.map fun v => v.category).sum ≤ 8) (hc : cells ≤ R.cells ∧ slots ≤ R.slots) (hdg : decode cc pc = .ok (.invokestatic idx, 3))
    (kk : ∀ (H1 : Heap) (locs1 : List Loc), va_P D vwCl (wsW N ad kf G') H1 → va_S (AW N ad) H0 H1 locs1 → W p l e R s m args below meth c H1 locs1 cells slots Q (F0 m (pc + 3) ls rest)) : W p l e R s m args below meth c H locs cells slots Q (F0 m pc ls st0) := by
  subst hst
  exact va_callv (va_runS (As := As) (rest := rest) F.1 hM (ck_S F.1.2.2.2.2 k hl rfl rfl hR) ⟨Bw.blind, fun U hU hW => ⟨rfl, Bw.of F.2 hP hU hW⟩⟩ rfl hn hsz rfl (lv_room hcat) hdg hc) hS (fun _ _ h => h) (fun _ h => h) (fun u t H1 locs1 ht _ _ hB _ _ hS1 => kk H1 locs1 (by rw [← ht]; exact hB) hS1)
theorem wv_SN (F : Fx p c cc nL s m args own D Y) (hP : va_P D vwCl (wsW N ad kf G) H) (hS : va_S (AW N ad) H0 H locs) {d' : Nat} (k : CKS y b n none ar) (hl : Cond.methodLinkNest own idx y host ∈ NW)
    (hM : WV l y b n d' D Y N ad kf G As G') (hn : As.length = ar) (hsz : ls.size = nL) (hR : d' + 1 ≤ R.frames ∧ 8 + (n + 11) + 40 * d' ≤ R.locals) (hst : st0 = As.reverse ++ rest) (hcat : (rest.map fun v => v.category).sum ≤ 8) (hc : cells ≤ R.cells ∧ slots ≤ R.slots) (hdg : decode cc pc = .ok (.invokestatic idx, 3))
    (kk : ∀ (H1 : Heap) (locs1 : List Loc), va_P D vwCl (wsW N ad kf G') H1 → va_S (AW N ad) H0 H1 locs1 → W p l e R s m args below meth c H1 locs1 cells slots Q (F0 m (pc + 3) ls rest)) : W p l e R s m args below meth c H locs cells slots Q (F0 m pc ls st0) := by
  subst hst
  exact va_callv (va_runSN (As := As) (rest := rest) F.1 hM (ck_SN F.1.2.2.2.2 F.2.2 k hl rfl rfl hR) ⟨Bw.blind, fun U hU hW => ⟨rfl, Bw.of F.2 hP hU hW⟩⟩ rfl hn hsz rfl (lv_room hcat) hdg hc) hS (fun _ _ h => h) (fun _ h => h) (fun u t H1 locs1 ht _ _ hB _ _ hS1 => kk H1 locs1 (by rw [← ht]; exact hB) hS1)
theorem wr_end {ty : FieldType} {v : Int32} (F : Fx p c cc nL s m args own D Y) (hP : va_P D vwCl (wsW N ad kf G) H) (hS : va_S (AW N ad) s.heap H locs) (hr : meth.sig.returnType = some ty) (hk : meth.locks = false) (ho : okR (some ty) v) (h : some (v, G) = some (r, G')) (hdg : decode cc pc = .ok (.ireturn, 1)) : WW p l e d s m args below meth c H locs (WQi (some ty) r D (wsW N ad kf G') (AW N ad)) (AW N ad) (F0 m pc ls [.int v]) := by
  cases h
  exact W.zret F.1.1 F.1.2.1 hr ho (fun t ht _ => ⟨⟨r, (), rfl, ⟨rfl, ho⟩, by show va_P D vwCl _ t.heap; rw [ht]; exact hP⟩, hS.F ht⟩) hS.2.2 hdg hk
theorem wv_end (F : Fx p c cc nL s m args own D Y) (hP : va_P D vwCl (wsW N ad kf G) H) (hS : va_S (AW N ad) s.heap H locs) (hr : meth.sig.returnType = none) (hk : meth.locks = false) (h : some G = some G') (hdg : decode cc pc = .ok (.return_, 1)) : WW p l e d s m args below meth c H locs (WQv D (wsW N ad kf G') (AW N ad)) (AW N ad) (F0 m pc ls []) := by
  cases h
  exact W.vret F.1.1 F.1.2.1 hr (fun t ht _ => ⟨⟨(), rfl, trivial, by show va_P D vwCl _ t.heap; rw [ht]; exact hP⟩, hS.F ht⟩) hS.2.2 hdg hk
end WRR
def put32 (z : Nat) (f : Nat → Int32) (i v : Int32) : Nat → Int32 := if i < 0 then f else if nI z ≤ i then f else upd f i.toNatClampNeg v
