/-! reading methods: contract, calls, begin and end -/
def okR (ret : Option FieldType) (r : Int32) : Prop := match ret with
  | some t => narrow t (.int r) = .int r
  | none => True
def RQ (ret : Option FieldType) (r : Int32) : Array Value → State → Outcome → State → Prop := vp_Si (fun v => v = r ∧ okR ret r)
def RD (l : Launch) (y : MethodName) (b : ByteArray) (n : Nat) (ret : Option FieldType) (d : Nat) (D : va_G) (Y : Nat → ClassId) (ws : va_W) (As : List Value) (r : Int32) : Prop :=
  Met l y (wc y b n ret) (rmD d 0 0) (va_Pc As (Bw D Y ws)) (RQ ret r) 0 0 (fun _ => False)
abbrev WD (p : Program) (l : Launch) (e : Env) (d : Nat) (s : State) (m : MethodId) (args : Array Value) (below : List Frame) (meth : Method) (c : Code) (H : Heap) (ret : Option FieldType) (r : Int32) (g : JFrame) : Prop :=
  W p l e (rmD d 0 0) s m args below meth c H [] 0 0 (MQ below (RQ ret r) args s 0 0 (fun _ => False)) g
theorem RD_of {l : Launch} {y : MethodName} {b : ByteArray} {n : Nat} {ret : Option FieldType} {d : Nat} {D : va_G} {Y : Nat → ClassId} {ws : va_W} {As : List Value} {r : Int32} {lv : List (Nat × Value)} (hy : plainName y.cls = true) (hn : (lg_sl As).length ≤ n) (hlv : lv_args 0 As = lv)
    (body : ∀ (p : Program) (e : Env) (s : State) (m : MethodId) (below : List Frame) (meth : Method) (c : Code) (ls : Array Slot), Fx p c b n s m As.toArray y.cls D Y → va_P D vwCl ws s.heap → meth.sig.returnType = ret → meth.locks = false → lv_has ls n lv → WD p l e d s m As.toArray below meth c s.heap ret r (F0 m 0 ls [])) : RD l y b n ret d D Y ws As r := by
  refine Met.ofW (cc := b) (maxL := n) (ret := ret) hy rfl ?_
  intro p e s m args below meth c s₁ B hml hv
  obtain ⟨rfl, hE, hP⟩ := hv
  have hts := atoms_spec (ws := wc y b n ret) B.pre
  have hl := lv_entry As hn
  rw [lg_entry_eq]
  rw [hlv] at hl
  exact body p e s m below meth c _ ⟨⟨B.exec, B.bytes, hml, findClass_of_methodNamed B.named, fun w hw => hts w (List.mem_cons_of_mem _ hw)⟩, hE⟩ hP B.returns B.notSynchronized hl
section RDR
variable {p : Program} {l : Launch} {e : Env} {R : Room} {s : State} {m : MethodId} {args : Array Value} {below : List Frame} {meth : Method} {c : Code} {H : Heap} {locs : List Loc} {cells slots : Nat} {Q : State → Prop}
variable {cc : ByteArray} {pc nL : Nat} {ls : Array Slot} {rest st0 : List Value}
variable {own host : String} {idx : Nat} {y : MethodName} {b : ByteArray} {n ar d : Nat} {ret : Option FieldType} {D : va_G} {Y : Nat → ClassId} {ws : va_W} {As : List Value} {r : Int32}
theorem rd_V {a : Nat} (F : Fx p c cc nL s m args own D Y) (hP : va_P D vwCl ws H) {d' : Nat} (k : CKV y b n ret ar) (hl : Cond.methodLink own idx y ∈ LW) (q0 ci : Nat) {T : u_T} {N : Nat} (hci : vwCl[ci]? = some (y.cls, T, N)) {fs : List Value} (he : ws[q0]? = some (a, .inr (ci, fs)))
    (hM : RD l y b n ret d' D Y ws (.ref a :: As) r) (hn : As.length = ar) (hsz : ls.size = nL) (hR : d' + 1 ≤ R.frames ∧ 8 + (n + 11) + 40 * d' ≤ R.locals) (hst : st0 = As.reverse ++ .ref a :: rest) (hcat : (rest.map fun v => v.category).sum ≤ 8) (hc : cells ≤ R.cells ∧ slots ≤ R.slots) (hdg : decode cc pc = .ok (.invokevirtual idx, 3))
    (kk : okR ret r → W p l e R s m args below meth c H locs cells slots Q (F0 m (pc + 3) ls (.int r :: rest))) : W p l e R s m args below meth c H locs cells slots Q (F0 m pc ls st0) := by
  subst hst
  refine vp_callSi (W.runV (As := As) (rest := rest) F.1 hM (ck_V F.1.2.2.2.2 k hl rfl rfl hR) ⟨Bw.blind, va_recv F.2.1 hP hci he, fun U hU hW => ⟨rfl, Bw.of F.2 hP hU hW⟩⟩ rfl hn hsz rfl (lv_room hcat) hdg hc) (fun v hv => ?_)
  obtain ⟨rfl, ho⟩ := hv
  exact kk ho
theorem rd_S (F : Fx p c cc nL s m args own D Y) (hP : va_P D vwCl ws H) {d' : Nat} (k : CKS y b n ret ar) (hl : Cond.methodLink own idx y ∈ LW)
    (hM : RD l y b n ret d' D Y ws As r) (hn : As.length = ar) (hsz : ls.size = nL) (hR : d' + 1 ≤ R.frames ∧ 8 + (n + 11) + 40 * d' ≤ R.locals) (hst : st0 = As.reverse ++ rest) (hcat : (rest.map fun v => v.category).sum ≤ 8) (hc : cells ≤ R.cells ∧ slots ≤ R.slots) (hdg : decode cc pc = .ok (.invokestatic idx, 3))
    (kk : okR ret r → W p l e R s m args below meth c H locs cells slots Q (F0 m (pc + 3) ls (.int r :: rest))) : W p l e R s m args below meth c H locs cells slots Q (F0 m pc ls st0) := by
  subst hst
  refine vp_callSi (W.runS (As := As) (rest := rest) F.1 hM (ck_S F.1.2.2.2.2 k hl rfl rfl hR) ⟨Bw.blind, fun U hU hW => ⟨rfl, Bw.of F.2 hP hU hW⟩⟩ rfl hn hsz rfl (lv_room hcat) hdg hc) (fun v hv => ?_)
  obtain ⟨rfl, ho⟩ := hv
  exact kk ho
theorem rd_VN {a : Nat} (F : Fx p c cc nL s m args own D Y) (hP : va_P D vwCl ws H) {d' : Nat} (k : CKV y b n ret ar) (hl : Cond.methodLinkNest own idx y host ∈ NW) (q0 ci : Nat) {T : u_T} {N : Nat} (hci : vwCl[ci]? = some (y.cls, T, N)) {fs : List Value} (he : ws[q0]? = some (a, .inr (ci, fs)))
    (hM : RD l y b n ret d' D Y ws (.ref a :: As) r) (hn : As.length = ar) (hsz : ls.size = nL) (hR : d' + 1 ≤ R.frames ∧ 8 + (n + 11) + 40 * d' ≤ R.locals) (hst : st0 = As.reverse ++ .ref a :: rest) (hcat : (rest.map fun v => v.category).sum ≤ 8) (hc : cells ≤ R.cells ∧ slots ≤ R.slots) (hdg : decode cc pc = .ok (.invokevirtual idx, 3))
    (kk : okR ret r → W p l e R s m args below meth c H locs cells slots Q (F0 m (pc + 3) ls (.int r :: rest))) : W p l e R s m args below meth c H locs cells slots Q (F0 m pc ls st0) := by
  subst hst
  refine vp_callSi (run_of (va_runVN (As := As) (rest := rest) F.1 hM (ck_VN F.1.2.2.2.2 F.2.2 k hl rfl rfl hR) ⟨Bw.blind, va_recv F.2.1 hP hci he, fun U hU hW => ⟨rfl, Bw.of F.2 hP hU hW⟩⟩ rfl hn hsz rfl (lv_room hcat) hdg hc)) (fun v hv => ?_)
  obtain ⟨rfl, ho⟩ := hv
  exact kk ho
theorem rd_SN (F : Fx p c cc nL s m args own D Y) (hP : va_P D vwCl ws H) {d' : Nat} (k : CKS y b n ret ar) (hl : Cond.methodLinkNest own idx y host ∈ NW)
    (hM : RD l y b n ret d' D Y ws As r) (hn : As.length = ar) (hsz : ls.size = nL) (hR : d' + 1 ≤ R.frames ∧ 8 + (n + 11) + 40 * d' ≤ R.locals) (hst : st0 = As.reverse ++ rest) (hcat : (rest.map fun v => v.category).sum ≤ 8) (hc : cells ≤ R.cells ∧ slots ≤ R.slots) (hdg : decode cc pc = .ok (.invokestatic idx, 3))
    (kk : okR ret r → W p l e R s m args below meth c H locs cells slots Q (F0 m (pc + 3) ls (.int r :: rest))) : W p l e R s m args below meth c H locs cells slots Q (F0 m pc ls st0) := by
  subst hst
  refine vp_callSi (run_of (va_runSN (As := As) (rest := rest) F.1 hM (ck_SN F.1.2.2.2.2 F.2.2 k hl rfl rfl hR) ⟨Bw.blind, fun U hU hW => ⟨rfl, Bw.of F.2 hP hU hW⟩⟩ rfl hn hsz rfl (lv_room hcat) hdg hc)) (fun v hv => ?_)
  obtain ⟨rfl, ho⟩ := hv
  exact kk ho
theorem rd_end {ty : FieldType} {v : Int32} (F : Fx p c cc nL s m args own D Y) (hr : meth.sig.returnType = some ty) (hk : meth.locks = false) (ho : okR (some ty) v) (h : some v = some r) (hdg : decode cc pc = .ok (.ireturn, 1)) : WD p l e d s m args below meth c s.heap (some ty) r (F0 m pc ls [.int v]) := by
  cases h
  exact W.zret F.1.1 F.1.2.1 hr ho (fun t ht _ => ⟨r, rfl, ⟨rfl, ho⟩, ht⟩) (fun q hq => by cases hq) hdg hk
theorem w_max {lv : List (Nat × Value)} {x z : Int32} (F : Fx p c cc nL s m args own D Y) (hl : lv_has ls nL lv) (hlink : Cond.methodLink own idx Lib.Math.max.name ∈ LW) (hR : 1 ≤ R.frames ∧ (rest.map fun v => v.category).sum + 13 ≤ R.locals ∧ cells ≤ R.cells ∧ slots ≤ R.slots) (hdg : decode cc pc = .ok (.invokestatic idx, 3))
    (kk : W p l e R s m args below meth c H locs cells slots Q (F0 m (pc + 3) ls (.int (max32 x z) :: rest))) : W p l e R s m args below meth c H locs cells slots Q (F0 m pc ls (.int z :: .int x :: rest)) :=
  va_mmax F.1.1 F.1.2.1 (F.1.2.2.1.trans hl.1.symm) F.1.2.2.2.1 (F.1.2.2.2.2 _ hlink) (F.1.2.2.2.2 _ mw_654) (F.1.2.2.2.2 _ mw_18) (F.1.2.2.2.2 _ mw_655) hR.1 hR.2.1 hR.2.2.1 hR.2.2.2 hdg kk
theorem w_min {lv : List (Nat × Value)} {x z : Int32} (F : Fx p c cc nL s m args own D Y) (hl : lv_has ls nL lv) (hlink : Cond.methodLink own idx Lib.Math.min.name ∈ LW) (hR : 1 ≤ R.frames ∧ (rest.map fun v => v.category).sum + 13 ≤ R.locals ∧ cells ≤ R.cells ∧ slots ≤ R.slots) (hdg : decode cc pc = .ok (.invokestatic idx, 3))
    (kk : W p l e R s m args below meth c H locs cells slots Q (F0 m (pc + 3) ls (.int (min32 x z) :: rest))) : W p l e R s m args below meth c H locs cells slots Q (F0 m pc ls (.int z :: .int x :: rest)) :=
  va_mmin F.1.1 F.1.2.1 (F.1.2.2.1.trans hl.1.symm) F.1.2.2.2.1 (F.1.2.2.2.2 _ hlink) (F.1.2.2.2.2 _ mw_494) (F.1.2.2.2.2 _ mw_18) (F.1.2.2.2.2 _ mw_495) hR.1 hR.2.1 hR.2.2.1 hR.2.2.2 hdg kk
theorem w_abs {lv : List (Nat × Value)} {x : Int32} (F : Fx p c cc nL s m args own D Y) (hl : lv_has ls nL lv) (hlink : Cond.methodLink own idx Lib.Math.abs.name ∈ LW) (hR : 1 ≤ R.frames ∧ (rest.map fun v => v.category).sum + 13 ≤ R.locals ∧ cells ≤ R.cells ∧ slots ≤ R.slots) (hdg : decode cc pc = .ok (.invokestatic idx, 3))
    (kk : W p l e R s m args below meth c H locs cells slots Q (F0 m (pc + 3) ls (.int (abs32 x) :: rest))) : W p l e R s m args below meth c H locs cells slots Q (F0 m pc ls (.int x :: rest)) :=
  va_mabs F.1.1 F.1.2.1 (F.1.2.2.1.trans hl.1.symm) F.1.2.2.2.1 (F.1.2.2.2.2 _ hlink) (F.1.2.2.2.2 _ mw_806) (F.1.2.2.2.2 _ mw_18) (F.1.2.2.2.2 _ mw_807) hR.1 hR.2.1 hR.2.2.1 hR.2.2.2 hdg kk
end RDR
/-! loops as functions with fuel, of one to six variables -/
def lq1 {A1 ρ : Type} (f : (A1 → Option ρ) → A1 → Option ρ) : Nat → A1 → Option ρ
  | 0, _ => none
  | n + 1, x1 => f (lq1 f n) x1
theorem lqS1 {A1 ρ : Type} {f : (A1 → Option ρ) → A1 → Option ρ} {n : Nat} {x1 : A1} {r : ρ} (h : lq1 f (n + 1) x1 = some r) : f (lq1 f n) x1 = some r := h
theorem lqZ1 {A1 ρ : Type} {f : (A1 → Option ρ) → A1 → Option ρ} {x1 : A1} {r : ρ} {P : Prop} (h : lq1 f 0 x1 = some r) : P := nomatch h
def lq2 {A1 A2 ρ : Type} (f : (A1 → A2 → Option ρ) → A1 → A2 → Option ρ) : Nat → A1 → A2 → Option ρ
  | 0, _, _ => none
  | n + 1, x1, x2 => f (lq2 f n) x1 x2
theorem lqS2 {A1 A2 ρ : Type} {f : (A1 → A2 → Option ρ) → A1 → A2 → Option ρ} {n : Nat} {x1 : A1} {x2 : A2} {r : ρ} (h : lq2 f (n + 1) x1 x2 = some r) : f (lq2 f n) x1 x2 = some r := h
theorem lqZ2 {A1 A2 ρ : Type} {f : (A1 → A2 → Option ρ) → A1 → A2 → Option ρ} {x1 : A1} {x2 : A2} {r : ρ} {P : Prop} (h : lq2 f 0 x1 x2 = some r) : P := nomatch h
def lq3 {A1 A2 A3 ρ : Type} (f : (A1 → A2 → A3 → Option ρ) → A1 → A2 → A3 → Option ρ) : Nat → A1 → A2 → A3 → Option ρ
  | 0, _, _, _ => none
  | n + 1, x1, x2, x3 => f (lq3 f n) x1 x2 x3
theorem lqS3 {A1 A2 A3 ρ : Type} {f : (A1 → A2 → A3 → Option ρ) → A1 → A2 → A3 → Option ρ} {n : Nat} {x1 : A1} {x2 : A2} {x3 : A3} {r : ρ} (h : lq3 f (n + 1) x1 x2 x3 = some r) : f (lq3 f n) x1 x2 x3 = some r := h
theorem lqZ3 {A1 A2 A3 ρ : Type} {f : (A1 → A2 → A3 → Option ρ) → A1 → A2 → A3 → Option ρ} {x1 : A1} {x2 : A2} {x3 : A3} {r : ρ} {P : Prop} (h : lq3 f 0 x1 x2 x3 = some r) : P := nomatch h
def lq4 {A1 A2 A3 A4 ρ : Type} (f : (A1 → A2 → A3 → A4 → Option ρ) → A1 → A2 → A3 → A4 → Option ρ) : Nat → A1 → A2 → A3 → A4 → Option ρ
  | 0, _, _, _, _ => none
  | n + 1, x1, x2, x3, x4 => f (lq4 f n) x1 x2 x3 x4
theorem lqS4 {A1 A2 A3 A4 ρ : Type} {f : (A1 → A2 → A3 → A4 → Option ρ) → A1 → A2 → A3 → A4 → Option ρ} {n : Nat} {x1 : A1} {x2 : A2} {x3 : A3} {x4 : A4} {r : ρ} (h : lq4 f (n + 1) x1 x2 x3 x4 = some r) : f (lq4 f n) x1 x2 x3 x4 = some r := h
theorem lqZ4 {A1 A2 A3 A4 ρ : Type} {f : (A1 → A2 → A3 → A4 → Option ρ) → A1 → A2 → A3 → A4 → Option ρ} {x1 : A1} {x2 : A2} {x3 : A3} {x4 : A4} {r : ρ} {P : Prop} (h : lq4 f 0 x1 x2 x3 x4 = some r) : P := nomatch h
def lq5 {A1 A2 A3 A4 A5 ρ : Type} (f : (A1 → A2 → A3 → A4 → A5 → Option ρ) → A1 → A2 → A3 → A4 → A5 → Option ρ) : Nat → A1 → A2 → A3 → A4 → A5 → Option ρ
  | 0, _, _, _, _, _ => none
  | n + 1, x1, x2, x3, x4, x5 => f (lq5 f n) x1 x2 x3 x4 x5
theorem lqS5 {A1 A2 A3 A4 A5 ρ : Type} {f : (A1 → A2 → A3 → A4 → A5 → Option ρ) → A1 → A2 → A3 → A4 → A5 → Option ρ} {n : Nat} {x1 : A1} {x2 : A2} {x3 : A3} {x4 : A4} {x5 : A5} {r : ρ} (h : lq5 f (n + 1) x1 x2 x3 x4 x5 = some r) : f (lq5 f n) x1 x2 x3 x4 x5 = some r := h
theorem lqZ5 {A1 A2 A3 A4 A5 ρ : Type} {f : (A1 → A2 → A3 → A4 → A5 → Option ρ) → A1 → A2 → A3 → A4 → A5 → Option ρ} {x1 : A1} {x2 : A2} {x3 : A3} {x4 : A4} {x5 : A5} {r : ρ} {P : Prop} (h : lq5 f 0 x1 x2 x3 x4 x5 = some r) : P := nomatch h
def lq6 {A1 A2 A3 A4 A5 A6 ρ : Type} (f : (A1 → A2 → A3 → A4 → A5 → A6 → Option ρ) → A1 → A2 → A3 → A4 → A5 → A6 → Option ρ) : Nat → A1 → A2 → A3 → A4 → A5 → A6 → Option ρ
  | 0, _, _, _, _, _, _ => none
  | n + 1, x1, x2, x3, x4, x5, x6 => f (lq6 f n) x1 x2 x3 x4 x5 x6
theorem lqS6 {A1 A2 A3 A4 A5 A6 ρ : Type} {f : (A1 → A2 → A3 → A4 → A5 → A6 → Option ρ) → A1 → A2 → A3 → A4 → A5 → A6 → Option ρ} {n : Nat} {x1 : A1} {x2 : A2} {x3 : A3} {x4 : A4} {x5 : A5} {x6 : A6} {r : ρ} (h : lq6 f (n + 1) x1 x2 x3 x4 x5 x6 = some r) : f (lq6 f n) x1 x2 x3 x4 x5 x6 = some r := h
theorem lqZ6 {A1 A2 A3 A4 A5 A6 ρ : Type} {f : (A1 → A2 → A3 → A4 → A5 → A6 → Option ρ) → A1 → A2 → A3 → A4 → A5 → A6 → Option ρ} {x1 : A1} {x2 : A2} {x3 : A3} {x4 : A4} {x5 : A5} {x6 : A6} {r : ρ} {P : Prop} (h : lq6 f 0 x1 x2 x3 x4 x5 x6 = some r) : P := nomatch h
def lq7 {A1 A2 A3 A4 A5 A6 A7 ρ : Type} (f : (A1 → A2 → A3 → A4 → A5 → A6 → A7 → Option ρ) → A1 → A2 → A3 → A4 → A5 → A6 → A7 → Option ρ) : Nat → A1 → A2 → A3 → A4 → A5 → A6 → A7 → Option ρ
  | 0, _, _, _, _, _, _, _ => none
  | n + 1, x1, x2, x3, x4, x5, x6, x7 => f (lq7 f n) x1 x2 x3 x4 x5 x6 x7
theorem lqS7 {A1 A2 A3 A4 A5 A6 A7 ρ : Type} {f : (A1 → A2 → A3 → A4 → A5 → A6 → A7 → Option ρ) → A1 → A2 → A3 → A4 → A5 → A6 → A7 → Option ρ} {n : Nat} {x1 : A1} {x2 : A2} {x3 : A3} {x4 : A4} {x5 : A5} {x6 : A6} {x7 : A7} {r : ρ} (h : lq7 f (n + 1) x1 x2 x3 x4 x5 x6 x7 = some r) : f (lq7 f n) x1 x2 x3 x4 x5 x6 x7 = some r := h
theorem lqZ7 {A1 A2 A3 A4 A5 A6 A7 ρ : Type} {f : (A1 → A2 → A3 → A4 → A5 → A6 → A7 → Option ρ) → A1 → A2 → A3 → A4 → A5 → A6 → A7 → Option ρ} {x1 : A1} {x2 : A2} {x3 : A3} {x4 : A4} {x5 : A5} {x6 : A6} {x7 : A7} {r : ρ} {P : Prop} (h : lq7 f 0 x1 x2 x3 x4 x5 x6 x7 = some r) : P := nomatch h
