/-! constructors: what is new stands one behind the other -/
def Hp (D : va_G) (n : Nat) (ws : List va_E) (H : Heap) : Prop := H.size = n + ws.length ∧ ∀ (j : Nat) (e : va_E), ws[j]? = some e → va_at D vwCl (n + j, e) H
theorem Hp.keep {D : va_G} {n : Nat} {ws : List va_E} {H H1 : Heap} (h : Hp D n ws H) (z : H1.size = H.size) (k : ∀ q : Nat, n ≤ q → q < H.size → H1[q]? = H[q]?) : Hp D n ws H1 := by
  refine ⟨by rw [z]; exact h.1, fun j e he => (h.2 j e he).kept (k _ (Nat.le_add_right _ _) ?_)⟩
  have := (List.getElem?_eq_some_iff.mp he).1
  rw [h.1]
  exact Nat.add_lt_add_left this _
theorem Hp.app {D : va_G} {n k : Nat} {ws new : List va_E} {H H1 : Heap} (h : Hp D n ws H) (hk : ws.length = k) (kk : ∀ q : Nat, n ≤ q → q < H.size → H1[q]? = H[q]?) (h1 : Hp D (n + k) new H1) : Hp D n (ws ++ new) H1 := by
  subst hk
  refine ⟨by rw [h1.1, List.length_append, Nat.add_assoc], fun j e he => ?_⟩
  by_cases hj : j < ws.length
  · rw [List.getElem?_append_left hj] at he
    exact (h.2 j e he).kept (kk _ (Nat.le_add_right _ _) (by rw [h.1]; exact Nat.add_lt_add_left hj _))
  · rw [List.getElem?_append_right (Nat.le_of_not_lt hj)] at he
    have := h1.2 _ e he
    rw [show n + ws.length + (j - ws.length) = n + j by omega] at this
    exact this
theorem Hp.one {D : va_G} {n : Nat} {e : va_E} {H : Heap} (z : H.size = n + 1) (h : va_at D vwCl (n, e) H) : Hp D n [e] H := by
  refine ⟨z, fun j x hx => ?_⟩
  have hz : j < 1 := (List.getElem?_eq_some_iff.mp hx).1
  obtain rfl : j = 0 := by omega
  cases hx
  exact h
theorem Hp.cons {D : va_G} {n : Nat} {e : va_E} {new : List va_E} {H : Heap} (h : va_at D vwCl (n, e) H) (h1 : Hp D (n + 1) new H) : Hp D n (e :: new) H := by
  refine ⟨by rw [h1.1, List.length_cons]; omega, fun j x hx => ?_⟩
  cases j with
  | zero => cases hx; exact h
  | succ j =>
    have := h1.2 j x hx
    rw [show n + 1 + j = n + (j + 1) by omega] at this
    exact this
theorem Hp.P {D : va_G} {n : Nat} {ws : List va_E} {H : Heap} (h : Hp D n ws H) (j : Nat) {e : va_E} (he : ws[j]? = some e) : va_P D vwCl [(n + j, e)] H := fun k q hk => by
  have hz : k < 1 := (List.getElem?_eq_some_iff.mp hk).1
  obtain rfl : k = 0 := by omega
  cases hk
  exact h.2 j e he
theorem at_P {D : va_G} {a : Nat} {e : va_E} {H : Heap} (h : va_at D vwCl (a, e) H) : va_P D vwCl [(a, e)] H := fun k q hk => by
  have hz : k < 1 := (List.getElem?_eq_some_iff.mp hk).1
  obtain rfl : k = 0 := by omega
  cases hk
  exact h
def AOs (U : State) : Prop := va_AO "TinRoofScore$Order" U ∧ va_AO "TinRoofScore$Print" U
theorem AOs.warm {s U : State} (hW : s.WarmedH U.vm) (h : AOs s) : AOs U := ⟨va_AO.moved hW.alike h.1, va_AO.moved hW.alike h.2⟩
theorem AOs.call {U : State} {g : JFrame} {mk : MethodId} {a : Array Value} (h : AOs U) : AOs (U.calling g mk a) := ⟨va_AO.moved (u := U) (U := U.calling g mk a) (Vm.Alike.refl U.vm) h.1, va_AO.moved (u := U) (U := U.calling g mk a) (Vm.Alike.refl U.vm) h.2⟩
def AC (a sz : Nat) : Nat → Prop := fun q => q = a ∨ sz ≤ q
def BC (D : va_G) (Y : Nat → ClassId) (a : Nat) (e : va_E) (sz : Nat) : State → Prop := fun U => Ev D Y U ∧ AOs U ∧ U.heap.size = sz ∧ a < sz ∧ va_at D vwCl (a, e) U.heap
theorem BC.blind {D : va_G} {Y : Nat → ClassId} {a sz : Nat} {e : va_E} {As : List Value} : FrameBlind (va_Pc As (BC D Y a e sz)) := fun _ _ _ _ h => ⟨h.1, Ev.call h.2.1, AOs.call h.2.2.1, h.2.2.2⟩
def CQ (D : va_G) (a : Nat) (e : va_E) (new : List va_E) (sz : Nat) : Array Value → State → Outcome → State → Prop := va_Qv (fun (_ : Unit) => True) (fun _ t => Hp D sz new t.heap ∧ va_at D vwCl (a, e) t.heap) (AC a sz)
/-- a constructor's contract: the object at a, raw before, made after; mc cells and ms slots are made -/
def CT (l : Launch) (y : MethodName) (b : ByteArray) (n d mc ms : Nat) (D : va_G) (Y : Nat → ClassId) (As : List Value) (a : Nat) (e : va_E) (sz : Nat) (e' : va_E) (new : List va_E) : Prop :=
  Met l y (wc y b n none) (rmD d mc ms) (va_Pc As (BC D Y a e sz)) (CQ D a e' new sz) mc ms (AC a sz)
theorem CT_of {l : Launch} {y : MethodName} {b : ByteArray} {n d mc ms : Nat} {D : va_G} {Y : Nat → ClassId} {As : List Value} {a sz : Nat} {e : va_E} {Qc : Array Value → State → Outcome → State → Prop} {A : Nat → Prop} {lv : List (Nat × Value)} (hy : plainName y.cls = true) (hnm : y.name = "<init>") (hn : (lg_sl As).length ≤ n) (hlv : lv_args 0 As = lv)
    (body : ∀ (p : Program) (ev : Env) (s : State) (m : MethodId) (below : List Frame) (meth : Method) (c : Code) (ls : Array Slot), Fx p c b n s m As.toArray y.cls D Y → AOs s → s.heap.size = sz → a < sz → va_at D vwCl (a, e) s.heap → Hp D sz [] s.heap → va_S (AC a sz) s.heap s.heap [] → meth.sig.returnType = none → meth.locks = false → meth.name = "<init>" → lv_has ls n lv → W p l ev (rmD d mc ms) s m As.toArray below meth c s.heap [] 0 0 (MQ below Qc As.toArray s mc ms A) (F0 m 0 ls [])) : Met l y (wc y b n none) (rmD d mc ms) (va_Pc As (BC D Y a e sz)) Qc mc ms A := by
  refine Met.ofW (cc := b) (maxL := n) (ret := none) hy rfl ?_
  intro p ev s m args below meth c s₁ B hml hv
  obtain ⟨rfl, hE, hO, hz, ha, hT⟩ := hv
  have hts := atoms_spec (ws := wc y b n none) B.pre
  have hl := lv_entry As hn
  rw [lg_entry_eq]
  rw [hlv] at hl
  exact body p ev s m below meth c _ ⟨⟨B.exec, B.bytes, hml, findClass_of_methodNamed B.named, fun w hw => hts w (List.mem_cons_of_mem _ hw)⟩, hE⟩ hO hz ha hT ⟨hz, fun j x hx => by cases hx⟩ va_S.rf B.returns B.notSynchronized ((name_of_methodNamed B.named B.method).1.trans hnm) hl
section CTR
variable {p : Program} {l : Launch} {ev : Env} {R : Room} {s : State} {m : MethodId} {args : Array Value} {below : List Frame} {meth : Method} {c : Code} {H : Heap} {locs : List Loc} {cells slots : Nat} {Q : State → Prop}
variable {cc : ByteArray} {pc nL idx : Nat} {ls : Array Slot} {rest st0 : List Value} {own host : String} {D : va_G} {Y : Nat → ClassId} {ws new : List va_E} {A : Nat → Prop} {H0 : Heap} {sz a : Nat} {e e' : va_E} {TT : Heap → Prop}
theorem c_init (F : Fx p c cc nL s m args own D Y) (hl : Cond.methodLink own idx ⟨"java/lang/Object", "<init>", "()V"⟩ ∈ LW) (hsz : ls.size = nL) (hR : 1 ≤ R.frames ∧ 20 ≤ R.locals) (hdg : decode cc pc = .ok (.invokespecial idx, 3))
    (kk : W p l ev R s m args below meth c H locs cells slots Q (F0 m (pc + 3) ls [])) : W p l ev R s m args below meth c H locs cells slots Q (F0 m pc ls [.ref a]) := by
  exact W.objInit F.1.1 F.1.2.1 F.1.2.2.2.1 (F.1.2.2.2.2 _ hl) (F.1.2.2.2.2 _ mw_43) (F.1.2.2.2.2 _ mw_44) rfl (hsz.trans F.1.2.2.1.symm) rfl hdg hR.1 (Nat.le_trans (Nat.add_le_add_right (lv_room (m := m) (pc := pc) (ls := ls) (rest := [.ref a]) (st := []) (by decide)) 12) hR.2) (W.eq (g2 := F0 m (pc + 3) ls []) rfl kk)
theorem keepT {a sz : Nat} {e : va_E} {H : Heap} (hT : va_at D vwCl (a, e) H) (ha : a < sz) : ∀ H1 : Heap, (∀ q : Nat, q < sz → H1[q]? = H[q]?) → va_at D vwCl (a, e) H1 := fun _ h => hT.kept (h _ ha)
theorem c_put {C : String} {T : u_T} {N ci : Nat} {fs : List Value} (F : Fx p c cc nL s m args own D Y) (ha : a < sz) (hT : va_at D vwCl (a, .inr (ci, fs)) H) (hN : Hp D sz ws H) (hS0 : va_S (AC a sz) H0 H locs) (hc : vwCl[ci]? = some (C, T, N)) (hin : ∀ w ∈ u_ws C T N, w ∈ LW)
    (ty0 : Nat → FieldType) (hty : ∀ k, k < N → parseFieldDescriptor (T k).2.2.1 = some (ty0 k)) (hnm : ∀ a, a < N → ∀ b, b < N → a ≠ b → (T a).2.1 ≠ (T b).2.1) (k : Nat) (hk : k < N) (hlink : Cond.fieldLink own idx (T k).1 (T k).2.1 (T k).2.2.1 ∈ LW) (hfin : (T k).2.2.2 = false) {ty : FieldType} {v : Value} (hd : parseFieldDescriptor (T k).2.2.1 = some ty) (hn : narrow ty v = v) (hfit : fits ty v = true) (hl : k < fs.length) (hdg : decode cc pc = .ok (.putfield idx, 3))
    (kk : ∀ (H1 : Heap) (locs1 : List Loc), va_at D vwCl (a, .inr (ci, fs.set k v)) H1 → Hp D sz ws H1 → va_S (AC a sz) H0 H1 locs1 → W p l ev R s m args below meth c H1 locs1 cells slots Q (F0 m (pc + 3) ls rest)) : W p l ev R s m args below meth c H locs cells slots Q (F0 m pc ls (v :: .ref a :: rest)) := by
  have hts := F.1.2.2.2.2
  have hap := va_apart (own := own) hts hin ty0 hty hnm F.2.1 hc
  obtain ⟨r, h1, cell, q1, q2, q3, q4⟩ := hT
  have hr : r = (C, T, N) := Option.some.inj (h1.symm.trans hc)
  subst hr
  obtain ⟨hS, hfc, kC, hkC, hkind⟩ := F.2.1.1 ci _ hc
  obtain ⟨cf, kf, fi, f, hi, hsl⟩ := hS k hk
  have hlay := hts _ (hin _ (u_in_lay hk))
  unfold u_lay at hlay
  rw [if_neg (by rw [hfin]; decide)] at hlay
  have hst := (u_facts hfc hkC (u_lays hts hin hk) hi).1
  have h6 := u_store hfc hkC hkind hlay hi hd hn hfit
  refine W.putK F.1.1 F.1.2.1 (f := f) ⟨F.1.2.2.2.1, hts _ hlink, ⟨_, _, _, hi⟩, hst⟩ (by rw [q2]; exact h6) q1 q3 (by rw [hsl]; exact k2_hasslot (q4 k hk)) rfl rfl hdg fun H' e1 e2 e3 => ?_
  rw [hsl] at e1 ⊢
  refine kk H' _ ⟨_, hc, t_OB.to (V := updV (vp_V fs) k v) ⟨_, e1, q2, q3, t_set q4 hap hk v⟩ (fun j _ => vp_updV_set hl v j)⟩ (hN.keep e2 (fun q h1 _ => e3 q (Nat.ne_of_gt (Nat.lt_of_lt_of_le ha h1)))) (hS0.put e2 e3 (Or.inl rfl))
theorem c_putF {C : String} {T : u_T} {N ci : Nat} {fs : List Value} (F : Fx p c cc nL s m args own D Y) (hin2 : meth.name = "<init>") (ha : a < sz) (hT : va_at D vwCl (a, .inr (ci, fs)) H) (hN : Hp D sz ws H) (hS0 : va_S (AC a sz) H0 H locs) (hc : vwCl[ci]? = some (C, T, N)) (hin : ∀ w ∈ u_ws C T N, w ∈ LW)
    (ty0 : Nat → FieldType) (hty : ∀ k, k < N → parseFieldDescriptor (T k).2.2.1 = some (ty0 k)) (hnm : ∀ a, a < N → ∀ b, b < N → a ≠ b → (T a).2.1 ≠ (T b).2.1) (k : Nat) (hk : k < N) (hlink : Cond.fieldLink own idx (T k).1 (T k).2.1 (T k).2.2.1 ∈ LW) (hfin : (T k).2.2.2 = true) (hdecl : (T k).1 = own) {ty : FieldType} {v : Value} (hd : parseFieldDescriptor (T k).2.2.1 = some ty) (hn : narrow ty v = v) (hfit : fits ty v = true) (hl : k < fs.length) (hdg : decode cc pc = .ok (.putfield idx, 3))
    (kk : ∀ (H1 : Heap) (locs1 : List Loc), va_at D vwCl (a, .inr (ci, fs.set k v)) H1 → Hp D sz ws H1 → va_S (AC a sz) H0 H1 locs1 → W p l ev R s m args below meth c H1 locs1 cells slots Q (F0 m (pc + 3) ls rest)) : W p l ev R s m args below meth c H locs cells slots Q (F0 m pc ls (v :: .ref a :: rest)) := by
  have hts := F.1.2.2.2.2
  have hown := F.1.2.2.2.1
  have hap := va_apart (own := own) hts hin ty0 hty hnm F.2.1 hc
  obtain ⟨r, h1, cell, q1, q2, q3, q4⟩ := hT
  have hr : r = (C, T, N) := Option.some.inj (h1.symm.trans hc)
  subst hr
  obtain ⟨hS, hfc, kC, hkC, hkind⟩ := F.2.1.1 ci _ hc
  obtain ⟨cf, kf, fi, f, hi, hsl⟩ := hS k hk
  have hlay := hts _ (hin _ (u_in_lay hk))
  unfold u_lay at hlay
  rw [if_pos hfin] at hlay
  have hst := (u_facts hfc hkC (u_lays hts hin hk) hi).1
  have hcf : m.cls = cf := by
    obtain ⟨_, _, c', _, _, _, -, -, hf', -, -, -, hown2, -⟩ := Cond.laysFinal_spec hlay
    have e1 : c' = cf := by have := hi.symm.trans hf'; simp at this; exact this.1.symm
    rw [hdecl] at hown2
    rw [← e1]; exact Option.some.inj (hown.symm.trans hown2)
  have h6 := u_fits hfc hkC hkind (Or.inr hlay) hi hd hn hfit
  refine W.putFinK F.1.1 F.1.2.1 hown (hts _ hlink) hi hst hcf hin2 (by rw [q2]; exact h6) q1 q3 (by rw [hsl]; exact k2_hasslot (q4 k hk)) rfl rfl hdg fun H' e1 e2 e3 => ?_
  rw [hsl] at e1 ⊢
  refine kk H' _ ⟨_, hc, t_OB.to (V := updV (vp_V fs) k v) ⟨_, e1, q2, q3, t_set q4 hap hk v⟩ (fun j _ => vp_updV_set hl v j)⟩ (hN.keep e2 (fun q h1 _ => e3 q (Nat.ne_of_gt (Nat.lt_of_lt_of_le ha h1)))) (hS0.put e2 e3 (Or.inl rfl))
theorem c_newa {atype : ArrayType} {y : ClassId} {k N : Nat} (x0 : vp_A) (F : Fx p c cc nL s m args own D Y) (harr : Cond.arrayClass (newarray.typeOf atype) ∈ LW) (hy : s.vm.findClass ("[" ++ (newarray.typeOf atype).toString) = some y) (hx : vp_cell y x0 = arrV y N (fun _ => defaultValue (newarray.typeOf atype)))
    (hTk : ∀ H1 : Heap, (∀ q : Nat, q < sz → H1[q]? = H[q]?) → TT H1) (hN : Hp D sz ws H) (hk : ws.length = k) (hS : va_S (AC a sz) H0 H locs) {n : Int32} (hn : ¬ n < 0) (hNn : n.toNatClampNeg = N) (hbytes : N * componentBytes (newarray.typeOf atype) ≤ 536870912) (hcells : cells + 1 ≤ R.cells) (hslots : slots + N ≤ R.slots) (hdg : decode cc pc = .ok (.newarray atype, 2))
    (kk : ∀ H1 : Heap, TT H1 → Hp D sz (ws ++ [.inl (y, x0)]) H1 → va_S (AC a sz) H0 H1 locs → W p l ev R s m args below meth c H1 locs (cells + 1) (slots + N) Q (F0 m (pc + 2) ls (.ref (sz + k) :: rest))) : W p l ev R s m args below meth c H locs cells slots Q (F0 m pc ls (.int n :: rest)) := by
  subst hk
  refine va_newaK F.1.1 F.1.2.1 (F.1.2.2.2.2 _ harr) rfl hdg rfl hn hNn hbytes hcells hslots hN.1 fun H1 cA e1 z1 o1 hAr hNm => ?_
  cases hNm.symm.trans hy
  have o2 : ∀ q : Nat, q < H.size → H1[q]? = H[q]? := fun q hq => o1 q (by rw [← hN.1]; exact hq)
  refine kk H1 (hTk H1 (fun q hq => o1 q (Nat.lt_of_lt_of_le hq (Nat.le_add_right _ _)))) (hN.app rfl (fun q _ h2 => o2 q h2) (Hp.one z1 ?_)) ⟨Nat.le_trans hS.1 (by rw [z1, hN.1]; omega), fun x h1 h2 => (o2 x (Nat.lt_of_lt_of_le h1 hS.1)).trans (hS.2.1 x h1 h2), hS.2.2⟩
  show H1[sz + ws.length]? = some (vp_cell _ _)
  rw [hx]
  exact e1
theorem c_newI {k N : Nat} (F : Fx p c cc nL s m args own D Y) (hTk : ∀ H1 : Heap, (∀ q : Nat, q < sz → H1[q]? = H[q]?) → TT H1) (hN : Hp D sz ws H) (hk : ws.length = k) (hS : va_S (AC a sz) H0 H locs) {n : Int32} (hn : ¬ n < 0) (hNn : n.toNatClampNeg = N) (hbytes : N * 4 ≤ 536870912) (hcells : cells + 1 ≤ R.cells) (hslots : slots + N ≤ R.slots) (hdg : decode cc pc = .ok (.newarray .int, 2))
    (kk : ∀ H1 : Heap, TT H1 → Hp D sz (ws ++ [.inl (Y 0, N, .inl (fun _ => 0))]) H1 → va_S (AC a sz) H0 H1 locs → W p l ev R s m args below meth c H1 locs (cells + 1) (slots + N) Q (F0 m (pc + 2) ls (.ref (sz + k) :: rest))) : W p l ev R s m args below meth c H locs cells slots Q (F0 m pc ls (.int n :: rest)) :=
  c_newa (atype := .int) (y := Y 0) (N, .inl (fun _ => 0)) F mw_85 (F.2.1.2 0 _ rfl).2 rfl hTk hN hk hS hn hNn hbytes hcells hslots hdg kk
theorem c_newC {k N : Nat} (F : Fx p c cc nL s m args own D Y) (hTk : ∀ H1 : Heap, (∀ q : Nat, q < sz → H1[q]? = H[q]?) → TT H1) (hN : Hp D sz ws H) (hk : ws.length = k) (hS : va_S (AC a sz) H0 H locs) {n : Int32} (hn : ¬ n < 0) (hNn : n.toNatClampNeg = N) (hbytes : N * 2 ≤ 536870912) (hcells : cells + 1 ≤ R.cells) (hslots : slots + N ≤ R.slots) (hdg : decode cc pc = .ok (.newarray .char, 2))
    (kk : ∀ H1 : Heap, TT H1 → Hp D sz (ws ++ [.inl (Y 1, N, .inl (fun _ => 0))]) H1 → va_S (AC a sz) H0 H1 locs → W p l ev R s m args below meth c H1 locs (cells + 1) (slots + N) Q (F0 m (pc + 2) ls (.ref (sz + k) :: rest))) : W p l ev R s m args below meth c H locs cells slots Q (F0 m pc ls (.int n :: rest)) :=
  c_newa (atype := .char) (y := Y 1) (N, .inl (fun _ => 0)) F mw_148 (F.2.1.2 1 _ rfl).2 rfl hTk hN hk hS hn hNn hbytes hcells hslots hdg kk
theorem c_newL {k N : Nat} (F : Fx p c cc nL s m args own D Y) (hTk : ∀ H1 : Heap, (∀ q : Nat, q < sz → H1[q]? = H[q]?) → TT H1) (hN : Hp D sz ws H) (hk : ws.length = k) (hS : va_S (AC a sz) H0 H locs) {n : Int32} (hn : ¬ n < 0) (hNn : n.toNatClampNeg = N) (hbytes : N * 8 ≤ 536870912) (hcells : cells + 1 ≤ R.cells) (hslots : slots + N ≤ R.slots) (hdg : decode cc pc = .ok (.newarray .long, 2))
    (kk : ∀ H1 : Heap, TT H1 → Hp D sz (ws ++ [.inl (Y 4, N, .inr (.inl (fun _ => 0)))]) H1 → va_S (AC a sz) H0 H1 locs → W p l ev R s m args below meth c H1 locs (cells + 1) (slots + N) Q (F0 m (pc + 2) ls (.ref (sz + k) :: rest))) : W p l ev R s m args below meth c H locs cells slots Q (F0 m pc ls (.int n :: rest)) :=
  c_newa (atype := .long) (y := Y 4) (N, .inr (.inl (fun _ => 0))) F mw_1477 (F.2.1.2 4 _ rfl).2 rfl hTk hN hk hS hn hNn hbytes hcells hslots hdg kk
theorem c_newq {C : String} {k N t : Nat} {y : ClassId} (F : Fx p c cc nL s m args own D Y) (hcl : Cond.classLink own idx C ∈ LW) (hO : va_AO C s) (ht : (TY Y)[t]? = some (y, .object C)) (hTk : ∀ H1 : Heap, (∀ q : Nat, q < sz → H1[q]? = H[q]?) → TT H1) (hN : Hp D sz ws H) (hk : ws.length = k) (hS : va_S (AC a sz) H0 H locs) {n : Int32} (hn : ¬ n < 0) (hNn : n.toNatClampNeg = N) (hbytes : N * 4 ≤ 536870912) (hcells : cells + 1 ≤ R.cells) (hslots : slots + N ≤ R.slots) (hdg : decode cc pc = .ok (.anewarray idx, 3))
    (kk : ∀ H1 : Heap, TT H1 → Hp D sz (ws ++ [.inl (y, N, .inr (.inr (.inr (.inr (fun _ => none)))))]) H1 → va_S (AC a sz) H0 H1 locs → W p l ev R s m args below meth c H1 locs (cells + 1) (slots + N) Q (F0 m (pc + 3) ls (.ref (sz + k) :: rest))) : W p l ev R s m args below meth c H locs cells slots Q (F0 m pc ls (.int n :: rest)) := by
  subst hk
  subst hNn
  obtain ⟨kA', comp', -, -, -, g4⟩ := (F.2.1.2 t _ ht).2
  refine W.anew F.1.1 F.1.2.1 F.1.2.2.2.1 (F.1.2.2.2.2 _ hcl) (va_AO.use hO) rfl hdg rfl hn hbytes hcells hslots fun cA kA comp f1 f2 f3 f4 => ?_
  cases f1.symm.trans g4
  rw [hN.1]
  generalize hH1 : H.push ({ cls := y, slots := Array.replicate n.toNatClampNeg .null, vm := .none } : Cell) = H1
  have z1 : H1.size = H.size + 1 := by rw [← hH1, Array.size_push]
  have e1 : H1[H.size]? = some (arrV y n.toNatClampNeg (fun _ => .null)) := by rw [← hH1, Array.getElem?_push_size, ← arrV_new]
  have o1 : ∀ q : Nat, q < H.size → H1[q]? = H[q]? := fun q hq => by rw [← hH1, Array.getElem?_push, if_neg (Nat.ne_of_lt hq)]
  rw [hN.1] at z1 e1
  have o2 : ∀ q : Nat, q < H.size → H1[q]? = H[q]? := o1
  refine kk H1 (hTk H1 (fun q hq => o1 q (by rw [hN.1]; exact Nat.lt_of_lt_of_le hq (Nat.le_add_right _ _)))) (hN.app rfl (fun q _ h2 => o2 q h2) (Hp.one z1 ?_)) ⟨Nat.le_trans hS.1 (by rw [z1, hN.1]; omega), fun x h1 h2 => (o2 x (Nat.lt_of_lt_of_le h1 hS.1)).trans (hS.2.1 x h1 h2), hS.2.2⟩
  show H1[sz + ws.length]? = some (vp_cell _ _)
  rw [vp_cell_q]
  exact e1
theorem c_new {C : String} {T : u_T} {N ci k : Nat} {fs : List Value} (F : Fx p c cc nL s m args own D Y) (hin : ∀ w ∈ u_ws C T N, w ∈ LW) (ty : Nat → FieldType) (hty : ∀ k, k < N → parseFieldDescriptor (T k).2.2.1 = some (ty k)) (hcl : Cond.classLink own idx C ∈ LW) (hinst : Cond.instantiable C N ∈ LW) (hini : Cond.initialized C ∈ LW) (hc : vwCl[ci]? = some (C, T, N)) (hfs : ∀ j, j < N → defaultValue (ty j) = vp_V fs j)
    (hTk : ∀ H1 : Heap, (∀ q : Nat, q < sz → H1[q]? = H[q]?) → TT H1) (hN : Hp D sz ws H) (hk : ws.length = k) (hS : va_S (AC a sz) H0 H locs) (hcells : cells + 1 ≤ R.cells) (hslots : slots + N ≤ R.slots) (hdg : decode cc pc = .ok (.new idx, 3))
    (kk : ∀ H1 : Heap, TT H1 → Hp D sz (ws ++ [.inr (ci, fs)]) H1 → va_S (AC a sz) H0 H1 locs → W p l ev R s m args below meth c H1 locs (cells + 1) (slots + N) Q (F0 m (pc + 3) ls (.ref (sz + k) :: rest))) : W p l ev R s m args below meth c H locs cells slots Q (F0 m pc ls rest) := by
  subst hk
  have hKn := F.2.1.1 ci _ hc
  have hts := F.1.2.2.2.2
  refine W.newcK F.1.1 F.1.2.1 F.1.2.2.2.1 (hts _ hcl) (hts _ hinst) (hts _ hini) rfl hdg hcells hslots hKn.2.1 hN.1 fun H1 kC hkC e1 z1 o1 => ?_
  have o2 : ∀ q : Nat, q < H.size → H1[q]? = H[q]? := fun q hq => o1 q (by rw [← hN.1]; exact hq)
  exact kk H1 (hTk H1 (fun q hq => o1 q (Nat.lt_of_lt_of_le hq (Nat.le_add_right _ _)))) (hN.app rfl (fun q _ h2 => o2 q h2) (Hp.one z1 ⟨_, hc, (u_born ty hts hin hKn hkC e1 hty).to hfs⟩)) ⟨Nat.le_trans hS.1 (by rw [z1, hN.1]; omega), fun x h1 h2 => (o2 x (Nat.lt_of_lt_of_le h1 hS.1)).trans (hS.2.1 x h1 h2), hS.2.2⟩
/-- what a constructor's call needs -/
def CKI (y : MethodName) (b : ByteArray) (n ar : Nat) : Prop := Cond.instanceMethod y ∈ LW ∧ Cond.initialized y.cls ∈ LW ∧ Cond.code y b n none ∈ LW ∧ (y.cls ≠ "java/lang/invoke/MethodHandle" ∧ y.cls ≠ "java/lang/invoke/VarHandle" ∧ (parseMethodDescriptor y.desc).map (fun d => d.parameters.length) = some ar) ∧ y.name = "<init>"
theorem BC.of {U : State} {j : Nat} (hE : Ev D Y s) (hO : AOs s) (hN : Hp D sz (ws ++ [e]) H) (hj : ws.length = j) (hU : U.heap = H) (hW : s.WarmedH U.vm) : BC D Y (sz + j) e (sz + (j + 1)) U := by
  subst hj
  refine ⟨Ev.warm hW hE, AOs.warm hW hO, by rw [hU, hN.1, List.length_append]; rfl, by omega, ?_⟩
  rw [hU]
  exact hN.2 ws.length e (by simp)
theorem c_done {H1 : Heap} {j : Nat} (hN : Hp D sz (ws ++ [e]) H) (hj : ws.length = j) (hB : Hp D (sz + (j + 1)) new H1 ∧ va_at D vwCl (sz + j, e') H1) (hF : ∀ q : Nat, q < H.size → ¬ AC (sz + j) (sz + (j + 1)) q → H1[q]? = H[q]?) : Hp D sz (ws ++ e' :: new) H1 ∧ ∀ q : Nat, q < sz → H1[q]? = H[q]? := by
  subst hj
  have hz : H.size = sz + (ws.length + 1) := by rw [hN.1, List.length_append]; rfl
  have k1 : ∀ q : Nat, q < sz + ws.length → H1[q]? = H[q]? := fun q hq => hF q (by omega) (fun h => by rcases h with h | h <;> omega)
  refine ⟨?_, fun q hq => k1 q (by omega)⟩
  have hN0 : ∀ (j : Nat) (x : va_E), ws[j]? = some x → va_at D vwCl (sz + j, x) H := fun j x hx => hN.2 j x (by
    have := (List.getElem?_eq_some_iff.mp hx).1
    rw [List.getElem?_append_left this]; exact hx)
  have hc := Hp.cons hB.2 hB.1
  refine ⟨by rw [hc.1, List.length_append]; omega, fun j x hx => ?_⟩
  by_cases hj : j < ws.length
  · rw [List.getElem?_append_left hj] at hx
    exact (hN0 j x hx).kept (k1 _ (by show sz + j < _; omega))
  · rw [List.getElem?_append_right (Nat.le_of_not_lt hj)] at hx
    have := hc.2 _ x hx
    rw [show sz + ws.length + (j - ws.length) = sz + j by omega] at this
    exact this
theorem c_callN {y : MethodName} {b : ByteArray} {n ar d mc ms j : Nat} {As : List Value} (F : Fx p c cc nL s m args own D Y) (hO : AOs s) (k : CKI y b n ar) (hl : Cond.methodLinkNest own idx y host ∈ NW)
    (hTk : ∀ H1 : Heap, (∀ q : Nat, q < sz → H1[q]? = H[q]?) → TT H1) (hN : Hp D sz (ws ++ [e]) H) (hj : ws.length = j) (hS : va_S (AC a sz) s.heap H locs) (hsz0 : s.heap.size = sz)
    (hM : CT l y b n d mc ms D Y (.ref (sz + j) :: As) (sz + j) e (sz + (j + 1)) e' new) (hn : As.length = ar) (hsz : ls.size = nL) (hR : d + 1 ≤ R.frames ∧ 8 + (n + 11) + 40 * d ≤ R.locals) (hst : st0 = As.reverse ++ .ref (sz + j) :: rest) (hcat : (rest.map fun v => v.category).sum ≤ 8) (hc : cells + mc ≤ R.cells ∧ slots + ms ≤ R.slots) (hdg : decode cc pc = .ok (.invokespecial idx, 3))
    (kk : ∀ (H1 : Heap) (locs1 : List Loc), TT H1 → Hp D sz (ws ++ e' :: new) H1 → va_S (AC a sz) s.heap H1 locs1 → W p l ev R s m args below meth c H1 locs1 (cells + mc) (slots + ms) Q (F0 m (pc + 3) ls rest)) : W p l ev R s m args below meth c H locs cells slots Q (F0 m pc ls st0) := by
  subst hst
  refine va_callv (A0 := AC a sz) (va_runIN (As := As) (rest := rest) F.1 hM ⟨va_cnB (ws' := LW) ar F.1.2.2.2.2 (LW_goodc k.2.2.1) rfl rfl rfl (F.2.2 _ hl) (F.1.2.2.2.2 _ k.2.1) k.2.2.2.1 hR, k.2.2.2.2, F.1.2.2.2.2 _ k.1⟩ ⟨BC.blind, fun U hU hW => ⟨rfl, BC.of F.2 hO hN hj hU hW⟩⟩ rfl hn hsz rfl (lv_room hcat) hdg hc) hS (fun q _ h => Or.inr ?_) (fun q h => Or.inr ?_) (fun u t H1 locs1 ht _ _ hB _ hF hS1 => ?_)
  · rcases h with h | h <;> omega
  · rcases h with h | h <;> omega
  · rw [ht] at hB
    have := c_done hN hj hB hF
    exact kk H1 locs1 (hTk H1 this.2) this.1 hS1
theorem c_call {y : MethodName} {b : ByteArray} {n ar d mc ms j : Nat} {As : List Value} (F : Fx p c cc nL s m args own D Y) (hO : AOs s) (k : CKI y b n ar) (hl : Cond.methodLink own idx y ∈ LW)
    (hTk : ∀ H1 : Heap, (∀ q : Nat, q < sz → H1[q]? = H[q]?) → TT H1) (hN : Hp D sz (ws ++ [e]) H) (hj : ws.length = j) (hS : va_S (AC a sz) s.heap H locs) (hsz0 : s.heap.size = sz)
    (hM : CT l y b n d mc ms D Y (.ref (sz + j) :: As) (sz + j) e (sz + (j + 1)) e' new) (hn : As.length = ar) (hsz : ls.size = nL) (hR : d + 1 ≤ R.frames ∧ 8 + (n + 11) + 40 * d ≤ R.locals) (hst : st0 = As.reverse ++ .ref (sz + j) :: rest) (hcat : (rest.map fun v => v.category).sum ≤ 8) (hc : cells + mc ≤ R.cells ∧ slots + ms ≤ R.slots) (hdg : decode cc pc = .ok (.invokespecial idx, 3))
    (kk : ∀ (H1 : Heap) (locs1 : List Loc), TT H1 → Hp D sz (ws ++ e' :: new) H1 → va_S (AC a sz) s.heap H1 locs1 → W p l ev R s m args below meth c H1 locs1 (cells + mc) (slots + ms) Q (F0 m (pc + 3) ls rest)) : W p l ev R s m args below meth c H locs cells slots Q (F0 m pc ls st0) := by
  subst hst
  refine va_callv (A0 := AC a sz) (va_runI (As := As) (rest := rest) F.1 hM ⟨callB_of (ws' := LW) ar F.1.2.2.2.2 (LW_goodc k.2.2.1) rfl rfl rfl (F.1.2.2.2.2 _ k.2.1) (F.1.2.2.2.2 _ hl) k.2.2.2.1 hR, k.2.2.2.2, F.1.2.2.2.2 _ k.1⟩ ⟨BC.blind, fun U hU hW => ⟨rfl, BC.of F.2 hO hN hj hU hW⟩⟩ rfl hn hsz rfl (lv_room hcat) hdg hc) hS (fun q _ h => Or.inr ?_) (fun q h => Or.inr ?_) (fun u t H1 locs1 ht _ _ hB _ hF hS1 => ?_)
  · rcases h with h | h <;> omega
  · rcases h with h | h <;> omega
  · rw [ht] at hB
    have := c_done hN hj hB hF
    exact kk H1 locs1 (hTk H1 this.2) this.1 hS1
/-- an int is laid into the first of the new arrays -/
theorem c_ast0 {N : Nat} {f : Nat → Int32} (F : Fx p c cc nL s m args own D Y) (ha : a < sz) (hT : va_at D vwCl (a, e) H) (hN : Hp D sz (.inl (Y 0, N, .inl f) :: ws) H) (hS : va_S (AC a sz) H0 H locs) {i x : Int32} (hi : vp_in i N) (hdg : decode cc pc = .ok (.iastore, 1))
    (kk : ∀ (H1 : Heap) (locs1 : List Loc), va_at D vwCl (a, e) H1 → Hp D sz (.inl (Y 0, N, .inl (upd f i.toNatClampNeg x)) :: ws) H1 → va_S (AC a sz) H0 H1 locs1 → W p l ev R s m args below meth c H1 locs1 cells slots Q (F0 m (pc + 1) ls rest)) : W p l ev R s m args below meth c H locs cells slots Q (F0 m pc ls (.int x :: .int i :: .ref sz :: rest)) := by
  have h0 : H[sz]? = some (vp_cell (Y 0) (N, .inl f)) := hN.2 0 _ rfl
  refine W.iast F.1.1 F.1.2.1 h0 ((F.2.1.2 0 _ rfl).1 N (fun j => .int (f j))) (fun q => by cases q) (by show ¬ (i < 0 ∨ (arrV _ _ _).slots.size ≤ _); rw [arrV_size]; exact hi) rfl rfl hdg fun H1 e1 z oq => ?_
  refine kk H1 _ (hT.kept (oq _ (Nat.ne_of_lt ha))) ⟨by rw [z, hN.1]; rfl, fun j y hy => ?_⟩ (hS.put z oq (Or.inr (Nat.le_refl _)))
  cases j with
  | zero =>
    cases hy
    show H1[sz]? = some (vp_cell _ _)
    rw [e1]
    rw [vp_cell_i, vp_cell_i, arrV_store]
    congr 2
    funext q
    by_cases hq : q = i.toNatClampNeg
    · subst hq
      simp [updV, upd]
    · simp [updV, upd, hq]
  | succ j =>
    exact (hN.2 (j + 1) y hy).kept (oq _ (by show sz + (j + 1) ≠ sz; omega))
theorem c_end (F : Fx p c cc nL s m args own D Y) (hT : va_at D vwCl (a, e') H) (hN : Hp D sz new H) (hS : va_S (AC a sz) s.heap H locs) (hr : meth.sig.returnType = none) (hk : meth.locks = false) (hdg : decode cc pc = .ok (.return_, 1)) : W p l ev R s m args below meth c H locs cells slots (MQ below (CQ D a e' new sz) args s cells slots (AC a sz)) (F0 m pc ls []) :=
  W.vret F.1.1 F.1.2.1 hr (fun t ht _ => ⟨⟨(), rfl, trivial, by show _ ∧ va_at _ _ _ t.heap; rw [ht]; exact ⟨hN, hT⟩⟩, hS.F ht⟩) hS.2.2 hdg hk
end CTR
theorem df_X0 : ∀ j, j < 3 → defaultValue (tyX0 j) = vp_V ([.null, .int 0, .int 0] : List Value) j := fun j hj => by rcases (show j = 0 ∨ j = 1 ∨ j = 2 by omega) with rfl | rfl | rfl <;> rfl
theorem ki_X0 : CKI yX0_init cX0_init 2 0 := ⟨mw_182, mw_9, mw_183, by decide +kernel, rfl⟩
theorem df_X1 : ∀ j, j < 3 → defaultValue (tyX1 j) = vp_V ([.null, .int 0, .int 0] : List Value) j := fun j hj => by rcases (show j = 0 ∨ j = 1 ∨ j = 2 by omega) with rfl | rfl | rfl <;> rfl
theorem ki_X1 : CKI yX1_init cX1_init 2 1 := ⟨mw_89, mw_3, mw_90, by decide +kernel, rfl⟩
theorem df_X2 : ∀ j, j < 3 → defaultValue (tyX2 j) = vp_V ([.null, .null, .int 0] : List Value) j := fun j hj => by rcases (show j = 0 ∨ j = 1 ∨ j = 2 by omega) with rfl | rfl | rfl <;> rfl
theorem ki_X2 : CKI yX2_init cX2_init 2 1 := ⟨mw_135, mw_7, mw_136, by decide +kernel, rfl⟩
theorem df_X3 : ∀ j, j < 1 → defaultValue (tyX3 j) = vp_V ([.null] : List Value) j := fun j hj => by rcases (show j = 0 by omega) with rfl <;> rfl
theorem ki_X3 : CKI yX3_init cX3_init 2 1 := ⟨mw_115, mw_5, mw_116, by decide +kernel, rfl⟩
theorem df_X5 : ∀ j, j < 11 → defaultValue (tyX5 j) = vp_V ([.null, .null, .null, .null, .null, .null, .int 0, .int 0, .int 0, .int 0, .int 0] : List Value) j := fun j hj => by rcases (show j = 0 ∨ j = 1 ∨ j = 2 ∨ j = 3 ∨ j = 4 ∨ j = 5 ∨ j = 6 ∨ j = 7 ∨ j = 8 ∨ j = 9 ∨ j = 10 by omega) with rfl | rfl | rfl | rfl | rfl | rfl | rfl | rfl | rfl | rfl | rfl <;> rfl
theorem ki_X5 : CKI yX5_init cX5_init 1 0 := ⟨mw_48, mw_2, mw_49, by decide +kernel, rfl⟩
theorem df_X6 : ∀ j, j < 1 → defaultValue (tyX6 j) = vp_V ([.null] : List Value) j := fun j hj => by rcases (show j = 0 by omega) with rfl <;> rfl
theorem ki_X6 : CKI yX6_init cX6_init 2 1 := ⟨mw_105, mw_4, mw_106, by decide +kernel, rfl⟩
theorem df_X7 : ∀ j, j < 1 → defaultValue (tyX7 j) = vp_V ([.null] : List Value) j := fun j hj => by rcases (show j = 0 by omega) with rfl <;> rfl
theorem ki_X7 : CKI yX7_init cX7_init 2 1 := ⟨mw_125, mw_6, mw_126, by decide +kernel, rfl⟩
theorem df_X8 : ∀ j, j < 7 → defaultValue (tyX8 j) = vp_V ([.null, .null, .null, .int 0, .int 0, .int 0, .int 0] : List Value) j := fun j hj => by rcases (show j = 0 ∨ j = 1 ∨ j = 2 ∨ j = 3 ∨ j = 4 ∨ j = 5 ∨ j = 6 by omega) with rfl | rfl | rfl | rfl | rfl | rfl | rfl <;> rfl
theorem ki_X8 : CKI yX8_init cX8_init 1 0 := ⟨mw_152, mw_8, mw_153, by decide +kernel, rfl⟩
theorem df_X9 : ∀ j, j < 11 → defaultValue (tyX9 j) = vp_V ([.null, .null, .null, .null, .null, .null, .null, .null, .null, .null, .int 0] : List Value) j := fun j hj => by rcases (show j = 0 ∨ j = 1 ∨ j = 2 ∨ j = 3 ∨ j = 4 ∨ j = 5 ∨ j = 6 ∨ j = 7 ∨ j = 8 ∨ j = 9 ∨ j = 10 by omega) with rfl | rfl | rfl | rfl | rfl | rfl | rfl | rfl | rfl | rfl | rfl <;> rfl
theorem ki_X9 : CKI yX9_init cX9_init 1 0 := ⟨mw_40, mw_1, mw_41, by decide +kernel, rfl⟩
/-- TinRoofScore$Print, made: the object, with what is new behind sz; the new cells -/
def e_X5 (sz : Nat) : va_E := .inr (6, [.ref (sz + 0), .ref (sz + 1), .ref (sz + 2), .ref (sz + 3), .ref (sz + 4), .ref (sz + 5), .int 0, .int 0, .int 4, .int 0, .int 0])
def n_X5 (Y : Nat → ClassId) (sz : Nat) : List va_E := [.inl (Y 0, 6, .inl (fun _ => 0)), .inl (Y 0, 4, .inl (fun _ => 0)), .inl (Y 0, 4, .inl (fun _ => 0)), .inl (Y 0, 16, .inl (fun _ => 0)), .inl (Y 0, 16, .inl (fun _ => 0)), .inl (Y 0, 16, .inl (fun _ => 0))]
set_option maxRecDepth 100000 in
set_option maxHeartbeats 4000000 in
theorem q_X5_init (l : Launch) (D : va_G) (Y : Nat → ClassId) (a sz : Nat) : CT l yX5_init cX5_init 1 1 6 62 D Y [.ref a] a (.inr (6, [.null, .null, .null, .null, .null, .null, .int 0, .int 0, .int 0, .int 0, .int 0])) sz (e_X5 sz) (n_X5 Y sz) := by
  refine CT_of (by decide) rfl (Nat.le_of_ble_eq_true rfl) (lv := [(0, .ref a)]) rfl ?_
  intro pp ev s m below meth c ls F hO hz ha hT hN hS hr hk hn hl
  have F : Fx pp c cX5_init 1 s m _ RX5 D Y := F
  have hx := F.1.1
  have hb := F.1.2.1
  refine lv_aload_n hx hb dX5_init_0 rfl (lv_at hl 0 rfl) ?_
  refine c_init F mw_50 hl.1 ⟨Nat.le_of_ble_eq_true rfl, Nat.le_of_ble_eq_true rfl⟩ dX5_init_1 ?_
  refine lv_aload_n hx hb dX5_init_4 rfl (lv_at hl 0 rfl) ?_
  refine lv_bipush (v := 6) hx hb dX5_init_5 (by decide) ?_
  refine c_newI (k := 0) (N := 6) F (keepT hT ha) hN rfl hS (by decide) (by decide) (by decide) (Nat.le_of_ble_eq_true rfl) (Nat.le_of_ble_eq_true rfl) dX5_init_7 ?_
  intro H1 hT hN hS
  refine c_putF F hn ha hT hN hS rfl i_X5 tyX5 tyX5_ok nmX5 0 (by decide) mw_51 rfl rfl (tyX5_ok 0 (by decide)) rfl rfl (Nat.le_of_ble_eq_true rfl) dX5_init_9 ?_
  intro H1 L1 hT hN hS
  have hT : va_at D vwCl (a, .inr (6, [.ref (sz + 0), .null, .null, .null, .null, .null, .int 0, .int 0, .int 0, .int 0, .int 0])) H1 := hT
  refine lv_aload_n hx hb dX5_init_12 rfl (lv_at hl 0 rfl) ?_
  refine lv_iconst (v := 4) hx hb dX5_init_13 (by decide) ?_
  refine c_newI (k := 1) (N := 4) F (keepT hT ha) hN rfl hS (by decide) (by decide) (by decide) (Nat.le_of_ble_eq_true rfl) (Nat.le_of_ble_eq_true rfl) dX5_init_14 ?_
  intro H1 hT hN hS
  refine c_putF F hn ha hT hN hS rfl i_X5 tyX5 tyX5_ok nmX5 1 (by decide) mw_52 rfl rfl (tyX5_ok 1 (by decide)) rfl rfl (Nat.le_of_ble_eq_true rfl) dX5_init_16 ?_
  intro H1 L1 hT hN hS
  have hT : va_at D vwCl (a, .inr (6, [.ref (sz + 0), .ref (sz + 1), .null, .null, .null, .null, .int 0, .int 0, .int 0, .int 0, .int 0])) H1 := hT
  refine lv_aload_n hx hb dX5_init_19 rfl (lv_at hl 0 rfl) ?_
  refine lv_iconst (v := 4) hx hb dX5_init_20 (by decide) ?_
  refine c_newI (k := 2) (N := 4) F (keepT hT ha) hN rfl hS (by decide) (by decide) (by decide) (Nat.le_of_ble_eq_true rfl) (Nat.le_of_ble_eq_true rfl) dX5_init_21 ?_
  intro H1 hT hN hS
  refine c_putF F hn ha hT hN hS rfl i_X5 tyX5 tyX5_ok nmX5 2 (by decide) mw_53 rfl rfl (tyX5_ok 2 (by decide)) rfl rfl (Nat.le_of_ble_eq_true rfl) dX5_init_23 ?_
  intro H1 L1 hT hN hS
  have hT : va_at D vwCl (a, .inr (6, [.ref (sz + 0), .ref (sz + 1), .ref (sz + 2), .null, .null, .null, .int 0, .int 0, .int 0, .int 0, .int 0])) H1 := hT
  refine lv_aload_n hx hb dX5_init_26 rfl (lv_at hl 0 rfl) ?_
  refine lv_bipush (v := 16) hx hb dX5_init_27 (by decide) ?_
  refine c_newI (k := 3) (N := 16) F (keepT hT ha) hN rfl hS (by decide) (by decide) (by decide) (Nat.le_of_ble_eq_true rfl) (Nat.le_of_ble_eq_true rfl) dX5_init_29 ?_
  intro H1 hT hN hS
  refine c_putF F hn ha hT hN hS rfl i_X5 tyX5 tyX5_ok nmX5 3 (by decide) mw_54 rfl rfl (tyX5_ok 3 (by decide)) rfl rfl (Nat.le_of_ble_eq_true rfl) dX5_init_31 ?_
  intro H1 L1 hT hN hS
  have hT : va_at D vwCl (a, .inr (6, [.ref (sz + 0), .ref (sz + 1), .ref (sz + 2), .ref (sz + 3), .null, .null, .int 0, .int 0, .int 0, .int 0, .int 0])) H1 := hT
  refine lv_aload_n hx hb dX5_init_34 rfl (lv_at hl 0 rfl) ?_
  refine lv_bipush (v := 16) hx hb dX5_init_35 (by decide) ?_
  refine c_newI (k := 4) (N := 16) F (keepT hT ha) hN rfl hS (by decide) (by decide) (by decide) (Nat.le_of_ble_eq_true rfl) (Nat.le_of_ble_eq_true rfl) dX5_init_37 ?_
  intro H1 hT hN hS
  refine c_putF F hn ha hT hN hS rfl i_X5 tyX5 tyX5_ok nmX5 4 (by decide) mw_55 rfl rfl (tyX5_ok 4 (by decide)) rfl rfl (Nat.le_of_ble_eq_true rfl) dX5_init_39 ?_
  intro H1 L1 hT hN hS
  have hT : va_at D vwCl (a, .inr (6, [.ref (sz + 0), .ref (sz + 1), .ref (sz + 2), .ref (sz + 3), .ref (sz + 4), .null, .int 0, .int 0, .int 0, .int 0, .int 0])) H1 := hT
  refine lv_aload_n hx hb dX5_init_42 rfl (lv_at hl 0 rfl) ?_
  refine lv_bipush (v := 16) hx hb dX5_init_43 (by decide) ?_
  refine c_newI (k := 5) (N := 16) F (keepT hT ha) hN rfl hS (by decide) (by decide) (by decide) (Nat.le_of_ble_eq_true rfl) (Nat.le_of_ble_eq_true rfl) dX5_init_45 ?_
  intro H1 hT hN hS
  refine c_putF F hn ha hT hN hS rfl i_X5 tyX5 tyX5_ok nmX5 5 (by decide) mw_56 rfl rfl (tyX5_ok 5 (by decide)) rfl rfl (Nat.le_of_ble_eq_true rfl) dX5_init_47 ?_
  intro H1 L1 hT hN hS
  have hT : va_at D vwCl (a, .inr (6, [.ref (sz + 0), .ref (sz + 1), .ref (sz + 2), .ref (sz + 3), .ref (sz + 4), .ref (sz + 5), .int 0, .int 0, .int 0, .int 0, .int 0])) H1 := hT
  refine lv_aload_n hx hb dX5_init_50 rfl (lv_at hl 0 rfl) ?_
  refine lv_iconst (v := 0) hx hb dX5_init_51 (by decide) ?_
  refine c_put F ha hT hN hS rfl i_X5 tyX5 tyX5_ok nmX5 6 (by decide) mw_57 rfl (tyX5_ok 6 (by decide)) rfl rfl (Nat.le_of_ble_eq_true rfl) dX5_init_52 ?_
  intro H1 L1 hT hN hS
  have hT : va_at D vwCl (a, .inr (6, [.ref (sz + 0), .ref (sz + 1), .ref (sz + 2), .ref (sz + 3), .ref (sz + 4), .ref (sz + 5), .int 0, .int 0, .int 0, .int 0, .int 0])) H1 := hT
  refine lv_aload_n hx hb dX5_init_55 rfl (lv_at hl 0 rfl) ?_
  refine lv_iconst (v := 0) hx hb dX5_init_56 (by decide) ?_
  refine c_put F ha hT hN hS rfl i_X5 tyX5 tyX5_ok nmX5 7 (by decide) mw_58 rfl (tyX5_ok 7 (by decide)) rfl rfl (Nat.le_of_ble_eq_true rfl) dX5_init_57 ?_
  intro H1 L1 hT hN hS
  have hT : va_at D vwCl (a, .inr (6, [.ref (sz + 0), .ref (sz + 1), .ref (sz + 2), .ref (sz + 3), .ref (sz + 4), .ref (sz + 5), .int 0, .int 0, .int 0, .int 0, .int 0])) H1 := hT
  refine lv_aload_n hx hb dX5_init_60 rfl (lv_at hl 0 rfl) ?_
  refine lv_iconst (v := 4) hx hb dX5_init_61 (by decide) ?_
  refine c_put F ha hT hN hS rfl i_X5 tyX5 tyX5_ok nmX5 8 (by decide) mw_59 rfl (tyX5_ok 8 (by decide)) rfl rfl (Nat.le_of_ble_eq_true rfl) dX5_init_62 ?_
  intro H1 L1 hT hN hS
  have hT : va_at D vwCl (a, .inr (6, [.ref (sz + 0), .ref (sz + 1), .ref (sz + 2), .ref (sz + 3), .ref (sz + 4), .ref (sz + 5), .int 0, .int 0, .int 4, .int 0, .int 0])) H1 := hT
  refine lv_aload_n hx hb dX5_init_65 rfl (lv_at hl 0 rfl) ?_
  refine lv_iconst (v := 0) hx hb dX5_init_66 (by decide) ?_
  refine c_put F ha hT hN hS rfl i_X5 tyX5 tyX5_ok nmX5 9 (by decide) mw_60 rfl (tyX5_ok 9 (by decide)) rfl rfl (Nat.le_of_ble_eq_true rfl) dX5_init_67 ?_
  intro H1 L1 hT hN hS
  have hT : va_at D vwCl (a, .inr (6, [.ref (sz + 0), .ref (sz + 1), .ref (sz + 2), .ref (sz + 3), .ref (sz + 4), .ref (sz + 5), .int 0, .int 0, .int 4, .int 0, .int 0])) H1 := hT
  refine lv_aload_n hx hb dX5_init_70 rfl (lv_at hl 0 rfl) ?_
  refine lv_iconst (v := 0) hx hb dX5_init_71 (by decide) ?_
  refine c_put F ha hT hN hS rfl i_X5 tyX5 tyX5_ok nmX5 10 (by decide) mw_61 rfl (tyX5_ok 10 (by decide)) rfl rfl (Nat.le_of_ble_eq_true rfl) dX5_init_72 ?_
  intro H1 L1 hT hN hS
  have hT : va_at D vwCl (a, .inr (6, [.ref (sz + 0), .ref (sz + 1), .ref (sz + 2), .ref (sz + 3), .ref (sz + 4), .ref (sz + 5), .int 0, .int 0, .int 4, .int 0, .int 0])) H1 := hT
  exact c_end F hT hN hS hr hk dX5_init_75
/-- TinRoofScore$Judge, made: the object, with what is new behind sz; the new cells -/
def e_X1 (sz : Nat) (p : Nat) : va_E := .inr (3, [.ref p, .int 0, .int 0])
def n_X1 (Y : Nat → ClassId) (sz : Nat) : List va_E := []
set_option maxRecDepth 100000 in
set_option maxHeartbeats 4000000 in
theorem q_X1_init (l : Launch) (D : va_G) (Y : Nat → ClassId) (a sz : Nat) (p : Nat) : CT l yX1_init cX1_init 2 1 0 0 D Y [.ref a, .ref p] a (.inr (3, [.null, .int 0, .int 0])) sz (e_X1 sz p) (n_X1 Y sz) := by
  refine CT_of (by decide) rfl (Nat.le_of_ble_eq_true rfl) (lv := [(0, .ref a), (1, .ref p)]) rfl ?_
  intro pp ev s m below meth c ls F hO hz ha hT hN hS hr hk hn hl
  have F : Fx pp c cX1_init 2 s m _ RX1 D Y := F
  have hx := F.1.1
  have hb := F.1.2.1
  refine lv_aload_n hx hb dX1_init_0 rfl (lv_at hl 0 rfl) ?_
  refine c_init F mw_91 hl.1 ⟨Nat.le_of_ble_eq_true rfl, Nat.le_of_ble_eq_true rfl⟩ dX1_init_1 ?_
  refine lv_aload_n hx hb dX1_init_4 rfl (lv_at hl 0 rfl) ?_
  refine lv_iconst (v := 0) hx hb dX1_init_5 (by decide) ?_
  refine c_put F ha hT hN hS rfl i_X1 tyX1 tyX1_ok nmX1 1 (by decide) mw_93 rfl (tyX1_ok 1 (by decide)) rfl rfl (Nat.le_of_ble_eq_true rfl) dX1_init_6 ?_
  intro H1 L1 hT hN hS
  have hT : va_at D vwCl (a, .inr (3, [.null, .int 0, .int 0])) H1 := hT
  refine lv_aload_n hx hb dX1_init_9 rfl (lv_at hl 0 rfl) ?_
  refine lv_iconst (v := 0) hx hb dX1_init_10 (by decide) ?_
  refine c_put F ha hT hN hS rfl i_X1 tyX1 tyX1_ok nmX1 2 (by decide) mw_94 rfl (tyX1_ok 2 (by decide)) rfl rfl (Nat.le_of_ble_eq_true rfl) dX1_init_11 ?_
  intro H1 L1 hT hN hS
  have hT : va_at D vwCl (a, .inr (3, [.null, .int 0, .int 0])) H1 := hT
  refine lv_aload_n hx hb dX1_init_14 rfl (lv_at hl 0 rfl) ?_
  refine lv_aload_n hx hb dX1_init_15 rfl (lv_at hl 1 rfl) ?_
  refine c_putF F hn ha hT hN hS rfl i_X1 tyX1 tyX1_ok nmX1 0 (by decide) mw_92 rfl rfl (tyX1_ok 0 (by decide)) rfl rfl (Nat.le_of_ble_eq_true rfl) dX1_init_16 ?_
  intro H1 L1 hT hN hS
  have hT : va_at D vwCl (a, .inr (3, [.ref p, .int 0, .int 0])) H1 := hT
  exact c_end F hT hN hS hr hk dX1_init_19
/-- TinRoofScore$Proof, made: the object, with what is new behind sz; the new cells -/
def e_X6 (sz : Nat) (p : Nat) : va_E := .inr (7, [.ref p])
def n_X6 (Y : Nat → ClassId) (sz : Nat) : List va_E := []
set_option maxRecDepth 100000 in
set_option maxHeartbeats 4000000 in
theorem q_X6_init (l : Launch) (D : va_G) (Y : Nat → ClassId) (a sz : Nat) (p : Nat) : CT l yX6_init cX6_init 2 1 0 0 D Y [.ref a, .ref p] a (.inr (7, [.null])) sz (e_X6 sz p) (n_X6 Y sz) := by
  refine CT_of (by decide) rfl (Nat.le_of_ble_eq_true rfl) (lv := [(0, .ref a), (1, .ref p)]) rfl ?_
  intro pp ev s m below meth c ls F hO hz ha hT hN hS hr hk hn hl
  have F : Fx pp c cX6_init 2 s m _ RX6 D Y := F
  have hx := F.1.1
  have hb := F.1.2.1
  refine lv_aload_n hx hb dX6_init_0 rfl (lv_at hl 0 rfl) ?_
  refine c_init F mw_107 hl.1 ⟨Nat.le_of_ble_eq_true rfl, Nat.le_of_ble_eq_true rfl⟩ dX6_init_1 ?_
  refine lv_aload_n hx hb dX6_init_4 rfl (lv_at hl 0 rfl) ?_
  refine lv_aload_n hx hb dX6_init_5 rfl (lv_at hl 1 rfl) ?_
  refine c_putF F hn ha hT hN hS rfl i_X6 tyX6 tyX6_ok nmX6 0 (by decide) mw_108 rfl rfl (tyX6_ok 0 (by decide)) rfl rfl (Nat.le_of_ble_eq_true rfl) dX6_init_6 ?_
  intro H1 L1 hT hN hS
  have hT : va_at D vwCl (a, .inr (7, [.ref p])) H1 := hT
  exact c_end F hT hN hS hr hk dX6_init_9
/-- TinRoofScore$Melody, made: the object, with what is new behind sz; the new cells -/
def e_X3 (sz : Nat) (p : Nat) : va_E := .inr (5, [.ref p])
def n_X3 (Y : Nat → ClassId) (sz : Nat) : List va_E := []
set_option maxRecDepth 100000 in
set_option maxHeartbeats 4000000 in
theorem q_X3_init (l : Launch) (D : va_G) (Y : Nat → ClassId) (a sz : Nat) (p : Nat) : CT l yX3_init cX3_init 2 1 0 0 D Y [.ref a, .ref p] a (.inr (5, [.null])) sz (e_X3 sz p) (n_X3 Y sz) := by
  refine CT_of (by decide) rfl (Nat.le_of_ble_eq_true rfl) (lv := [(0, .ref a), (1, .ref p)]) rfl ?_
  intro pp ev s m below meth c ls F hO hz ha hT hN hS hr hk hn hl
  have F : Fx pp c cX3_init 2 s m _ RX3 D Y := F
  have hx := F.1.1
  have hb := F.1.2.1
  refine lv_aload_n hx hb dX3_init_0 rfl (lv_at hl 0 rfl) ?_
  refine c_init F mw_117 hl.1 ⟨Nat.le_of_ble_eq_true rfl, Nat.le_of_ble_eq_true rfl⟩ dX3_init_1 ?_
  refine lv_aload_n hx hb dX3_init_4 rfl (lv_at hl 0 rfl) ?_
  refine lv_aload_n hx hb dX3_init_5 rfl (lv_at hl 1 rfl) ?_
  refine c_putF F hn ha hT hN hS rfl i_X3 tyX3 tyX3_ok nmX3 0 (by decide) mw_118 rfl rfl (tyX3_ok 0 (by decide)) rfl rfl (Nat.le_of_ble_eq_true rfl) dX3_init_6 ?_
  intro H1 L1 hT hN hS
  have hT : va_at D vwCl (a, .inr (5, [.ref p])) H1 := hT
  exact c_end F hT hN hS hr hk dX3_init_9
/-- TinRoofScore$Ranking, made: the object, with what is new behind sz; the new cells -/
def e_X7 (sz : Nat) (p : Nat) : va_E := .inr (8, [.ref p])
def n_X7 (Y : Nat → ClassId) (sz : Nat) : List va_E := []
set_option maxRecDepth 100000 in
set_option maxHeartbeats 4000000 in
theorem q_X7_init (l : Launch) (D : va_G) (Y : Nat → ClassId) (a sz : Nat) (p : Nat) : CT l yX7_init cX7_init 2 1 0 0 D Y [.ref a, .ref p] a (.inr (8, [.null])) sz (e_X7 sz p) (n_X7 Y sz) := by
  refine CT_of (by decide) rfl (Nat.le_of_ble_eq_true rfl) (lv := [(0, .ref a), (1, .ref p)]) rfl ?_
  intro pp ev s m below meth c ls F hO hz ha hT hN hS hr hk hn hl
  have F : Fx pp c cX7_init 2 s m _ RX7 D Y := F
  have hx := F.1.1
  have hb := F.1.2.1
  refine lv_aload_n hx hb dX7_init_0 rfl (lv_at hl 0 rfl) ?_
  refine c_init F mw_127 hl.1 ⟨Nat.le_of_ble_eq_true rfl, Nat.le_of_ble_eq_true rfl⟩ dX7_init_1 ?_
  refine lv_aload_n hx hb dX7_init_4 rfl (lv_at hl 0 rfl) ?_
  refine lv_aload_n hx hb dX7_init_5 rfl (lv_at hl 1 rfl) ?_
  refine c_putF F hn ha hT hN hS rfl i_X7 tyX7 tyX7_ok nmX7 0 (by decide) mw_128 rfl rfl (tyX7_ok 0 (by decide)) rfl rfl (Nat.le_of_ble_eq_true rfl) dX7_init_6 ?_
  intro H1 L1 hT hN hS
  have hT : va_at D vwCl (a, .inr (8, [.ref p])) H1 := hT
  exact c_end F hT hN hS hr hk dX7_init_9
/-- TinRoofScore$Line, made: the object, with what is new behind sz; the new cells -/
def e_X2 (sz : Nat) (p : Nat) : va_E := .inr (4, [.ref p, .ref (sz + 0), .int 0])
def n_X2 (Y : Nat → ClassId) (sz : Nat) : List va_E := [.inl (Y 1, 32, .inl (fun _ => 0))]
set_option maxRecDepth 100000 in
set_option maxHeartbeats 4000000 in
theorem q_X2_init (l : Launch) (D : va_G) (Y : Nat → ClassId) (a sz : Nat) (p : Nat) : CT l yX2_init cX2_init 2 1 1 32 D Y [.ref a, .ref p] a (.inr (4, [.null, .null, .int 0])) sz (e_X2 sz p) (n_X2 Y sz) := by
  refine CT_of (by decide) rfl (Nat.le_of_ble_eq_true rfl) (lv := [(0, .ref a), (1, .ref p)]) rfl ?_
  intro pp ev s m below meth c ls F hO hz ha hT hN hS hr hk hn hl
  have F : Fx pp c cX2_init 2 s m _ RX2 D Y := F
  have hx := F.1.1
  have hb := F.1.2.1
  refine lv_aload_n hx hb dX2_init_0 rfl (lv_at hl 0 rfl) ?_
  refine c_init F mw_137 hl.1 ⟨Nat.le_of_ble_eq_true rfl, Nat.le_of_ble_eq_true rfl⟩ dX2_init_1 ?_
  refine lv_aload_n hx hb dX2_init_4 rfl (lv_at hl 0 rfl) ?_
  refine lv_bipush (v := 32) hx hb dX2_init_5 (by decide) ?_
  refine c_newC (k := 0) (N := 32) F (keepT hT ha) hN rfl hS (by decide) (by decide) (by decide) (Nat.le_of_ble_eq_true rfl) (Nat.le_of_ble_eq_true rfl) dX2_init_7 ?_
  intro H1 hT hN hS
  refine c_putF F hn ha hT hN hS rfl i_X2 tyX2 tyX2_ok nmX2 1 (by decide) mw_139 rfl rfl (tyX2_ok 1 (by decide)) rfl rfl (Nat.le_of_ble_eq_true rfl) dX2_init_9 ?_
  intro H1 L1 hT hN hS
  have hT : va_at D vwCl (a, .inr (4, [.null, .ref (sz + 0), .int 0])) H1 := hT
  refine lv_aload_n hx hb dX2_init_12 rfl (lv_at hl 0 rfl) ?_
  refine lv_iconst (v := 0) hx hb dX2_init_13 (by decide) ?_
  refine c_put F ha hT hN hS rfl i_X2 tyX2 tyX2_ok nmX2 2 (by decide) mw_140 rfl (tyX2_ok 2 (by decide)) rfl rfl (Nat.le_of_ble_eq_true rfl) dX2_init_14 ?_
  intro H1 L1 hT hN hS
  have hT : va_at D vwCl (a, .inr (4, [.null, .ref (sz + 0), .int 0])) H1 := hT
  refine lv_aload_n hx hb dX2_init_17 rfl (lv_at hl 0 rfl) ?_
  refine lv_aload_n hx hb dX2_init_18 rfl (lv_at hl 1 rfl) ?_
  refine c_putF F hn ha hT hN hS rfl i_X2 tyX2 tyX2_ok nmX2 0 (by decide) mw_138 rfl rfl (tyX2_ok 0 (by decide)) rfl rfl (Nat.le_of_ble_eq_true rfl) dX2_init_19 ?_
  intro H1 L1 hT hN hS
  have hT : va_at D vwCl (a, .inr (4, [.ref p, .ref (sz + 0), .int 0])) H1 := hT
  exact c_end F hT hN hS hr hk dX2_init_22
/-- TinRoofScore$Text, made: the object, with what is new behind sz; the new cells -/
def e_X8 (sz : Nat) : va_E := .inr (9, [.ref (sz + 0), .ref (sz + 1), .ref (sz + 2), .int 0, .int 0, .int 0, .int (-1)])
def n_X8 (Y : Nat → ClassId) (sz : Nat) : List va_E := [.inl (Y 1, 60, .inl (fun _ => 0)), .inl (Y 3, 12, .inr (.inr (.inr (.inr (fun _ => none))))), .inl (Y 0, 36, .inl (fun _ => 0))]
set_option maxRecDepth 100000 in
set_option maxHeartbeats 4000000 in
theorem q_X8_init (l : Launch) (D : va_G) (Y : Nat → ClassId) (a sz : Nat) : CT l yX8_init cX8_init 1 1 3 108 D Y [.ref a] a (.inr (9, [.null, .null, .null, .int 0, .int 0, .int 0, .int 0])) sz (e_X8 sz) (n_X8 Y sz) := by
  refine CT_of (by decide) rfl (Nat.le_of_ble_eq_true rfl) (lv := [(0, .ref a)]) rfl ?_
  intro pp ev s m below meth c ls F hO hz ha hT hN hS hr hk hn hl
  have F : Fx pp c cX8_init 1 s m _ RX8 D Y := F
  have hx := F.1.1
  have hb := F.1.2.1
  refine lv_aload_n hx hb dX8_init_0 rfl (lv_at hl 0 rfl) ?_
  refine c_init F mw_154 hl.1 ⟨Nat.le_of_ble_eq_true rfl, Nat.le_of_ble_eq_true rfl⟩ dX8_init_1 ?_
  refine lv_aload_n hx hb dX8_init_4 rfl (lv_at hl 0 rfl) ?_
  refine lv_bipush (v := 60) hx hb dX8_init_5 (by decide) ?_
  refine c_newC (k := 0) (N := 60) F (keepT hT ha) hN rfl hS (by decide) (by decide) (by decide) (Nat.le_of_ble_eq_true rfl) (Nat.le_of_ble_eq_true rfl) dX8_init_7 ?_
  intro H1 hT hN hS
  refine c_putF F hn ha hT hN hS rfl i_X8 tyX8 tyX8_ok nmX8 0 (by decide) mw_157 rfl rfl (tyX8_ok 0 (by decide)) rfl rfl (Nat.le_of_ble_eq_true rfl) dX8_init_9 ?_
  intro H1 L1 hT hN hS
  have hT : va_at D vwCl (a, .inr (9, [.ref (sz + 0), .null, .null, .int 0, .int 0, .int 0, .int 0])) H1 := hT
  refine lv_aload_n hx hb dX8_init_12 rfl (lv_at hl 0 rfl) ?_
  refine lv_bipush (v := 12) hx hb dX8_init_13 (by decide) ?_
  refine c_newq (k := 1) (N := 12) (t := 3) F mw_155 hO.1 rfl (keepT hT ha) hN rfl hS (by decide) (by decide) (by decide) (Nat.le_of_ble_eq_true rfl) (Nat.le_of_ble_eq_true rfl) dX8_init_15 ?_
  intro H1 hT hN hS
  refine c_putF F hn ha hT hN hS rfl i_X8 tyX8 tyX8_ok nmX8 1 (by decide) mw_158 rfl rfl (tyX8_ok 1 (by decide)) rfl rfl (Nat.le_of_ble_eq_true rfl) dX8_init_18 ?_
  intro H1 L1 hT hN hS
  have hT : va_at D vwCl (a, .inr (9, [.ref (sz + 0), .ref (sz + 1), .null, .int 0, .int 0, .int 0, .int 0])) H1 := hT
  refine lv_aload_n hx hb dX8_init_21 rfl (lv_at hl 0 rfl) ?_
  refine lv_bipush (v := 36) hx hb dX8_init_22 (by decide) ?_
  refine c_newI (k := 2) (N := 36) F (keepT hT ha) hN rfl hS (by decide) (by decide) (by decide) (Nat.le_of_ble_eq_true rfl) (Nat.le_of_ble_eq_true rfl) dX8_init_24 ?_
  intro H1 hT hN hS
  refine c_putF F hn ha hT hN hS rfl i_X8 tyX8 tyX8_ok nmX8 2 (by decide) mw_159 rfl rfl (tyX8_ok 2 (by decide)) rfl rfl (Nat.le_of_ble_eq_true rfl) dX8_init_26 ?_
  intro H1 L1 hT hN hS
  have hT : va_at D vwCl (a, .inr (9, [.ref (sz + 0), .ref (sz + 1), .ref (sz + 2), .int 0, .int 0, .int 0, .int 0])) H1 := hT
  refine lv_aload_n hx hb dX8_init_29 rfl (lv_at hl 0 rfl) ?_
  refine lv_iconst (v := 0) hx hb dX8_init_30 (by decide) ?_
  refine c_put F ha hT hN hS rfl i_X8 tyX8 tyX8_ok nmX8 3 (by decide) mw_160 rfl (tyX8_ok 3 (by decide)) rfl rfl (Nat.le_of_ble_eq_true rfl) dX8_init_31 ?_
  intro H1 L1 hT hN hS
  have hT : va_at D vwCl (a, .inr (9, [.ref (sz + 0), .ref (sz + 1), .ref (sz + 2), .int 0, .int 0, .int 0, .int 0])) H1 := hT
  refine lv_aload_n hx hb dX8_init_34 rfl (lv_at hl 0 rfl) ?_
  refine lv_iconst (v := 0) hx hb dX8_init_35 (by decide) ?_
  refine c_put F ha hT hN hS rfl i_X8 tyX8 tyX8_ok nmX8 4 (by decide) mw_161 rfl (tyX8_ok 4 (by decide)) rfl rfl (Nat.le_of_ble_eq_true rfl) dX8_init_36 ?_
  intro H1 L1 hT hN hS
  have hT : va_at D vwCl (a, .inr (9, [.ref (sz + 0), .ref (sz + 1), .ref (sz + 2), .int 0, .int 0, .int 0, .int 0])) H1 := hT
  refine lv_aload_n hx hb dX8_init_39 rfl (lv_at hl 0 rfl) ?_
  refine lv_iconst (v := 0) hx hb dX8_init_40 (by decide) ?_
  refine c_put F ha hT hN hS rfl i_X8 tyX8 tyX8_ok nmX8 5 (by decide) mw_162 rfl (tyX8_ok 5 (by decide)) rfl rfl (Nat.le_of_ble_eq_true rfl) dX8_init_41 ?_
  intro H1 L1 hT hN hS
  have hT : va_at D vwCl (a, .inr (9, [.ref (sz + 0), .ref (sz + 1), .ref (sz + 2), .int 0, .int 0, .int 0, .int 0])) H1 := hT
  refine lv_aload_n hx hb dX8_init_44 rfl (lv_at hl 0 rfl) ?_
  refine lv_iconst (v := (-1)) hx hb dX8_init_45 (by decide) ?_
  refine c_put F ha hT hN hS rfl i_X8 tyX8 tyX8_ok nmX8 6 (by decide) mw_163 rfl (tyX8_ok 6 (by decide)) rfl rfl (Nat.le_of_ble_eq_true rfl) dX8_init_46 ?_
  intro H1 L1 hT hN hS
  have hT : va_at D vwCl (a, .inr (9, [.ref (sz + 0), .ref (sz + 1), .ref (sz + 2), .int 0, .int 0, .int 0, .int (-1)])) H1 := hT
  exact c_end F hT hN hS hr hk dX8_init_49
/-- a page -/
def hP (Y : Nat → ClassId) (n : Nat) : List va_E := e_X5 (n + 1) :: n_X5 Y (n + 1)
/-- the first i pages -/
def hL (Y : Nat → ClassId) (sz : Nat) : Nat → List va_E
  | 0 => []
  | i + 1 => hL Y sz i ++ hP Y (sz + (1 + 7 * i))
theorem hL_len {Y : Nat → ClassId} {sz : Nat} : ∀ i, (hL Y sz i).length = 7 * i
  | 0 => rfl
  | i + 1 => by rw [hL, List.length_append, hL_len i]; show 7 * i + 7 = _; omega
def hA (Y : Nat → ClassId) (sz i : Nat) : va_E := .inl (Y 2, 8, .inr (.inr (.inr (.inr (fun j => if j < i then some (sz + (1 + 7 * j)) else none)))))
def e_X0 (sz : Nat) : va_E := .inr (2, [.ref sz, .int 0, .int 0])
def n_X0 (Y : Nat → ClassId) (sz : Nat) : List va_E := hA Y sz 8 :: hL Y sz 8
theorem c_astp {p : Program} {l : Launch} {ev : Env} {R : Room} {s : State} {m : MethodId} {args : Array Value} {below : List Frame} {meth : Method} {c : Code} {H : Heap} {locs : List Loc} {cells slots : Nat} {Q : State → Prop} {cc : ByteArray} {pc nL : Nat} {ls : Array Slot} {rest : List Value} {own : String} {D : va_G} {Y : Nat → ClassId} {H0 : Heap} {sz a : Nat} {e : va_E}
    (i : Nat) (hi : i < 8) (F : Fx p c cc nL s m args own D Y) (ha : a < sz) (hT : va_at D vwCl (a, e) H) (hN : Hp D sz (hA Y sz i :: (hL Y sz i ++ hP Y (sz + (1 + 7 * i)))) H) (hS : va_S (AC a sz) H0 H locs) (hdg : decode cc pc = .ok (.aastore, 1))
    (kk : ∀ (H1 : Heap) (locs1 : List Loc), va_at D vwCl (a, e) H1 → Hp D sz (hA Y sz (i + 1) :: hL Y sz (i + 1)) H1 → va_S (AC a sz) H0 H1 locs1 → W p l ev R s m args below meth c H1 locs1 cells slots Q (F0 m (pc + 1) ls rest)) : W p l ev R s m args below meth c H locs cells slots Q (F0 m pc ls (.ref (sz + (1 + 7 * i)) :: .int (nI i) :: .ref sz :: rest)) := by
  have hn := (by decide : ∀ k, k < 8 → ¬ nI k < 0 ∧ (nI k).toNatClampNeg = k) i hi
  have hg : (hA Y sz i :: (hL Y sz i ++ hP Y (sz + (1 + 7 * i))))[1 + 7 * i]? = some (e_X5 (sz + (1 + 7 * i) + 1)) := by
    rw [Nat.add_comm 1, List.getElem?_cons_succ, List.getElem?_append_right (by rw [hL_len]; exact Nat.le_refl _), hL_len, Nat.sub_self]
    rfl
  have h0 : H[sz]? = some (vp_cell (Y 2) (8, .inr (.inr (.inr (.inr (fun j => if j < i then some (sz + (1 + 7 * j)) else none)))))) := hN.2 0 _ rfl
  obtain ⟨r', hr', cellV, g1, g2, g3, -⟩ := hN.2 _ _ hg
  cases hr'
  have hcls := (F.2.1.1 6 _ rfl).2
  obtain ⟨kA, comp, k1, k2, k3, -⟩ := (F.2.1.2 2 _ rfl).2
  have hcomp : comp = D.1 6 := Option.some.inj (k3.symm.trans hcls.1)
  subst hcomp
  obtain ⟨kC, hkC, -⟩ := hcls.2
  refine W.aast F.1.1 F.1.2.1 h0 (fun q h => by cases h) (fun h => by cases h) k1 k2 rfl hkC ⟨hn.1, by show _ < (arrV _ _ _).slots.size; rw [arrV_size, hn.2]; exact hi⟩ g1 (fun q h => by rw [g3] at h; cases h) (by rw [g2]; exact hkC) (by rw [g2]; exact va_assign hcls) rfl rfl hdg fun H1 e1 z oq => ?_
  refine kk H1 _ (hT.kept (oq _ (Nat.ne_of_lt ha))) ⟨by rw [z, hN.1]; rfl, fun j y hy => ?_⟩ (hS.put z oq (Or.inr (Nat.le_refl _)))
  cases j with
  | zero =>
    cases hy
    show H1[sz]? = some (vp_cell _ _)
    rw [e1]
    rw [vp_cell_q, vp_cell_q, arrV_store, hn.2]
    congr 2
    funext q
    by_cases hq : q = i
    · subst hq
      simp [updV, va_rf]
    · have e2 : (q < i + 1) = (q < i) := by apply propext; omega
      simp [updV, hq, e2]
  | succ j =>
    exact (hN.2 (j + 1) y hy).kept (oq _ (by show sz + (j + 1) ≠ sz; omega))
set_option maxRecDepth 100000 in
set_option maxHeartbeats 4000000 in
theorem hist_loop (l : Launch) (D : va_G) (Y : Nat → ClassId) (a sz : Nat) (p : Program) (ev : Env) (s : State) (m : MethodId) (below : List Frame) (meth : Method) (c : Code) (args : Array Value) (F : Fx p c cX0_init 2 s m args RX0 D Y) (hO : AOs s) (hz : s.heap.size = sz) (ha : a < sz) (hr : meth.sig.returnType = none) (hk : meth.locks = false) :
    ∀ (j i : Nat), i + j = 8 → ∀ (H : Heap) (locs : List Loc) (ls : Array Slot), lv_has ls 2 [(1, .int (nI i)), (0, .ref a)] → va_at D vwCl (a, e_X0 sz) H → Hp D sz (hA Y sz i :: hL Y sz i) H → va_S (AC a sz) s.heap H locs → W p l ev (rmD 2 57 592) s m args below meth c H locs (1 + 7 * i) (8 + 73 * i) (MQ below (CQ D a (e_X0 sz) (n_X0 Y sz) sz) args s 57 592 (AC a sz)) (F0 m 25 ls []) := by
  have hx := F.1.1
  have hb := F.1.2.1
  intro j
  induction j with
  | zero =>
    intro i hi H locs ls hl hT hN hS
    obtain rfl : i = 8 := hi
    refine lv_iload_n hx hb dX0_init_25 rfl (lv_at hl 0 rfl) ?_
    refine lv_aload_n hx hb dX0_init_26 rfl (lv_at hl 1 rfl) ?_
    refine fr F (at_P hT) 0 rfl rfl i_X0 0 (by decide) mw_188 rfl dX0_init_27 ?_
    refine va_alen (ty := .object "TinRoofScore$Print") hx hb F.2.1 (hN.P 0 rfl) 0 2 rfl rfl rfl dX0_init_30 ?_
    refine lv_icmp_ge (tgt := 53) hx hb dX0_init_31 (by decide) (fun c1 => ?_) (fun c1 => ?_)
    · exact c_end F hT hN hS hr hk dX0_init_53
    · exact absurd (by decide : (8 : Int32) ≤ nI 8) c1
  | succ j ih =>
    intro i hi H locs ls hl hT hN hS
    have hi8 : i < 8 := by omega
    have hne := (by decide : ∀ k, k < 8 → ¬ (8 : Int32) ≤ nI k ∧ nI k + 1 = nI (k + 1)) i hi8
    refine lv_iload_n hx hb dX0_init_25 rfl (lv_at hl 0 rfl) ?_
    refine lv_aload_n hx hb dX0_init_26 rfl (lv_at hl 1 rfl) ?_
    refine fr F (at_P hT) 0 rfl rfl i_X0 0 (by decide) mw_188 rfl dX0_init_27 ?_
    refine va_alen (ty := .object "TinRoofScore$Print") hx hb F.2.1 (hN.P 0 rfl) 0 2 rfl rfl rfl dX0_init_30 ?_
    refine lv_icmp_ge (tgt := 53) hx hb dX0_init_31 (by decide) (fun c1 => ?_) (fun c1 => ?_)
    · exact absurd c1 hne.1
    refine lv_aload_n hx hb dX0_init_34 rfl (lv_at hl 1 rfl) ?_
    refine fr F (at_P hT) 0 rfl rfl i_X0 0 (by decide) mw_188 rfl dX0_init_35 ?_
    refine lv_iload_n hx hb dX0_init_38 rfl (lv_at hl 0 rfl) ?_
    refine c_new (ci := 6) (k := 1 + 7 * i) F i_X5 tyX5 tyX5_ok mw_185 mw_46 mw_2 rfl df_X5 (keepT hT ha) hN (by rw [List.length_cons, hL_len, Nat.add_comm]) hS (by show 1 + 7 * i + 1 ≤ 57; omega) (by show 8 + 73 * i + 11 ≤ 592; omega) dX0_init_39 ?_
    intro H1 hT hN hS
    refine lv_dup hx hb dX0_init_42 rfl ?_
    refine c_callN (j := 1 + 7 * i) (rest := [.ref (sz + (1 + 7 * i)), .int (nI i), .ref sz]) F hO ki_X5 mw_187 (keepT hT ha) hN (by rw [List.length_cons, hL_len, Nat.add_comm]) hS hz (q_X5_init l D Y (sz + (1 + 7 * i)) (sz + (1 + 7 * i + 1))) rfl hl.1 ⟨Nat.le_of_ble_eq_true rfl, Nat.le_of_ble_eq_true rfl⟩ rfl (Nat.le_of_ble_eq_true rfl) ⟨by show 1 + 7 * i + 1 + 6 ≤ 57; omega, by show 8 + 73 * i + 11 + 62 ≤ 592; omega⟩ dX0_init_43 ?_
    intro H1 L1 hT hN hS
    refine c_astp i hi8 F ha hT hN hS dX0_init_46 ?_
    intro H1 L1 hT hN hS
    refine lv_iinc (v := nI (i + 1)) (lv' := [(1, .int (nI (i + 1))), (0, .ref a)]) hx hb dX0_init_47 hl (k := 0) rfl hne.2 (by decide) rfl (fun ls hl => ?_)
    refine lv_goto (tgt := 25) hx hb dX0_init_50 (by decide) ?_
    refine W.widen (k := 1 + 7 * (i + 1)) (n := 8 + 73 * (i + 1)) (by omega) (by omega) ?_
    exact ih (i + 1) (by omega) H1 L1 ls hl hT hN hS
set_option maxRecDepth 100000 in
set_option maxHeartbeats 4000000 in
theorem q_X0_init (l : Launch) (D : va_G) (Y : Nat → ClassId) (a sz : Nat) : CT l yX0_init cX0_init 2 2 57 592 D Y [.ref a] a (.inr (2, [.null, .int 0, .int 0])) sz (e_X0 sz) (n_X0 Y sz) := by
  refine CT_of (by decide) rfl (Nat.le_of_ble_eq_true rfl) (lv := [(0, .ref a)]) rfl ?_
  intro pp ev s m below meth c ls F hO hz ha hT hN hS hr hk hn hl
  have F : Fx pp c cX0_init 2 s m _ RX0 D Y := F
  have hx := F.1.1
  have hb := F.1.2.1
  refine lv_aload_n hx hb dX0_init_0 rfl (lv_at hl 0 rfl) ?_
  refine c_init F mw_184 hl.1 ⟨Nat.le_of_ble_eq_true rfl, Nat.le_of_ble_eq_true rfl⟩ dX0_init_1 ?_
  refine lv_aload_n hx hb dX0_init_4 rfl (lv_at hl 0 rfl) ?_
  refine lv_bipush (v := 8) hx hb dX0_init_5 (by decide) ?_
  refine c_newq (k := 0) (N := 8) (t := 2) F mw_185 hO.2 rfl (keepT hT ha) hN rfl hS (by decide) (by decide) (by decide) (Nat.le_of_ble_eq_true rfl) (Nat.le_of_ble_eq_true rfl) dX0_init_7 ?_
  intro H1 hT hN hS
  refine c_putF F hn ha hT hN hS rfl i_X0 tyX0 tyX0_ok nmX0 0 (by decide) mw_188 rfl rfl (tyX0_ok 0 (by decide)) rfl rfl (Nat.le_of_ble_eq_true rfl) dX0_init_10 ?_
  intro H1 L1 hT hN hS
  have hT : va_at D vwCl (a, .inr (2, [.ref (sz + 0), .int 0, .int 0])) H1 := hT
  refine lv_aload_n hx hb dX0_init_13 rfl (lv_at hl 0 rfl) ?_
  refine lv_iconst (v := 0) hx hb dX0_init_14 (by decide) ?_
  refine c_put F ha hT hN hS rfl i_X0 tyX0 tyX0_ok nmX0 1 (by decide) mw_189 rfl (tyX0_ok 1 (by decide)) rfl rfl (Nat.le_of_ble_eq_true rfl) dX0_init_15 ?_
  intro H1 L1 hT hN hS
  have hT : va_at D vwCl (a, .inr (2, [.ref (sz + 0), .int 0, .int 0])) H1 := hT
  refine lv_aload_n hx hb dX0_init_18 rfl (lv_at hl 0 rfl) ?_
  refine lv_iconst (v := 0) hx hb dX0_init_19 (by decide) ?_
  refine c_put F ha hT hN hS rfl i_X0 tyX0 tyX0_ok nmX0 2 (by decide) mw_190 rfl (tyX0_ok 2 (by decide)) rfl rfl (Nat.le_of_ble_eq_true rfl) dX0_init_20 ?_
  intro H1 L1 hT hN hS
  have hT : va_at D vwCl (a, .inr (2, [.ref (sz + 0), .int 0, .int 0])) H1 := hT
  refine lv_iconst (v := 0) hx hb dX0_init_23 (by decide) ?_
  refine lv_istore_n (lv' := [(1, .int 0), (0, .ref a)]) hx hb dX0_init_24 rfl hl (by decide) rfl (fun ls hl => ?_)
  have hA0 : (.inl (Y 2, 8, .inr (.inr (.inr (.inr (fun _ => none))))) : va_E) = hA Y sz 0 := by unfold hA; congr 7
  have hN : Hp D sz [.inl (Y 2, 8, .inr (.inr (.inr (.inr (fun _ => none)))))] H1 := hN
  rw [hA0] at hN
  exact hist_loop l D Y a sz pp ev s m below meth c _ F hO hz ha hr hk 8 0 rfl H1 L1 ls hl hT hN hS
/-- TinRoofScore, made: the object, with what is new behind sz; the new cells -/
def e_X9 (sz : Nat) : va_E := .inr (10, [.ref (sz + 0), .ref (sz + 7), .ref (sz + 14), .ref (sz + 21), .ref (sz + 22), .ref (sz + 23), .ref (sz + 24), .ref (sz + 25), .ref (sz + 27), .ref (sz + 31), .int 0])
def n_X9 (Y : Nat → ClassId) (sz : Nat) : List va_E := (((((((((([] ++ e_X5 (sz + 1) :: n_X5 Y (sz + 1)) ++ e_X5 (sz + 8) :: n_X5 Y (sz + 8)) ++ e_X5 (sz + 15) :: n_X5 Y (sz + 15)) ++ e_X1 (sz + 22) (sz + 0) :: n_X1 Y (sz + 22)) ++ e_X6 (sz + 23) (sz + 0) :: n_X6 Y (sz + 23)) ++ e_X3 (sz + 24) (sz + 0) :: n_X3 Y (sz + 24)) ++ e_X7 (sz + 25) (sz + 0) :: n_X7 Y (sz + 25)) ++ e_X2 (sz + 26) (sz + 0) :: n_X2 Y (sz + 26)) ++ e_X8 (sz + 28) :: n_X8 Y (sz + 28)) ++ e_X0 (sz + 32) :: n_X0 Y (sz + 32))
set_option maxRecDepth 100000 in
set_option maxHeartbeats 4000000 in
theorem q_X9_init (l : Launch) (D : va_G) (Y : Nat → ClassId) (a sz : Nat) : CT l yX9_init cX9_init 1 3 89 970 D Y [.ref a] a (.inr (10, [.null, .null, .null, .null, .null, .null, .null, .null, .null, .null, .int 0])) sz (e_X9 sz) (n_X9 Y sz) := by
  refine CT_of (by decide) rfl (Nat.le_of_ble_eq_true rfl) (lv := [(0, .ref a)]) rfl ?_
  intro pp ev s m below meth c ls F hO hz ha hT hN hS hr hk hn hl
  have F : Fx pp c cX9_init 1 s m _ RX9 D Y := F
  have hx := F.1.1
  have hb := F.1.2.1
  refine lv_aload_n hx hb dX9_init_0 rfl (lv_at hl 0 rfl) ?_
  refine c_init F mw_42 hl.1 ⟨Nat.le_of_ble_eq_true rfl, Nat.le_of_ble_eq_true rfl⟩ dX9_init_1 ?_
  refine lv_aload_n hx hb dX9_init_4 rfl (lv_at hl 0 rfl) ?_
  refine c_new (ci := 6) (k := 0) F i_X5 tyX5 tyX5_ok mw_45 mw_46 mw_2 rfl df_X5 (keepT hT ha) hN rfl hS (Nat.le_of_ble_eq_true rfl) (Nat.le_of_ble_eq_true rfl) dX9_init_5 ?_
  intro H1 hT hN hS
  refine lv_dup hx hb dX9_init_8 rfl ?_
  refine c_callN (j := 0) F hO ki_X5 mw_47 (keepT hT ha) hN rfl hS hz (q_X5_init l D Y (sz + 0) (sz + 1)) rfl hl.1 ⟨Nat.le_of_ble_eq_true rfl, Nat.le_of_ble_eq_true rfl⟩ rfl (Nat.le_of_ble_eq_true rfl) ⟨Nat.le_of_ble_eq_true rfl, Nat.le_of_ble_eq_true rfl⟩ dX9_init_9 ?_
  intro H1 L1 hT hN hS
  refine c_putF F hn ha hT hN hS rfl i_X9 tyX9 tyX9_ok nmX9 0 (by decide) mw_198 rfl rfl (tyX9_ok 0 (by decide)) rfl rfl (Nat.le_of_ble_eq_true rfl) dX9_init_12 ?_
  intro H1 L1 hT hN hS
  have hT : va_at D vwCl (a, .inr (10, [.ref (sz + 0), .null, .null, .null, .null, .null, .null, .null, .null, .null, .int 0])) H1 := hT
  refine lv_aload_n hx hb dX9_init_15 rfl (lv_at hl 0 rfl) ?_
  refine c_new (ci := 6) (k := 7) F i_X5 tyX5 tyX5_ok mw_45 mw_46 mw_2 rfl df_X5 (keepT hT ha) hN rfl hS (Nat.le_of_ble_eq_true rfl) (Nat.le_of_ble_eq_true rfl) dX9_init_16 ?_
  intro H1 hT hN hS
  refine lv_dup hx hb dX9_init_19 rfl ?_
  refine c_callN (j := 7) F hO ki_X5 mw_47 (keepT hT ha) hN rfl hS hz (q_X5_init l D Y (sz + 7) (sz + 8)) rfl hl.1 ⟨Nat.le_of_ble_eq_true rfl, Nat.le_of_ble_eq_true rfl⟩ rfl (Nat.le_of_ble_eq_true rfl) ⟨Nat.le_of_ble_eq_true rfl, Nat.le_of_ble_eq_true rfl⟩ dX9_init_20 ?_
  intro H1 L1 hT hN hS
  refine c_putF F hn ha hT hN hS rfl i_X9 tyX9 tyX9_ok nmX9 1 (by decide) mw_199 rfl rfl (tyX9_ok 1 (by decide)) rfl rfl (Nat.le_of_ble_eq_true rfl) dX9_init_23 ?_
  intro H1 L1 hT hN hS
  have hT : va_at D vwCl (a, .inr (10, [.ref (sz + 0), .ref (sz + 7), .null, .null, .null, .null, .null, .null, .null, .null, .int 0])) H1 := hT
  refine lv_aload_n hx hb dX9_init_26 rfl (lv_at hl 0 rfl) ?_
  refine c_new (ci := 6) (k := 14) F i_X5 tyX5 tyX5_ok mw_45 mw_46 mw_2 rfl df_X5 (keepT hT ha) hN rfl hS (Nat.le_of_ble_eq_true rfl) (Nat.le_of_ble_eq_true rfl) dX9_init_27 ?_
  intro H1 hT hN hS
  refine lv_dup hx hb dX9_init_30 rfl ?_
  refine c_callN (j := 14) F hO ki_X5 mw_47 (keepT hT ha) hN rfl hS hz (q_X5_init l D Y (sz + 14) (sz + 15)) rfl hl.1 ⟨Nat.le_of_ble_eq_true rfl, Nat.le_of_ble_eq_true rfl⟩ rfl (Nat.le_of_ble_eq_true rfl) ⟨Nat.le_of_ble_eq_true rfl, Nat.le_of_ble_eq_true rfl⟩ dX9_init_31 ?_
  intro H1 L1 hT hN hS
  refine c_putF F hn ha hT hN hS rfl i_X9 tyX9 tyX9_ok nmX9 2 (by decide) mw_200 rfl rfl (tyX9_ok 2 (by decide)) rfl rfl (Nat.le_of_ble_eq_true rfl) dX9_init_34 ?_
  intro H1 L1 hT hN hS
  have hT : va_at D vwCl (a, .inr (10, [.ref (sz + 0), .ref (sz + 7), .ref (sz + 14), .null, .null, .null, .null, .null, .null, .null, .int 0])) H1 := hT
  refine lv_aload_n hx hb dX9_init_37 rfl (lv_at hl 0 rfl) ?_
  refine c_new (ci := 3) (k := 21) F i_X1 tyX1 tyX1_ok mw_86 mw_87 mw_3 rfl df_X1 (keepT hT ha) hN rfl hS (Nat.le_of_ble_eq_true rfl) (Nat.le_of_ble_eq_true rfl) dX9_init_38 ?_
  intro H1 hT hN hS
  refine lv_dup hx hb dX9_init_41 rfl ?_
  refine lv_aload_n hx hb dX9_init_42 rfl (lv_at hl 0 rfl) ?_
  refine fr F (at_P hT) 0 rfl rfl i_X9 0 (by decide) mw_198 rfl dX9_init_43 ?_
  refine c_callN (j := 21) F hO ki_X1 mw_88 (keepT hT ha) hN rfl hS hz (q_X1_init l D Y (sz + 21) (sz + 22) (sz + 0)) rfl hl.1 ⟨Nat.le_of_ble_eq_true rfl, Nat.le_of_ble_eq_true rfl⟩ rfl (Nat.le_of_ble_eq_true rfl) ⟨Nat.le_of_ble_eq_true rfl, Nat.le_of_ble_eq_true rfl⟩ dX9_init_46 ?_
  intro H1 L1 hT hN hS
  refine c_putF F hn ha hT hN hS rfl i_X9 tyX9 tyX9_ok nmX9 3 (by decide) mw_201 rfl rfl (tyX9_ok 3 (by decide)) rfl rfl (Nat.le_of_ble_eq_true rfl) dX9_init_49 ?_
  intro H1 L1 hT hN hS
  have hT : va_at D vwCl (a, .inr (10, [.ref (sz + 0), .ref (sz + 7), .ref (sz + 14), .ref (sz + 21), .null, .null, .null, .null, .null, .null, .int 0])) H1 := hT
  refine lv_aload_n hx hb dX9_init_52 rfl (lv_at hl 0 rfl) ?_
  refine c_new (ci := 7) (k := 22) F i_X6 tyX6 tyX6_ok mw_102 mw_103 mw_4 rfl df_X6 (keepT hT ha) hN rfl hS (Nat.le_of_ble_eq_true rfl) (Nat.le_of_ble_eq_true rfl) dX9_init_53 ?_
  intro H1 hT hN hS
  refine lv_dup hx hb dX9_init_56 rfl ?_
  refine lv_aload_n hx hb dX9_init_57 rfl (lv_at hl 0 rfl) ?_
  refine fr F (at_P hT) 0 rfl rfl i_X9 0 (by decide) mw_198 rfl dX9_init_58 ?_
  refine c_callN (j := 22) F hO ki_X6 mw_104 (keepT hT ha) hN rfl hS hz (q_X6_init l D Y (sz + 22) (sz + 23) (sz + 0)) rfl hl.1 ⟨Nat.le_of_ble_eq_true rfl, Nat.le_of_ble_eq_true rfl⟩ rfl (Nat.le_of_ble_eq_true rfl) ⟨Nat.le_of_ble_eq_true rfl, Nat.le_of_ble_eq_true rfl⟩ dX9_init_61 ?_
  intro H1 L1 hT hN hS
  refine c_putF F hn ha hT hN hS rfl i_X9 tyX9 tyX9_ok nmX9 4 (by decide) mw_202 rfl rfl (tyX9_ok 4 (by decide)) rfl rfl (Nat.le_of_ble_eq_true rfl) dX9_init_64 ?_
  intro H1 L1 hT hN hS
  have hT : va_at D vwCl (a, .inr (10, [.ref (sz + 0), .ref (sz + 7), .ref (sz + 14), .ref (sz + 21), .ref (sz + 22), .null, .null, .null, .null, .null, .int 0])) H1 := hT
  refine lv_aload_n hx hb dX9_init_67 rfl (lv_at hl 0 rfl) ?_
  refine c_new (ci := 5) (k := 23) F i_X3 tyX3 tyX3_ok mw_112 mw_113 mw_5 rfl df_X3 (keepT hT ha) hN rfl hS (Nat.le_of_ble_eq_true rfl) (Nat.le_of_ble_eq_true rfl) dX9_init_68 ?_
  intro H1 hT hN hS
  refine lv_dup hx hb dX9_init_71 rfl ?_
  refine lv_aload_n hx hb dX9_init_72 rfl (lv_at hl 0 rfl) ?_
  refine fr F (at_P hT) 0 rfl rfl i_X9 0 (by decide) mw_198 rfl dX9_init_73 ?_
  refine c_callN (j := 23) F hO ki_X3 mw_114 (keepT hT ha) hN rfl hS hz (q_X3_init l D Y (sz + 23) (sz + 24) (sz + 0)) rfl hl.1 ⟨Nat.le_of_ble_eq_true rfl, Nat.le_of_ble_eq_true rfl⟩ rfl (Nat.le_of_ble_eq_true rfl) ⟨Nat.le_of_ble_eq_true rfl, Nat.le_of_ble_eq_true rfl⟩ dX9_init_76 ?_
  intro H1 L1 hT hN hS
  refine c_putF F hn ha hT hN hS rfl i_X9 tyX9 tyX9_ok nmX9 5 (by decide) mw_203 rfl rfl (tyX9_ok 5 (by decide)) rfl rfl (Nat.le_of_ble_eq_true rfl) dX9_init_79 ?_
  intro H1 L1 hT hN hS
  have hT : va_at D vwCl (a, .inr (10, [.ref (sz + 0), .ref (sz + 7), .ref (sz + 14), .ref (sz + 21), .ref (sz + 22), .ref (sz + 23), .null, .null, .null, .null, .int 0])) H1 := hT
  refine lv_aload_n hx hb dX9_init_82 rfl (lv_at hl 0 rfl) ?_
  refine c_new (ci := 8) (k := 24) F i_X7 tyX7 tyX7_ok mw_122 mw_123 mw_6 rfl df_X7 (keepT hT ha) hN rfl hS (Nat.le_of_ble_eq_true rfl) (Nat.le_of_ble_eq_true rfl) dX9_init_83 ?_
  intro H1 hT hN hS
  refine lv_dup hx hb dX9_init_86 rfl ?_
  refine lv_aload_n hx hb dX9_init_87 rfl (lv_at hl 0 rfl) ?_
  refine fr F (at_P hT) 0 rfl rfl i_X9 0 (by decide) mw_198 rfl dX9_init_88 ?_
  refine c_callN (j := 24) F hO ki_X7 mw_124 (keepT hT ha) hN rfl hS hz (q_X7_init l D Y (sz + 24) (sz + 25) (sz + 0)) rfl hl.1 ⟨Nat.le_of_ble_eq_true rfl, Nat.le_of_ble_eq_true rfl⟩ rfl (Nat.le_of_ble_eq_true rfl) ⟨Nat.le_of_ble_eq_true rfl, Nat.le_of_ble_eq_true rfl⟩ dX9_init_91 ?_
  intro H1 L1 hT hN hS
  refine c_putF F hn ha hT hN hS rfl i_X9 tyX9 tyX9_ok nmX9 6 (by decide) mw_204 rfl rfl (tyX9_ok 6 (by decide)) rfl rfl (Nat.le_of_ble_eq_true rfl) dX9_init_94 ?_
  intro H1 L1 hT hN hS
  have hT : va_at D vwCl (a, .inr (10, [.ref (sz + 0), .ref (sz + 7), .ref (sz + 14), .ref (sz + 21), .ref (sz + 22), .ref (sz + 23), .ref (sz + 24), .null, .null, .null, .int 0])) H1 := hT
  refine lv_aload_n hx hb dX9_init_97 rfl (lv_at hl 0 rfl) ?_
  refine c_new (ci := 4) (k := 25) F i_X2 tyX2 tyX2_ok mw_132 mw_133 mw_7 rfl df_X2 (keepT hT ha) hN rfl hS (Nat.le_of_ble_eq_true rfl) (Nat.le_of_ble_eq_true rfl) dX9_init_98 ?_
  intro H1 hT hN hS
  refine lv_dup hx hb dX9_init_101 rfl ?_
  refine lv_aload_n hx hb dX9_init_102 rfl (lv_at hl 0 rfl) ?_
  refine fr F (at_P hT) 0 rfl rfl i_X9 0 (by decide) mw_198 rfl dX9_init_103 ?_
  refine c_callN (j := 25) F hO ki_X2 mw_134 (keepT hT ha) hN rfl hS hz (q_X2_init l D Y (sz + 25) (sz + 26) (sz + 0)) rfl hl.1 ⟨Nat.le_of_ble_eq_true rfl, Nat.le_of_ble_eq_true rfl⟩ rfl (Nat.le_of_ble_eq_true rfl) ⟨Nat.le_of_ble_eq_true rfl, Nat.le_of_ble_eq_true rfl⟩ dX9_init_106 ?_
  intro H1 L1 hT hN hS
  refine c_putF F hn ha hT hN hS rfl i_X9 tyX9 tyX9_ok nmX9 7 (by decide) mw_205 rfl rfl (tyX9_ok 7 (by decide)) rfl rfl (Nat.le_of_ble_eq_true rfl) dX9_init_109 ?_
  intro H1 L1 hT hN hS
  have hT : va_at D vwCl (a, .inr (10, [.ref (sz + 0), .ref (sz + 7), .ref (sz + 14), .ref (sz + 21), .ref (sz + 22), .ref (sz + 23), .ref (sz + 24), .ref (sz + 25), .null, .null, .int 0])) H1 := hT
  refine lv_aload_n hx hb dX9_init_112 rfl (lv_at hl 0 rfl) ?_
  refine c_new (ci := 9) (k := 27) F i_X8 tyX8 tyX8_ok mw_149 mw_150 mw_8 rfl df_X8 (keepT hT ha) hN rfl hS (Nat.le_of_ble_eq_true rfl) (Nat.le_of_ble_eq_true rfl) dX9_init_113 ?_
  intro H1 hT hN hS
  refine lv_dup hx hb dX9_init_116 rfl ?_
  refine c_callN (j := 27) F hO ki_X8 mw_151 (keepT hT ha) hN rfl hS hz (q_X8_init l D Y (sz + 27) (sz + 28)) rfl hl.1 ⟨Nat.le_of_ble_eq_true rfl, Nat.le_of_ble_eq_true rfl⟩ rfl (Nat.le_of_ble_eq_true rfl) ⟨Nat.le_of_ble_eq_true rfl, Nat.le_of_ble_eq_true rfl⟩ dX9_init_117 ?_
  intro H1 L1 hT hN hS
  refine c_putF F hn ha hT hN hS rfl i_X9 tyX9 tyX9_ok nmX9 8 (by decide) mw_206 rfl rfl (tyX9_ok 8 (by decide)) rfl rfl (Nat.le_of_ble_eq_true rfl) dX9_init_120 ?_
  intro H1 L1 hT hN hS
  have hT : va_at D vwCl (a, .inr (10, [.ref (sz + 0), .ref (sz + 7), .ref (sz + 14), .ref (sz + 21), .ref (sz + 22), .ref (sz + 23), .ref (sz + 24), .ref (sz + 25), .ref (sz + 27), .null, .int 0])) H1 := hT
  refine lv_aload_n hx hb dX9_init_123 rfl (lv_at hl 0 rfl) ?_
  refine c_new (ci := 2) (k := 31) F i_X0 tyX0 tyX0_ok mw_179 mw_180 mw_9 rfl df_X0 (keepT hT ha) hN rfl hS (Nat.le_of_ble_eq_true rfl) (Nat.le_of_ble_eq_true rfl) dX9_init_124 ?_
  intro H1 hT hN hS
  refine lv_dup hx hb dX9_init_127 rfl ?_
  refine c_callN (j := 31) F hO ki_X0 mw_181 (keepT hT ha) hN rfl hS hz (q_X0_init l D Y (sz + 31) (sz + 32)) rfl hl.1 ⟨Nat.le_of_ble_eq_true rfl, Nat.le_of_ble_eq_true rfl⟩ rfl (Nat.le_of_ble_eq_true rfl) ⟨Nat.le_of_ble_eq_true rfl, Nat.le_of_ble_eq_true rfl⟩ dX9_init_128 ?_
  intro H1 L1 hT hN hS
  refine c_putF F hn ha hT hN hS rfl i_X9 tyX9 tyX9_ok nmX9 9 (by decide) mw_207 rfl rfl (tyX9_ok 9 (by decide)) rfl rfl (Nat.le_of_ble_eq_true rfl) dX9_init_131 ?_
  intro H1 L1 hT hN hS
  have hT : va_at D vwCl (a, .inr (10, [.ref (sz + 0), .ref (sz + 7), .ref (sz + 14), .ref (sz + 21), .ref (sz + 22), .ref (sz + 23), .ref (sz + 24), .ref (sz + 25), .ref (sz + 27), .ref (sz + 31), .int 0])) H1 := hT
  refine lv_aload_n hx hb dX9_init_134 rfl (lv_at hl 0 rfl) ?_
  refine lv_iconst (v := 0) hx hb dX9_init_135 (by decide) ?_
  refine c_put F ha hT hN hS rfl i_X9 tyX9 tyX9_ok nmX9 10 (by decide) mw_208 rfl (tyX9_ok 10 (by decide)) rfl rfl (Nat.le_of_ble_eq_true rfl) dX9_init_136 ?_
  intro H1 L1 hT hN hS
  have hT : va_at D vwCl (a, .inr (10, [.ref (sz + 0), .ref (sz + 7), .ref (sz + 14), .ref (sz + 21), .ref (sz + 22), .ref (sz + 23), .ref (sz + 24), .ref (sz + 25), .ref (sz + 27), .ref (sz + 31), .int 0])) H1 := hT
  exact c_end F hT hN hS hr hk dX9_init_139
