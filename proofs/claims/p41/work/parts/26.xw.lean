/-! throws: number k of exN -/
def exN (k : Nat) : String := ["java/lang/IndexOutOfBoundsException", "java/lang/IllegalArgumentException", "java/lang/UnsupportedOperationException", "java/util/NoSuchElementException", "java/lang/IllegalStateException", "java/lang/ArithmeticException"].getD k ""
def exS (k : Nat) : List String := ["java/lang/RuntimeException", "java/lang/Exception"]
def XC (α : Type) (R : Nat ⊕ α) (D : va_G) (ws : va_W) (A : Nat → Prop) : String → State → State → Prop := fun E st t => (∃ k, R = .inl k ∧ E = exN k) ∧ va_P D vwCl ws t.heap ∧ va_F A st t
def XQi (ret : Option FieldType) (R : Nat ⊕ Int32) (D : va_G) (ws : va_W) (A : Nat → Prop) : Array Value → State → Outcome → State → Prop := va_Qi (fun v (_ : Unit) => R = .inr v ∧ okR ret v) (fun _ t => va_P D vwCl ws t.heap) A
def XQd (R : Nat ⊕ UInt64) (D : va_G) (ws : va_W) (A : Nat → Prop) : Array Value → State → Outcome → State → Prop := va_Qd (fun v (_ : Unit) => R = .inr v) (fun _ t => va_P D vwCl ws t.heap) A
def XQf (R : Nat ⊕ UInt32) (D : va_G) (ws : va_W) (A : Nat → Prop) : Array Value → State → Outcome → State → Prop := va_Qf (fun v (_ : Unit) => R = .inr v) (fun _ t => va_P D vwCl ws t.heap) A
/-- a method of the class that gives an int back or throws -/
def XWi (l : Launch) (y : MethodName) (b : ByteArray) (n : Nat) (ret : Option FieldType) (d mc : Nat) (D : va_G) (Y : Nat → ClassId) (ad : Nat → Nat) (G : GT) (As : List Value) (R : Nat ⊕ Int32) (G' : GT) : Prop :=
  vx_Met l y (wc y b n ret) (rmD d mc (6 * mc)) (va_Pc As (BK D Y (wsC Y ad G) ad (AW 90 ad))) (XQi ret R D (wsC Y ad G') (AW 90 ad)) (XC Int32 R D (wsC Y ad G') (AW 90 ad)) mc (6 * mc) (AW 90 ad)
def XWd (l : Launch) (y : MethodName) (b : ByteArray) (n : Nat) (d mc : Nat) (D : va_G) (Y : Nat → ClassId) (ad : Nat → Nat) (G : GT) (As : List Value) (R : Nat ⊕ UInt64) (G' : GT) : Prop :=
  vx_Met l y (wc y b n (some .double)) (rmD d mc (6 * mc)) (va_Pc As (BK D Y (wsC Y ad G) ad (AW 90 ad))) (XQd R D (wsC Y ad G') (AW 90 ad)) (XC UInt64 R D (wsC Y ad G') (AW 90 ad)) mc (6 * mc) (AW 90 ad)
def XWf (l : Launch) (y : MethodName) (b : ByteArray) (n : Nat) (d mc : Nat) (D : va_G) (Y : Nat → ClassId) (ad : Nat → Nat) (G : GT) (As : List Value) (R : Nat ⊕ UInt32) (G' : GT) : Prop :=
  vx_Met l y (wc y b n (some .float)) (rmD d mc (6 * mc)) (va_Pc As (BK D Y (wsC Y ad G) ad (AW 90 ad))) (XQf R D (wsC Y ad G') (AW 90 ad)) (XC UInt32 R D (wsC Y ad G') (AW 90 ad)) mc (6 * mc) (AW 90 ad)
/-- throws number k if its argument is 0, changes nothing -/
def XN (l : Launch) (y : MethodName) (b : ByteArray) (k : Nat) (D : va_G) (Y : Nat → ClassId) (ws : va_W) (kd : Nat → Nat) (A : Nat → Prop) (a0 : Int32) : Prop :=
  vx_Met l y (wc y b 1 none) (rmD 8 1 6) (va_Pc [.int a0] (BK D Y ws kd A)) (fun _ st o t => o = .returned none ∧ ¬ a0 = 0 ∧ t.heap = st.heap) (fun E st t => E = exN k ∧ a0 = 0 ∧ st.heap.size ≤ t.heap.size ∧ ∀ q : Nat, q < st.heap.size → t.heap[q]? = st.heap[q]?) 1 6 (fun _ => False)
abbrev WX (p : Program) (l : Launch) (e : Env) (d mc : Nat) (s : State) (m : MethodId) (args : Array Value) (below : List Frame) (meth : Method) (c : Code) (H : Heap) (locs : List Loc) (cells slots : Nat) (Qc : Array Value → State → Outcome → State → Prop) (X : String → State → State → Prop) (A : Nat → Prop) (g : JFrame) : Prop :=
  W p l e (rmD d mc (6 * mc)) s m args below meth c H locs cells slots (vx_MQ below Qc X args s mc (6 * mc) A) g
def bindX {α β : Type} (x : Option ((Nat ⊕ α) × GT)) (f : α → GT → Option ((Nat ⊕ β) × GT)) : Option ((Nat ⊕ β) × GT) := x.bind fun q => match q.1 with
  | .inl k => some (.inl k, q.2)
  | .inr r => f r q.2
theorem bsomeX {α β : Type} {x : Option ((Nat ⊕ α) × GT)} {f : α → GT → Option ((Nat ⊕ β) × GT)} {R : Nat ⊕ β} {G' : GT} (h : bindX x f = some (R, G')) : ∃ R1 G1, x = some (R1, G1) ∧ (∀ k, R1 = .inl k → some (.inl k, G1) = some (R, G')) ∧ (∀ r, R1 = .inr r → f r G1 = some (R, G')) := by
  obtain ⟨⟨R1, G1⟩, h1, h2⟩ := bsome h
  refine ⟨R1, G1, h1, fun k hk => ?_, fun r hr => ?_⟩
  · subst hk; exact h2
  · subst hr; exact h2
theorem X_of {l : Launch} {y : MethodName} {b : ByteArray} {n : Nat} {ret : Option FieldType} {d mc ms : Nat} {D : va_G} {Y : Nat → ClassId} {ws : va_W} {kd : Nat → Nat} {A : Nat → Prop} {As : List Value} {Qc : Array Value → State → Outcome → State → Prop} {X : String → State → State → Prop} {fr : Nat → Prop} {lv : List (Nat × Value)} (hy : plainName y.cls = true) (hn : (lg_sl As).length ≤ n) (hlv : lv_args 0 As = lv)
    (body : ∀ (p : Program) (e : Env) (s : State) (m : MethodId) (below : List Frame) (meth : Method) (c : Code) (ls : Array Slot), Fx p c b n s m As.toArray y.cls D Y → va_P D vwCl ws s.heap → Ks kd A s s.heap → va_S A s.heap s.heap [] → meth.sig.returnType = ret → meth.locks = false → (∀ x ∈ c.exceptionTable.toList, False) → lv_has ls n lv → W p l e (rmD d mc ms) s m As.toArray below meth c s.heap [] 0 0 (vx_MQ below Qc X As.toArray s mc ms fr) (F0 m 0 ls [])) : vx_Met l y (wc y b n ret) (rmD d mc ms) (va_Pc As (BK D Y ws kd A)) Qc X mc ms fr := by
  refine vx_ofW (cc := b) (maxL := n) (ret := ret) hy rfl ?_
  intro p e s m args below meth c s₁ B hml hex hv
  obtain ⟨rfl, ⟨hE, hP⟩, hK⟩ := hv
  have hts := atoms_spec (ws := wc y b n ret) B.pre
  have hl := lv_entry As hn
  rw [lg_entry_eq]
  rw [hlv] at hl
  exact body p e s m below meth c _ ⟨⟨B.exec, B.bytes, hml, findClass_of_methodNamed B.named, fun w hw => hts w (List.mem_cons_of_mem _ hw)⟩, hE⟩ hP hK va_S.rf B.returns B.notSynchronized hex hl
section XR
variable {p : Program} {l : Launch} {e : Env} {R : Room} {s : State} {m : MethodId} {args : Array Value} {below : List Frame} {meth : Method} {c : Code} {H : Heap} {locs : List Loc} {cells slots mc ms : Nat} {Q : State → Prop}
variable {cc : ByteArray} {pc nL : Nat} {ls : Array Slot} {rest st0 : List Value}
variable {own host : String} {idx : Nat} {y : MethodName} {b : ByteArray} {n ar d : Nat} {ret : Option FieldType} {D : va_G} {Y : Nat → ClassId} {ws : va_W} {kd ad : Nat → Nat} {A : Nat → Prop} {As : List Value} {G G' : GT}
theorem va_S.more {H1 : Heap} (hS : va_S A s.heap H locs) (h1 : H.size ≤ H1.size) (h2 : ∀ q : Nat, q < H.size → H1[q]? = H[q]?) : va_S A s.heap H1 locs := ⟨Nat.le_trans hS.1 h1, fun q g1 g2 => (h2 q (Nat.lt_of_lt_of_le g1 hS.1)).trans (hS.2.1 q g1 g2), hS.2.2⟩
theorem P_more {H1 : Heap} (hP : va_P D vwCl ws H) (h2 : ∀ q : Nat, q < H.size → H1[q]? = H[q]?) : va_P D vwCl ws H1 := hP.kept (fun k q hk => h2 _ (hP k q hk).lt)
/-- a call of one that throws if its argument is 0 -/
theorem xn_S {α : Type} {RR : Nat ⊕ α} {k : Nat} {a0 : Int32} {Qc : Array Value → State → Outcome → State → Prop} (F : Fx p c cc nL s m args own D Y) (hP : va_P D vwCl (wsC Y ad G) H) (hK : Ks ad (AW 90 ad) s s.heap) (hS : va_S (AW 90 ad) s.heap H locs) (hex : ∀ x ∈ c.exceptionTable.toList, False) (hlk : meth.locks = false) (kS : CKS y b 1 none 1) (hl : Cond.methodLink own idx y ∈ LW) (hM : XN l y b k D Y (wsC Y ad G) ad (AW 90 ad) a0) (hsz : ls.size = nL) (hR : 8 + 1 ≤ R.frames ∧ 8 + (1 + 11) + 40 * 8 ≤ R.locals ∧ cells + 1 ≤ R.cells ∧ slots + 6 ≤ R.slots) (hcat : (rest.map fun v => v.category).sum ≤ 8) (hc : cells + 1 ≤ mc) (hs : slots + 6 ≤ ms) (hdg : decode cc pc = .ok (.invokestatic idx, 3))
    (h0 : a0 = 0 → some (.inl k, G) = some (RR, G')) (kk : ¬ a0 = 0 → W p l e R s m args below meth c H locs (cells + 1) (slots + 6) (vx_MQ below Qc (XC α RR D (wsC Y ad G') (AW 90 ad)) args s mc ms (AW 90 ad)) (F0 m (pc + 3) ls rest)) : W p l e R s m args below meth c H locs cells slots (vx_MQ below Qc (XC α RR D (wsC Y ad G') (AW 90 ad)) args s mc ms (AW 90 ad)) (F0 m pc ls (.int a0 :: rest)) := by
  intro T hT X
  rcases vx_runS (As := [.int a0]) (rest := rest) F.1 hM (ck_S F.1.2.2.2.2 kS hl rfl rfl ⟨hR.1, hR.2.1⟩) ⟨BK.blind, fun U hU hW => ⟨rfl, BK.of F.2 hP hK hS hU hW⟩⟩ rfl rfl hsz (g := F0 m pc ls (.int a0 :: rest)) rfl (lv_room (m := m) (pc := pc) (ls := ls) (rest := .int a0 :: rest) hcat) hdg hR.2.2 T hT X with ⟨v, st₀, t, T', L, g0, X', hL, e1, e2, ⟨hv, hn0, hh⟩, st⟩ | ⟨q, st₀, t, T', L, E, ce, g0, X', hL, e1, e2, ⟨rfl, hz, hh1, hh2⟩, hce, hcv, hcl, st⟩
  · cases hv
    obtain ⟨t2, a1, b1⟩ := kk hn0 T' (by rw [e1, hh, g0]) (Stand.forget X' (fun q h => (hL q h).elim))
    exact ⟨t2, st t2 a1, b1⟩
  · cases h0 hz
    rw [g0] at hh1 hh2
    have q1 : ∀ q : Nat, q < H.size → T'.heap[q]? = H[q]? := fun q h => by rw [e1]; exact hh2 q h
    have hP1 := P_more hP q1
    have hS1 := va_S.more hS (by rw [e1]; exact hh1) q1
    obtain ⟨t2, a1, b1⟩ := vx_out (p := p) (l := l) (e := e) (R := R) (s := s) (m := m) (args := args) (below := below) (meth := meth) (c := c) (H := T'.heap) (locs := locs) (cells := cells + 1) (slots := slots + 6) (Qc := Qc) (XC := XC α (.inl k) D (wsC Y ad G) (AW 90 ad)) (free := AW 90 ad) (ls := ls) (rest := rest) (pc := pc) (E := exN k) (ce := ce) (q := q) (fun x hx => (hex x hx).elim) hlk (by rw [e1]; exact hce) hcv hcl
      (fun t ht _ => ⟨⟨k, rfl, rfl⟩, by rw [ht]; exact hP1, by refine ⟨?_, fun q g1 g2 => ?_⟩ <;> rw [ht]; exact hS1.1; exact hS1.2.1 q g1 g2⟩) hS1.2.2 hc hs T' rfl (Stand.forget X' (fun q h => (hL q h).elim))
    exact ⟨t2, st.trans a1, b1⟩
/-- a call of one that gives an int back or throws -/
theorem xw_V {α : Type} {RR : Nat ⊕ α} {R1 : Nat ⊕ Int32} {G1 : GT} {a d' m' : Nat} {Qc : Array Value → State → Outcome → State → Prop} (F : Fx p c cc nL s m args own D Y) (hP : va_P D vwCl (wsC Y ad G) H) (hK : Ks ad (AW 90 ad) s s.heap) (hS : va_S (AW 90 ad) s.heap H locs) (hex : ∀ x ∈ c.exceptionTable.toList, False) (hlk : meth.locks = false) (k : CKV y b n ret ar) (hl : Cond.methodLink own idx y ∈ LW) (q0 ci : Nat) {T : u_T} {M : Nat} (hci : vwCl[ci]? = some (y.cls, T, M)) {fs : List Value} (he : (wsC Y ad G)[q0]? = some (a, .inr (ci, fs)))
    (hM : XWi l y b n ret d' m' D Y ad G (.ref a :: As) R1 G1) (hn : As.length = ar) (hsz : ls.size = nL) (hR : d' + 1 ≤ R.frames ∧ 8 + (n + 11) + 40 * d' ≤ R.locals) (hst : st0 = As.reverse ++ .ref a :: rest) (hcat : (rest.map fun v => v.category).sum ≤ 8) (hRc : cells + m' ≤ R.cells ∧ slots + 6 * m' ≤ R.slots) (hc : cells + m' ≤ mc) (hs : slots + 6 * m' ≤ ms) (hdg : decode cc pc = .ok (.invokevirtual idx, 3))
    (h0 : ∀ j, R1 = .inl j → some (.inl j, G1) = some (RR, G')) (kk : ∀ (r : Int32) (H1 : Heap) (locs1 : List Loc), R1 = .inr r → okR ret r → va_P D vwCl (wsC Y ad G1) H1 → va_S (AW 90 ad) s.heap H1 locs1 → W p l e R s m args below meth c H1 locs1 (cells + m') (slots + 6 * m') (vx_MQ below Qc (XC α RR D (wsC Y ad G') (AW 90 ad)) args s mc ms (AW 90 ad)) (F0 m (pc + 3) ls (.int r :: rest))) : W p l e R s m args below meth c H locs cells slots (vx_MQ below Qc (XC α RR D (wsC Y ad G') (AW 90 ad)) args s mc ms (AW 90 ad)) (F0 m pc ls st0) := by
  subst hst
  intro T hT X
  rcases vx_runV (As := As) (rest := rest) F.1 hM (ck_V F.1.2.2.2.2 k hl rfl rfl hR) ⟨BK.blind, va_recv F.2.1 hP hci he, fun U hU hW => ⟨rfl, BK.of F.2 hP hK hS hU hW⟩⟩ rfl hn hsz (g := F0 m pc ls (As.reverse ++ .ref a :: rest)) rfl (lv_room (m := m) (pc := pc) (ls := ls) (rest := As.reverse ++ .ref a :: rest) hcat) hdg hRc T hT X with ⟨v, st₀, t, T', L, g0, X', hL, e1, e2, ⟨⟨r, u, hv, ⟨hr1, ho⟩, hB⟩, hF⟩, st⟩ | ⟨q, st₀, t, T', L, E, ce, g0, X', hL, e1, e2, ⟨⟨j, hj, rfl⟩, hB, hF⟩, hce, hcv, hcl, st⟩
  · cases hv
    obtain ⟨k1, k2, k3⟩ := vx_keep g0 e1 hS (A1 := AW 90 ad) (fun _ _ h => h) (fun _ h => h) hL hF
    obtain ⟨t2, a1, b1⟩ := kk r T'.heap (locs ++ L) hr1 ho (by rw [e1]; exact hB) k3 T' rfl X'
    exact ⟨t2, st t2 a1, b1⟩
  · cases h0 j hj
    obtain ⟨k1, k2, k3⟩ := vx_keep g0 e1 hS (A1 := AW 90 ad) (fun _ _ h => h) (fun _ h => h) hL hF
    obtain ⟨t2, a1, b1⟩ := vx_out (p := p) (l := l) (e := e) (R := R) (s := s) (m := m) (args := args) (below := below) (meth := meth) (c := c) (H := T'.heap) (locs := locs ++ L) (cells := cells + m') (slots := slots + 6 * m') (Qc := Qc) (XC := XC α (.inl j) D (wsC Y ad G') (AW 90 ad)) (free := AW 90 ad) (ls := ls) (rest := rest) (pc := pc) (E := exN j) (ce := ce) (q := q) (fun x hx => (hex x hx).elim) hlk (by rw [e1]; exact hce) hcv hcl
      (fun t' ht _ => ⟨⟨j, rfl, rfl⟩, by rw [ht, e1]; exact hB, by refine ⟨?_, fun q g1 g2 => ?_⟩ <;> rw [ht]; exact k3.1; exact k3.2.1 q g1 g2⟩) k3.2.2 hc hs T' rfl X'
    exact ⟨t2, st.trans a1, b1⟩
theorem xw_S {α : Type} {RR : Nat ⊕ α} {R1 : Nat ⊕ Int32} {G1 : GT} {d' m' : Nat} {Qc : Array Value → State → Outcome → State → Prop} (F : Fx p c cc nL s m args own D Y) (hP : va_P D vwCl (wsC Y ad G) H) (hK : Ks ad (AW 90 ad) s s.heap) (hS : va_S (AW 90 ad) s.heap H locs) (hex : ∀ x ∈ c.exceptionTable.toList, False) (hlk : meth.locks = false) (k : CKS y b n ret ar) (hl : Cond.methodLink own idx y ∈ LW)
    (hM : XWi l y b n ret d' m' D Y ad G As R1 G1) (hn : As.length = ar) (hsz : ls.size = nL) (hR : d' + 1 ≤ R.frames ∧ 8 + (n + 11) + 40 * d' ≤ R.locals) (hst : st0 = As.reverse ++ rest) (hcat : (rest.map fun v => v.category).sum ≤ 8) (hRc : cells + m' ≤ R.cells ∧ slots + 6 * m' ≤ R.slots) (hc : cells + m' ≤ mc) (hs : slots + 6 * m' ≤ ms) (hdg : decode cc pc = .ok (.invokestatic idx, 3))
    (h0 : ∀ j, R1 = .inl j → some (.inl j, G1) = some (RR, G')) (kk : ∀ (r : Int32) (H1 : Heap) (locs1 : List Loc), R1 = .inr r → okR ret r → va_P D vwCl (wsC Y ad G1) H1 → va_S (AW 90 ad) s.heap H1 locs1 → W p l e R s m args below meth c H1 locs1 (cells + m') (slots + 6 * m') (vx_MQ below Qc (XC α RR D (wsC Y ad G') (AW 90 ad)) args s mc ms (AW 90 ad)) (F0 m (pc + 3) ls (.int r :: rest))) : W p l e R s m args below meth c H locs cells slots (vx_MQ below Qc (XC α RR D (wsC Y ad G') (AW 90 ad)) args s mc ms (AW 90 ad)) (F0 m pc ls st0) := by
  subst hst
  intro T hT X
  rcases vx_runS (As := As) (rest := rest) F.1 hM (ck_S F.1.2.2.2.2 k hl rfl rfl hR) ⟨BK.blind, fun U hU hW => ⟨rfl, BK.of F.2 hP hK hS hU hW⟩⟩ rfl hn hsz (g := F0 m pc ls (As.reverse ++ rest)) rfl (lv_room (m := m) (pc := pc) (ls := ls) (rest := As.reverse ++ rest) hcat) hdg hRc T hT X with ⟨v, st₀, t, T', L, g0, X', hL, e1, e2, ⟨⟨r, u, hv, ⟨hr1, ho⟩, hB⟩, hF⟩, st⟩ | ⟨q, st₀, t, T', L, E, ce, g0, X', hL, e1, e2, ⟨⟨j, hj, rfl⟩, hB, hF⟩, hce, hcv, hcl, st⟩
  · cases hv
    obtain ⟨k1, k2, k3⟩ := vx_keep g0 e1 hS (A1 := AW 90 ad) (fun _ _ h => h) (fun _ h => h) hL hF
    obtain ⟨t2, a1, b1⟩ := kk r T'.heap (locs ++ L) hr1 ho (by rw [e1]; exact hB) k3 T' rfl X'
    exact ⟨t2, st t2 a1, b1⟩
  · cases h0 j hj
    obtain ⟨k1, k2, k3⟩ := vx_keep g0 e1 hS (A1 := AW 90 ad) (fun _ _ h => h) (fun _ h => h) hL hF
    obtain ⟨t2, a1, b1⟩ := vx_out (p := p) (l := l) (e := e) (R := R) (s := s) (m := m) (args := args) (below := below) (meth := meth) (c := c) (H := T'.heap) (locs := locs ++ L) (cells := cells + m') (slots := slots + 6 * m') (Qc := Qc) (XC := XC α (.inl j) D (wsC Y ad G') (AW 90 ad)) (free := AW 90 ad) (ls := ls) (rest := rest) (pc := pc) (E := exN j) (ce := ce) (q := q) (fun x hx => (hex x hx).elim) hlk (by rw [e1]; exact hce) hcv hcl
      (fun t' ht _ => ⟨⟨j, rfl, rfl⟩, by rw [ht, e1]; exact hB, by refine ⟨?_, fun q g1 g2 => ?_⟩ <;> rw [ht]; exact k3.1; exact k3.2.1 q g1 g2⟩) k3.2.2 hc hs T' rfl X'
    exact ⟨t2, st.trans a1, b1⟩
theorem x_end {ty : FieldType} {v : Int32} {RR : Nat ⊕ Int32} {X : String → State → State → Prop} (F : Fx p c cc nL s m args own D Y) (hP : va_P D vwCl (wsC Y ad G) H) (hS : va_S (AW 90 ad) s.heap H locs) (hr : meth.sig.returnType = some ty) (hk : meth.locks = false) (ho : okR (some ty) v) (hc : cells ≤ mc) (hs : slots ≤ ms) (h : some (.inr v, G) = some (RR, G')) (hdg : decode cc pc = .ok (.ireturn, 1)) : W p l e R s m args below meth c H locs cells slots (vx_MQ below (XQi (some ty) RR D (wsC Y ad G') (AW 90 ad)) X args s mc ms (AW 90 ad)) (F0 m pc ls [.int v]) := by
  cases h
  refine W.widen (k := mc) (n := ms) hc hs (vx_ret ?_)
  exact W.zret F.1.1 F.1.2.1 hr ho (fun t ht _ => ⟨⟨v, (), rfl, ⟨rfl, ho⟩, by show va_P D vwCl _ t.heap; rw [ht]; exact hP⟩, hS.F ht⟩) hS.2.2 hdg hk
theorem xd_end {v : UInt64} {RR : Nat ⊕ UInt64} {X : String → State → State → Prop} (F : Fx p c cc nL s m args own D Y) (hP : va_P D vwCl (wsC Y ad G) H) (hS : va_S (AW 90 ad) s.heap H locs) (hr : meth.sig.returnType = some .double) (hk : meth.locks = false) (hc : cells ≤ mc) (hs : slots ≤ ms) (h : some (.inr v, G) = some (RR, G')) (hdg : decode cc pc = .ok (.dreturn, 1)) : W p l e R s m args below meth c H locs cells slots (vx_MQ below (XQd RR D (wsC Y ad G') (AW 90 ad)) X args s mc ms (AW 90 ad)) (F0 m pc ls [.double v]) := by
  cases h
  refine W.widen (k := mc) (n := ms) hc hs (vx_ret ?_)
  exact W.dret F.1.1 F.1.2.1 hr (fun t ht _ => ⟨⟨v, (), rfl, rfl, by show va_P D vwCl _ t.heap; rw [ht]; exact hP⟩, hS.F ht⟩) hS.2.2 hdg hk
theorem xf_end {v : UInt32} {RR : Nat ⊕ UInt32} {X : String → State → State → Prop} (F : Fx p c cc nL s m args own D Y) (hP : va_P D vwCl (wsC Y ad G) H) (hS : va_S (AW 90 ad) s.heap H locs) (hr : meth.sig.returnType = some .float) (hk : meth.locks = false) (hc : cells ≤ mc) (hs : slots ≤ ms) (h : some (.inr v, G) = some (RR, G')) (hdg : decode cc pc = .ok (.freturn, 1)) : W p l e R s m args below meth c H locs cells slots (vx_MQ below (XQf RR D (wsC Y ad G') (AW 90 ad)) X args s mc ms (AW 90 ad)) (F0 m pc ls [.float v]) := by
  cases h
  refine W.widen (k := mc) (n := ms) hc hs (vx_ret ?_)
  exact W.fret F.1.1 F.1.2.1 hr (fun t ht _ => ⟨⟨v, (), rfl, rfl, by show va_P D vwCl _ t.heap; rw [ht]; exact hP⟩, hS.F ht⟩) hS.2.2 hdg hk
end XR
theorem xat_0 : ∀ w ∈ (vx_atS RX9 374 "java/lang/IndexOutOfBoundsException" ["java/lang/RuntimeException", "java/lang/Exception"]).filter goodWord, w ∈ LW := by decide +kernel
theorem xnt_0 : ∀ w ∈ (vx_atS RX9 374 "java/lang/IndexOutOfBoundsException" ["java/lang/RuntimeException", "java/lang/Exception"]).filter (fun w => !goodWord w), w ∈ NW := by decide +kernel
theorem xgd_0 : ∀ w ∈ Cond.classLink RX9 370 "java/lang/IndexOutOfBoundsException" :: Cond.initialized "java/lang/IndexOutOfBoundsException" :: vx_atS RX9 374 "java/lang/IndexOutOfBoundsException" ["java/lang/RuntimeException", "java/lang/Exception"], vx_ot w = true := by decide +kernel
theorem xall_0 {args : Array Value} {s : State} (hts : ∀ w ∈ LW, w.before args s = true) (hN : Nw s) : ∀ w ∈ vx_atS RX9 374 "java/lang/IndexOutOfBoundsException" ["java/lang/RuntimeException", "java/lang/Exception"], w.before args s = true := fun w hw => by
  by_cases g : goodWord w = true
  · exact hts w (xat_0 w (List.mem_filter.mpr ⟨hw, g⟩))
  · have h1 := xnt_0 w (List.mem_filter.mpr ⟨hw, by simp [g]⟩)
    have h2 := hN w h1
    have h3 := (List.mem_filter.mp h1).2
    cases w <;> first | exact Bool.noConfusion h3 | exact va_Nw.use rfl h2
theorem xat_1 : ∀ w ∈ (vx_atS RX9 379 "java/lang/IllegalArgumentException" ["java/lang/RuntimeException", "java/lang/Exception"]).filter goodWord, w ∈ LW := by decide +kernel
theorem xnt_1 : ∀ w ∈ (vx_atS RX9 379 "java/lang/IllegalArgumentException" ["java/lang/RuntimeException", "java/lang/Exception"]).filter (fun w => !goodWord w), w ∈ NW := by decide +kernel
theorem xgd_1 : ∀ w ∈ Cond.classLink RX9 375 "java/lang/IllegalArgumentException" :: Cond.initialized "java/lang/IllegalArgumentException" :: vx_atS RX9 379 "java/lang/IllegalArgumentException" ["java/lang/RuntimeException", "java/lang/Exception"], vx_ot w = true := by decide +kernel
theorem xall_1 {args : Array Value} {s : State} (hts : ∀ w ∈ LW, w.before args s = true) (hN : Nw s) : ∀ w ∈ vx_atS RX9 379 "java/lang/IllegalArgumentException" ["java/lang/RuntimeException", "java/lang/Exception"], w.before args s = true := fun w hw => by
  by_cases g : goodWord w = true
  · exact hts w (xat_1 w (List.mem_filter.mpr ⟨hw, g⟩))
  · have h1 := xnt_1 w (List.mem_filter.mpr ⟨hw, by simp [g]⟩)
    have h2 := hN w h1
    have h3 := (List.mem_filter.mp h1).2
    cases w <;> first | exact Bool.noConfusion h3 | exact va_Nw.use rfl h2
theorem xat_2 : ∀ w ∈ (vx_atS RX9 384 "java/lang/UnsupportedOperationException" ["java/lang/RuntimeException", "java/lang/Exception"]).filter goodWord, w ∈ LW := by decide +kernel
theorem xnt_2 : ∀ w ∈ (vx_atS RX9 384 "java/lang/UnsupportedOperationException" ["java/lang/RuntimeException", "java/lang/Exception"]).filter (fun w => !goodWord w), w ∈ NW := by decide +kernel
theorem xgd_2 : ∀ w ∈ Cond.classLink RX9 380 "java/lang/UnsupportedOperationException" :: Cond.initialized "java/lang/UnsupportedOperationException" :: vx_atS RX9 384 "java/lang/UnsupportedOperationException" ["java/lang/RuntimeException", "java/lang/Exception"], vx_ot w = true := by decide +kernel
theorem xall_2 {args : Array Value} {s : State} (hts : ∀ w ∈ LW, w.before args s = true) (hN : Nw s) : ∀ w ∈ vx_atS RX9 384 "java/lang/UnsupportedOperationException" ["java/lang/RuntimeException", "java/lang/Exception"], w.before args s = true := fun w hw => by
  by_cases g : goodWord w = true
  · exact hts w (xat_2 w (List.mem_filter.mpr ⟨hw, g⟩))
  · have h1 := xnt_2 w (List.mem_filter.mpr ⟨hw, by simp [g]⟩)
    have h2 := hN w h1
    have h3 := (List.mem_filter.mp h1).2
    cases w <;> first | exact Bool.noConfusion h3 | exact va_Nw.use rfl h2
theorem xat_4 : ∀ w ∈ (vx_atS RX9 394 "java/lang/IllegalStateException" ["java/lang/RuntimeException", "java/lang/Exception"]).filter goodWord, w ∈ LW := by decide +kernel
theorem xnt_4 : ∀ w ∈ (vx_atS RX9 394 "java/lang/IllegalStateException" ["java/lang/RuntimeException", "java/lang/Exception"]).filter (fun w => !goodWord w), w ∈ NW := by decide +kernel
theorem xgd_4 : ∀ w ∈ Cond.classLink RX9 390 "java/lang/IllegalStateException" :: Cond.initialized "java/lang/IllegalStateException" :: vx_atS RX9 394 "java/lang/IllegalStateException" ["java/lang/RuntimeException", "java/lang/Exception"], vx_ot w = true := by decide +kernel
theorem xall_4 {args : Array Value} {s : State} (hts : ∀ w ∈ LW, w.before args s = true) (hN : Nw s) : ∀ w ∈ vx_atS RX9 394 "java/lang/IllegalStateException" ["java/lang/RuntimeException", "java/lang/Exception"], w.before args s = true := fun w hw => by
  by_cases g : goodWord w = true
  · exact hts w (xat_4 w (List.mem_filter.mpr ⟨hw, g⟩))
  · have h1 := xnt_4 w (List.mem_filter.mpr ⟨hw, by simp [g]⟩)
    have h2 := hN w h1
    have h3 := (List.mem_filter.mp h1).2
    cases w <;> first | exact Bool.noConfusion h3 | exact va_Nw.use rfl h2
theorem xat_5 : ∀ w ∈ (vx_atS RX9 343 "java/lang/ArithmeticException" ["java/lang/RuntimeException", "java/lang/Exception"]).filter goodWord, w ∈ LW := by decide +kernel
theorem xnt_5 : ∀ w ∈ (vx_atS RX9 343 "java/lang/ArithmeticException" ["java/lang/RuntimeException", "java/lang/Exception"]).filter (fun w => !goodWord w), w ∈ NW := by decide +kernel
theorem xgd_5 : ∀ w ∈ Cond.classLink RX9 339 "java/lang/ArithmeticException" :: Cond.initialized "java/lang/ArithmeticException" :: vx_atS RX9 343 "java/lang/ArithmeticException" ["java/lang/RuntimeException", "java/lang/Exception"], vx_ot w = true := by decide +kernel
theorem xall_5 {args : Array Value} {s : State} (hts : ∀ w ∈ LW, w.before args s = true) (hN : Nw s) : ∀ w ∈ vx_atS RX9 343 "java/lang/ArithmeticException" ["java/lang/RuntimeException", "java/lang/Exception"], w.before args s = true := fun w hw => by
  by_cases g : goodWord w = true
  · exact hts w (xat_5 w (List.mem_filter.mpr ⟨hw, g⟩))
  · have h1 := xnt_5 w (List.mem_filter.mpr ⟨hw, by simp [g]⟩)
    have h2 := hN w h1
    have h3 := (List.mem_filter.mp h1).2
    cases w <;> first | exact Bool.noConfusion h3 | exact va_Nw.use rfl h2
