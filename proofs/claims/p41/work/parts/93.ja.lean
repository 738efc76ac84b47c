/-! builders and strings: what stands, contracts, calls -/
theorem jw_sup : Cond.superclass "java/lang/StringBuilder" "java/lang/AbstractStringBuilder" ∈ LW := LWm (tb5 (List.mem_of_getElem? (i := 142) (by decide +kernel))) rfl
theorem jw_nac : Cond.native ⟨"java/lang/System", "arraycopy", "(Ljava/lang/Object;ILjava/lang/Object;II)V"⟩ ∈ LW := LWm (tb5 (List.mem_of_getElem? (i := 184) (by decide +kernel))) rfl
theorem jw_ncl : Cond.native ⟨"java/lang/Object", "clone", "()Ljava/lang/Object;"⟩ ∈ LW := LWm (tb5 (List.mem_of_getElem? (i := 176) (by decide +kernel))) rfl
theorem jw_scl : Cond.sameMethod "[B" "java/lang/Object" "clone" "()Ljava/lang/Object;" ∈ LW := LWm (tb5 (List.mem_of_getElem? (i := 175) (by decide +kernel))) rfl
theorem jw_slen : Cond.sameMethod "java/lang/AbstractStringBuilder" "java/lang/AbstractStringBuilder" "length" "()I" ∈ LW := LWm (tb6 (List.mem_of_getElem? (i := 87) (by decide +kernel))) rfl
theorem jw_sS : Cond.sameMethod "java/lang/AbstractStringBuilder" "java/lang/AbstractStringBuilder" "append" "(Ljava/lang/String;)Ljava/lang/AbstractStringBuilder;" ∈ LW := LWm (tb7 (List.mem_of_getElem? (i := 122) (by decide +kernel))) rfl
theorem jw_sC : Cond.sameMethod "java/lang/AbstractStringBuilder" "java/lang/AbstractStringBuilder" "append" "(C)Ljava/lang/AbstractStringBuilder;" ∈ LW := LWm (tb7 (List.mem_of_getElem? (i := 129) (by decide +kernel))) rfl
theorem jw_sI : Cond.sameMethod "java/lang/AbstractStringBuilder" "java/lang/AbstractStringBuilder" "append" "(I)Ljava/lang/AbstractStringBuilder;" ∈ LW := LWm (tb7 (List.mem_of_getElem? (i := 130) (by decide +kernel))) rfl
theorem jw_c26 : Cond.constant "jdk/internal/util/ArraysSupport" (200 : Nat) (2147483639 : Int32) ∈ LW := LWm (tb5 (List.mem_of_getElem? (i := 166) (by decide +kernel))) rfl
theorem jw_c30 : Cond.constant "java/lang/AbstractStringBuilder" (39 : Nat) (2147483647 : Int32) ∈ LW := LWm (tb5 (List.mem_of_getElem? (i := 170) (by decide +kernel))) rfl
theorem jw_ab : Cond.arrayClass .byte ∈ LW := LWm (tb2 (List.mem_of_getElem? (i := 195) (by decide +kernel))) rfl
/-! what old cells say does not depend on cells that are new -/
theorem va_Z.wide {C n d : String} {v : Value} {A : Nat → Prop} {U : State} {H : Heap} (h : va_Z C n d v A U H) : va_Z C n d v (fun x => A x ∨ H.size ≤ x) U H := by
  obtain ⟨cf, kf, fi, f, a, cell, h1, h2, h3, h4, h5, h6, h7, h8⟩ := h
  exact ⟨cf, kf, fi, f, a, cell, h1, h2, h3, h4, h5, h6, h7, fun z => z.elim h8 fun g => by have := (Array.getElem?_eq_some_iff.mp h5).1; omega⟩
theorem va_T.wide {ty : FieldType} {t N : Nat} {f : Nat → Value} {A : Nat → Prop} {U : State} {H : Heap} (h : va_T ty t N f A U H) : va_T ty t N f (fun x => A x ∨ H.size ≤ x) U H := by
  obtain ⟨cell, h1, h2, h3, h4, h5, h6, h7⟩ := h
  exact ⟨cell, h1, h2, h3, h4, h5, h6, fun z => z.elim h7 fun g => by have := (Array.getElem?_eq_some_iff.mp h1).1; omega⟩
theorem va_O.wide {C : String} {t : Nat} {A : Nat → Prop} {U : State} {H : Heap} (h : va_O C t A U H) : va_O C t (fun x => A x ∨ H.size ≤ x) U H := by
  obtain ⟨cell, h1, h2, h3, h4⟩ := h
  exact ⟨cell, h1, h2, h3, fun z => z.elim h4 fun g => by have := (Array.getElem?_eq_some_iff.mp h1).1; omega⟩
theorem va_OF.wide {o n d : String} {v : Value} {t : Nat} {A : Nat → Prop} {U : State} {H : Heap} (h : va_OF o n d v t A U H) : va_OF o n d v t (fun x => A x ∨ H.size ≤ x) U H := by
  obtain ⟨cf, k, i, f, cell, h1, h2, h3, h4, h5, h6⟩ := h
  exact ⟨cf, k, i, f, cell, h1, h2, h3, h4, h5, fun z => z.elim h6 fun g => by have := (Array.getElem?_eq_some_iff.mp h3).1; omega⟩
theorem Str.wide {a v : Nat} {bs : List Int32} {A : Nat → Prop} {U : State} {H : Heap} (h : Str a v bs A U H) : Str a v bs (fun x => A x ∨ H.size ≤ x) U H := by
  obtain ⟨h1, h2, h3, h4⟩ := h
  exact ⟨h1.wide, h2.wide, h3.wide, h4.wide⟩
/-- the private methods that a builder runs -/
def pv4 : List MethodName := [yJ5_ensureCapacityInternal_d00df, yJ5_newCapacity_0f7a4, yJ5_putStringAt_47b60, yJ5_inflateIfNeededFor_a7421]
def Sj (U : State) : Prop := ∀ y ∈ pv4, (Cond.selects RJ4 y y).before #[] U = true
theorem Sj.call {U : State} {g : JFrame} {mk : MethodId} {a : Array Value} (h : Sj U) : Sj (U.calling g mk a) := fun y hy => h y hy
theorem setVm_id (U : State) : U.setVm U.vm = U := by cases U; rfl
theorem Sj.warm {s U : State} (hW : s.WarmedH U.vm) (h : Sj s) : Sj U := fun y hy => by
  have := Cond.onTables_warm (args' := #[]) (T := U) hW (c := Cond.selects RJ4 y y) rfl rfl (h y hy)
  rwa [setVm_id] at this
theorem Sj.use {A : Array Value} {s : State} (h : Sj s) {y : MethodName} (hy : y ∈ pv4) : (Cond.selects RJ4 y y).before A s = true := h y hy
def Dg (A : Nat → Prop) (U : State) (H : Heap) : Prop := ∃ d1 d2 : Nat, va_Z "java/lang/Integer" "DigitOnes" "[B" (.ref d1) A U H ∧ va_T .byte d1 100 (fun j => .int (nI (48 + j % 10))) A U H ∧ va_Z "java/lang/Integer" "DigitTens" "[B" (.ref d2) A U H ∧ va_T .byte d2 100 (fun j => .int (nI (48 + j / 10))) A U H
def Jk (A : Nat → Prop) (U : State) (H : Heap) : Prop := va_Z RS' "COMPACT_STRINGS" "Z" (.int 1) A U H ∧ Dg A U H ∧ Sj U
theorem Jk.kept {A : Nat → Prop} {U : State} {H H1 : Heap} (h : Jk A U H) (hq : ∀ a : Nat, a < H.size → ¬ A a → H1[a]? = H[a]?) : Jk A U H1 := by
  obtain ⟨h1, ⟨d1, d2, a1, a2, a3, a4⟩, h3⟩ := h
  exact ⟨h1.kept hq, ⟨d1, d2, a1.kept hq, a2.kept hq, a3.kept hq, a4.kept hq⟩, h3⟩
theorem Jk.narrow {A B : Nat → Prop} {U : State} {H : Heap} (h : Jk A U H) (hAB : ∀ q, B q → A q) : Jk B U H := by
  obtain ⟨h1, ⟨d1, d2, a1, a2, a3, a4⟩, h3⟩ := h
  exact ⟨h1.narrow hAB, ⟨d1, d2, a1.narrow hAB, a2.narrow hAB, a3.narrow hAB, a4.narrow hAB⟩, h3⟩
theorem Jk.wide {A : Nat → Prop} {U : State} {H : Heap} (h : Jk A U H) : Jk (fun x => A x ∨ H.size ≤ x) U H := by
  obtain ⟨h1, ⟨d1, d2, a1, a2, a3, a4⟩, h3⟩ := h
  exact ⟨h1.wide, ⟨d1, d2, a1.wide, a2.wide, a3.wide, a4.wide⟩, h3⟩
theorem Jk.warm {A : Nat → Prop} {s U : State} {H : Heap} (hW : s.WarmedH U.vm) (h : Jk A s H) : Jk A U H := by
  obtain ⟨h1, ⟨d1, d2, a1, a2, a3, a4⟩, h3⟩ := h
  have hv := hW.alike
  exact ⟨va_Z.moved hv h1, ⟨d1, d2, va_Z.moved hv a1, va_T.moved hv a2, va_Z.moved hv a3, va_T.moved hv a4⟩, Sj.warm hW h3⟩
theorem Jk.call {A : Nat → Prop} {U : State} {H : Heap} {g : JFrame} {mk : MethodId} {a : Array Value} (h : Jk A U H) : Jk A (U.calling g mk a) H := by
  obtain ⟨h1, ⟨d1, d2, a1, a2, a3, a4⟩, h3⟩ := h
  have hv : U.vm.Alike (U.calling g mk a).vm := Vm.Alike.refl U.vm
  exact ⟨va_Z.moved hv h1, ⟨d1, d2, va_Z.moved hv a1, va_T.moved hv a2, va_Z.moved hv a3, va_T.moved hv a4⟩, Sj.call h3⟩
/-! contracts -/
def PE (D : va_G) (Y : Nat → ClassId) (Φ : State → Heap → Prop) : State → Prop := fun U => Ev D Y U ∧ Φ U U.heap
def Mv (Φ : State → Heap → Prop) : Prop := (∀ (U : State) (H : Heap) (g : JFrame) (mk : MethodId) (a : Array Value), Φ U H → Φ (U.calling g mk a) H) ∧ ∀ (s U : State) (H : Heap), s.WarmedH U.vm → Φ s H → Φ U H
theorem PE.blind {D : va_G} {Y : Nat → ClassId} {Φ : State → Heap → Prop} (hM : Mv Φ) {As : List Value} : FrameBlind (va_Pc As (PE D Y Φ)) := fun _ _ _ _ h => ⟨h.1, Ev.call h.2.1, hM.1 _ _ _ _ _ h.2.2⟩
theorem PE.of {D : va_G} {Y : Nat → ClassId} {Φ : State → Heap → Prop} (hM : Mv Φ) {s U : State} {H : Heap} (hE : Ev D Y s) (h : Φ s H) (hU : U.heap = H) (hW : s.WarmedH U.vm) : PE D Y Φ U := ⟨Ev.warm hW hE, by rw [hU]; exact hM.2 _ _ _ hW h⟩
def JQ (Post : Option Value → State → State → Prop) (A : Nat → Prop) : Array Value → State → Outcome → State → Prop := fun _ st o t => ∃ v, o = .returned v ∧ Post v st t ∧ va_F A st t
def JM (l : Launch) (y : MethodName) (b : ByteArray) (n : Nat) (ret : Option FieldType) (d mc ms : Nat) (D : va_G) (Y : Nat → ClassId) (Φ : State → Heap → Prop) (As : List Value) (Post : Option Value → State → State → Prop) (A : Nat → Prop) : Prop :=
  Met l y (wc y b n ret) (rmD d mc ms) (va_Pc As (PE D Y Φ)) (JQ Post A) mc ms A
theorem JM_of {l : Launch} {y : MethodName} {b : ByteArray} {n : Nat} {ret : Option FieldType} {d mc ms : Nat} {D : va_G} {Y : Nat → ClassId} {Φ : State → Heap → Prop} {As : List Value} {Qc : Array Value → State → Outcome → State → Prop} {A : Nat → Prop} {lv : List (Nat × Value)} (hy : plainName y.cls = true) (hn : (lg_sl As).length ≤ n) (hlv : lv_args 0 As = lv)
    (body : ∀ (p : Program) (ev : Env) (s : State) (m : MethodId) (below : List Frame) (meth : Method) (c : Code) (ls : Array Slot), Fx p c b n s m As.toArray y.cls D Y → Φ s s.heap → meth.sig.returnType = ret → meth.locks = false → meth.name = y.name → lv_has ls n lv → W p l ev (rmD d mc ms) s m As.toArray below meth c s.heap [] 0 0 (MQ below Qc As.toArray s mc ms A) (F0 m 0 ls [])) : Met l y (wc y b n ret) (rmD d mc ms) (va_Pc As (PE D Y Φ)) Qc mc ms A := by
  refine Met.ofW (cc := b) (maxL := n) (ret := ret) hy rfl ?_
  intro p ev s m args below meth c s₁ B hml hv
  obtain ⟨rfl, hE, hΦ⟩ := hv
  have hts := atoms_spec (ws := wc y b n ret) B.pre
  have hl := lv_entry As hn
  rw [lg_entry_eq]
  rw [hlv] at hl
  exact body p ev s m below meth c _ ⟨⟨B.exec, B.bytes, hml, findClass_of_methodNamed B.named, fun w hw => hts w (List.mem_cons_of_mem _ hw)⟩, hE⟩ hΦ B.returns B.notSynchronized (name_of_methodNamed B.named B.method).1 hl
section JRW
variable {p : Program} {l : Launch} {ev : Env} {R : Room} {s : State} {m : MethodId} {args : Array Value} {below : List Frame} {meth : Method} {c : Code} {H : Heap} {locs : List Loc} {cells slots : Nat} {Q : State → Prop}
variable {cc : ByteArray} {pc nL idx : Nat} {ls : Array Slot} {rest st0 : List Value} {own : String} {D : va_G} {Y : Nat → ClassId}
variable {y : MethodName} {b : ByteArray} {n ar d m' k' : Nat} {ret : Option FieldType} {Φ : State → Heap → Prop} {As : List Value} {Post : Option Value → State → State → Prop} {A B : Nat → Prop} {r : Int32}
/-- behind a call -/
theorem j_go {Qa : State → Outcome → State → Prop} (hrun : CallRun p l ev R s m args below meth c H locs cells slots m' k' (F0 m pc ls st0) rest Qa A) (hQ : ∀ st o t, Qa st o t → ∃ v, o = .returned v ∧ Post v st t ∧ va_F A st t) (hS : va_S B s.heap H locs) (hsub : ∀ x, A x → B x)
    (kk : ∀ (v : Option Value) (st t : State) (H1 : Heap) (locs1 : List Loc), st.heap = H → t.heap = H1 → Post v st t → H.size ≤ H1.size → (∀ x : Nat, x < H.size → ¬ A x → H1[x]? = H[x]?) → va_S B s.heap H1 locs1 → W p l ev R s m args below meth c H1 locs1 (cells + m') (slots + k') Q (F0 m (pc + 3) ls (v.toList ++ rest))) : W p l ev R s m args below meth c H locs cells slots Q (F0 m pc ls st0) := by
  intro T hT X
  obtain ⟨v, st₀, t, T', L, h0, X', hL, e1, hq, st⟩ := hrun T hT X
  obtain ⟨v', ho, hp, hz, hk⟩ := hQ _ _ _ hq
  cases ho
  rw [h0] at hz hk
  obtain ⟨t2, a1, c1⟩ := kk v st₀ t t.heap (locs ++ L) h0 rfl hp hz hk ⟨Nat.le_trans hS.1 hz, fun q g1 g2 => (hk q (Nat.lt_of_lt_of_le g1 hS.1) (fun z => g2 (hsub _ z))).trans (hS.2.1 q g1 g2), fun z hz => by
    rcases List.mem_append.mp hz with h | h
    · exact hS.2.2 z h
    · exact hsub _ (hL z h)⟩ T' e1 X'
  exact ⟨t2, st t2 a1, c1⟩
/-- a static call -/
theorem jm_S (F : Fx p c cc nL s m args own D Y) (hMv : Mv Φ) (hΦ : Φ s H) (hS : va_S B s.heap H locs) (hsub : ∀ x, A x → B x) (k : CKS y b n ret ar) (hl : Cond.methodLink own idx y ∈ LW)
    (hM : JM l y b n ret d m' k' D Y Φ As Post A) (hn : As.length = ar) (hsz : ls.size = nL) (hR : d + 1 ≤ R.frames ∧ 8 + (n + 11) + 40 * d ≤ R.locals) (hst : st0 = As.reverse ++ rest) (hcat : (rest.map fun v => v.category).sum ≤ 8) (hc : cells + m' ≤ R.cells ∧ slots + k' ≤ R.slots) (hdg : decode cc pc = .ok (.invokestatic idx, 3))
    (kk : ∀ (v : Option Value) (st t : State) (H1 : Heap) (locs1 : List Loc), st.heap = H → t.heap = H1 → Post v st t → H.size ≤ H1.size → (∀ x : Nat, x < H.size → ¬ A x → H1[x]? = H[x]?) → va_S B s.heap H1 locs1 → W p l ev R s m args below meth c H1 locs1 (cells + m') (slots + k') Q (F0 m (pc + 3) ls (v.toList ++ rest))) : W p l ev R s m args below meth c H locs cells slots Q (F0 m pc ls st0) := by
  subst hst
  exact j_go (W.runS (As := As) (rest := rest) F.1 hM (ck_S F.1.2.2.2.2 k hl rfl rfl hR) ⟨PE.blind hMv, fun U hU hW => ⟨rfl, PE.of hMv F.2 hΦ hU hW⟩⟩ rfl hn hsz (g := F0 m pc ls (As.reverse ++ rest)) rfl (lv_room (m := m) (pc := pc) (ls := ls) (rest := As.reverse ++ rest) hcat) hdg hc) (fun _ _ _ h => h) hS hsub kk
/-- what a call of a method on an object of a class C needs -/
def CKC (C : String) (s : State) (y : MethodName) (b : ByteArray) (n : Nat) (r : Option FieldType) (ar : Nat) : Prop := Cond.instanceMethod y ∈ LW ∧ (∀ A : Array Value, (Cond.selects C y y).before A s = true) ∧ Cond.initialized y.cls ∈ LW ∧ Cond.code y b n r ∈ LW ∧ (y.cls ≠ "java/lang/invoke/MethodHandle" ∧ y.cls ≠ "java/lang/invoke/VarHandle" ∧ (parseMethodDescriptor y.desc).map (fun d => d.parameters.length) = some ar)
theorem ck_C {C : String} {rm : Room} {mc ms : Nat} (hts : ∀ w ∈ LW, w.before args s = true) (k : CKC C s y b n ret ar) (hl : Cond.methodLink own idx y ∈ LW) (h1 : rm.cells = mc) (h2 : rm.slots = ms) (hR : rm.frames + 1 ≤ R.frames ∧ 8 + (n + 11) + rm.locals ≤ R.locals) : CallW R s args own C idx y b n ret (wc y b n ret) rm mc ms ar :=
  ⟨callB_of (ws' := LW) ar hts (LW_goodc k.2.2.2.1) rfl h1 h2 (hts _ k.2.2.1) (hts _ hl) k.2.2.2.2 hR, hts _ k.1, k.2.1 _⟩
def Rc (C : String) (a : Nat) (s : State) (H : Heap) : Prop := ∃ cellB : Cell, H[a]? = some cellB ∧ cellB.vm.isStatics = false ∧ s.vm.findClass C = some cellB.cls
/-- a virtual call -/
theorem jm_V {C : String} {a : Nat} (F : Fx p c cc nL s m args own D Y) (hMv : Mv Φ) (hΦ : Φ s H) (hS : va_S B s.heap H locs) (hsub : ∀ x, A x → B x) (k : CKC C s y b n ret ar) (hl : Cond.methodLink own idx y ∈ LW) (hrec : Rc C a s H)
    (hM : JM l y b n ret d m' k' D Y Φ (.ref a :: As) Post A) (hn : As.length = ar) (hsz : ls.size = nL) (hR : d + 1 ≤ R.frames ∧ 8 + (n + 11) + 40 * d ≤ R.locals) (hst : st0 = As.reverse ++ .ref a :: rest) (hcat : (rest.map fun v => v.category).sum ≤ 8) (hc : cells + m' ≤ R.cells ∧ slots + k' ≤ R.slots) (hdg : decode cc pc = .ok (.invokevirtual idx, 3))
    (kk : ∀ (v : Option Value) (st t : State) (H1 : Heap) (locs1 : List Loc), st.heap = H → t.heap = H1 → Post v st t → H.size ≤ H1.size → (∀ x : Nat, x < H.size → ¬ A x → H1[x]? = H[x]?) → va_S B s.heap H1 locs1 → W p l ev R s m args below meth c H1 locs1 (cells + m') (slots + k') Q (F0 m (pc + 3) ls (v.toList ++ rest))) : W p l ev R s m args below meth c H locs cells slots Q (F0 m pc ls st0) := by
  subst hst
  exact j_go (W.runV (As := As) (rest := rest) F.1 hM (ck_C F.1.2.2.2.2 k hl rfl rfl hR) ⟨PE.blind hMv, hrec, fun U hU hW => ⟨rfl, PE.of hMv F.2 hΦ hU hW⟩⟩ rfl hn hsz (g := F0 m pc ls (As.reverse ++ .ref a :: rest)) rfl (lv_room (m := m) (pc := pc) (ls := ls) (rest := As.reverse ++ .ref a :: rest) hcat) hdg hc) (fun _ _ _ h => h) hS hsub kk
/-- the superclass's own method -/
theorem jm_U {C : String} {cC a : Nat} (F : Fx p c cc nL s m args own D Y) (hMv : Mv Φ) (hΦ : Φ s H) (hS : va_S B s.heap H locs) (hsub : ∀ x, A x → B x) (hat : ClassAt s C cC) (hrec : Rc C a s H) (hl : Cond.methodLink own idx y ∈ LW) (hsm : Cond.sameMethod y.cls y.cls y.name y.desc ∈ LW) (hsu : Cond.superclass own y.cls ∈ LW) (hin : Cond.instanceMethod y ∈ LW) (hini : Cond.initialized y.cls ∈ LW) (hcd : Cond.code y b n ret ∈ LW) (hd : y.name ≠ "<init>" ∧ (parseMethodDescriptor y.desc).map (fun d => d.parameters.length) = some ar)
    (hM : JM l y b n ret d m' k' D Y Φ (.ref a :: As) Post A) (hn : As.length = ar) (hsz : ls.size = nL) (hR : d + 1 ≤ R.frames ∧ 8 + (n + 11) + 40 * d ≤ R.locals) (hst : st0 = As.reverse ++ .ref a :: rest) (hcat : (rest.map fun v => v.category).sum ≤ 8) (hc : cells + m' ≤ R.cells ∧ slots + k' ≤ R.slots) (hdg : decode cc pc = .ok (.invokespecial idx, 3))
    (kk : ∀ (v : Option Value) (st t : State) (H1 : Heap) (locs1 : List Loc), st.heap = H → t.heap = H1 → Post v st t → H.size ≤ H1.size → (∀ x : Nat, x < H.size → ¬ A x → H1[x]? = H[x]?) → va_S B s.heap H1 locs1 → W p l ev R s m args below meth c H1 locs1 (cells + m') (slots + k') Q (F0 m (pc + 3) ls (v.toList ++ rest))) : W p l ev R s m args below meth c H locs cells slots Q (F0 m pc ls st0) := by
  subst hst
  have hg : GoodIn LW (va_wsSU own idx y (wc y b n ret)) := fun w hw => by
    rcases List.mem_append.mp hw with h | h
    · have hm : w ∈ LW := by
        simp only [List.mem_cons, List.not_mem_nil, or_false] at h
        rcases h with rfl | rfl | rfl | rfl | rfl
        · exact hl
        · exact hsm
        · exact hsu
        · exact hin
        · exact hini
      exact LW_goodIn _ hm
    · exact LW_goodc hcd w h
  exact j_go (run_of (va_runSU (As := As) (rest := rest) hat F.1 hM (va_cwSU (ws' := LW) ar F.1.2.2.2.2 hg rfl rfl rfl hd hR) ⟨PE.blind hMv, hrec, fun U hU hW => ⟨rfl, PE.of hMv F.2 hΦ hU hW⟩⟩ rfl hn hsz (g := F0 m pc ls (As.reverse ++ .ref a :: rest)) rfl (lv_room (m := m) (pc := pc) (ls := ls) (rest := As.reverse ++ .ref a :: rest) hcat) hdg hc)) (fun _ _ _ h => h) hS hsub kk
/-- a constructor -/
theorem jm_I {a : Nat} (F : Fx p c cc nL s m args own D Y) (hMv : Mv Φ) (hΦ : Φ s H) (hS : va_S B s.heap H locs) (hsub : ∀ x, A x → B x) (hin : Cond.instanceMethod y ∈ LW) (hini : Cond.initialized y.cls ∈ LW) (hcd : Cond.code y b n none ∈ LW) (hl : Cond.methodLink own idx y ∈ LW) (hnm : y.name = "<init>") (hd : y.cls ≠ "java/lang/invoke/MethodHandle" ∧ y.cls ≠ "java/lang/invoke/VarHandle" ∧ (parseMethodDescriptor y.desc).map (fun d => d.parameters.length) = some ar)
    (hM : JM l y b n none d m' k' D Y Φ (.ref a :: As) Post A) (hn : As.length = ar) (hsz : ls.size = nL) (hR : d + 1 ≤ R.frames ∧ 8 + (n + 11) + 40 * d ≤ R.locals) (hst : st0 = As.reverse ++ .ref a :: rest) (hcat : (rest.map fun v => v.category).sum ≤ 8) (hc : cells + m' ≤ R.cells ∧ slots + k' ≤ R.slots) (hdg : decode cc pc = .ok (.invokespecial idx, 3))
    (kk : ∀ (v : Option Value) (st t : State) (H1 : Heap) (locs1 : List Loc), st.heap = H → t.heap = H1 → Post v st t → H.size ≤ H1.size → (∀ x : Nat, x < H.size → ¬ A x → H1[x]? = H[x]?) → va_S B s.heap H1 locs1 → W p l ev R s m args below meth c H1 locs1 (cells + m') (slots + k') Q (F0 m (pc + 3) ls (v.toList ++ rest))) : W p l ev R s m args below meth c H locs cells slots Q (F0 m pc ls st0) := by
  subst hst
  exact j_go (run_of (va_runI (As := As) (rest := rest) F.1 hM ⟨callB_of (ws' := LW) ar F.1.2.2.2.2 (LW_goodc hcd) rfl rfl rfl (F.1.2.2.2.2 _ hini) (F.1.2.2.2.2 _ hl) hd hR, hnm, F.1.2.2.2.2 _ hin⟩ ⟨PE.blind hMv, fun U hU hW => ⟨rfl, PE.of hMv F.2 hΦ hU hW⟩⟩ rfl hn hsz (g := F0 m pc ls (As.reverse ++ .ref a :: rest)) rfl (lv_room (m := m) (pc := pc) (ls := ls) (rest := As.reverse ++ .ref a :: rest) hcat) hdg hc)) (fun _ _ _ h => h) hS hsub kk
end JRW
