/-! words: the good ones of the tables, one list for every method; the nest words apart -/
def LW : List Cond := lw_tbl.filter goodWord
theorem LWf {w : Cond} (h : w ∈ lw_tbl) (g : goodWord w = true) : w ∈ LW := List.mem_filter.mpr ⟨h, g⟩
theorem LWm {w : Cond} (h : w ∈ tables_1) (g : goodWord w = true) : w ∈ LW := LWf (List.mem_append_right _ h) g
theorem LWs {q : MethodName × Nat} (h : q ∈ lw_privs) (g : goodWord (Cond.selects q.1.cls q.1 q.1) = true) : Cond.selects q.1.cls q.1 q.1 ∈ LW := LWf (List.mem_append_left _ (List.mem_map.mpr ⟨q, h, rfl⟩)) g
theorem LW_goodIn : GoodIn LW LW := fun _ h => ⟨h, good_of_word (List.mem_filter.mp h).2⟩
theorem LW_goodc {y : MethodName} {b : ByteArray} {n : Nat} {r : Option FieldType} (h : Cond.code y b n r ∈ LW) : GoodIn LW (Cond.code y b n r :: LW) := fun w hw => by
  rcases List.mem_cons.mp hw with rfl | h1
  · exact LW_goodIn _ h
  · exact LW_goodIn _ h1
theorem tb1 {w : Cond} (h : w ∈ tables_1_1) : w ∈ tables_1 := List.mem_append_left _ h
theorem tb2 {w : Cond} (h : w ∈ tables_1_2) : w ∈ tables_1 := List.mem_append_right _ (List.mem_append_left _ h)
theorem tb3 {w : Cond} (h : w ∈ tables_1_3) : w ∈ tables_1 := List.mem_append_right _ (List.mem_append_right _ (List.mem_append_left _ h))
theorem tb4 {w : Cond} (h : w ∈ tables_1_4) : w ∈ tables_1 := List.mem_append_right _ (List.mem_append_right _ (List.mem_append_right _ (List.mem_append_left _ h)))
theorem tb5 {w : Cond} (h : w ∈ tables_1_5) : w ∈ tables_1 := List.mem_append_right _ (List.mem_append_right _ (List.mem_append_right _ (List.mem_append_right _ (List.mem_append_left _ h))))
theorem tb6 {w : Cond} (h : w ∈ tables_1_6) : w ∈ tables_1 := List.mem_append_right _ (List.mem_append_right _ (List.mem_append_right _ (List.mem_append_right _ (List.mem_append_right _ (List.mem_append_left _ h)))))
theorem tb7 {w : Cond} (h : w ∈ tables_1_7) : w ∈ tables_1 := List.mem_append_right _ (List.mem_append_right _ (List.mem_append_right _ (List.mem_append_right _ (List.mem_append_right _ (List.mem_append_right _ h)))))
/-- the words that are kept in another way: across a nest, casts, declarations -/
def nwK : Cond → Bool
  | .methodLinkNest _ _ _ _ => true
  | .fieldLinkNest _ _ _ _ _ _ => true
  | .castable _ _ => true
  | .declares _ => true
  | _ => false
def NW : List Cond := tables_1.filter nwK
theorem NWm {w : Cond} (h : w ∈ tables_1) (g : nwK w = true) : w ∈ NW := List.mem_filter.mpr ⟨h, g⟩
def Nw (U : State) : Prop := ∀ w ∈ NW, va_Nw w U
theorem Nw.warm {s U : State} (hW : s.WarmedH U.vm) (h : Nw s) : Nw U := by
  intro w hw
  have h1 := h w hw
  have h2 := (List.mem_filter.mp hw).2
  cases w <;> first | exact va_Nw.warmM hW h1 | exact va_Nw.warmF hW h1 | exact va_Nw.warmC hW h1 | exact va_Nw.warmD hW h1 | exact Bool.noConfusion h2
theorem Nw.of {A : Array Value} {s : State} (h : ∀ w ∈ lw_tbl, w.before A s = true) : Nw s := by
  intro w hw
  have h1 := h w (List.mem_append_right _ (List.mem_filter.mp hw).1)
  have h2 := (List.mem_filter.mp hw).2
  cases w <;> first | exact Bool.noConfusion h2 | exact va_Nw.of rfl h1
/-! worlds: cells at ad 0 .. ad (n - 1); row i of G says what cell i holds -/
def wsW (n : Nat) (ad : Nat → Nat) (kf : Nat → (Nat → Int32) → va_E) (G : Nat → Nat → Int32) : va_W := (List.range n).map fun i => (ad i, kf i (G i))
def upR (G : Nat → Nat → Int32) (i : Nat) (g : Nat → Int32) : Nat → Nat → Int32 := fun j => if j = i then g else G j
theorem upR_s {G : Nat → Nat → Int32} {i : Nat} {g : Nat → Int32} : upR G i g i = g := by simp [upR]
theorem upR_n {G : Nat → Nat → Int32} {i j : Nat} {g : Nat → Int32} (h : j ≠ i) : upR G i g j = G j := by simp [upR, h]
theorem wsW_get {n : Nat} {ad : Nat → Nat} {kf : Nat → (Nat → Int32) → va_E} {G : Nat → Nat → Int32} (i : Nat) (h : i < n) : (wsW n ad kf G)[i]? = some (ad i, kf i (G i)) := by
  simp [wsW, h]
theorem wsW_set {n : Nat} {ad : Nat → Nat} {kf : Nat → (Nat → Int32) → va_E} {G : Nat → Nat → Int32} (i : Nat) (g : Nat → Int32) : (wsW n ad kf G).set i (ad i, kf i g) = wsW n ad kf (upR G i g) := by
  apply List.ext_getElem?
  intro k
  rw [List.getElem?_set]
  by_cases hk : i = k
  · subst hk
    by_cases hn : i < n
    · simp [wsW, hn, upR]
    · simp [wsW, hn]
  · by_cases hn : k < n
    · simp [wsW, hn, hk, upR, Ne.symm hk]
    · simp [wsW, hn, hk]
def Inj (n : Nat) (ad : Nat → Nat) : Prop := ∀ i j, i < n → j < n → ad i = ad j → i = j
def AW (n : Nat) (ad : Nat → Nat) : Nat → Prop := fun q => ∃ i, i < n ∧ ad i = q
theorem wsW_D {n : Nat} {ad : Nat → Nat} {kf : Nat → (Nat → Int32) → va_E} {G : Nat → Nat → Int32} {A : Nat → Prop} (hI : Inj n ad) (hA : ∀ i, i < n → A (ad i)) : va_D A (wsW n ad kf G) := by
  have key : ∀ (k : Nat) (q : Nat × va_E), (wsW n ad kf G)[k]? = some q → k < n ∧ q.1 = ad k := by
    intro k q h
    by_cases hn : k < n
    · rw [wsW_get k hn] at h
      cases h
      exact ⟨hn, rfl⟩
    · simp [wsW, hn] at h
  refine ⟨fun i j p q hi hj hpq => ?_, fun k q hk => ?_⟩
  · obtain ⟨h1, h2⟩ := key i p hi
    obtain ⟨h3, h4⟩ := key j q hj
    exact hI i j h1 h3 (by rw [← h2, ← h4]; exact hpq)
  · obtain ⟨h1, h2⟩ := key k q hk
    rw [h2]
    exact hA k h1
theorem wsW_kept {n : Nat} {ad : Nat → Nat} {kf : Nat → (Nat → Int32) → va_E} {G : Nat → Nat → Int32} {D : va_G} {H H1 : Heap} (h : va_P D vwCl (wsW n ad kf G) H) (hq : ∀ i, i < n → H1[ad i]? = H[ad i]?) : va_P D vwCl (wsW n ad kf G) H1 := by
  refine h.kept (fun k q hk => ?_)
  by_cases hn : k < n
  · rw [wsW_get k hn] at hk
    cases hk
    exact hq k hn
  · simp [wsW, hn] at hk
/-- the array classes, by number: int, char, Print, Order, long, int rows, byte -/
abbrev TY (Y : Nat → ClassId) : List (ClassId × FieldType) := [(Y 0, .int), (Y 1, .char), (Y 2, .object "TinRoofScore$Print"), (Y 3, .object "TinRoofScore$Order"), (Y 4, .long), (Y 5, .array .int), (Y 6, .byte)]
def Ev (D : va_G) (Y : Nat → ClassId) (U : State) : Prop := va_K D vwCl (TY Y) U ∧ Nw U
theorem Ev.warm {D : va_G} {Y : Nat → ClassId} {s U : State} (hW : s.WarmedH U.vm) (h : Ev D Y s) : Ev D Y U := ⟨va_K.moved hW.alike h.1, Nw.warm hW h.2⟩
theorem Nw.call {U : State} {g : JFrame} {mk : MethodId} {a : Array Value} (h : Nw U) : Nw (U.calling g mk a) := fun w hw => va_Nw.same (u := U) (U := U.calling g mk a) (by have h2 := (List.mem_filter.mp hw).2; cases w <;> first | exact Bool.noConfusion h2 | rfl) rfl (h w hw)
theorem Ev.call {D : va_G} {Y : Nat → ClassId} {U : State} {g : JFrame} {mk : MethodId} {a : Array Value} (h : Ev D Y U) : Ev D Y (U.calling g mk a) := ⟨va_K.moved (u := U) (U := U.calling g mk a) (Vm.Alike.refl U.vm) h.1, Nw.call h.2⟩
/-- what a method finds: the tables, a world -/
def Bw (D : va_G) (Y : Nat → ClassId) (ws : va_W) : State → Prop := fun U => Ev D Y U ∧ va_P D vwCl ws U.heap
theorem Bw.call {D : va_G} {Y : Nat → ClassId} {ws : va_W} {U : State} {g : JFrame} {mk : MethodId} {a : Array Value} (h : Bw D Y ws U) : Bw D Y ws (U.calling g mk a) := ⟨Ev.call h.1, h.2⟩
theorem Bw.of {D : va_G} {Y : Nat → ClassId} {ws : va_W} {s U : State} {H : Heap} (hE : Ev D Y s) (hP : va_P D vwCl ws H) (hU : U.heap = H) (hW : s.WarmedH U.vm) : Bw D Y ws U := ⟨Ev.warm hW hE, by rw [hU]; exact hP⟩
abbrev rmD (d c n : Nat) : Room := { frames := d, cells := c, slots := n, locals := 40 * d }
abbrev wc (y : MethodName) (b : ByteArray) (n : Nat) (r : Option FieldType) : List Cond := Cond.code y b n r :: LW
/-- what a call needs of its callee, besides its contract -/
def CKV (y : MethodName) (b : ByteArray) (n : Nat) (r : Option FieldType) (ar : Nat) : Prop := Cond.instanceMethod y ∈ LW ∧ Cond.selects y.cls y y ∈ LW ∧ Cond.initialized y.cls ∈ LW ∧ Cond.code y b n r ∈ LW ∧ (y.cls ≠ "java/lang/invoke/MethodHandle" ∧ y.cls ≠ "java/lang/invoke/VarHandle" ∧ (parseMethodDescriptor y.desc).map (fun d => d.parameters.length) = some ar)
def CKS (y : MethodName) (b : ByteArray) (n : Nat) (r : Option FieldType) (ar : Nat) : Prop := Cond.static y ∈ LW ∧ Cond.initialized y.cls ∈ LW ∧ Cond.code y b n r ∈ LW ∧ (y.cls ≠ "java/lang/invoke/MethodHandle" ∧ y.cls ≠ "java/lang/invoke/VarHandle" ∧ (parseMethodDescriptor y.desc).map (fun d => d.parameters.length) = some ar)
section CW
variable {R : Room} {s : State} {args : Array Value} {own host : String} {idx : Nat} {y : MethodName} {b : ByteArray} {n ar mc ms : Nat} {r : Option FieldType} {rm : Room}
theorem ck_V (hts : ∀ w ∈ LW, w.before args s = true) (k : CKV y b n r ar) (hl : Cond.methodLink own idx y ∈ LW) (h1 : rm.cells = mc) (h2 : rm.slots = ms) (hR : rm.frames + 1 ≤ R.frames ∧ 8 + (n + 11) + rm.locals ≤ R.locals) : CallW R s args own y.cls idx y b n r (wc y b n r) rm mc ms ar :=
  ⟨callB_of (ws' := LW) ar hts (LW_goodc k.2.2.2.1) rfl h1 h2 (hts _ k.2.2.1) (hts _ hl) k.2.2.2.2 hR, hts _ k.1, hts _ k.2.1⟩
theorem ck_S (hts : ∀ w ∈ LW, w.before args s = true) (k : CKS y b n r ar) (hl : Cond.methodLink own idx y ∈ LW) (h1 : rm.cells = mc) (h2 : rm.slots = ms) (hR : rm.frames + 1 ≤ R.frames ∧ 8 + (n + 11) + rm.locals ≤ R.locals) : CallB R s args own idx y b n r (wc y b n r) rm mc ms ar ∧ (Cond.static y).before args s = true :=
  ⟨callB_of (ws' := LW) ar hts (LW_goodc k.2.2.1) rfl h1 h2 (hts _ k.2.1) (hts _ hl) k.2.2.2 hR, hts _ k.1⟩
theorem ck_VN (hts : ∀ w ∈ LW, w.before args s = true) (hN : Nw s) (k : CKV y b n r ar) (hl : Cond.methodLinkNest own idx y host ∈ NW) (h1 : rm.cells = mc) (h2 : rm.slots = ms) (hR : rm.frames + 1 ≤ R.frames ∧ 8 + (n + 11) + rm.locals ≤ R.locals) : va_CN R s args own idx y host b n r (wc y b n r) rm mc ms ar ∧ (Cond.instanceMethod y).before args s = true ∧ (Cond.selects y.cls y y).before args s = true :=
  ⟨va_cnB (ws' := LW) ar hts (LW_goodc k.2.2.2.1) rfl h1 h2 (hN _ hl) (hts _ k.2.2.1) k.2.2.2.2 hR, hts _ k.1, hts _ k.2.1⟩
theorem ck_SN (hts : ∀ w ∈ LW, w.before args s = true) (hN : Nw s) (k : CKS y b n r ar) (hl : Cond.methodLinkNest own idx y host ∈ NW) (h1 : rm.cells = mc) (h2 : rm.slots = ms) (hR : rm.frames + 1 ≤ R.frames ∧ 8 + (n + 11) + rm.locals ≤ R.locals) : va_CN R s args own idx y host b n r (wc y b n r) rm mc ms ar ∧ (Cond.static y).before args s = true ∧ True :=
  ⟨va_cnB (ws' := LW) ar hts (LW_goodc k.2.2.1) rfl h1 h2 (hN _ hl) (hts _ k.2.1) k.2.2.2 hR, hts _ k.1, trivial⟩
end CW
/-! contracts: RO reads (the heap stays), an int comes back -/
def RO (l : Launch) (y : MethodName) (b : ByteArray) (n : Nat) (ret : Option FieldType) (d : Nat) (D : va_G) (Y : Nat → ClassId) (ws : va_W) (As : List Value) (r : Int32) : Prop :=
  Met l y (wc y b n ret) (rmD d 0 0) (va_Pc As (Bw D Y ws)) (vp_Si (fun v => v = r)) 0 0 (fun _ => False)
section RR
variable {p : Program} {l : Launch} {e : Env} {R : Room} {s : State} {m : MethodId} {args : Array Value} {below : List Frame} {meth : Method} {c : Code} {H : Heap} {locs : List Loc} {cells slots : Nat} {Q : State → Prop}
variable {cc : ByteArray} {pc nL : Nat} {ls : Array Slot} {rest st0 : List Value}
variable {own host : String} {idx : Nat} {y : MethodName} {b : ByteArray} {n ar d : Nat} {ret : Option FieldType} {D : va_G} {Y : Nat → ClassId} {ws : va_W} {As : List Value} {r : Int32}
/-- what stays the same all through a method's walk -/
def Fx (p : Program) (c : Code) (cc : ByteArray) (nL : Nat) (s : State) (m : MethodId) (args : Array Value) (own : String) (D : va_G) (Y : Nat → ClassId) : Prop := CallFix p m c cc nL s args LW own ∧ Ev D Y s
theorem Bw.blind {As : List Value} : FrameBlind (va_Pc As (Bw D Y ws)) := fun _ _ _ _ h => ⟨h.1, Bw.call h.2⟩
/-- a reading call, instance, of the same class -/
theorem ro_V {a : Nat} (F : Fx p c cc nL s m args own D Y) (hP : va_P D vwCl ws H) {d' : Nat} (k : CKV y b n ret ar) (hl : Cond.methodLink own idx y ∈ LW) (q0 ci : Nat) {T : u_T} {N : Nat} (hci : vwCl[ci]? = some (y.cls, T, N)) {fs : List Value} (he : ws[q0]? = some (a, .inr (ci, fs)))
    (hM : RO l y b n ret d' D Y ws (.ref a :: As) r) (hn : As.length = ar) (hsz : ls.size = nL) (hR : d' + 1 ≤ R.frames ∧ 8 + (n + 11) + 40 * d' ≤ R.locals) (hst : st0 = As.reverse ++ .ref a :: rest) (hcat : (rest.map fun v => v.category).sum ≤ 8) (hc : cells ≤ R.cells ∧ slots ≤ R.slots) (hdg : decode cc pc = .ok (.invokevirtual idx, 3))
    (kk : W p l e R s m args below meth c H locs cells slots Q (F0 m (pc + 3) ls (.int r :: rest))) : W p l e R s m args below meth c H locs cells slots Q (F0 m pc ls st0) := by
  subst hst
  refine vp_callSi (W.runV (As := As) (rest := rest) F.1 hM (ck_V F.1.2.2.2.2 k hl rfl rfl hR) ⟨Bw.blind, va_recv F.2.1 hP hci he, fun U hU hW => ⟨rfl, Bw.of F.2 hP hU hW⟩⟩ rfl hn hsz rfl (lv_room hcat) hdg hc) (fun v hv => ?_)
  subst hv
  exact kk
/-- a reading call, static, of the same class -/
theorem ro_S (F : Fx p c cc nL s m args own D Y) (hP : va_P D vwCl ws H) {d' : Nat} (k : CKS y b n ret ar) (hl : Cond.methodLink own idx y ∈ LW)
    (hM : RO l y b n ret d' D Y ws As r) (hn : As.length = ar) (hsz : ls.size = nL) (hR : d' + 1 ≤ R.frames ∧ 8 + (n + 11) + 40 * d' ≤ R.locals) (hst : st0 = As.reverse ++ rest) (hcat : (rest.map fun v => v.category).sum ≤ 8) (hc : cells ≤ R.cells ∧ slots ≤ R.slots) (hdg : decode cc pc = .ok (.invokestatic idx, 3))
    (kk : W p l e R s m args below meth c H locs cells slots Q (F0 m (pc + 3) ls (.int r :: rest))) : W p l e R s m args below meth c H locs cells slots Q (F0 m pc ls st0) := by
  subst hst
  refine vp_callSi (W.runS (As := As) (rest := rest) F.1 hM (ck_S F.1.2.2.2.2 k hl rfl rfl hR) ⟨Bw.blind, fun U hU hW => ⟨rfl, Bw.of F.2 hP hU hW⟩⟩ rfl hn hsz rfl (lv_room hcat) hdg hc) (fun v hv => ?_)
  subst hv
  exact kk
theorem run_of {mc ms : Nat} {g : JFrame} {Qa : State → Outcome → State → Prop} {free : Addr → Prop} (h : va_Run p l e R s m args below meth c H locs cells slots mc ms g rest Qa free) : CallRun p l e R s m args below meth c H locs cells slots mc ms g rest Qa free := by
  intro T hT X
  obtain ⟨v, st₀, t, T', L, h0, X', hL, e1, -, hq, st⟩ := h T hT X
  exact ⟨v, st₀, t, T', L, h0, X', hL, e1, hq, st⟩
/-- a reading call, instance, across the nest -/
theorem ro_VN {a : Nat} (F : Fx p c cc nL s m args own D Y) (hP : va_P D vwCl ws H) {d' : Nat} (k : CKV y b n ret ar) (hl : Cond.methodLinkNest own idx y host ∈ NW) (q0 ci : Nat) {T : u_T} {N : Nat} (hci : vwCl[ci]? = some (y.cls, T, N)) {fs : List Value} (he : ws[q0]? = some (a, .inr (ci, fs)))
    (hM : RO l y b n ret d' D Y ws (.ref a :: As) r) (hn : As.length = ar) (hsz : ls.size = nL) (hR : d' + 1 ≤ R.frames ∧ 8 + (n + 11) + 40 * d' ≤ R.locals) (hst : st0 = As.reverse ++ .ref a :: rest) (hcat : (rest.map fun v => v.category).sum ≤ 8) (hc : cells ≤ R.cells ∧ slots ≤ R.slots) (hdg : decode cc pc = .ok (.invokevirtual idx, 3))
    (kk : W p l e R s m args below meth c H locs cells slots Q (F0 m (pc + 3) ls (.int r :: rest))) : W p l e R s m args below meth c H locs cells slots Q (F0 m pc ls st0) := by
  subst hst
  refine vp_callSi (run_of (va_runVN (As := As) (rest := rest) F.1 hM (ck_VN F.1.2.2.2.2 F.2.2 k hl rfl rfl hR) ⟨Bw.blind, va_recv F.2.1 hP hci he, fun U hU hW => ⟨rfl, Bw.of F.2 hP hU hW⟩⟩ rfl hn hsz rfl (lv_room hcat) hdg hc)) (fun v hv => ?_)
  subst hv
  exact kk
/-- a reading call, static, across the nest -/
theorem ro_SN (F : Fx p c cc nL s m args own D Y) (hP : va_P D vwCl ws H) {d' : Nat} (k : CKS y b n ret ar) (hl : Cond.methodLinkNest own idx y host ∈ NW)
    (hM : RO l y b n ret d' D Y ws As r) (hn : As.length = ar) (hsz : ls.size = nL) (hR : d' + 1 ≤ R.frames ∧ 8 + (n + 11) + 40 * d' ≤ R.locals) (hst : st0 = As.reverse ++ rest) (hcat : (rest.map fun v => v.category).sum ≤ 8) (hc : cells ≤ R.cells ∧ slots ≤ R.slots) (hdg : decode cc pc = .ok (.invokestatic idx, 3))
    (kk : W p l e R s m args below meth c H locs cells slots Q (F0 m (pc + 3) ls (.int r :: rest))) : W p l e R s m args below meth c H locs cells slots Q (F0 m pc ls st0) := by
  subst hst
  refine vp_callSi (run_of (va_runSN (As := As) (rest := rest) F.1 hM (ck_SN F.1.2.2.2.2 F.2.2 k hl rfl rfl hR) ⟨Bw.blind, fun U hU hW => ⟨rfl, Bw.of F.2 hP hU hW⟩⟩ rfl hn hsz rfl (lv_room hcat) hdg hc)) (fun v hv => ?_)
  subst hv
  exact kk
/-- the end of a reading method -/
theorem ro_iret (F : Fx p c cc nL s m args own D Y) (hr : meth.sig.returnType = some .int) (hH : H = s.heap) (hL : locs = []) (hdg : decode cc pc = .ok (.ireturn, 1)) (hlocks : meth.locks = false) : W p l e R s m args below meth c H locs cells slots (MQ below (vp_Si (fun v => v = r)) args s cells slots (fun _ => False)) (F0 m pc ls [.int r]) :=
  W.iret F.1.1 F.1.2.1 hr (fun t ht _ => ⟨r, rfl, rfl, by rw [ht, hH]⟩) (fun q hq => by rw [hL] at hq; cases hq) hdg hlocks
end RR
theorem ifT {α : Type} {c : Prop} [Decidable c] {A B : Option α} {r : α} (h : (if c then A else B) = some r) (hc : c) : A = some r := by rwa [if_pos hc] at h
theorem ifF {α : Type} {c : Prop} [Decidable c] {A B : Option α} {r : α} (h : (if c then A else B) = some r) (hc : ¬ c) : B = some r := by rwa [if_neg hc] at h
theorem bsome {α β : Type} {x : Option α} {f : α → Option β} {r : β} (h : x.bind f = some r) : ∃ v, x = some v ∧ f v = some r := Option.bind_eq_some_iff.mp h
theorem inj1 {α : Type} {a b : α} (h : some a = some b) : a = b := Option.some.inj h
def lp {σ ρ : Type} (f : (σ → Option ρ) → σ → Option ρ) : Nat → σ → Option ρ
  | 0, _ => none
  | n + 1, x => f (lp f n) x
theorem lpS {σ ρ : Type} {f : (σ → Option ρ) → σ → Option ρ} {n : Nat} {x : σ} {r : ρ} (h : lp f (n + 1) x = some r) : f (lp f n) x = some r := h
theorem lp0 {σ ρ : Type} {f : (σ → Option ρ) → σ → Option ρ} {x : σ} {r : ρ} {P : Prop} (h : lp f 0 x = some r) : P := nomatch h
abbrev max32 (x y : Int32) : Int32 := if x < y then y else x
abbrev min32 (x y : Int32) : Int32 := if y < x then y else x
abbrev abs32 (x : Int32) : Int32 := if 0 ≤ x then x else 0 - x
