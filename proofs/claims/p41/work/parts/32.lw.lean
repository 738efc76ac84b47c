/-! the law's methods: what they find, their contracts, their calls -/
def Ncs (U : State) : Prop := ∀ i j : Nat, i < 6 → j < 5 → i ≠ j → va_Nc (exN i) (exN j) U
theorem Ncs.warm {s U : State} (hW : s.WarmedH U.vm) (h : Ncs s) : Ncs U := fun i j a b c => va_Nc.moved hW.alike (h i j a b c)
theorem Ncs.call {U : State} {g : JFrame} {mk : MethodId} {a : Array Value} (h : Ncs U) : Ncs (U.calling g mk a) := fun i j x y z => va_Nc.moved (u := U) (U := U.calling g mk a) (Vm.Alike.refl U.vm) (h i j x y z)
def AOI (U : State) : Prop := (Cond.arrayOver (.array .int)).before #[] U = true
theorem AOI.use {A : Array Value} {U : State} (h : AOI U) : (Cond.arrayOver (.array .int)).before A U = true := h
theorem AOI.moved {u U : State} (hvm : u.vm.Alike U.vm) (h : AOI u) : AOI U := by
  obtain ⟨comp, c, k, h1, h2, h3, h4, h5⟩ := arrayOverA_spec h
  obtain ⟨k', hk', he⟩ := hvm.2.2 _ _ h3
  have hi : (U.vm.classes.findIdx? fun (x : Class) => match x.kind with | .array component _ => component == comp | _ => false) = some c := by
    refine (va_idx_bare U.vm comp).symm.trans ?_
    first | rw [hvm.bare_eq] | rw [← hvm.bare_eq]
    exact (va_idx_bare u.vm comp).trans h2
  have hkind : k'.kind = .array comp (.array .int) := by rw [he]; exact h4
  have f1 : U.vm.findClass (FieldType.array .int).toString = some comp := by rw [hvm.findClass]; exact h1
  have f2 : U.vm.findClass ("[" ++ (FieldType.array .int).toString) = some c := by rw [hvm.findClass]; exact h5
  unfold AOI Cond.before Cond.holds
  simp only [Cond.value]
  rw [f1, Option.bind_some]
  refine (congrArg (fun o : Option Nat => (o.bind (fun c => (U.vm.classes[c]?).map fun (k : Class) => match k.kind with | .array _ ty => decide (ty = FieldType.array .int) && decide (U.vm.findClass ("[" ++ (FieldType.array .int).toString) = some c) | _ => false) == some true)) hi).trans ?_
  simp [hk', hkind, f2]
def Le (U : State) : Prop := Ncs U ∧ AOs U ∧ AOI U
theorem Le.warm {s U : State} (hW : s.WarmedH U.vm) (h : Le s) : Le U := ⟨Ncs.warm hW h.1, AOs.warm hW h.2.1, AOI.moved hW.alike h.2.2⟩
theorem Le.call {U : State} {g : JFrame} {mk : MethodId} {a : Array Value} (h : Le U) : Le (U.calling g mk a) := ⟨Ncs.call h.1, AOs.call h.2.1, AOI.moved (u := U) (U := U.calling g mk a) (Vm.Alike.refl U.vm) h.2.2⟩
/-! single cells beside the class's world -/
/-- what a call leaves as it was -/
def Kp (ad : Nat → Nat) (H H1 : Heap) : Prop := H.size ≤ H1.size ∧ ∀ q : Nat, q < H.size → ¬ AW 90 ad q → H1[q]? = H[q]?
/-- a store: one cell alone -/
def Sk (q : Nat) (H H1 : Heap) : Prop := H1.size = H.size ∧ ∀ z : Nat, z ≠ q → H1[z]? = H[z]?
theorem Kp.ref {ad : Nat → Nat} {H : Heap} : Kp ad H H := ⟨Nat.le_refl _, fun _ _ _ => rfl⟩
theorem Kp.trans {ad : Nat → Nat} {H H1 H2 : Heap} (a : Kp ad H H1) (b : Kp ad H1 H2) : Kp ad H H2 := ⟨Nat.le_trans a.1 b.1, fun q h1 h2 => (b.2 q (Nat.lt_of_lt_of_le h1 a.1) h2).trans (a.2 q h1 h2)⟩
/-- an array of ints, one of longs, rows of six behind an array of rows -/
def AI (Y : Nat → ClassId) (ad : Nat → Nat) (q n : Nat) (f : Nat → Int32) (H : Heap) : Prop := ¬ AW 90 ad q ∧ H[q]? = some (vp_cell (Y 0) (n, .inl f))
def AJ (Y : Nat → ClassId) (ad : Nat → Nat) (q n : Nat) (f : Nat → Int64) (H : Heap) : Prop := ¬ AW 90 ad q ∧ H[q]? = some (vp_cell (Y 4) (n, .inr (.inl f)))
def rwR (n : Nat) (rr : Nat → Nat) (i : Nat) : Option Nat := if i < n then some (rr i) else none
def MX (Y : Nat → ClassId) (ad : Nat → Nat) (q n : Nat) (rr : Nat → Nat) (S : Nat → Nat → Int32) (H : Heap) : Prop := ¬ AW 90 ad q ∧ H[q]? = some (vp_cell (Y 5) (n, .inr (.inr (.inr (.inr (rwR n rr)))))) ∧ (∀ i, i < n → rr i ≠ q ∧ AI Y ad (rr i) 6 (S i) H) ∧ (∀ i j, i < n → j < n → rr i = rr j → i = j) ∧ n ≤ 16
theorem AI.lt {Y : Nat → ClassId} {ad : Nat → Nat} {q n : Nat} {f : Nat → Int32} {H : Heap} (h : AI Y ad q n f H) : q < H.size := (Array.getElem?_eq_some_iff.mp h.2).1
theorem AJ.lt {Y : Nat → ClassId} {ad : Nat → Nat} {q n : Nat} {f : Nat → Int64} {H : Heap} (h : AJ Y ad q n f H) : q < H.size := (Array.getElem?_eq_some_iff.mp h.2).1
theorem MX.lt {Y : Nat → ClassId} {ad : Nat → Nat} {q n : Nat} {rr : Nat → Nat} {S : Nat → Nat → Int32} {H : Heap} (h : MX Y ad q n rr S H) : q < H.size := (Array.getElem?_eq_some_iff.mp h.2.1).1
theorem AI.kp {Y : Nat → ClassId} {ad : Nat → Nat} {q n : Nat} {f : Nat → Int32} {H H1 : Heap} (h : AI Y ad q n f H) (k : Kp ad H H1) : AI Y ad q n f H1 := ⟨h.1, (k.2 q h.lt h.1).trans h.2⟩
theorem AJ.kp {Y : Nat → ClassId} {ad : Nat → Nat} {q n : Nat} {f : Nat → Int64} {H H1 : Heap} (h : AJ Y ad q n f H) (k : Kp ad H H1) : AJ Y ad q n f H1 := ⟨h.1, (k.2 q h.lt h.1).trans h.2⟩
theorem MX.kp {Y : Nat → ClassId} {ad : Nat → Nat} {q n : Nat} {rr : Nat → Nat} {S : Nat → Nat → Int32} {H H1 : Heap} (h : MX Y ad q n rr S H) (k : Kp ad H H1) : MX Y ad q n rr S H1 := ⟨h.1, (k.2 q h.lt h.1).trans h.2.1, fun i hi => ⟨(h.2.2.1 i hi).1, (h.2.2.1 i hi).2.kp k⟩, h.2.2.2⟩
theorem AI.sk {Y : Nat → ClassId} {ad : Nat → Nat} {q z n : Nat} {f : Nat → Int32} {H H1 : Heap} (h : AI Y ad q n f H) (k : Sk z H H1) (hn : q ≠ z) : AI Y ad q n f H1 := ⟨h.1, (k.2 q hn).trans h.2⟩
theorem AJ.sk {Y : Nat → ClassId} {ad : Nat → Nat} {q z n : Nat} {f : Nat → Int64} {H H1 : Heap} (h : AJ Y ad q n f H) (k : Sk z H H1) (hn : q ≠ z) : AJ Y ad q n f H1 := ⟨h.1, (k.2 q hn).trans h.2⟩
theorem MX.sk {Y : Nat → ClassId} {ad : Nat → Nat} {q z n : Nat} {rr : Nat → Nat} {S : Nat → Nat → Int32} {H H1 : Heap} (h : MX Y ad q n rr S H) (k : Sk z H H1) (hn : q ≠ z) (hr : ∀ i, i < n → rr i ≠ z) : MX Y ad q n rr S H1 := ⟨h.1, (k.2 q hn).trans h.2.1, fun i hi => ⟨(h.2.2.1 i hi).1, (h.2.2.1 i hi).2.sk k (hr i hi)⟩, h.2.2.2⟩
def upS (S : Nat → Nat → Int32) (i : Nat) (f : Nat → Int32) : Nat → Nat → Int32 := fun k => if k = i then f else S k
/-- a row has been written -/
theorem MX.set {Y : Nat → ClassId} {ad : Nat → Nat} {q n i : Nat} {rr : Nat → Nat} {S : Nat → Nat → Int32} {f : Nat → Int32} {H H1 : Heap} (h : MX Y ad q n rr S H) (hi : i < n) (k : Sk (rr i) H H1) (hA : AI Y ad (rr i) 6 f H1) : MX Y ad q n rr (upS S i f) H1 := by
  refine ⟨h.1, (k.2 q (Ne.symm (h.2.2.1 i hi).1)).trans h.2.1, fun j hj => ⟨(h.2.2.1 j hj).1, ?_⟩, h.2.2.2⟩
  by_cases e : j = i
  · subst e
    simp only [upS, if_pos]
    exact hA
  · simp only [upS, if_neg e]
    exact (h.2.2.1 j hj).2.sk k (fun z => e (h.2.2.2.1 j i hj hi z))
/-! contracts of the law's methods -/
def BLw (D : va_G) (Y : Nat → ClassId) (ad : Nat → Nat) (G : GT) (Φ : State → Prop) : State → Prop := fun U => BK D Y (wsC Y ad G) ad (AW 90 ad) U ∧ Le U ∧ Φ U
def PhB (Φ : State → Prop) : Prop := ∀ (U : State) (g : JFrame) (mk : MethodId) (a : Array Value), Φ U → Φ (U.calling g mk a)
theorem BLw.blind {D : va_G} {Y : Nat → ClassId} {ad : Nat → Nat} {G : GT} {Φ : State → Prop} {As : List Value} (hΦ : PhB Φ) : FrameBlind (va_Pc As (BLw D Y ad G Φ)) := fun _ _ _ _ h => ⟨h.1, ⟨Bw.call h.2.1.1, Ks.call h.2.1.2⟩, Le.call h.2.2.1, hΦ _ _ _ _ h.2.2.2⟩
def LQ (Post : Value → State → State → Prop) (A : Nat → Prop) : Array Value → State → Outcome → State → Prop := fun _ st o t => ∃ v, o = .returned (some v) ∧ Post v st t ∧ va_F A st t
def PI (ret : Option FieldType) (r : Int32) (D : va_G) (Y : Nat → ClassId) (ad : Nat → Nat) (G' : GT) : Value → State → State → Prop := fun v _ t => v = .int r ∧ okR ret r ∧ va_P D vwCl (wsC Y ad G') t.heap
def LM (l : Launch) (y : MethodName) (b : ByteArray) (n : Nat) (ret : Option FieldType) (d mc : Nat) (D : va_G) (Y : Nat → ClassId) (ad : Nat → Nat) (G : GT) (Φ : State → Prop) (As : List Value) (Post : Value → State → State → Prop) : Prop :=
  Met l y (wc y b n ret) (rmD d mc (16 * mc)) (va_Pc As (BLw D Y ad G Φ)) (LQ Post (AW 90 ad)) mc (16 * mc) (AW 90 ad)
/-- of a method with a table of handlers -/
def LH (l : Launch) (y : MethodName) (b : ByteArray) (n : Nat) (hh : List (Nat × Nat × Nat × Nat)) (d mc : Nat) (D : va_G) (Y : Nat → ClassId) (ad : Nat → Nat) (G : GT) (As : List Value) (r : Int32) (G' : GT) : Prop :=
  vx_Met l y (Cond.codeWith y b n (some .int) hh :: LW) (rmD d mc (16 * mc)) (va_Pc As (BLw D Y ad G (fun _ => True))) (LQ (PI (some .int) r D Y ad G') (AW 90 ad)) (fun _ _ _ => False) mc (16 * mc) (AW 90 ad)
def CKL (y : MethodName) (b : ByteArray) (n : Nat) (hh : List (Nat × Nat × Nat × Nat)) (ar : Nat) : Prop := Cond.static y ∈ LW ∧ Cond.initialized y.cls ∈ LW ∧ Cond.codeWith y b n (some .int) hh ∈ LW ∧ (y.cls ≠ "java/lang/invoke/MethodHandle" ∧ y.cls ≠ "java/lang/invoke/VarHandle" ∧ (parseMethodDescriptor y.desc).map (fun d => d.parameters.length) = some ar)
def Bg (mc cells slots B : Nat) : Prop := cells + B ≤ mc ∧ slots + 16 * B ≤ 16 * mc
theorem Bg.le {mc cells slots B B' : Nat} (h : Bg mc cells slots B) (hb : B' ≤ B) : Bg mc cells slots B' := by
  unfold Bg at *
  omega
theorem Bg.hc {mc cells slots B d : Nat} (h : Bg mc cells slots B) : cells ≤ (rmD d mc (16 * mc)).cells ∧ slots ≤ (rmD d mc (16 * mc)).slots := by
  unfold Bg at h
  show cells ≤ mc ∧ slots ≤ 16 * mc
  omega
theorem Bg.sub {mc cells slots B B' m k : Nat} (h : Bg mc cells slots B) (hb : m + B' ≤ B) (hk : k ≤ 16 * m) : Bg mc (cells + m) (slots + k) B' ∧ cells + m ≤ mc ∧ slots + k ≤ 16 * mc := by
  unfold Bg at *
  omega
theorem LM_of {l : Launch} {y : MethodName} {b : ByteArray} {n : Nat} {ret : Option FieldType} {d mc : Nat} {D : va_G} {Y : Nat → ClassId} {ad : Nat → Nat} {G : GT} {Φ : State → Prop} {As : List Value} {Post : Value → State → State → Prop} {lv : List (Nat × Value)} (hy : plainName y.cls = true) (hn : (lg_sl As).length ≤ n) (hlv : lv_args 0 As = lv)
    (body : ∀ (p : Program) (ev : Env) (s : State) (m : MethodId) (below : List Frame) (meth : Method) (c : Code) (ls : Array Slot), Fx p c b n s m As.toArray y.cls D Y → va_P D vwCl (wsC Y ad G) s.heap → Ks ad (AW 90 ad) s s.heap → Le s → Φ s → va_S (AW 90 ad) s.heap s.heap [] → meth.sig.returnType = ret → meth.locks = false → lv_has ls n lv → Bg mc 0 0 mc → W p l ev (rmD d mc (16 * mc)) s m As.toArray below meth c s.heap [] 0 0 (MQ below (LQ Post (AW 90 ad)) As.toArray s mc (16 * mc) (AW 90 ad)) (F0 m 0 ls [])) : LM l y b n ret d mc D Y ad G Φ As Post := by
  refine Met.ofW (cc := b) (maxL := n) (ret := ret) hy rfl ?_
  intro p ev s m args below meth c s₁ B hml hv
  obtain ⟨rfl, ⟨⟨hE, hP⟩, hK⟩, hL, hΦ⟩ := hv
  have hts := atoms_spec (ws := wc y b n ret) B.pre
  have hl := lv_entry As hn
  rw [lg_entry_eq]
  rw [hlv] at hl
  exact body p ev s m below meth c _ ⟨⟨B.exec, B.bytes, hml, findClass_of_methodNamed B.named, fun w hw => hts w (List.mem_cons_of_mem _ hw)⟩, hE⟩ hP hK hL hΦ va_S.rf B.returns B.notSynchronized hl (by unfold Bg; omega)
theorem LH_of {l : Launch} {y : MethodName} {b : ByteArray} {n : Nat} {hh : List (Nat × Nat × Nat × Nat)} {d mc : Nat} {D : va_G} {Y : Nat → ClassId} {ad : Nat → Nat} {G G' : GT} {As : List Value} {r : Int32} {lv : List (Nat × Value)} (hy : plainName y.cls = true) (hn : (lg_sl As).length ≤ n) (hlv : lv_args 0 As = lv)
    (body : ∀ (p : Program) (ev : Env) (s : State) (m : MethodId) (below : List Frame) (meth : Method) (c : Code) (ls : Array Slot), Fx p c b n s m As.toArray y.cls D Y → c.exceptionTable.toList = tableOf hh → va_P D vwCl (wsC Y ad G) s.heap → Ks ad (AW 90 ad) s s.heap → Ncs s → va_S (AW 90 ad) s.heap s.heap [] → meth.sig.returnType = some .int → meth.locks = false → lv_has ls n lv → W p l ev (rmD d mc (16 * mc)) s m As.toArray below meth c s.heap [] 0 0 (vx_MQ below (LQ (PI (some .int) r D Y ad G') (AW 90 ad)) (fun _ _ _ => False) As.toArray s mc (16 * mc) (AW 90 ad)) (F0 m 0 ls [])) : LH l y b n hh d mc D Y ad G As r G' := by
  refine vx_ofWH (cc := b) (maxL := n) (ret := some .int) (hh := hh) hy rfl ?_
  intro p ev s m args below meth c s₁ B hml hv
  obtain ⟨rfl, ⟨⟨hE, hP⟩, hK⟩, hL, -⟩ := hv
  have hts := atoms_spec (ws := Cond.codeWith y b n (some .int) hh :: LW) B.pre
  have hl := lv_entry As hn
  rw [lg_entry_eq]
  rw [hlv] at hl
  exact body p ev s m below meth c _ ⟨⟨B.exec, B.bytes, hml, findClass_of_methodNamed B.named, fun w hw => hts w (List.mem_cons_of_mem _ hw)⟩, hE⟩ (vx_table (x := y) B (hts _ List.mem_cons_self)) hP hK hL.1 va_S.rf B.returns B.notSynchronized hl
section LWR
variable {p : Program} {l : Launch} {ev : Env} {R : Room} {s : State} {m : MethodId} {args : Array Value} {below : List Frame} {meth : Method} {c : Code} {H : Heap} {locs : List Loc} {cells slots mc B B' : Nat} {Q : State → Prop}
variable {cc : ByteArray} {pc nL idx dd : Nat} {ls : Array Slot} {rest st0 : List Value} {own : String} {D : va_G} {Y : Nat → ClassId} {ad : Nat → Nat} {G G' : GT} {q n : Nat} {f : Nat → Int32} {S : Nat → Nat → Int32} {rr : Nat → Nat}
theorem lS_kp {A : Nat → Prop} {H1 : Heap} {L : List Loc} (hS : va_S A s.heap H locs) (h1 : H.size ≤ H1.size) (h2 : ∀ q : Nat, q < H.size → ¬ A q → H1[q]? = H[q]?) (hL : ∀ z ∈ L, A z.base) : va_S A s.heap H1 (locs ++ L) :=
  ⟨Nat.le_trans hS.1 h1, fun q g1 g2 => (h2 q (Nat.lt_of_lt_of_le g1 hS.1) g2).trans (hS.2.1 q g1 g2), fun z hz => by
    rcases List.mem_append.mp hz with h | h
    · exact hS.2.2 z h
    · exact hL z h⟩
/-- a call of a method of the law -/
theorem lm_S {Φ : State → Prop} {Post : Value → State → State → Prop} {y : MethodName} {b : ByteArray} {n ar d m' : Nat} {ret : Option FieldType} {As : List Value} (F : Fx p c cc nL s m args own D Y) (hP : va_P D vwCl (wsC Y ad G) H) (hK : Ks ad (AW 90 ad) s s.heap) (hE : Le s) (hS : va_S (AW 90 ad) s.heap H locs) (hB : Bg mc cells slots B) (hΦ : PhB Φ) (hpre : ∀ U : State, U.heap = H → s.WarmedH U.vm → Φ U) (k : CKS y b n ret ar) (hl : Cond.methodLink own idx y ∈ LW)
    (hM : LM l y b n ret d m' D Y ad G Φ As Post) (hn : As.length = ar) (hsz : ls.size = nL) (hR : d + 1 ≤ dd ∧ 8 + (n + 11) + 40 * d ≤ 40 * dd) (hst : st0 = As.reverse ++ rest) (hcat : (rest.map fun v => v.category).sum ≤ 8) (hb : m' + B' ≤ B) (hdg : decode cc pc = .ok (.invokestatic idx, 3))
    (kk : ∀ (v : Value) (st t : State) (H1 : Heap) (locs1 : List Loc) (cells1 slots1 : Nat), st.heap = H → t.heap = H1 → Post v st t → Kp ad H H1 → va_S (AW 90 ad) s.heap H1 locs1 → Bg mc cells1 slots1 B' → W p l ev (rmD dd mc (16 * mc)) s m args below meth c H1 locs1 cells1 slots1 Q (F0 m (pc + 3) ls (v :: rest))) : W p l ev (rmD dd mc (16 * mc)) s m args below meth c H locs cells slots Q (F0 m pc ls st0) := by
  subst hst
  intro T hT X
  obtain ⟨b1, b2, b3⟩ := hB.sub (m := m') (k := 16 * m') hb (Nat.le_refl _)
  obtain ⟨v, st₀, t, T', L, h0, X', hL, e1, ⟨v1, hv, hp, hz, hk⟩, st⟩ := W.runS (As := As) (rest := rest) F.1 hM (ck_S F.1.2.2.2.2 k hl rfl rfl hR) ⟨BLw.blind hΦ, fun U hU hW => ⟨rfl, BK.of F.2 hP hK hS hU hW, Le.warm hW hE, hpre U hU hW⟩⟩ rfl hn hsz (g := F0 m pc ls (As.reverse ++ rest)) rfl (lv_room (m := m) (pc := pc) (ls := ls) (rest := As.reverse ++ rest) hcat) hdg ⟨b2, b3⟩ T hT X
  cases hv
  rw [h0] at hz hk
  obtain ⟨t2, a1, c1⟩ := kk v1 st₀ t t.heap (locs ++ L) _ _ h0 rfl hp ⟨hz, hk⟩ (lS_kp hS hz hk hL) b1 T' e1 X'
  exact ⟨t2, st t2 a1, c1⟩
theorem lm_i {Φ : State → Prop} {y : MethodName} {b : ByteArray} {n ar d m' : Nat} {r : Int32} {ret : Option FieldType} {As : List Value} (F : Fx p c cc nL s m args own D Y) (hP : va_P D vwCl (wsC Y ad G) H) (hK : Ks ad (AW 90 ad) s s.heap) (hE : Le s) (hS : va_S (AW 90 ad) s.heap H locs) (hB : Bg mc cells slots B) (hΦ : PhB Φ) (hpre : ∀ U : State, U.heap = H → s.WarmedH U.vm → Φ U) (k : CKS y b n ret ar) (hl : Cond.methodLink own idx y ∈ LW)
    (hM : LM l y b n ret d m' D Y ad G Φ As (PI ret r D Y ad G')) (hn : As.length = ar) (hsz : ls.size = nL) (hR : d + 1 ≤ dd ∧ 8 + (n + 11) + 40 * d ≤ 40 * dd) (hst : st0 = As.reverse ++ rest) (hcat : (rest.map fun v => v.category).sum ≤ 8) (hb : m' + B' ≤ B) (hdg : decode cc pc = .ok (.invokestatic idx, 3))
    (kk : ∀ (H1 : Heap) (locs1 : List Loc) (cells1 slots1 : Nat), okR ret r → va_P D vwCl (wsC Y ad G') H1 → va_S (AW 90 ad) s.heap H1 locs1 → Kp ad H H1 → Bg mc cells1 slots1 B' → W p l ev (rmD dd mc (16 * mc)) s m args below meth c H1 locs1 cells1 slots1 Q (F0 m (pc + 3) ls (.int r :: rest))) : W p l ev (rmD dd mc (16 * mc)) s m args below meth c H locs cells slots Q (F0 m pc ls st0) := by
  refine lm_S F hP hK hE hS hB hΦ hpre k hl hM hn hsz hR hst hcat hb hdg (fun v st t H1 L1 c1 s1 _ e hp hk hS1 hB1 => ?_)
  obtain ⟨rfl, ho, hP1⟩ := hp
  exact kk H1 L1 c1 s1 ho (by rw [← e]; exact hP1) hS1 hk hB1
theorem la_csw {y : MethodName} {bb : ByteArray} {n ar d m' : Nat} {hh : List (Nat × Nat × Nat × Nat)} (F : Fx p c cc nL s m args own D Y) (k : CKL y bb n hh ar) (hl : Cond.methodLink own idx y ∈ LW) (hR : d + 1 ≤ R.frames ∧ 8 + (n + 11) + 40 * d ≤ R.locals) : vx_CSW R s args own idx y bb n (some .int) hh (Cond.codeWith y bb n (some .int) hh :: LW) (rmD d m' (16 * m')) m' (16 * m') ar := by
  have hts := F.1.2.2.2.2
  have hG : GoodIn LW (Cond.codeWith y bb n (some .int) hh :: LW) := fun w hw => by
    rcases List.mem_cons.mp hw with rfl | h1
    · exact LW_goodIn _ k.2.2.1
    · exact LW_goodIn _ h1
  refine ⟨⟨rfl, rfl, hR.1, hR.2, pay_in hts hG, List.mem_cons_self⟩, hts _ k.2.2.1, hts _ k.2.1, ⟨k.2.2.2.1, k.2.2.2.2.1⟩, fun sig h => ?_, hts _ hl, hts _ k.1⟩
  have h2 := k.2.2.2.2.2
  rw [h] at h2
  exact (Option.some.inj h2).symm
/-- a call of a method of the law that has handlers -/
theorem lh_i {y : MethodName} {b : ByteArray} {n ar d m' : Nat} {hh : List (Nat × Nat × Nat × Nat)} {r : Int32} {As : List Value} (F : Fx p c cc nL s m args own D Y) (hP : va_P D vwCl (wsC Y ad G) H) (hK : Ks ad (AW 90 ad) s s.heap) (hE : Le s) (hS : va_S (AW 90 ad) s.heap H locs) (hB : Bg mc cells slots B) (k : CKL y b n hh ar) (hl : Cond.methodLink own idx y ∈ LW)
    (hM : LH l y b n hh d m' D Y ad G As r G') (hn : As.length = ar) (hsz : ls.size = nL) (hR : d + 1 ≤ dd ∧ 8 + (n + 11) + 40 * d ≤ 40 * dd) (hst : st0 = As.reverse ++ rest) (hcat : (rest.map fun v => v.category).sum ≤ 8) (hb : m' + B' ≤ B) (hdg : decode cc pc = .ok (.invokestatic idx, 3))
    (kk : ∀ (H1 : Heap) (locs1 : List Loc) (cells1 slots1 : Nat), va_P D vwCl (wsC Y ad G') H1 → va_S (AW 90 ad) s.heap H1 locs1 → Kp ad H H1 → Bg mc cells1 slots1 B' → W p l ev (rmD dd mc (16 * mc)) s m args below meth c H1 locs1 cells1 slots1 Q (F0 m (pc + 3) ls (.int r :: rest))) : W p l ev (rmD dd mc (16 * mc)) s m args below meth c H locs cells slots Q (F0 m pc ls st0) := by
  subst hst
  intro T hT' X
  obtain ⟨b1, b2, b3⟩ := hB.sub (m := m') (k := 16 * m') hb (Nat.le_refl _)
  rcases vx_runSX (As := As) (rest := rest) F.1 hM (la_csw F k hl hR) ⟨BLw.blind (fun _ _ _ _ _ => trivial), fun U hU hW1 => ⟨rfl, BK.of F.2 hP hK hS hU hW1, Le.warm hW1 hE, trivial⟩⟩ rfl hn hsz (g := F0 m pc ls (As.reverse ++ rest)) rfl (lv_room hcat) hdg ⟨b2, b3⟩ T hT' X with ⟨v, st₀, t, T', L, g0, X', hL, e1, e2, ⟨v1, hv, ⟨rfl, ho, hP1⟩, hz, hk⟩, st⟩ | ⟨q, st₀, t, T', Lq, E, ce, g0, X', hL, e1, e2, hF, -⟩
  · cases hv
    rw [g0] at hz hk
    obtain ⟨t2, a1, c1⟩ := kk t.heap (locs ++ L) _ _ hP1 (lS_kp hS hz hk hL) ⟨hz, hk⟩ b1 T' e1 X'
    exact ⟨t2, st t2 a1, c1⟩
  · exact hF.elim
/-- a call of the class that gives an int back -/
theorem lx_V {y : MethodName} {b : ByteArray} {n ar d m' : Nat} {ret : Option FieldType} {r : Int32} {As : List Value} (F : Fx p c cc nL s m args own D Y) (hP : va_P D vwCl (wsC Y ad G) H) (hK : Ks ad (AW 90 ad) s s.heap) (hS : va_S (AW 90 ad) s.heap H locs) (hB : Bg mc cells slots B) (k : CKV y b n ret ar) (hl : Cond.methodLink own idx y ∈ LW) (hcls : y.cls = "TinRoofScore")
    (hM : XWi l y b n ret d m' D Y ad G (.ref (ad 77) :: As) (.inr r) G') (hn : As.length = ar) (hsz : ls.size = nL) (hR : d + 1 ≤ dd ∧ 8 + (n + 11) + 40 * d ≤ 40 * dd) (hst : st0 = As.reverse ++ .ref (ad 77) :: rest) (hcat : (rest.map fun v => v.category).sum ≤ 8) (hb : m' + B' ≤ B) (hdg : decode cc pc = .ok (.invokevirtual idx, 3))
    (kk : ∀ (H1 : Heap) (locs1 : List Loc) (cells1 slots1 : Nat), okR ret r → va_P D vwCl (wsC Y ad G') H1 → va_S (AW 90 ad) s.heap H1 locs1 → Kp ad H H1 → Bg mc cells1 slots1 B' → W p l ev (rmD dd mc (16 * mc)) s m args below meth c H1 locs1 cells1 slots1 Q (F0 m (pc + 3) ls (.int r :: rest))) : W p l ev (rmD dd mc (16 * mc)) s m args below meth c H locs cells slots Q (F0 m pc ls st0) := by
  subst hst
  intro T hT' X
  obtain ⟨b1, b2, b3⟩ := hB.sub (m := m') (k := 6 * m') hb (by omega)
  rcases vx_runV (As := As) (rest := rest) F.1 hM (ck_V F.1.2.2.2.2 k hl rfl rfl hR) ⟨BK.blind, va_recv F.2.1 hP (ci := 10) (q := (y.cls, TX9, 11)) (by rw [hcls]; rfl) (wsW_get 77 (by decide)), fun U hU hW => ⟨rfl, BK.of F.2 hP hK hS hU hW⟩⟩ rfl hn hsz (g := F0 m pc ls (As.reverse ++ .ref (ad 77) :: rest)) rfl (lv_room hcat) hdg ⟨b2, b3⟩ T hT' X with ⟨v, st₀, t, T', L, g0, X', hL, e1, e2, ⟨⟨x, _, hv, ⟨hx, ho⟩, hP1⟩, hz, hk⟩, st⟩ | ⟨q, st₀, t, T', L, E, ce, g0, X', hL, e1, e2, ⟨⟨k1, hk1, -⟩, -⟩, -⟩
  · cases hv
    cases hx
    rw [g0] at hz hk
    obtain ⟨t2, a1, c1⟩ := kk t.heap (locs ++ L) _ _ ho hP1 (lS_kp hS hz hk hL) ⟨hz, hk⟩ b1 T' e1 X'
    exact ⟨t2, st t2 a1, c1⟩
  · cases hk1
theorem lx_Vd {y : MethodName} {b : ByteArray} {n ar d m' : Nat} {r : UInt64} {As : List Value} (F : Fx p c cc nL s m args own D Y) (hP : va_P D vwCl (wsC Y ad G) H) (hK : Ks ad (AW 90 ad) s s.heap) (hS : va_S (AW 90 ad) s.heap H locs) (hB : Bg mc cells slots B) (k : CKV y b n (some .double) ar) (hl : Cond.methodLink own idx y ∈ LW) (hcls : y.cls = "TinRoofScore")
    (hM : XWd l y b n d m' D Y ad G (.ref (ad 77) :: As) (.inr r) G') (hn : As.length = ar) (hsz : ls.size = nL) (hR : d + 1 ≤ dd ∧ 8 + (n + 11) + 40 * d ≤ 40 * dd) (hst : st0 = As.reverse ++ .ref (ad 77) :: rest) (hcat : (rest.map fun v => v.category).sum ≤ 8) (hb : m' + B' ≤ B) (hdg : decode cc pc = .ok (.invokevirtual idx, 3))
    (kk : ∀ (H1 : Heap) (locs1 : List Loc) (cells1 slots1 : Nat), va_P D vwCl (wsC Y ad G') H1 → va_S (AW 90 ad) s.heap H1 locs1 → Kp ad H H1 → Bg mc cells1 slots1 B' → W p l ev (rmD dd mc (16 * mc)) s m args below meth c H1 locs1 cells1 slots1 Q (F0 m (pc + 3) ls (.double r :: rest))) : W p l ev (rmD dd mc (16 * mc)) s m args below meth c H locs cells slots Q (F0 m pc ls st0) := by
  subst hst
  intro T hT' X
  obtain ⟨b1, b2, b3⟩ := hB.sub (m := m') (k := 6 * m') hb (by omega)
  rcases vx_runV (As := As) (rest := rest) F.1 hM (ck_V F.1.2.2.2.2 k hl rfl rfl hR) ⟨BK.blind, va_recv F.2.1 hP (ci := 10) (q := (y.cls, TX9, 11)) (by rw [hcls]; rfl) (wsW_get 77 (by decide)), fun U hU hW => ⟨rfl, BK.of F.2 hP hK hS hU hW⟩⟩ rfl hn hsz (g := F0 m pc ls (As.reverse ++ .ref (ad 77) :: rest)) rfl (lv_room hcat) hdg ⟨b2, b3⟩ T hT' X with ⟨v, st₀, t, T', L, g0, X', hL, e1, e2, ⟨⟨x, _, hv, hx, hP1⟩, hz, hk⟩, st⟩ | ⟨q, st₀, t, T', L, E, ce, g0, X', hL, e1, e2, ⟨⟨k1, hk1, -⟩, -⟩, -⟩
  · cases hv
    cases hx
    rw [g0] at hz hk
    obtain ⟨t2, a1, c1⟩ := kk t.heap (locs ++ L) _ _ hP1 (lS_kp hS hz hk hL) ⟨hz, hk⟩ b1 T' e1 X'
    exact ⟨t2, st t2 a1, c1⟩
  · cases hk1
theorem lx_Vf {y : MethodName} {b : ByteArray} {n ar d m' : Nat} {r : UInt32} {As : List Value} (F : Fx p c cc nL s m args own D Y) (hP : va_P D vwCl (wsC Y ad G) H) (hK : Ks ad (AW 90 ad) s s.heap) (hS : va_S (AW 90 ad) s.heap H locs) (hB : Bg mc cells slots B) (k : CKV y b n (some .float) ar) (hl : Cond.methodLink own idx y ∈ LW) (hcls : y.cls = "TinRoofScore")
    (hM : XWf l y b n d m' D Y ad G (.ref (ad 77) :: As) (.inr r) G') (hn : As.length = ar) (hsz : ls.size = nL) (hR : d + 1 ≤ dd ∧ 8 + (n + 11) + 40 * d ≤ 40 * dd) (hst : st0 = As.reverse ++ .ref (ad 77) :: rest) (hcat : (rest.map fun v => v.category).sum ≤ 8) (hb : m' + B' ≤ B) (hdg : decode cc pc = .ok (.invokevirtual idx, 3))
    (kk : ∀ (H1 : Heap) (locs1 : List Loc) (cells1 slots1 : Nat), va_P D vwCl (wsC Y ad G') H1 → va_S (AW 90 ad) s.heap H1 locs1 → Kp ad H H1 → Bg mc cells1 slots1 B' → W p l ev (rmD dd mc (16 * mc)) s m args below meth c H1 locs1 cells1 slots1 Q (F0 m (pc + 3) ls (.float r :: rest))) : W p l ev (rmD dd mc (16 * mc)) s m args below meth c H locs cells slots Q (F0 m pc ls st0) := by
  subst hst
  intro T hT' X
  obtain ⟨b1, b2, b3⟩ := hB.sub (m := m') (k := 6 * m') hb (by omega)
  rcases vx_runV (As := As) (rest := rest) F.1 hM (ck_V F.1.2.2.2.2 k hl rfl rfl hR) ⟨BK.blind, va_recv F.2.1 hP (ci := 10) (q := (y.cls, TX9, 11)) (by rw [hcls]; rfl) (wsW_get 77 (by decide)), fun U hU hW => ⟨rfl, BK.of F.2 hP hK hS hU hW⟩⟩ rfl hn hsz (g := F0 m pc ls (As.reverse ++ .ref (ad 77) :: rest)) rfl (lv_room hcat) hdg ⟨b2, b3⟩ T hT' X with ⟨v, st₀, t, T', L, g0, X', hL, e1, e2, ⟨⟨x, _, hv, hx, hP1⟩, hz, hk⟩, st⟩ | ⟨q, st₀, t, T', L, E, ce, g0, X', hL, e1, e2, ⟨⟨k1, hk1, -⟩, -⟩, -⟩
  · cases hv
    cases hx
    rw [g0] at hz hk
    obtain ⟨t2, a1, c1⟩ := kk t.heap (locs ++ L) _ _ hP1 (lS_kp hS hz hk hL) ⟨hz, hk⟩ b1 T' e1 X'
    exact ⟨t2, st t2 a1, c1⟩
  · cases hk1
/-- the helper's call of the class -/
theorem lh_call {RR : Nat ⊕ Int32} {y : MethodName} {b : ByteArray} {n ar d m' : Nat} {ret : Option FieldType} {As : List Value} (F : Fx p c cc nL s m args own D Y) (hP : va_P D vwCl (wsC Y ad G) H) (hK : Ks ad (AW 90 ad) s s.heap) (hS : va_S (AW 90 ad) s.heap H locs) (k : CKV y b n ret ar) (hl : Cond.methodLink own idx y ∈ LW) (hcls : y.cls = "TinRoofScore")
    (hM : XWi l y b n ret d m' D Y ad G (.ref (ad 77) :: As) RR G') (hn : As.length = ar) (hsz : ls.size = nL) (hR : d + 1 ≤ R.frames ∧ 8 + (n + 11) + 40 * d ≤ R.locals) (hst : st0 = As.reverse ++ .ref (ad 77) :: rest) (hcat : (rest.map fun v => v.category).sum ≤ 8) (hc : cells + m' ≤ R.cells ∧ slots + 6 * m' ≤ R.slots) (hdg : decode cc pc = .ok (.invokevirtual idx, 3))
    (kr : ∀ (x : Int32) (H1 : Heap) (locs1 : List Loc), RR = .inr x → va_P D vwCl (wsC Y ad G') H1 → va_S (AW 90 ad) s.heap H1 locs1 → W p l ev R s m args below meth c H1 locs1 (cells + m') (slots + 6 * m') Q (F0 m (pc + 3) ls (.int x :: rest)))
    (kt : ∀ (k q : Nat) (ce : Cell) (H1 : Heap) (locs1 : List Loc), RR = .inl k → va_P D vwCl (wsC Y ad G') H1 → va_S (AW 90 ad) s.heap H1 locs1 → H1[q]? = some ce → ce.vm = .none → s.vm.findClass (exN k) = some ce.cls → vx_W p l ev R s m args below meth c H1 locs1 (cells + m') (slots + 6 * m') Q (F0 m pc ls rest) q) : W p l ev R s m args below meth c H locs cells slots Q (F0 m pc ls st0) := by
  subst hst
  intro T hT' X
  rcases vx_runV (As := As) (rest := rest) F.1 hM (ck_V F.1.2.2.2.2 k hl rfl rfl hR) ⟨BK.blind, va_recv F.2.1 hP (ci := 10) (q := (y.cls, TX9, 11)) (by rw [hcls]; rfl) (wsW_get 77 (by decide)), fun U hU hW => ⟨rfl, BK.of F.2 hP hK hS hU hW⟩⟩ rfl hn hsz (g := F0 m pc ls (As.reverse ++ .ref (ad 77) :: rest)) rfl (lv_room hcat) hdg hc T hT' X with ⟨v, st₀, t, T', L, g0, X', hL, e1, e2, ⟨⟨x, _, hv, ⟨hx, ho⟩, hP1⟩, hz, hk⟩, st⟩ | ⟨q, st₀, t, T', L, E, ce, g0, X', hL, e1, e2, ⟨⟨k1, hk1, rfl⟩, hp1, hf1, hf2⟩, hce, hcv, hcl, st⟩
  · cases hv
    rw [g0] at hz hk
    obtain ⟨t2, a1, c1⟩ := kr x t.heap (locs ++ L) hx hP1 (lS_kp hS hz hk hL) T' e1 X'
    exact ⟨t2, st t2 a1, c1⟩
  · rw [g0] at hf1 hf2
    obtain ⟨t2, a1, b1⟩ := kt k1 q ce t.heap (locs ++ L) hk1 hp1 (lS_kp hS hf1 hf2 hL) hce hcv hcl T' e1 X'
    exact ⟨t2, st.trans a1, b1⟩
theorem lh_end {v r : Int32} {X : String → State → State → Prop} {ms : Nat} (F : Fx p c cc nL s m args own D Y) (hP : va_P D vwCl (wsC Y ad G') H) (hS : va_S (AW 90 ad) s.heap H locs) (hr : meth.sig.returnType = some .int) (hk : meth.locks = false) (hv : v = r) (hc : cells ≤ mc) (hs : slots ≤ ms) (hdg : decode cc pc = .ok (.ireturn, 1)) : W p l ev R s m args below meth c H locs cells slots (vx_MQ below (LQ (PI (some .int) r D Y ad G') (AW 90 ad)) X args s mc ms (AW 90 ad)) (F0 m pc ls [.int v]) := by
  subst hv
  refine W.widen (k := mc) (n := ms) hc hs (vx_ret ?_)
  exact W.iret F.1.1 F.1.2.1 hr (fun t ht _ => ⟨_, rfl, ⟨rfl, rfl, by rw [ht]; exact hP⟩, hS.F ht⟩) hS.2.2 hdg hk
/-- the end of a method of the law -/
theorem lm_end {ty : FieldType} {v r : Int32} (F : Fx p c cc nL s m args own D Y) (hP : va_P D vwCl (wsC Y ad G) H) (hS : va_S (AW 90 ad) s.heap H locs) (hB : Bg mc cells slots B) (hr : meth.sig.returnType = some ty) (hk : meth.locks = false) (ho : okR (some ty) v) (h : some (v, G) = some (r, G')) (hdg : decode cc pc = .ok (.ireturn, 1)) : W p l ev (rmD dd mc (16 * mc)) s m args below meth c H locs cells slots (MQ below (LQ (PI (some ty) r D Y ad G') (AW 90 ad)) args s mc (16 * mc) (AW 90 ad)) (F0 m pc ls [.int v]) := by
  cases h
  refine W.widen (k := mc) (n := 16 * mc) (hB.hc (d := dd)).1 (hB.hc (d := dd)).2 ?_
  exact W.zret F.1.1 F.1.2.1 hr ho (fun t ht _ => ⟨_, rfl, ⟨rfl, ho, by rw [ht]; exact hP⟩, hS.F ht⟩) hS.2.2 hdg hk
/-! rows over single cells -/
theorem P_one {a : Nat} {cA : ClassId} {x : vp_A} (h : H[a]? = some (vp_cell cA x)) : va_P D vwCl [(a, .inl (cA, x))] H := fun k q hk => by
  match k, hk with
  | 0, hk => cases hk; exact h
theorem ai_ld (F : Fx p c cc nL s m args own D Y) (h : AI Y ad q n f H) {i : Int32} (hi : vp_in i n) (hdg : decode cc pc = .ok (.iaload, 1))
    (kk : W p l ev R s m args below meth c H locs cells slots Q (F0 m (pc + 1) ls (.int (f i.toNatClampNeg) :: rest))) : W p l ev R s m args below meth c H locs cells slots Q (F0 m pc ls (.int i :: .ref q :: rest)) :=
  va_iald F.1.1 F.1.2.1 F.2.1 (P_one (D := D) h.2) 0 0 rfl rfl hi hdg kk
theorem ai_ldk (F : Fx p c cc nL s m args own D Y) (h : AI Y ad q n f H) {i : Int32} {k : Nat} (hk : i.toNatClampNeg = k) (hi : vp_in i n) (hdg : decode cc pc = .ok (.iaload, 1))
    (kk : W p l ev R s m args below meth c H locs cells slots Q (F0 m (pc + 1) ls (.int (f k) :: rest))) : W p l ev R s m args below meth c H locs cells slots Q (F0 m pc ls (.int i :: .ref q :: rest)) := by
  subst hk
  exact ai_ld F h hi hdg kk
theorem aj_ld {g : Nat → Int64} (F : Fx p c cc nL s m args own D Y) (h : AJ Y ad q n g H) {i : Int32} (hi : vp_in i n) (hdg : decode cc pc = .ok (.laload, 1))
    (kk : W p l ev R s m args below meth c H locs cells slots Q (F0 m (pc + 1) ls (.long (g i.toNatClampNeg) :: rest))) : W p l ev R s m args below meth c H locs cells slots Q (F0 m pc ls (.int i :: .ref q :: rest)) :=
  va_lald F.1.1 F.1.2.1 F.2.1 (P_one (D := D) h.2) 0 4 rfl rfl hi hdg kk
theorem mx_len (F : Fx p c cc nL s m args own D Y) (h : MX Y ad q n rr S H) (hdg : decode cc pc = .ok (.arraylength, 1))
    (kk : W p l ev R s m args below meth c H locs cells slots Q (F0 m (pc + 1) ls (.int (nI n) :: rest))) : W p l ev R s m args below meth c H locs cells slots Q (F0 m pc ls (.ref q :: rest)) :=
  va_alen (ty := .array .int) F.1.1 F.1.2.1 F.2.1 (P_one (D := D) h.2.1) 0 5 rfl rfl rfl hdg kk
theorem mx_row (F : Fx p c cc nL s m args own D Y) (h : MX Y ad q n rr S H) {i : Int32} (hi0 : inb i n) (hdg : decode cc pc = .ok (.aaload, 1))
    (kk : i.toNatClampNeg < n → W p l ev R s m args below meth c H locs cells slots Q (F0 m (pc + 1) ls (.ref (rr i.toNatClampNeg) :: rest))) : W p l ev R s m args below meth c H locs cells slots Q (F0 m pc ls (.int i :: .ref q :: rest)) := by
  have hi : vp_in i n := inbV hi0 (by have := h.2.2.2.2; omega)
  have hlt : i.toNatClampNeg < n := Nat.not_le.mp fun q => hi (Or.inr q)
  exact W.aald (v := .ref (rr i.toNatClampNeg)) (ty := .array .int) F.1.1 F.1.2.1 h.2.1 ((F.2.1.2 5 _ rfl).1 n (fun j => va_rf (rwR n rr j))) rfl (fun q => by cases q) (by show ¬ (i < 0 ∨ (arrV _ _ _).slots.size ≤ _); rw [arrV_size]; exact hi) (by show (arrV _ _ _).slots[_]? = _; rw [arrV_read _ _ hlt]; show some (va_rf (rwR n rr _)) = _; unfold rwR; rw [if_pos hlt]; rfl) rfl rfl hdg (kk hlt)
theorem drop1 {a i : Nat} {g : JFrame} (ha : s.heap.size ≤ a) (kk : W p l ev R s m args below meth c H locs cells slots Q g) : W p l ev R s m args below meth c H (locs ++ [⟨a, i⟩]) cells slots Q g := fun T hT X => kk T hT (Stand.forget (locs := locs) (extra := [⟨a, i⟩]) X (fun y hy => by rw [List.mem_singleton] at hy; subst hy; exact ha))
theorem sk_P (hP : va_P D vwCl (wsC Y ad G) H) {H1 : Heap} (hq : ¬ AW 90 ad q) (k : Sk q H H1) : va_P D vwCl (wsC Y ad G) H1 := wsW_kept hP (fun i hi => k.2 _ (fun h => hq ⟨i, hi, h⟩))
theorem sk_S {A : Nat → Prop} (hS : va_S A s.heap H locs) {H1 : Heap} (hq : s.heap.size ≤ q) (k : Sk q H H1) : va_S A s.heap H1 locs := ⟨by rw [k.1]; exact hS.1, fun z h1 h2 => (k.2 z (by omega)).trans (hS.2.1 z h1 h2), hS.2.2⟩
theorem ai_st (F : Fx p c cc nL s m args own D Y) (h : AI Y ad q n f H) (hq : s.heap.size ≤ q) {i x : Int32} (hi : vp_in i n) (hdg : decode cc pc = .ok (.iastore, 1))
    (kk : ∀ H1 : Heap, AI Y ad q n (upd f i.toNatClampNeg x) H1 → Sk q H H1 → W p l ev R s m args below meth c H1 locs cells slots Q (F0 m (pc + 1) ls rest)) : W p l ev R s m args below meth c H locs cells slots Q (F0 m pc ls (.int x :: .int i :: .ref q :: rest)) := by
  refine W.iast F.1.1 F.1.2.1 h.2 ((F.2.1.2 0 _ rfl).1 n (fun j => .int (f j))) (fun q => by cases q) (by show ¬ (i < 0 ∨ (arrV _ _ _).slots.size ≤ _); rw [arrV_size]; exact hi) rfl rfl hdg fun H1 e z oq => ?_
  refine drop1 hq (kk H1 ⟨h.1, ?_⟩ ⟨z, oq⟩)
  rw [e]
  rw [vp_cell_i, vp_cell_i, arrV_store]
  congr 2
  funext q
  by_cases hq : q = i.toNatClampNeg
  · subst hq
    simp [updV, upd]
  · simp [updV, upd, hq]
theorem aj_st {g : Nat → Int64} (F : Fx p c cc nL s m args own D Y) (h : AJ Y ad q n g H) (hq : s.heap.size ≤ q) {i : Int32} {x : Int64} (hi : vp_in i n) (hdg : decode cc pc = .ok (.lastore, 1))
    (kk : ∀ H1 : Heap, AJ Y ad q n (va_up g i.toNatClampNeg x) H1 → Sk q H H1 → W p l ev R s m args below meth c H1 locs cells slots Q (F0 m (pc + 1) ls rest)) : W p l ev R s m args below meth c H locs cells slots Q (F0 m pc ls (.long x :: .int i :: .ref q :: rest)) := by
  refine W.last F.1.1 F.1.2.1 h.2 ((F.2.1.2 4 _ rfl).1 n (fun j => .long (g j))) (fun q => by cases q) (by show ¬ (i < 0 ∨ (arrV _ _ _).slots.size ≤ _); rw [arrV_size]; exact hi) rfl rfl hdg fun H1 e z oq => ?_
  refine drop1 hq (kk H1 ⟨h.1, ?_⟩ ⟨z, oq⟩)
  rw [e]
  rw [vp_cell_l, vp_cell_l, arrV_store]
  congr 2
  funext q
  by_cases hq : q = i.toNatClampNeg
  · subst hq
    simp [updV, va_up]
  · simp [updV, va_up, hq]
theorem notAW (hP : va_P D vwCl (wsC Y ad G) H) {z : Nat} (hz : H.size ≤ z) : ¬ AW 90 ad z := fun ⟨i, hi, h⟩ => by
  have := (hP i _ (wsW_get i hi)).lt
  omega
theorem ext_Kp {H1 : Heap} (z1 : H1.size = H.size + 1) (o1 : ∀ q : Nat, q < H.size → H1[q]? = H[q]?) : Kp ad H H1 := ⟨by omega, fun q h _ => o1 q h⟩
theorem kpS {A : Nat → Prop} {H1 : Heap} (hS : va_S A s.heap H locs) (h1 : H.size ≤ H1.size) (h2 : ∀ q : Nat, q < H.size → H1[q]? = H[q]?) : va_S A s.heap H1 locs := ⟨Nat.le_trans hS.1 h1, fun z g1 g2 => (h2 z (Nat.lt_of_lt_of_le g1 hS.1)).trans (hS.2.1 z g1 g2), hS.2.2⟩
theorem ext_P {H1 : Heap} (hP : va_P D vwCl (wsC Y ad G) H) (h2 : ∀ q : Nat, q < H.size → H1[q]? = H[q]?) : va_P D vwCl (wsC Y ad G) H1 := hP.kept (fun k q hk => h2 _ (hP k q hk).lt)
/-- a new array of ints -/
theorem nw_i {N : Nat} (F : Fx p c cc nL s m args own D Y) (hP : va_P D vwCl (wsC Y ad G) H) (hS : va_S (AW 90 ad) s.heap H locs) (hB : Bg mc cells slots B) {n : Int32} (hn : ¬ n < 0) (hN : n.toNatClampNeg = N) (hb : 1 + B' ≤ B) (h16 : N ≤ 16) (harr : Cond.arrayClass .int ∈ LW) (hdg : decode cc pc = .ok (.newarray .int, 2))
    (kk : ∀ (q : Nat) (H1 : Heap) (cells1 slots1 : Nat), AI Y ad q N (fun _ => 0) H1 → s.heap.size ≤ q → (∀ z, z < H.size → z ≠ q) → va_P D vwCl (wsC Y ad G) H1 → va_S (AW 90 ad) s.heap H1 locs → Kp ad H H1 → Bg mc cells1 slots1 B' → W p l ev (rmD dd mc (16 * mc)) s m args below meth c H1 locs cells1 slots1 Q (F0 m (pc + 2) ls (.ref q :: rest))) : W p l ev (rmD dd mc (16 * mc)) s m args below meth c H locs cells slots Q (F0 m pc ls (.int n :: rest)) := by
  obtain ⟨b1, b2, b3⟩ := hB.sub (m := 1) (k := N) hb (by omega)
  refine va_newaK (atype := .int) F.1.1 F.1.2.1 (F.1.2.2.2.2 _ harr) rfl hdg rfl hn hN (by show N * 4 ≤ _; omega) b2 b3 rfl fun H1 cA e1 z1 o1 hAr hNm => ?_
  cases hNm.symm.trans (F.2.1.2 0 _ rfl).2
  exact kk H.size H1 _ _ ⟨notAW hP (Nat.le_refl _), e1⟩ hS.1 (fun z hz => by omega) (ext_P hP o1) (kpS hS (by omega) o1) (ext_Kp z1 o1) b1
theorem nw_l {N : Nat} (F : Fx p c cc nL s m args own D Y) (hP : va_P D vwCl (wsC Y ad G) H) (hS : va_S (AW 90 ad) s.heap H locs) (hB : Bg mc cells slots B) {n : Int32} (hn : ¬ n < 0) (hN : n.toNatClampNeg = N) (hb : 1 + B' ≤ B) (h16 : N ≤ 16) (harr : Cond.arrayClass .long ∈ LW) (hdg : decode cc pc = .ok (.newarray .long, 2))
    (kk : ∀ (q : Nat) (H1 : Heap) (cells1 slots1 : Nat), AJ Y ad q N (fun _ => 0) H1 → s.heap.size ≤ q → (∀ z, z < H.size → z ≠ q) → va_P D vwCl (wsC Y ad G) H1 → va_S (AW 90 ad) s.heap H1 locs → Kp ad H H1 → Bg mc cells1 slots1 B' → W p l ev (rmD dd mc (16 * mc)) s m args below meth c H1 locs cells1 slots1 Q (F0 m (pc + 2) ls (.ref q :: rest))) : W p l ev (rmD dd mc (16 * mc)) s m args below meth c H locs cells slots Q (F0 m pc ls (.int n :: rest)) := by
  obtain ⟨b1, b2, b3⟩ := hB.sub (m := 1) (k := N) hb (by omega)
  refine va_newaK (atype := .long) F.1.1 F.1.2.1 (F.1.2.2.2.2 _ harr) rfl hdg rfl hn hN (by show N * 8 ≤ _; omega) b2 b3 rfl fun H1 cA e1 z1 o1 hAr hNm => ?_
  cases hNm.symm.trans (F.2.1.2 4 _ rfl).2
  exact kk H.size H1 _ _ ⟨notAW hP (Nat.le_refl _), e1⟩ hS.1 (fun z hz => by omega) (ext_P hP o1) (kpS hS (by omega) o1) (ext_Kp z1 o1) b1
/-- the numbers of the library's functions -/
theorem lw_max {lv : List (Nat × Value)} {x z : Int32} (F : Fx p c cc nL s m args own D Y) (hl : lv_has ls nL lv) (hB : Bg mc cells slots B) (hlink : Cond.methodLink own idx Lib.Math.max.name ∈ LW) (hR : 1 ≤ dd ∧ (rest.map fun v => v.category).sum + 13 ≤ 40 * dd) (hdg : decode cc pc = .ok (.invokestatic idx, 3))
    (kk : W p l ev (rmD dd mc (16 * mc)) s m args below meth c H locs cells slots Q (F0 m (pc + 3) ls (.int (max32 x z) :: rest))) : W p l ev (rmD dd mc (16 * mc)) s m args below meth c H locs cells slots Q (F0 m pc ls (.int z :: .int x :: rest)) :=
  w_max F hl hlink ⟨hR.1, hR.2, hB.hc.1, hB.hc.2⟩ hdg kk
theorem lw_min {lv : List (Nat × Value)} {x z : Int32} (F : Fx p c cc nL s m args own D Y) (hl : lv_has ls nL lv) (hB : Bg mc cells slots B) (hlink : Cond.methodLink own idx Lib.Math.min.name ∈ LW) (hR : 1 ≤ dd ∧ (rest.map fun v => v.category).sum + 13 ≤ 40 * dd) (hdg : decode cc pc = .ok (.invokestatic idx, 3))
    (kk : W p l ev (rmD dd mc (16 * mc)) s m args below meth c H locs cells slots Q (F0 m (pc + 3) ls (.int (min32 x z) :: rest))) : W p l ev (rmD dd mc (16 * mc)) s m args below meth c H locs cells slots Q (F0 m pc ls (.int z :: .int x :: rest)) :=
  w_min F hl hlink ⟨hR.1, hR.2, hB.hc.1, hB.hc.2⟩ hdg kk
theorem lw_abs {lv : List (Nat × Value)} {x : Int32} (F : Fx p c cc nL s m args own D Y) (hl : lv_has ls nL lv) (hB : Bg mc cells slots B) (hlink : Cond.methodLink own idx Lib.Math.abs.name ∈ LW) (hR : 1 ≤ dd ∧ (rest.map fun v => v.category).sum + 13 ≤ 40 * dd) (hdg : decode cc pc = .ok (.invokestatic idx, 3))
    (kk : W p l ev (rmD dd mc (16 * mc)) s m args below meth c H locs cells slots Q (F0 m (pc + 3) ls (.int (abs32 x) :: rest))) : W p l ev (rmD dd mc (16 * mc)) s m args below meth c H locs cells slots Q (F0 m pc ls (.int x :: rest)) :=
  w_abs F hl hlink ⟨hR.1, hR.2, hB.hc.1, hB.hc.2⟩ hdg kk
end LWR
/-! what a method's own world is, besides the class's -/
def Ph0 : State → Prop := fun _ => True
theorem ph0_b : PhB Ph0 := fun _ _ _ _ _ => trivial
theorem ph0_o {s : State} {H : Heap} : ∀ U : State, U.heap = H → s.WarmedH U.vm → Ph0 U := fun _ _ _ => trivial
def PhM (Y : Nat → ClassId) (ad : Nat → Nat) (q n : Nat) (rr : Nat → Nat) (S : Nat → Nat → Int32) : State → Prop := fun U => MX Y ad q n rr S U.heap
theorem phM_b {Y : Nat → ClassId} {ad : Nat → Nat} {q n : Nat} {rr : Nat → Nat} {S : Nat → Nat → Int32} : PhB (PhM Y ad q n rr S) := fun _ _ _ _ h => h
theorem phM_o {Y : Nat → ClassId} {ad : Nat → Nat} {q n : Nat} {rr : Nat → Nat} {S : Nat → Nat → Int32} {s : State} {H : Heap} (h : MX Y ad q n rr S H) : ∀ U : State, U.heap = H → s.WarmedH U.vm → PhM Y ad q n rr S U := fun U hU _ => by
  unfold PhM
  rw [hU]
  exact h
def PA (n : Nat) (f : Nat → Int32) (D : va_G) (Y : Nat → ClassId) (ad : Nat → Nat) (G' : GT) : Value → State → State → Prop := fun v st t => ∃ q, v = .ref q ∧ AI Y ad q n f t.heap ∧ st.heap.size ≤ q ∧ va_P D vwCl (wsC Y ad G') t.heap
def PM (n : Nat) (S : Nat → Nat → Int32) (D : va_G) (Y : Nat → ClassId) (ad : Nat → Nat) (G' : GT) : Value → State → State → Prop := fun v st t => ∃ q rr, v = .ref q ∧ MX Y ad q n rr S t.heap ∧ st.heap.size ≤ q ∧ (∀ i, i < n → st.heap.size ≤ rr i) ∧ va_P D vwCl (wsC Y ad G') t.heap
def PL (r : Int64) (D : va_G) (Y : Nat → ClassId) (ad : Nat → Nat) (G' : GT) : Value → State → State → Prop := fun v _ t => v = .long r ∧ va_P D vwCl (wsC Y ad G') t.heap
def bindR {α β : Type} (x : Option ((Nat ⊕ α) × GT)) (f : α → GT → Option β) : Option β := x.bind fun q => match q.1 with
  | .inl _ => none
  | .inr r => f r q.2
theorem bR {α β : Type} {x : Option ((Nat ⊕ α) × GT)} {f : α → GT → Option β} {z : β} (h : bindR x f = some z) : ∃ r G, x = some (.inr r, G) ∧ f r G = some z := by
  obtain ⟨⟨R1, G1⟩, h1, h2⟩ := bsome h
  cases R1 with
  | inl k => cases h2
  | inr r => exact ⟨r, G1, h1, h2⟩
theorem cvM {Y : Nat → ClassId} {ad : Nat → Nat} {q n : Nat} {rr : Nat → Nat} {S S' : Nat → Nat → Int32} {H : Heap} (e : some S = some S') (h : MX Y ad q n rr S H) : MX Y ad q n rr S' H := by cases e; exact h
theorem cvA {Y : Nat → ClassId} {ad : Nat → Nat} {q n : Nat} {S S' : Nat → Int32} {H : Heap} (e : some S = some S') (h : AI Y ad q n S H) : AI Y ad q n S' H := by cases e; exact h
theorem cvJ {Y : Nat → ClassId} {ad : Nat → Nat} {q n : Nat} {S S' : Nat → Int64} {H : Heap} (e : some S = some S') (h : AJ Y ad q n S H) : AJ Y ad q n S' H := by cases e; exact h
def lq8 {A1 A2 A3 A4 A5 A6 A7 A8 ρ : Type} (f : (A1 → A2 → A3 → A4 → A5 → A6 → A7 → A8 → Option ρ) → A1 → A2 → A3 → A4 → A5 → A6 → A7 → A8 → Option ρ) : Nat → A1 → A2 → A3 → A4 → A5 → A6 → A7 → A8 → Option ρ
  | 0, _, _, _, _, _, _, _, _ => none
  | n + 1, x1, x2, x3, x4, x5, x6, x7, x8 => f (lq8 f n) x1 x2 x3 x4 x5 x6 x7 x8
theorem lqS8 {A1 A2 A3 A4 A5 A6 A7 A8 ρ : Type} {f : (A1 → A2 → A3 → A4 → A5 → A6 → A7 → A8 → Option ρ) → A1 → A2 → A3 → A4 → A5 → A6 → A7 → A8 → Option ρ} {n : Nat} {x1 : A1} {x2 : A2} {x3 : A3} {x4 : A4} {x5 : A5} {x6 : A6} {x7 : A7} {x8 : A8} {r : ρ} (h : lq8 f (n + 1) x1 x2 x3 x4 x5 x6 x7 x8 = some r) : f (lq8 f n) x1 x2 x3 x4 x5 x6 x7 x8 = some r := h
theorem lqZ8 {A1 A2 A3 A4 A5 A6 A7 A8 ρ : Type} {f : (A1 → A2 → A3 → A4 → A5 → A6 → A7 → A8 → Option ρ) → A1 → A2 → A3 → A4 → A5 → A6 → A7 → A8 → Option ρ} {x1 : A1} {x2 : A2} {x3 : A3} {x4 : A4} {x5 : A5} {x6 : A6} {x7 : A7} {x8 : A8} {r : ρ} {P : Prop} (h : lq8 f 0 x1 x2 x3 x4 x5 x6 x7 x8 = some r) : P := nomatch h
def lq9 {A1 A2 A3 A4 A5 A6 A7 A8 A9 ρ : Type} (f : (A1 → A2 → A3 → A4 → A5 → A6 → A7 → A8 → A9 → Option ρ) → A1 → A2 → A3 → A4 → A5 → A6 → A7 → A8 → A9 → Option ρ) : Nat → A1 → A2 → A3 → A4 → A5 → A6 → A7 → A8 → A9 → Option ρ
  | 0, _, _, _, _, _, _, _, _, _ => none
  | n + 1, x1, x2, x3, x4, x5, x6, x7, x8, x9 => f (lq9 f n) x1 x2 x3 x4 x5 x6 x7 x8 x9
theorem lqS9 {A1 A2 A3 A4 A5 A6 A7 A8 A9 ρ : Type} {f : (A1 → A2 → A3 → A4 → A5 → A6 → A7 → A8 → A9 → Option ρ) → A1 → A2 → A3 → A4 → A5 → A6 → A7 → A8 → A9 → Option ρ} {n : Nat} {x1 : A1} {x2 : A2} {x3 : A3} {x4 : A4} {x5 : A5} {x6 : A6} {x7 : A7} {x8 : A8} {x9 : A9} {r : ρ} (h : lq9 f (n + 1) x1 x2 x3 x4 x5 x6 x7 x8 x9 = some r) : f (lq9 f n) x1 x2 x3 x4 x5 x6 x7 x8 x9 = some r := h
theorem lqZ9 {A1 A2 A3 A4 A5 A6 A7 A8 A9 ρ : Type} {f : (A1 → A2 → A3 → A4 → A5 → A6 → A7 → A8 → A9 → Option ρ) → A1 → A2 → A3 → A4 → A5 → A6 → A7 → A8 → A9 → Option ρ} {x1 : A1} {x2 : A2} {x3 : A3} {x4 : A4} {x5 : A5} {x6 : A6} {x7 : A7} {x8 : A8} {x9 : A9} {r : ρ} {P : Prop} (h : lq9 f 0 x1 x2 x3 x4 x5 x6 x7 x8 x9 = some r) : P := nomatch h
def lq10 {A1 A2 A3 A4 A5 A6 A7 A8 A9 A10 ρ : Type} (f : (A1 → A2 → A3 → A4 → A5 → A6 → A7 → A8 → A9 → A10 → Option ρ) → A1 → A2 → A3 → A4 → A5 → A6 → A7 → A8 → A9 → A10 → Option ρ) : Nat → A1 → A2 → A3 → A4 → A5 → A6 → A7 → A8 → A9 → A10 → Option ρ
  | 0, _, _, _, _, _, _, _, _, _, _ => none
  | n + 1, x1, x2, x3, x4, x5, x6, x7, x8, x9, x10 => f (lq10 f n) x1 x2 x3 x4 x5 x6 x7 x8 x9 x10
theorem lqS10 {A1 A2 A3 A4 A5 A6 A7 A8 A9 A10 ρ : Type} {f : (A1 → A2 → A3 → A4 → A5 → A6 → A7 → A8 → A9 → A10 → Option ρ) → A1 → A2 → A3 → A4 → A5 → A6 → A7 → A8 → A9 → A10 → Option ρ} {n : Nat} {x1 : A1} {x2 : A2} {x3 : A3} {x4 : A4} {x5 : A5} {x6 : A6} {x7 : A7} {x8 : A8} {x9 : A9} {x10 : A10} {r : ρ} (h : lq10 f (n + 1) x1 x2 x3 x4 x5 x6 x7 x8 x9 x10 = some r) : f (lq10 f n) x1 x2 x3 x4 x5 x6 x7 x8 x9 x10 = some r := h
theorem lqZ10 {A1 A2 A3 A4 A5 A6 A7 A8 A9 A10 ρ : Type} {f : (A1 → A2 → A3 → A4 → A5 → A6 → A7 → A8 → A9 → A10 → Option ρ) → A1 → A2 → A3 → A4 → A5 → A6 → A7 → A8 → A9 → A10 → Option ρ} {x1 : A1} {x2 : A2} {x3 : A3} {x4 : A4} {x5 : A5} {x6 : A6} {x7 : A7} {x8 : A8} {x9 : A9} {x10 : A10} {r : ρ} {P : Prop} (h : lq10 f 0 x1 x2 x3 x4 x5 x6 x7 x8 x9 x10 = some r) : P := nomatch h
def lq11 {A1 A2 A3 A4 A5 A6 A7 A8 A9 A10 A11 ρ : Type} (f : (A1 → A2 → A3 → A4 → A5 → A6 → A7 → A8 → A9 → A10 → A11 → Option ρ) → A1 → A2 → A3 → A4 → A5 → A6 → A7 → A8 → A9 → A10 → A11 → Option ρ) : Nat → A1 → A2 → A3 → A4 → A5 → A6 → A7 → A8 → A9 → A10 → A11 → Option ρ
  | 0, _, _, _, _, _, _, _, _, _, _, _ => none
  | n + 1, x1, x2, x3, x4, x5, x6, x7, x8, x9, x10, x11 => f (lq11 f n) x1 x2 x3 x4 x5 x6 x7 x8 x9 x10 x11
theorem lqS11 {A1 A2 A3 A4 A5 A6 A7 A8 A9 A10 A11 ρ : Type} {f : (A1 → A2 → A3 → A4 → A5 → A6 → A7 → A8 → A9 → A10 → A11 → Option ρ) → A1 → A2 → A3 → A4 → A5 → A6 → A7 → A8 → A9 → A10 → A11 → Option ρ} {n : Nat} {x1 : A1} {x2 : A2} {x3 : A3} {x4 : A4} {x5 : A5} {x6 : A6} {x7 : A7} {x8 : A8} {x9 : A9} {x10 : A10} {x11 : A11} {r : ρ} (h : lq11 f (n + 1) x1 x2 x3 x4 x5 x6 x7 x8 x9 x10 x11 = some r) : f (lq11 f n) x1 x2 x3 x4 x5 x6 x7 x8 x9 x10 x11 = some r := h
theorem lqZ11 {A1 A2 A3 A4 A5 A6 A7 A8 A9 A10 A11 ρ : Type} {f : (A1 → A2 → A3 → A4 → A5 → A6 → A7 → A8 → A9 → A10 → A11 → Option ρ) → A1 → A2 → A3 → A4 → A5 → A6 → A7 → A8 → A9 → A10 → A11 → Option ρ} {x1 : A1} {x2 : A2} {x3 : A3} {x4 : A4} {x5 : A5} {x6 : A6} {x7 : A7} {x8 : A8} {x9 : A9} {x10 : A10} {x11 : A11} {r : ρ} {P : Prop} (h : lq11 f 0 x1 x2 x3 x4 x5 x6 x7 x8 x9 x10 x11 = some r) : P := nomatch h
def lq12 {A1 A2 A3 A4 A5 A6 A7 A8 A9 A10 A11 A12 ρ : Type} (f : (A1 → A2 → A3 → A4 → A5 → A6 → A7 → A8 → A9 → A10 → A11 → A12 → Option ρ) → A1 → A2 → A3 → A4 → A5 → A6 → A7 → A8 → A9 → A10 → A11 → A12 → Option ρ) : Nat → A1 → A2 → A3 → A4 → A5 → A6 → A7 → A8 → A9 → A10 → A11 → A12 → Option ρ
  | 0, _, _, _, _, _, _, _, _, _, _, _, _ => none
  | n + 1, x1, x2, x3, x4, x5, x6, x7, x8, x9, x10, x11, x12 => f (lq12 f n) x1 x2 x3 x4 x5 x6 x7 x8 x9 x10 x11 x12
theorem lqS12 {A1 A2 A3 A4 A5 A6 A7 A8 A9 A10 A11 A12 ρ : Type} {f : (A1 → A2 → A3 → A4 → A5 → A6 → A7 → A8 → A9 → A10 → A11 → A12 → Option ρ) → A1 → A2 → A3 → A4 → A5 → A6 → A7 → A8 → A9 → A10 → A11 → A12 → Option ρ} {n : Nat} {x1 : A1} {x2 : A2} {x3 : A3} {x4 : A4} {x5 : A5} {x6 : A6} {x7 : A7} {x8 : A8} {x9 : A9} {x10 : A10} {x11 : A11} {x12 : A12} {r : ρ} (h : lq12 f (n + 1) x1 x2 x3 x4 x5 x6 x7 x8 x9 x10 x11 x12 = some r) : f (lq12 f n) x1 x2 x3 x4 x5 x6 x7 x8 x9 x10 x11 x12 = some r := h
theorem lqZ12 {A1 A2 A3 A4 A5 A6 A7 A8 A9 A10 A11 A12 ρ : Type} {f : (A1 → A2 → A3 → A4 → A5 → A6 → A7 → A8 → A9 → A10 → A11 → A12 → Option ρ) → A1 → A2 → A3 → A4 → A5 → A6 → A7 → A8 → A9 → A10 → A11 → A12 → Option ρ} {x1 : A1} {x2 : A2} {x3 : A3} {x4 : A4} {x5 : A5} {x6 : A6} {x7 : A7} {x8 : A8} {x9 : A9} {x10 : A10} {x11 : A11} {x12 : A12} {r : ρ} {P : Prop} (h : lq12 f 0 x1 x2 x3 x4 x5 x6 x7 x8 x9 x10 x11 x12 = some r) : P := nomatch h
