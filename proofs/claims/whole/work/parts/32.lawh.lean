/-! the law's helpers: a call of the class, what it throws told by a number, what it gives laid into a row of one -/
def Ncs (U : State) : Prop := ∀ i j : Nat, i < 6 → j < 6 → i ≠ j → va_Nc (exN i) (exN j) U
theorem Ncs.warm {s U : State} (hW : s.WarmedH U.vm) (h : Ncs s) : Ncs U := fun i j a b c => va_Nc.moved hW.alike (h i j a b c)
theorem Ncs.call {U : State} {g : JFrame} {mk : MethodId} {a : Array Value} (h : Ncs U) : Ncs (U.calling g mk a) := fun i j x y z => va_Nc.moved (u := U) (U := U.calling g mk a) (Vm.Alike.refl U.vm) (h i j x y z)
abbrev oL (Y : Nat → ClassId) (f : Nat → Int64) : va_E := .inl (Y 4, 1, .inr (.inl f))
abbrev oD (Y : Nat → ClassId) (f : Nat → UInt64) : va_E := .inl (Y 5, 1, .inr (.inr (.inr (.inl f))))
def AO (ad : Nat → Nat) (o : Nat) : Nat → Prop := fun q => AW 90 ad q ∨ q = o
def BL (D : va_G) (Y : Nat → ClassId) (ad : Nat → Nat) (G : GT) (o : Nat) (e : va_E) : State → Prop := fun U => BK D Y (wsC Y ad G) ad (AW 90 ad) U ∧ Ncs U ∧ ¬ AW 90 ad o ∧ va_at D vwCl (o, e) U.heap
theorem BL.blind {D : va_G} {Y : Nat → ClassId} {ad : Nat → Nat} {G : GT} {o : Nat} {e : va_E} {As : List Value} : FrameBlind (va_Pc As (BL D Y ad G o e)) := fun _ _ _ _ h => ⟨h.1, ⟨Bw.call h.2.1.1, Ks.call h.2.1.2⟩, Ncs.call h.2.2.1, h.2.2.2⟩
/-- the number that tells a throw: 0 none -/
def cod {α : Type} (ks : List Nat) : Nat ⊕ α → Int32
  | .inr _ => 0
  | .inl k => nI (1 + ks.idxOf k)
def LQ {α β : Type} (ks : List Nat) (R : Nat ⊕ α) (cv : α → β) (en : (Nat → β) → va_E) (D : va_G) (ws : va_W) (A : Nat → Prop) (o : Nat) : Array Value → State → Outcome → State → Prop :=
  va_Qi (fun v (_ : Unit) => v = cod ks R) (fun _ t => va_P D vwCl ws t.heap ∧ ∃ f : Nat → β, va_at D vwCl (o, en f) t.heap ∧ ∀ v, R = .inr v → f 0 = cv v) A
def LH {α β : Type} (l : Launch) (y : MethodName) (b : ByteArray) (n : Nat) (hh : List (Nat × Nat × Nat × Nat)) (d mc : Nat) (D : va_G) (Y : Nat → ClassId) (ad : Nat → Nat) (G : GT) (As : List Value) (o : Nat) (e : va_E) (ks : List Nat) (R : Nat ⊕ α) (cv : α → β) (en : (Nat → β) → va_E) (G' : GT) : Prop :=
  vx_Met l y (Cond.codeWith y b n (some .int) hh :: LW) (rmD d mc (6 * mc)) (va_Pc As (BL D Y ad G o e)) (LQ ks R cv en D (wsC Y ad G') (AO ad o) o) (fun _ _ _ => False) mc (6 * mc) (AO ad o)
def CKL (y : MethodName) (b : ByteArray) (n : Nat) (hh : List (Nat × Nat × Nat × Nat)) (ar : Nat) : Prop := Cond.static y ∈ LW ∧ Cond.initialized y.cls ∈ LW ∧ Cond.codeWith y b n (some .int) hh ∈ LW ∧ (y.cls ≠ "java/lang/invoke/MethodHandle" ∧ y.cls ≠ "java/lang/invoke/VarHandle" ∧ (parseMethodDescriptor y.desc).map (fun d => d.parameters.length) = some ar)
theorem L_of {l : Launch} {y : MethodName} {b : ByteArray} {n : Nat} {hh : List (Nat × Nat × Nat × Nat)} {d mc : Nat} {D : va_G} {Y : Nat → ClassId} {ad : Nat → Nat} {G : GT} {o : Nat} {e : va_E} {As : List Value} {Qc : Array Value → State → Outcome → State → Prop} {X : String → State → State → Prop} {A : Nat → Prop} {lv : List (Nat × Value)} (hy : plainName y.cls = true) (hn : (lg_sl As).length ≤ n) (hlv : lv_args 0 As = lv)
    (body : ∀ (p : Program) (ev : Env) (s : State) (m : MethodId) (below : List Frame) (meth : Method) (c : Code) (ls : Array Slot), Fx p c b n s m As.toArray y.cls D Y → c.exceptionTable.toList = tableOf hh → va_P D vwCl (wsC Y ad G) s.heap → Ks ad (AW 90 ad) s s.heap → Ncs s → ¬ AW 90 ad o → va_at D vwCl (o, e) s.heap → va_S (AO ad o) s.heap s.heap [] → meth.sig.returnType = some .int → meth.locks = false → lv_has ls n lv → W p l ev (rmD d mc (6 * mc)) s m As.toArray below meth c s.heap [] 0 0 (vx_MQ below Qc X As.toArray s mc (6 * mc) A) (F0 m 0 ls [])) : vx_Met l y (Cond.codeWith y b n (some .int) hh :: LW) (rmD d mc (6 * mc)) (va_Pc As (BL D Y ad G o e)) Qc X mc (6 * mc) A := by
  refine vx_ofWH (cc := b) (maxL := n) (ret := some .int) (hh := hh) hy rfl ?_
  intro p ev s m args below meth c s₁ B hml hv
  obtain ⟨rfl, ⟨⟨hE, hP⟩, hK⟩, hN, hO, hT⟩ := hv
  have hts := atoms_spec (ws := Cond.codeWith y b n (some .int) hh :: LW) B.pre
  have hl := lv_entry As hn
  rw [lg_entry_eq]
  rw [hlv] at hl
  exact body p ev s m below meth c _ ⟨⟨B.exec, B.bytes, hml, findClass_of_methodNamed B.named, fun w hw => hts w (List.mem_cons_of_mem _ hw)⟩, hE⟩ (vx_table (x := y) B (hts _ List.mem_cons_self)) hP hK hN hO hT va_S.rf B.returns B.notSynchronized hl
section LHR
variable {p : Program} {l : Launch} {ev : Env} {R : Room} {s : State} {m : MethodId} {args : Array Value} {below : List Frame} {meth : Method} {c : Code} {H : Heap} {locs : List Loc} {cells slots : Nat} {Q : State → Prop}
variable {cc : ByteArray} {pc nL idx : Nat} {ls : Array Slot} {rest st0 : List Value} {own : String} {D : va_G} {Y : Nat → ClassId} {ad : Nat → Nat} {G G' : GT} {o : Nat} {e : va_E}
theorem lh_S {H1 : Heap} {L : List Loc} (hS : va_S (AO ad o) s.heap H locs) (h1 : H.size ≤ H1.size) (h2 : ∀ q : Nat, q < H.size → ¬ AW 90 ad q → H1[q]? = H[q]?) (hL : ∀ z ∈ L, AW 90 ad z.base) : va_S (AO ad o) s.heap H1 (locs ++ L) :=
  ⟨Nat.le_trans hS.1 h1, fun q g1 g2 => (h2 q (Nat.lt_of_lt_of_le g1 hS.1) (fun h => g2 (Or.inl h))).trans (hS.2.1 q g1 g2), fun z hz => by
    rcases List.mem_append.mp hz with h | h
    · exact hS.2.2 z h
    · exact Or.inl (hL z h)⟩
theorem lh_call {α : Type} {RR : Nat ⊕ α} {y : MethodName} {b : ByteArray} {n ar d mc : Nat} {ret : Option FieldType} {As : List Value} {Qc : Array Value → State → Outcome → State → Prop} (val : α → Value) (F : Fx p c cc nL s m args own D Y) (hP : va_P D vwCl (wsC Y ad G) H) (hK : Ks ad (AW 90 ad) s s.heap) (hO : ¬ AW 90 ad o) (hT : va_at D vwCl (o, e) H) (hS : va_S (AO ad o) s.heap H locs) (hS0 : va_S (AW 90 ad) s.heap H locs) (k : CKV y b n ret ar) (hl : Cond.methodLink own idx y ∈ LW) (hcls : y.cls = "TinRoofScore")
    (hM : vx_Met l y (wc y b n ret) (rmD d mc (6 * mc)) (va_Pc (.ref (ad 77) :: As) (BK D Y (wsC Y ad G) ad (AW 90 ad))) Qc (XC α RR D (wsC Y ad G') (AW 90 ad)) mc (6 * mc) (AW 90 ad)) (hq : ∀ (a : Array Value) (st : State) (v : Option Value) (t : State), Qc a st (.returned v) t → ∃ x : α, v = some (val x) ∧ RR = .inr x ∧ va_P D vwCl (wsC Y ad G') t.heap ∧ va_F (AW 90 ad) st t)
    (hn : As.length = ar) (hsz : ls.size = nL) (hR : d + 1 ≤ R.frames ∧ 8 + (n + 11) + 40 * d ≤ R.locals) (hst : st0 = As.reverse ++ .ref (ad 77) :: rest) (hcat : (rest.map fun v => v.category).sum ≤ 8) (hc : cells + mc ≤ R.cells ∧ slots + 6 * mc ≤ R.slots) (hdg : decode cc pc = .ok (.invokevirtual idx, 3))
    (kr : ∀ (x : α) (H1 : Heap) (locs1 : List Loc), RR = .inr x → va_P D vwCl (wsC Y ad G') H1 → va_at D vwCl (o, e) H1 → va_S (AO ad o) s.heap H1 locs1 → W p l ev R s m args below meth c H1 locs1 (cells + mc) (slots + 6 * mc) Q (F0 m (pc + 3) ls (val x :: rest)))
    (kt : ∀ (k q : Nat) (ce : Cell) (H1 : Heap) (locs1 : List Loc), RR = .inl k → va_P D vwCl (wsC Y ad G') H1 → va_at D vwCl (o, e) H1 → va_S (AO ad o) s.heap H1 locs1 → H1[q]? = some ce → ce.vm = .none → s.vm.findClass (exN k) = some ce.cls → vx_W p l ev R s m args below meth c H1 locs1 (cells + mc) (slots + 6 * mc) Q (F0 m pc ls rest) q) : W p l ev R s m args below meth c H locs cells slots Q (F0 m pc ls st0) := by
  subst hst
  intro T hT' X
  have ho : o < H.size := by
    cases e with
    | inl a => exact (Array.getElem?_eq_some_iff.mp (show H[o]? = some _ from hT)).1
    | inr a => obtain ⟨r, -, cell, h, -⟩ := hT; exact (Array.getElem?_eq_some_iff.mp h).1
  rcases vx_runV (As := As) (rest := rest) F.1 hM (ck_V F.1.2.2.2.2 k hl rfl rfl hR) ⟨BK.blind, va_recv F.2.1 hP (ci := 10) (q := (y.cls, TX9, 11)) (by rw [hcls]; rfl) (wsW_get 77 (by decide)), fun U hU hW => ⟨rfl, BK.of F.2 hP hK hS0 hU hW⟩⟩ rfl hn hsz (g := F0 m pc ls (As.reverse ++ .ref (ad 77) :: rest)) rfl (lv_room hcat) hdg hc T hT' X with ⟨v, st₀, t, T', L, g0, X', hL, e1, e2, hqc, st⟩ | ⟨q, st₀, t, T', L, E, ce, g0, X', hL, e1, e2, ⟨⟨k1, hk1, rfl⟩, hp1, hf1, hf2⟩, hce, hcv, hcl, st⟩
  · obtain ⟨x, rfl, hx, hp1, hf1, hf2⟩ := hq _ _ _ _ hqc
    rw [g0] at hf1 hf2
    obtain ⟨t2, a1, b1⟩ := kr x t.heap (locs ++ L) hx hp1 (hT.kept (hf2 _ ho hO)) (lh_S hS hf1 hf2 hL) T' e1 X'
    exact ⟨t2, st t2 a1, b1⟩
  · rw [g0] at hf1 hf2
    obtain ⟨t2, a1, b1⟩ := kt k1 q ce t.heap (locs ++ L) hk1 hp1 (hT.kept (hf2 _ ho hO)) (lh_S hS hf1 hf2 hL) hce hcv hcl T' e1 X'
    exact ⟨t2, st.trans a1, b1⟩
theorem lh_last {f : Nat → Int64} {x : Int64} (F : Fx p c cc nL s m args own D Y) (hP : va_P D vwCl (wsC Y ad G) H) (hO : ¬ AW 90 ad o) (hT : va_at D vwCl (o, oL Y f) H) (hS : va_S (AO ad o) s.heap H locs) (hdg : decode cc pc = .ok (.lastore, 1))
    (kk : ∀ (H1 : Heap) (locs1 : List Loc), va_P D vwCl (wsC Y ad G) H1 → va_at D vwCl (o, oL Y (va_up f 0 x)) H1 → va_S (AO ad o) s.heap H1 locs1 → W p l ev R s m args below meth c H1 locs1 cells slots Q (F0 m (pc + 1) ls rest)) : W p l ev R s m args below meth c H locs cells slots Q (F0 m pc ls (.long x :: .int 0 :: .ref o :: rest)) := by
  refine W.last F.1.1 F.1.2.1 (show H[o]? = some (vp_cell (Y 4) (1, .inr (.inl f))) from hT) ((F.2.1.2 4 _ rfl).1 1 (fun j => .long (f j))) (fun q => by cases q) (by show ¬ ((0 : Int32) < 0 ∨ (arrV _ _ _).slots.size ≤ _); rw [arrV_size]; show ¬ ((0 : Int32) < 0 ∨ 1 ≤ (0 : Int32).toNatClampNeg); decide) rfl rfl hdg fun H1 e1 z oq => ?_
  refine kk H1 _ (wsW_kept hP (fun i hi => oq _ (fun h => hO ⟨i, hi, h⟩))) ?_ (hS.put z oq (Or.inr rfl))
  show H1[o]? = some (vp_cell _ _)
  rw [e1]
  rw [vp_cell_l, vp_cell_l, arrV_store]
  congr 2
  funext q
  by_cases hq : q = (0 : Int32).toNatClampNeg
  · subst hq
    simp [updV, va_up]
  · have hq0 : ¬ q = 0 := hq
    simp [updV, va_up, hq0]
theorem lh_dast {f : Nat → UInt64} {x : UInt64} (F : Fx p c cc nL s m args own D Y) (hP : va_P D vwCl (wsC Y ad G) H) (hO : ¬ AW 90 ad o) (hT : va_at D vwCl (o, oD Y f) H) (hS : va_S (AO ad o) s.heap H locs) (hdg : decode cc pc = .ok (.dastore, 1))
    (kk : ∀ (H1 : Heap) (locs1 : List Loc), va_P D vwCl (wsC Y ad G) H1 → va_at D vwCl (o, oD Y (va_up f 0 x)) H1 → va_S (AO ad o) s.heap H1 locs1 → W p l ev R s m args below meth c H1 locs1 cells slots Q (F0 m (pc + 1) ls rest)) : W p l ev R s m args below meth c H locs cells slots Q (F0 m pc ls (.double x :: .int 0 :: .ref o :: rest)) := by
  refine W.dast F.1.1 F.1.2.1 (show H[o]? = some (vp_cell (Y 5) (1, .inr (.inr (.inr (.inl f))))) from hT) ((F.2.1.2 5 _ rfl).1 1 (fun j => .double (f j))) (fun q => by cases q) (by show ¬ ((0 : Int32) < 0 ∨ (arrV _ _ _).slots.size ≤ _); rw [arrV_size]; show ¬ ((0 : Int32) < 0 ∨ 1 ≤ (0 : Int32).toNatClampNeg); decide) rfl rfl hdg fun H1 e1 z oq => ?_
  refine kk H1 _ (wsW_kept hP (fun i hi => oq _ (fun h => hO ⟨i, hi, h⟩))) ?_ (hS.put z oq (Or.inr rfl))
  show H1[o]? = some (vp_cell _ _)
  rw [e1]
  rw [vp_cell_d, vp_cell_d, arrV_store]
  congr 2
  funext q
  by_cases hq : q = (0 : Int32).toNatClampNeg
  · subst hq
    simp [updV, va_up]
  · have hq0 : ¬ q = 0 := hq
    simp [updV, va_up, hq0]
theorem lh_end {α β : Type} {ks : List Nat} {RR : Nat ⊕ α} {cv : α → β} {en : (Nat → β) → va_E} {f : Nat → β} {v : Int32} {X : String → State → State → Prop} (F : Fx p c cc nL s m args own D Y) (hP : va_P D vwCl (wsC Y ad G') H) (hT : va_at D vwCl (o, en f) H) (hS : va_S (AO ad o) s.heap H locs) (hr : meth.sig.returnType = some .int) (hk : meth.locks = false) (hv : v = cod ks RR) (hx : ∀ x, RR = .inr x → f 0 = cv x) (hdg : decode cc pc = .ok (.ireturn, 1)) : W p l ev R s m args below meth c H locs cells slots (vx_MQ below (LQ ks RR cv en D (wsC Y ad G') (AO ad o) o) X args s cells slots (AO ad o)) (F0 m pc ls [.int v]) :=
  vx_ret (W.iret F.1.1 F.1.2.1 hr (fun t ht _ => ⟨⟨v, (), rfl, hv, by show va_P _ _ _ t.heap ∧ ∃ f : _, va_at _ _ _ t.heap ∧ _; rw [ht]; exact ⟨hP, f, hT, hx⟩⟩, hS.F ht⟩) hS.2.2 hdg hk)
theorem lh_qi {ret : Option FieldType} {RR : Nat ⊕ Int32} {ws : va_W} {A : Nat → Prop} (a : Array Value) (st : State) (v : Option Value) (t : State) (h : XQi ret RR D ws A a st (.returned v) t) : ∃ x : Int32, v = some (.int x) ∧ RR = .inr x ∧ va_P D vwCl ws t.heap ∧ va_F A st t := by
  obtain ⟨⟨x, _, h1, h2, h3⟩, h4⟩ := h
  cases h1
  exact ⟨x, rfl, h2.1, h3, h4⟩
theorem lh_qd {RR : Nat ⊕ UInt64} {ws : va_W} {A : Nat → Prop} (a : Array Value) (st : State) (v : Option Value) (t : State) (h : XQd RR D ws A a st (.returned v) t) : ∃ x : UInt64, v = some (.double x) ∧ RR = .inr x ∧ va_P D vwCl ws t.heap ∧ va_F A st t := by
  obtain ⟨⟨x, _, h1, h2, h3⟩, h4⟩ := h
  cases h1
  exact ⟨x, rfl, h2, h3, h4⟩
theorem lh_qf {RR : Nat ⊕ UInt32} {ws : va_W} {A : Nat → Prop} (a : Array Value) (st : State) (v : Option Value) (t : State) (h : XQf RR D ws A a st (.returned v) t) : ∃ x : UInt32, v = some (.float x) ∧ RR = .inr x ∧ va_P D vwCl ws t.heap ∧ va_F A st t := by
  obtain ⟨⟨x, _, h1, h2, h3⟩, h4⟩ := h
  cases h1
  exact ⟨x, rfl, h2, h3, h4⟩
end LHR
theorem kl_bar : CKL yL_bar cL_bar 4 [(0, 9, 12, 13), (0, 9, 15, 15)] 3 := ⟨mw_421, mw_0, mw_422, by decide +kernel⟩
set_option maxRecDepth 100000 in
set_option maxHeartbeats 4000000 in
theorem ql_bar (l : Launch) (hst : l.stackTraces = false) (D : va_G) (Y : Nat → ClassId) (ad : Nat → Nat) (hI : Inj 90 ad) (G : GT) (p0 : Int32) (o : Nat) (f : Nat → Int64) (RR : Nat ⊕ Int32) (G' : GT) (h : f_X9_bar G p0 = some (RR, G')) (hks : ∀ k, RR = .inl k → k ∈ ([1, 2] : List Nat)) : LH l yL_bar cL_bar 4 [(0, 9, 12, 13), (0, 9, 15, 15)] 11 3 D Y ad G [.ref (ad 77), .int p0, .ref o] o (oL Y f) [1, 2] RR (fun v : Int32 => v.toInt64) (oL Y) G' := by
  refine L_of (by decide) (Nat.le_of_ble_eq_true rfl) (lv := [(0, .ref (ad 77)), (1, .int p0), (2, .ref o)]) rfl ?_
  intro p ev s m below meth c ls F htab hP hK hN hO hT hS hr hk hl
  have F : Fx p c cL_bar 4 s m _ RL D Y := F
  have hx := F.1.1
  have hb := F.1.2.1
  have hts := F.1.2.2.2.2
  refine lv_aload_n hx hb dL_bar_0 rfl (lv_at hl 2 rfl) ?_
  refine lv_iconst (v := 0) hx hb dL_bar_1 (by decide) ?_
  refine lv_aload_n hx hb dL_bar_2 rfl (lv_at hl 0 rfl) ?_
  refine lv_iload_n hx hb dL_bar_3 rfl (lv_at hl 1 rfl) ?_
  refine lh_call (α := Int32) (RR := RR) (G' := G') (o := o) (rest := [.int 0, .ref o]) (As := [.int p0]) Value.int F hP hK hO hT hS va_S.rf k_X9_bar mw_425 rfl (q_X9_bar l hst D Y ad hI G p0 RR G' h) lh_qi rfl hl.1 ⟨Nat.le_of_ble_eq_true rfl, Nat.le_of_ble_eq_true rfl⟩ rfl (Nat.le_of_ble_eq_true rfl) ⟨Nat.le_of_ble_eq_true rfl, Nat.le_of_ble_eq_true rfl⟩ dL_bar_4 (fun x H1 L1 hR hP hT hS => ?_) (fun k q ce H1 L1 hR hP hT hS hce hcv hcl => ?_)
  · refine lv_i2l (v := x.toInt64) hx hb dL_bar_7 rfl ?_
    refine lh_last F hP hO hT hS dL_bar_8 ?_
    intro H1 L1 hP hT hS
    refine lv_goto (tgt := 18) hx hb dL_bar_9 (by decide) ?_
    refine lv_iconst (v := 0) hx hb dL_bar_18 (by decide) ?_
    exact lh_end (en := oL Y) (cv := (fun v : Int32 => v.toInt64)) F hP hT hS hr hk (by rw [hR]; rfl) (fun y hy => by cases hR.symm.trans hy; rfl) dL_bar_19
  · have hk2 := hks k hR
    simp only [List.mem_cons, List.not_mem_nil, or_false] at hk2
    rcases hk2 with rfl | rfl
    · refine vx_catch (own := RL) (name := exN 1) (E := exN 1) F.1.2.2.2.1 [] ⟨0, 9, 12, 13⟩ [⟨0, 9, 15, 15⟩] htab (fun z hz => absurd hz List.not_mem_nil) rfl (by decide) (hts _ mw_423) (va_Nw.use rfl (F.2.2 _ mw_602)) hce hcv hcl ?_
      refine lv_astore_n (lv' := [(3, .ref q), (0, .ref (ad 77)), (1, .int p0), (2, .ref o)]) hx hb dL_bar_12 rfl hl (by decide) rfl (fun ls hl => ?_)
      refine lv_iconst (v := 1) hx hb dL_bar_13 (by decide) ?_
      exact lh_end (en := oL Y) (cv := (fun v : Int32 => v.toInt64)) F hP hT hS hr hk (by rw [hR]; rfl) (fun y hy => by cases hR.symm.trans hy) dL_bar_14
    · refine vx_catch (own := RL) (name := exN 2) (E := exN 2) F.1.2.2.2.1 [⟨0, 9, 12, 13⟩] ⟨0, 9, 15, 15⟩ [] htab (List.forall_mem_cons.mpr ⟨Or.inr ⟨by decide, exN 1, hts _ mw_423, hN 2 1 (by decide) (by decide) (by decide)⟩, (fun z hz => absurd hz List.not_mem_nil)⟩) rfl (by decide) (hts _ mw_424) (va_Nw.use rfl (F.2.2 _ mw_621)) hce hcv hcl ?_
      refine lv_astore_n (lv' := [(3, .ref q), (0, .ref (ad 77)), (1, .int p0), (2, .ref o)]) hx hb dL_bar_15 rfl hl (by decide) rfl (fun ls hl => ?_)
      refine lv_iconst (v := 2) hx hb dL_bar_16 (by decide) ?_
      exact lh_end (en := oL Y) (cv := (fun v : Int32 => v.toInt64)) F hP hT hS hr hk (by rw [hR]; rfl) (fun y hy => by cases hR.symm.trans hy) dL_bar_17
theorem kl_key : CKL yL_key cL_key 5 [(0, 10, 13, 21), (0, 10, 17, 13), (0, 10, 21, 15)] 4 := ⟨mw_679, mw_0, mw_680, by decide +kernel⟩
set_option maxRecDepth 100000 in
set_option maxHeartbeats 4000000 in
theorem ql_key (l : Launch) (hst : l.stackTraces = false) (D : va_G) (Y : Nat → ClassId) (ad : Nat → Nat) (hI : Inj 90 ad) (G : GT) (p0 : Int32) (p1 : Int32) (o : Nat) (f : Nat → Int64) (RR : Nat ⊕ Int32) (G' : GT) (h : f_X9_key G p0 p1 = some (RR, G')) (hks : ∀ k, RR = .inl k → k ∈ ([0, 1, 2] : List Nat)) : LH l yL_key cL_key 5 [(0, 10, 13, 21), (0, 10, 17, 13), (0, 10, 21, 15)] 11 3 D Y ad G [.ref (ad 77), .int p0, .int p1, .ref o] o (oL Y f) [0, 1, 2] RR (fun v : Int32 => v.toInt64) (oL Y) G' := by
  refine L_of (by decide) (Nat.le_of_ble_eq_true rfl) (lv := [(0, .ref (ad 77)), (1, .int p0), (2, .int p1), (3, .ref o)]) rfl ?_
  intro p ev s m below meth c ls F htab hP hK hN hO hT hS hr hk hl
  have F : Fx p c cL_key 5 s m _ RL D Y := F
  have hx := F.1.1
  have hb := F.1.2.1
  have hts := F.1.2.2.2.2
  refine lv_aload_n hx hb dL_key_0 rfl (lv_at hl 3 rfl) ?_
  refine lv_iconst (v := 0) hx hb dL_key_1 (by decide) ?_
  refine lv_aload_n hx hb dL_key_2 rfl (lv_at hl 0 rfl) ?_
  refine lv_iload_n hx hb dL_key_3 rfl (lv_at hl 1 rfl) ?_
  refine lv_iload_n hx hb dL_key_4 rfl (lv_at hl 2 rfl) ?_
  refine lh_call (α := Int32) (RR := RR) (G' := G') (o := o) (rest := [.int 0, .ref o]) (As := [.int p0, .int p1]) Value.int F hP hK hO hT hS va_S.rf k_X9_key mw_702 rfl (q_X9_key l hst D Y ad hI G p0 p1 RR G' h) lh_qi rfl hl.1 ⟨Nat.le_of_ble_eq_true rfl, Nat.le_of_ble_eq_true rfl⟩ rfl (Nat.le_of_ble_eq_true rfl) ⟨Nat.le_of_ble_eq_true rfl, Nat.le_of_ble_eq_true rfl⟩ dL_key_5 (fun x H1 L1 hR hP hT hS => ?_) (fun k q ce H1 L1 hR hP hT hS hce hcv hcl => ?_)
  · refine lv_i2l (v := x.toInt64) hx hb dL_key_8 rfl ?_
    refine lh_last F hP hO hT hS dL_key_9 ?_
    intro H1 L1 hP hT hS
    refine lv_goto (tgt := 25) hx hb dL_key_10 (by decide) ?_
    refine lv_iconst (v := 0) hx hb dL_key_25 (by decide) ?_
    exact lh_end (en := oL Y) (cv := (fun v : Int32 => v.toInt64)) F hP hT hS hr hk (by rw [hR]; rfl) (fun y hy => by cases hR.symm.trans hy; rfl) dL_key_26
  · have hk2 := hks k hR
    simp only [List.mem_cons, List.not_mem_nil, or_false] at hk2
    rcases hk2 with rfl | rfl | rfl
    · refine vx_catch (own := RL) (name := exN 0) (E := exN 0) F.1.2.2.2.1 [] ⟨0, 10, 13, 21⟩ [⟨0, 10, 17, 13⟩, ⟨0, 10, 21, 15⟩] htab (fun z hz => absurd hz List.not_mem_nil) rfl (by decide) (hts _ mw_681) (va_Nw.use rfl (F.2.2 _ mw_527)) hce hcv hcl ?_
      refine lv_astore (lv' := [(4, .ref q), (0, .ref (ad 77)), (1, .int p0), (2, .int p1), (3, .ref o)]) hx hb dL_key_13 hl (by decide) rfl (fun ls hl => ?_)
      refine lv_iconst (v := 1) hx hb dL_key_15 (by decide) ?_
      exact lh_end (en := oL Y) (cv := (fun v : Int32 => v.toInt64)) F hP hT hS hr hk (by rw [hR]; rfl) (fun y hy => by cases hR.symm.trans hy) dL_key_16
    · refine vx_catch (own := RL) (name := exN 1) (E := exN 1) F.1.2.2.2.1 [⟨0, 10, 13, 21⟩] ⟨0, 10, 17, 13⟩ [⟨0, 10, 21, 15⟩] htab (List.forall_mem_cons.mpr ⟨Or.inr ⟨by decide, exN 0, hts _ mw_681, hN 1 0 (by decide) (by decide) (by decide)⟩, (fun z hz => absurd hz List.not_mem_nil)⟩) rfl (by decide) (hts _ mw_423) (va_Nw.use rfl (F.2.2 _ mw_602)) hce hcv hcl ?_
      refine lv_astore (lv' := [(4, .ref q), (0, .ref (ad 77)), (1, .int p0), (2, .int p1), (3, .ref o)]) hx hb dL_key_17 hl (by decide) rfl (fun ls hl => ?_)
      refine lv_iconst (v := 2) hx hb dL_key_19 (by decide) ?_
      exact lh_end (en := oL Y) (cv := (fun v : Int32 => v.toInt64)) F hP hT hS hr hk (by rw [hR]; rfl) (fun y hy => by cases hR.symm.trans hy) dL_key_20
    · refine vx_catch (own := RL) (name := exN 2) (E := exN 2) F.1.2.2.2.1 [⟨0, 10, 13, 21⟩, ⟨0, 10, 17, 13⟩] ⟨0, 10, 21, 15⟩ [] htab (List.forall_mem_cons.mpr ⟨Or.inr ⟨by decide, exN 0, hts _ mw_681, hN 2 0 (by decide) (by decide) (by decide)⟩, (List.forall_mem_cons.mpr ⟨Or.inr ⟨by decide, exN 1, hts _ mw_423, hN 2 1 (by decide) (by decide) (by decide)⟩, (fun z hz => absurd hz List.not_mem_nil)⟩)⟩) rfl (by decide) (hts _ mw_424) (va_Nw.use rfl (F.2.2 _ mw_621)) hce hcv hcl ?_
      refine lv_astore (lv' := [(4, .ref q), (0, .ref (ad 77)), (1, .int p0), (2, .int p1), (3, .ref o)]) hx hb dL_key_21 hl (by decide) rfl (fun ls hl => ?_)
      refine lv_iconst (v := 3) hx hb dL_key_23 (by decide) ?_
      exact lh_end (en := oL Y) (cv := (fun v : Int32 => v.toInt64)) F hP hT hS hr hk (by rw [hR]; rfl) (fun y hy => by cases hR.symm.trans hy) dL_key_24
theorem kl_leak : CKL yL_leak cL_leak 5 [(0, 10, 13, 21), (0, 10, 17, 13), (0, 10, 21, 15)] 4 := ⟨mw_708, mw_0, mw_709, by decide +kernel⟩
set_option maxRecDepth 100000 in
set_option maxHeartbeats 4000000 in
theorem ql_leak (l : Launch) (hst : l.stackTraces = false) (D : va_G) (Y : Nat → ClassId) (ad : Nat → Nat) (hI : Inj 90 ad) (G : GT) (p0 : Int32) (p1 : Int32) (o : Nat) (f : Nat → Int64) (RR : Nat ⊕ Int32) (G' : GT) (h : f_X9_leak G p0 p1 = some (RR, G')) (hks : ∀ k, RR = .inl k → k ∈ ([0, 1, 2] : List Nat)) : LH l yL_leak cL_leak 5 [(0, 10, 13, 21), (0, 10, 17, 13), (0, 10, 21, 15)] 11 3 D Y ad G [.ref (ad 77), .int p0, .int p1, .ref o] o (oL Y f) [0, 1, 2] RR (fun v : Int32 => v.toInt64) (oL Y) G' := by
  refine L_of (by decide) (Nat.le_of_ble_eq_true rfl) (lv := [(0, .ref (ad 77)), (1, .int p0), (2, .int p1), (3, .ref o)]) rfl ?_
  intro p ev s m below meth c ls F htab hP hK hN hO hT hS hr hk hl
  have F : Fx p c cL_leak 5 s m _ RL D Y := F
  have hx := F.1.1
  have hb := F.1.2.1
  have hts := F.1.2.2.2.2
  refine lv_aload_n hx hb dL_leak_0 rfl (lv_at hl 3 rfl) ?_
  refine lv_iconst (v := 0) hx hb dL_leak_1 (by decide) ?_
  refine lv_aload_n hx hb dL_leak_2 rfl (lv_at hl 0 rfl) ?_
  refine lv_iload_n hx hb dL_leak_3 rfl (lv_at hl 1 rfl) ?_
  refine lv_iload_n hx hb dL_leak_4 rfl (lv_at hl 2 rfl) ?_
  refine lh_call (α := Int32) (RR := RR) (G' := G') (o := o) (rest := [.int 0, .ref o]) (As := [.int p0, .int p1]) Value.int F hP hK hO hT hS va_S.rf k_X9_leak mw_710 rfl (q_X9_leak l hst D Y ad hI G p0 p1 RR G' h) lh_qi rfl hl.1 ⟨Nat.le_of_ble_eq_true rfl, Nat.le_of_ble_eq_true rfl⟩ rfl (Nat.le_of_ble_eq_true rfl) ⟨Nat.le_of_ble_eq_true rfl, Nat.le_of_ble_eq_true rfl⟩ dL_leak_5 (fun x H1 L1 hR hP hT hS => ?_) (fun k q ce H1 L1 hR hP hT hS hce hcv hcl => ?_)
  · refine lv_i2l (v := x.toInt64) hx hb dL_leak_8 rfl ?_
    refine lh_last F hP hO hT hS dL_leak_9 ?_
    intro H1 L1 hP hT hS
    refine lv_goto (tgt := 25) hx hb dL_leak_10 (by decide) ?_
    refine lv_iconst (v := 0) hx hb dL_leak_25 (by decide) ?_
    exact lh_end (en := oL Y) (cv := (fun v : Int32 => v.toInt64)) F hP hT hS hr hk (by rw [hR]; rfl) (fun y hy => by cases hR.symm.trans hy; rfl) dL_leak_26
  · have hk2 := hks k hR
    simp only [List.mem_cons, List.not_mem_nil, or_false] at hk2
    rcases hk2 with rfl | rfl | rfl
    · refine vx_catch (own := RL) (name := exN 0) (E := exN 0) F.1.2.2.2.1 [] ⟨0, 10, 13, 21⟩ [⟨0, 10, 17, 13⟩, ⟨0, 10, 21, 15⟩] htab (fun z hz => absurd hz List.not_mem_nil) rfl (by decide) (hts _ mw_681) (va_Nw.use rfl (F.2.2 _ mw_527)) hce hcv hcl ?_
      refine lv_astore (lv' := [(4, .ref q), (0, .ref (ad 77)), (1, .int p0), (2, .int p1), (3, .ref o)]) hx hb dL_leak_13 hl (by decide) rfl (fun ls hl => ?_)
      refine lv_iconst (v := 1) hx hb dL_leak_15 (by decide) ?_
      exact lh_end (en := oL Y) (cv := (fun v : Int32 => v.toInt64)) F hP hT hS hr hk (by rw [hR]; rfl) (fun y hy => by cases hR.symm.trans hy) dL_leak_16
    · refine vx_catch (own := RL) (name := exN 1) (E := exN 1) F.1.2.2.2.1 [⟨0, 10, 13, 21⟩] ⟨0, 10, 17, 13⟩ [⟨0, 10, 21, 15⟩] htab (List.forall_mem_cons.mpr ⟨Or.inr ⟨by decide, exN 0, hts _ mw_681, hN 1 0 (by decide) (by decide) (by decide)⟩, (fun z hz => absurd hz List.not_mem_nil)⟩) rfl (by decide) (hts _ mw_423) (va_Nw.use rfl (F.2.2 _ mw_602)) hce hcv hcl ?_
      refine lv_astore (lv' := [(4, .ref q), (0, .ref (ad 77)), (1, .int p0), (2, .int p1), (3, .ref o)]) hx hb dL_leak_17 hl (by decide) rfl (fun ls hl => ?_)
      refine lv_iconst (v := 2) hx hb dL_leak_19 (by decide) ?_
      exact lh_end (en := oL Y) (cv := (fun v : Int32 => v.toInt64)) F hP hT hS hr hk (by rw [hR]; rfl) (fun y hy => by cases hR.symm.trans hy) dL_leak_20
    · refine vx_catch (own := RL) (name := exN 2) (E := exN 2) F.1.2.2.2.1 [⟨0, 10, 13, 21⟩, ⟨0, 10, 17, 13⟩] ⟨0, 10, 21, 15⟩ [] htab (List.forall_mem_cons.mpr ⟨Or.inr ⟨by decide, exN 0, hts _ mw_681, hN 2 0 (by decide) (by decide) (by decide)⟩, (List.forall_mem_cons.mpr ⟨Or.inr ⟨by decide, exN 1, hts _ mw_423, hN 2 1 (by decide) (by decide) (by decide)⟩, (fun z hz => absurd hz List.not_mem_nil)⟩)⟩) rfl (by decide) (hts _ mw_424) (va_Nw.use rfl (F.2.2 _ mw_621)) hce hcv hcl ?_
      refine lv_astore (lv' := [(4, .ref q), (0, .ref (ad 77)), (1, .int p0), (2, .int p1), (3, .ref o)]) hx hb dL_leak_21 hl (by decide) rfl (fun ls hl => ?_)
      refine lv_iconst (v := 3) hx hb dL_leak_23 (by decide) ?_
      exact lh_end (en := oL Y) (cv := (fun v : Int32 => v.toInt64)) F hP hT hS hr hk (by rw [hR]; rfl) (fun y hy => by cases hR.symm.trans hy) dL_leak_24
theorem kl_drop : CKL yL_drop cL_drop 6 [(0, 12, 15, 21), (0, 12, 19, 13), (0, 12, 23, 15)] 5 := ⟨mw_716, mw_0, mw_717, by decide +kernel⟩
set_option maxRecDepth 100000 in
set_option maxHeartbeats 4000000 in
theorem ql_drop (l : Launch) (hst : l.stackTraces = false) (D : va_G) (Y : Nat → ClassId) (ad : Nat → Nat) (hI : Inj 90 ad) (G : GT) (p0 : Int32) (p1 : Int32) (p2 : Int32) (o : Nat) (f : Nat → Int64) (RR : Nat ⊕ Int32) (G' : GT) (h : f_X9_drop G p0 p1 p2 = some (RR, G')) (hks : ∀ k, RR = .inl k → k ∈ ([0, 1, 2] : List Nat)) : LH l yL_drop cL_drop 6 [(0, 12, 15, 21), (0, 12, 19, 13), (0, 12, 23, 15)] 11 3 D Y ad G [.ref (ad 77), .int p0, .int p1, .int p2, .ref o] o (oL Y f) [0, 1, 2] RR (fun v : Int32 => v.toInt64) (oL Y) G' := by
  refine L_of (by decide) (Nat.le_of_ble_eq_true rfl) (lv := [(0, .ref (ad 77)), (1, .int p0), (2, .int p1), (3, .int p2), (4, .ref o)]) rfl ?_
  intro p ev s m below meth c ls F htab hP hK hN hO hT hS hr hk hl
  have F : Fx p c cL_drop 6 s m _ RL D Y := F
  have hx := F.1.1
  have hb := F.1.2.1
  have hts := F.1.2.2.2.2
  refine lv_aload hx hb dL_drop_0 (lv_at hl 4 rfl) ?_
  refine lv_iconst (v := 0) hx hb dL_drop_2 (by decide) ?_
  refine lv_aload_n hx hb dL_drop_3 rfl (lv_at hl 0 rfl) ?_
  refine lv_iload_n hx hb dL_drop_4 rfl (lv_at hl 1 rfl) ?_
  refine lv_iload_n hx hb dL_drop_5 rfl (lv_at hl 2 rfl) ?_
  refine lv_iload_n hx hb dL_drop_6 rfl (lv_at hl 3 rfl) ?_
  refine lh_call (α := Int32) (RR := RR) (G' := G') (o := o) (rest := [.int 0, .ref o]) (As := [.int p0, .int p1, .int p2]) Value.int F hP hK hO hT hS va_S.rf k_X9_drop mw_718 rfl (q_X9_drop l hst D Y ad hI G p0 p1 p2 RR G' h) lh_qi rfl hl.1 ⟨Nat.le_of_ble_eq_true rfl, Nat.le_of_ble_eq_true rfl⟩ rfl (Nat.le_of_ble_eq_true rfl) ⟨Nat.le_of_ble_eq_true rfl, Nat.le_of_ble_eq_true rfl⟩ dL_drop_7 (fun x H1 L1 hR hP hT hS => ?_) (fun k q ce H1 L1 hR hP hT hS hce hcv hcl => ?_)
  · refine lv_i2l (v := x.toInt64) hx hb dL_drop_10 rfl ?_
    refine lh_last F hP hO hT hS dL_drop_11 ?_
    intro H1 L1 hP hT hS
    refine lv_goto (tgt := 27) hx hb dL_drop_12 (by decide) ?_
    refine lv_iconst (v := 0) hx hb dL_drop_27 (by decide) ?_
    exact lh_end (en := oL Y) (cv := (fun v : Int32 => v.toInt64)) F hP hT hS hr hk (by rw [hR]; rfl) (fun y hy => by cases hR.symm.trans hy; rfl) dL_drop_28
  · have hk2 := hks k hR
    simp only [List.mem_cons, List.not_mem_nil, or_false] at hk2
    rcases hk2 with rfl | rfl | rfl
    · refine vx_catch (own := RL) (name := exN 0) (E := exN 0) F.1.2.2.2.1 [] ⟨0, 12, 15, 21⟩ [⟨0, 12, 19, 13⟩, ⟨0, 12, 23, 15⟩] htab (fun z hz => absurd hz List.not_mem_nil) rfl (by decide) (hts _ mw_681) (va_Nw.use rfl (F.2.2 _ mw_527)) hce hcv hcl ?_
      refine lv_astore (lv' := [(5, .ref q), (0, .ref (ad 77)), (1, .int p0), (2, .int p1), (3, .int p2), (4, .ref o)]) hx hb dL_drop_15 hl (by decide) rfl (fun ls hl => ?_)
      refine lv_iconst (v := 1) hx hb dL_drop_17 (by decide) ?_
      exact lh_end (en := oL Y) (cv := (fun v : Int32 => v.toInt64)) F hP hT hS hr hk (by rw [hR]; rfl) (fun y hy => by cases hR.symm.trans hy) dL_drop_18
    · refine vx_catch (own := RL) (name := exN 1) (E := exN 1) F.1.2.2.2.1 [⟨0, 12, 15, 21⟩] ⟨0, 12, 19, 13⟩ [⟨0, 12, 23, 15⟩] htab (List.forall_mem_cons.mpr ⟨Or.inr ⟨by decide, exN 0, hts _ mw_681, hN 1 0 (by decide) (by decide) (by decide)⟩, (fun z hz => absurd hz List.not_mem_nil)⟩) rfl (by decide) (hts _ mw_423) (va_Nw.use rfl (F.2.2 _ mw_602)) hce hcv hcl ?_
      refine lv_astore (lv' := [(5, .ref q), (0, .ref (ad 77)), (1, .int p0), (2, .int p1), (3, .int p2), (4, .ref o)]) hx hb dL_drop_19 hl (by decide) rfl (fun ls hl => ?_)
      refine lv_iconst (v := 2) hx hb dL_drop_21 (by decide) ?_
      exact lh_end (en := oL Y) (cv := (fun v : Int32 => v.toInt64)) F hP hT hS hr hk (by rw [hR]; rfl) (fun y hy => by cases hR.symm.trans hy) dL_drop_22
    · refine vx_catch (own := RL) (name := exN 2) (E := exN 2) F.1.2.2.2.1 [⟨0, 12, 15, 21⟩, ⟨0, 12, 19, 13⟩] ⟨0, 12, 23, 15⟩ [] htab (List.forall_mem_cons.mpr ⟨Or.inr ⟨by decide, exN 0, hts _ mw_681, hN 2 0 (by decide) (by decide) (by decide)⟩, (List.forall_mem_cons.mpr ⟨Or.inr ⟨by decide, exN 1, hts _ mw_423, hN 2 1 (by decide) (by decide) (by decide)⟩, (fun z hz => absurd hz List.not_mem_nil)⟩)⟩) rfl (by decide) (hts _ mw_424) (va_Nw.use rfl (F.2.2 _ mw_621)) hce hcv hcl ?_
      refine lv_astore (lv' := [(5, .ref q), (0, .ref (ad 77)), (1, .int p0), (2, .int p1), (3, .int p2), (4, .ref o)]) hx hb dL_drop_23 hl (by decide) rfl (fun ls hl => ?_)
      refine lv_iconst (v := 3) hx hb dL_drop_25 (by decide) ?_
      exact lh_end (en := oL Y) (cv := (fun v : Int32 => v.toInt64)) F hP hT hS hr hk (by rw [hR]; rfl) (fun y hy => by cases hR.symm.trans hy) dL_drop_26
theorem kl_rest : CKL yL_rest cL_rest 4 [(0, 9, 12, 21), (0, 9, 15, 15)] 3 := ⟨mw_724, mw_0, mw_725, by decide +kernel⟩
set_option maxRecDepth 100000 in
set_option maxHeartbeats 4000000 in
theorem ql_rest (l : Launch) (hst : l.stackTraces = false) (D : va_G) (Y : Nat → ClassId) (ad : Nat → Nat) (hI : Inj 90 ad) (G : GT) (p0 : Int32) (o : Nat) (f : Nat → Int64) (RR : Nat ⊕ Int32) (G' : GT) (h : f_X9_rest G p0 = some (RR, G')) (hks : ∀ k, RR = .inl k → k ∈ ([0, 2] : List Nat)) : LH l yL_rest cL_rest 4 [(0, 9, 12, 21), (0, 9, 15, 15)] 11 3 D Y ad G [.ref (ad 77), .int p0, .ref o] o (oL Y f) [0, 2] RR (fun v : Int32 => v.toInt64) (oL Y) G' := by
  refine L_of (by decide) (Nat.le_of_ble_eq_true rfl) (lv := [(0, .ref (ad 77)), (1, .int p0), (2, .ref o)]) rfl ?_
  intro p ev s m below meth c ls F htab hP hK hN hO hT hS hr hk hl
  have F : Fx p c cL_rest 4 s m _ RL D Y := F
  have hx := F.1.1
  have hb := F.1.2.1
  have hts := F.1.2.2.2.2
  refine lv_aload_n hx hb dL_rest_0 rfl (lv_at hl 2 rfl) ?_
  refine lv_iconst (v := 0) hx hb dL_rest_1 (by decide) ?_
  refine lv_aload_n hx hb dL_rest_2 rfl (lv_at hl 0 rfl) ?_
  refine lv_iload_n hx hb dL_rest_3 rfl (lv_at hl 1 rfl) ?_
  refine lh_call (α := Int32) (RR := RR) (G' := G') (o := o) (rest := [.int 0, .ref o]) (As := [.int p0]) Value.int F hP hK hO hT hS va_S.rf k_X9_rest mw_726 rfl (q_X9_rest l hst D Y ad hI G p0 RR G' h) lh_qi rfl hl.1 ⟨Nat.le_of_ble_eq_true rfl, Nat.le_of_ble_eq_true rfl⟩ rfl (Nat.le_of_ble_eq_true rfl) ⟨Nat.le_of_ble_eq_true rfl, Nat.le_of_ble_eq_true rfl⟩ dL_rest_4 (fun x H1 L1 hR hP hT hS => ?_) (fun k q ce H1 L1 hR hP hT hS hce hcv hcl => ?_)
  · refine lv_i2l (v := x.toInt64) hx hb dL_rest_7 rfl ?_
    refine lh_last F hP hO hT hS dL_rest_8 ?_
    intro H1 L1 hP hT hS
    refine lv_goto (tgt := 18) hx hb dL_rest_9 (by decide) ?_
    refine lv_iconst (v := 0) hx hb dL_rest_18 (by decide) ?_
    exact lh_end (en := oL Y) (cv := (fun v : Int32 => v.toInt64)) F hP hT hS hr hk (by rw [hR]; rfl) (fun y hy => by cases hR.symm.trans hy; rfl) dL_rest_19
  · have hk2 := hks k hR
    simp only [List.mem_cons, List.not_mem_nil, or_false] at hk2
    rcases hk2 with rfl | rfl
    · refine vx_catch (own := RL) (name := exN 0) (E := exN 0) F.1.2.2.2.1 [] ⟨0, 9, 12, 21⟩ [⟨0, 9, 15, 15⟩] htab (fun z hz => absurd hz List.not_mem_nil) rfl (by decide) (hts _ mw_681) (va_Nw.use rfl (F.2.2 _ mw_527)) hce hcv hcl ?_
      refine lv_astore_n (lv' := [(3, .ref q), (0, .ref (ad 77)), (1, .int p0), (2, .ref o)]) hx hb dL_rest_12 rfl hl (by decide) rfl (fun ls hl => ?_)
      refine lv_iconst (v := 1) hx hb dL_rest_13 (by decide) ?_
      exact lh_end (en := oL Y) (cv := (fun v : Int32 => v.toInt64)) F hP hT hS hr hk (by rw [hR]; rfl) (fun y hy => by cases hR.symm.trans hy) dL_rest_14
    · refine vx_catch (own := RL) (name := exN 2) (E := exN 2) F.1.2.2.2.1 [⟨0, 9, 12, 21⟩] ⟨0, 9, 15, 15⟩ [] htab (List.forall_mem_cons.mpr ⟨Or.inr ⟨by decide, exN 0, hts _ mw_681, hN 2 0 (by decide) (by decide) (by decide)⟩, (fun z hz => absurd hz List.not_mem_nil)⟩) rfl (by decide) (hts _ mw_424) (va_Nw.use rfl (F.2.2 _ mw_621)) hce hcv hcl ?_
      refine lv_astore_n (lv' := [(3, .ref q), (0, .ref (ad 77)), (1, .int p0), (2, .ref o)]) hx hb dL_rest_15 rfl hl (by decide) rfl (fun ls hl => ?_)
      refine lv_iconst (v := 2) hx hb dL_rest_16 (by decide) ?_
      exact lh_end (en := oL Y) (cv := (fun v : Int32 => v.toInt64)) F hP hT hS hr hk (by rw [hR]; rfl) (fun y hy => by cases hR.symm.trans hy) dL_rest_17
theorem kl_lift : CKL yL_lift cL_lift 3 [(0, 8, 11, 15)] 2 := ⟨mw_732, mw_0, mw_733, by decide +kernel⟩
set_option maxRecDepth 100000 in
set_option maxHeartbeats 4000000 in
theorem ql_lift (l : Launch) (hst : l.stackTraces = false) (D : va_G) (Y : Nat → ClassId) (ad : Nat → Nat) (hI : Inj 90 ad) (G : GT) (o : Nat) (f : Nat → Int64) (RR : Nat ⊕ Int32) (G' : GT) (h : f_X9_lift G  = some (RR, G')) (hks : ∀ k, RR = .inl k → k ∈ ([2] : List Nat)) : LH l yL_lift cL_lift 3 [(0, 8, 11, 15)] 11 3 D Y ad G [.ref (ad 77), .ref o] o (oL Y f) [2] RR (fun v : Int32 => v.toInt64) (oL Y) G' := by
  refine L_of (by decide) (Nat.le_of_ble_eq_true rfl) (lv := [(0, .ref (ad 77)), (1, .ref o)]) rfl ?_
  intro p ev s m below meth c ls F htab hP hK hN hO hT hS hr hk hl
  have F : Fx p c cL_lift 3 s m _ RL D Y := F
  have hx := F.1.1
  have hb := F.1.2.1
  have hts := F.1.2.2.2.2
  refine lv_aload_n hx hb dL_lift_0 rfl (lv_at hl 1 rfl) ?_
  refine lv_iconst (v := 0) hx hb dL_lift_1 (by decide) ?_
  refine lv_aload_n hx hb dL_lift_2 rfl (lv_at hl 0 rfl) ?_
  refine lh_call (α := Int32) (RR := RR) (G' := G') (o := o) (rest := [.int 0, .ref o]) (As := []) Value.int F hP hK hO hT hS va_S.rf k_X9_lift mw_734 rfl (q_X9_lift l hst D Y ad hI G  RR G' h) lh_qi rfl hl.1 ⟨Nat.le_of_ble_eq_true rfl, Nat.le_of_ble_eq_true rfl⟩ rfl (Nat.le_of_ble_eq_true rfl) ⟨Nat.le_of_ble_eq_true rfl, Nat.le_of_ble_eq_true rfl⟩ dL_lift_3 (fun x H1 L1 hR hP hT hS => ?_) (fun k q ce H1 L1 hR hP hT hS hce hcv hcl => ?_)
  · refine lv_i2l (v := x.toInt64) hx hb dL_lift_6 rfl ?_
    refine lh_last F hP hO hT hS dL_lift_7 ?_
    intro H1 L1 hP hT hS
    refine lv_goto (tgt := 14) hx hb dL_lift_8 (by decide) ?_
    refine lv_iconst (v := 0) hx hb dL_lift_14 (by decide) ?_
    exact lh_end (en := oL Y) (cv := (fun v : Int32 => v.toInt64)) F hP hT hS hr hk (by rw [hR]; rfl) (fun y hy => by cases hR.symm.trans hy; rfl) dL_lift_15
  · have hk2 := hks k hR
    simp only [List.mem_cons, List.not_mem_nil, or_false] at hk2
    subst hk2
    refine vx_catch (own := RL) (name := exN 2) (E := exN 2) F.1.2.2.2.1 [] ⟨0, 8, 11, 15⟩ [] htab (fun z hz => absurd hz List.not_mem_nil) rfl (by decide) (hts _ mw_424) (va_Nw.use rfl (F.2.2 _ mw_621)) hce hcv hcl ?_
    refine lv_astore_n (lv' := [(2, .ref q), (0, .ref (ad 77)), (1, .ref o)]) hx hb dL_lift_11 rfl hl (by decide) rfl (fun ls hl => ?_)
    refine lv_iconst (v := 1) hx hb dL_lift_12 (by decide) ?_
    exact lh_end (en := oL Y) (cv := (fun v : Int32 => v.toInt64)) F hP hT hS hr hk (by rw [hR]; rfl) (fun y hy => by cases hR.symm.trans hy) dL_lift_13
theorem kl_limit : CKL yL_limit cL_limit 4 [(0, 9, 12, 13), (0, 9, 15, 15)] 3 := ⟨mw_740, mw_0, mw_741, by decide +kernel⟩
set_option maxRecDepth 100000 in
set_option maxHeartbeats 4000000 in
theorem ql_limit (l : Launch) (hst : l.stackTraces = false) (D : va_G) (Y : Nat → ClassId) (ad : Nat → Nat) (hI : Inj 90 ad) (G : GT) (p0 : Int32) (o : Nat) (f : Nat → Int64) (RR : Nat ⊕ Int32) (G' : GT) (h : f_X9_limit G p0 = some (RR, G')) (hks : ∀ k, RR = .inl k → k ∈ ([1, 2] : List Nat)) : LH l yL_limit cL_limit 4 [(0, 9, 12, 13), (0, 9, 15, 15)] 11 3 D Y ad G [.ref (ad 77), .int p0, .ref o] o (oL Y f) [1, 2] RR (fun v : Int32 => v.toInt64) (oL Y) G' := by
  refine L_of (by decide) (Nat.le_of_ble_eq_true rfl) (lv := [(0, .ref (ad 77)), (1, .int p0), (2, .ref o)]) rfl ?_
  intro p ev s m below meth c ls F htab hP hK hN hO hT hS hr hk hl
  have F : Fx p c cL_limit 4 s m _ RL D Y := F
  have hx := F.1.1
  have hb := F.1.2.1
  have hts := F.1.2.2.2.2
  refine lv_aload_n hx hb dL_limit_0 rfl (lv_at hl 2 rfl) ?_
  refine lv_iconst (v := 0) hx hb dL_limit_1 (by decide) ?_
  refine lv_aload_n hx hb dL_limit_2 rfl (lv_at hl 0 rfl) ?_
  refine lv_iload_n hx hb dL_limit_3 rfl (lv_at hl 1 rfl) ?_
  refine lh_call (α := Int32) (RR := RR) (G' := G') (o := o) (rest := [.int 0, .ref o]) (As := [.int p0]) Value.int F hP hK hO hT hS va_S.rf k_X9_limit mw_742 rfl (q_X9_limit l hst D Y ad hI G p0 RR G' h) lh_qi rfl hl.1 ⟨Nat.le_of_ble_eq_true rfl, Nat.le_of_ble_eq_true rfl⟩ rfl (Nat.le_of_ble_eq_true rfl) ⟨Nat.le_of_ble_eq_true rfl, Nat.le_of_ble_eq_true rfl⟩ dL_limit_4 (fun x H1 L1 hR hP hT hS => ?_) (fun k q ce H1 L1 hR hP hT hS hce hcv hcl => ?_)
  · refine lv_i2l (v := x.toInt64) hx hb dL_limit_7 rfl ?_
    refine lh_last F hP hO hT hS dL_limit_8 ?_
    intro H1 L1 hP hT hS
    refine lv_goto (tgt := 18) hx hb dL_limit_9 (by decide) ?_
    refine lv_iconst (v := 0) hx hb dL_limit_18 (by decide) ?_
    exact lh_end (en := oL Y) (cv := (fun v : Int32 => v.toInt64)) F hP hT hS hr hk (by rw [hR]; rfl) (fun y hy => by cases hR.symm.trans hy; rfl) dL_limit_19
  · have hk2 := hks k hR
    simp only [List.mem_cons, List.not_mem_nil, or_false] at hk2
    rcases hk2 with rfl | rfl
    · refine vx_catch (own := RL) (name := exN 1) (E := exN 1) F.1.2.2.2.1 [] ⟨0, 9, 12, 13⟩ [⟨0, 9, 15, 15⟩] htab (fun z hz => absurd hz List.not_mem_nil) rfl (by decide) (hts _ mw_423) (va_Nw.use rfl (F.2.2 _ mw_602)) hce hcv hcl ?_
      refine lv_astore_n (lv' := [(3, .ref q), (0, .ref (ad 77)), (1, .int p0), (2, .ref o)]) hx hb dL_limit_12 rfl hl (by decide) rfl (fun ls hl => ?_)
      refine lv_iconst (v := 1) hx hb dL_limit_13 (by decide) ?_
      exact lh_end (en := oL Y) (cv := (fun v : Int32 => v.toInt64)) F hP hT hS hr hk (by rw [hR]; rfl) (fun y hy => by cases hR.symm.trans hy) dL_limit_14
    · refine vx_catch (own := RL) (name := exN 2) (E := exN 2) F.1.2.2.2.1 [⟨0, 9, 12, 13⟩] ⟨0, 9, 15, 15⟩ [] htab (List.forall_mem_cons.mpr ⟨Or.inr ⟨by decide, exN 1, hts _ mw_423, hN 2 1 (by decide) (by decide) (by decide)⟩, (fun z hz => absurd hz List.not_mem_nil)⟩) rfl (by decide) (hts _ mw_424) (va_Nw.use rfl (F.2.2 _ mw_621)) hce hcv hcl ?_
      refine lv_astore_n (lv' := [(3, .ref q), (0, .ref (ad 77)), (1, .int p0), (2, .ref o)]) hx hb dL_limit_15 rfl hl (by decide) rfl (fun ls hl => ?_)
      refine lv_iconst (v := 2) hx hb dL_limit_16 (by decide) ?_
      exact lh_end (en := oL Y) (cv := (fun v : Int32 => v.toInt64)) F hP hT hS hr hk (by rw [hR]; rfl) (fun y hy => by cases hR.symm.trans hy) dL_limit_17
theorem kl_tune : CKL yL_tune cL_tune 5 [(0, 10, 13, 21), (0, 10, 17, 13), (0, 10, 21, 15)] 4 := ⟨mw_748, mw_0, mw_749, by decide +kernel⟩
set_option maxRecDepth 100000 in
set_option maxHeartbeats 4000000 in
theorem ql_tune (l : Launch) (hst : l.stackTraces = false) (D : va_G) (Y : Nat → ClassId) (ad : Nat → Nat) (hI : Inj 90 ad) (G : GT) (p0 : Int32) (p1 : Int32) (o : Nat) (f : Nat → Int64) (RR : Nat ⊕ Int32) (G' : GT) (h : f_X9_tune G p0 p1 = some (RR, G')) (hks : ∀ k, RR = .inl k → k ∈ ([0, 1, 2] : List Nat)) : LH l yL_tune cL_tune 5 [(0, 10, 13, 21), (0, 10, 17, 13), (0, 10, 21, 15)] 11 3 D Y ad G [.ref (ad 77), .int p0, .int p1, .ref o] o (oL Y f) [0, 1, 2] RR (fun v : Int32 => v.toInt64) (oL Y) G' := by
  refine L_of (by decide) (Nat.le_of_ble_eq_true rfl) (lv := [(0, .ref (ad 77)), (1, .int p0), (2, .int p1), (3, .ref o)]) rfl ?_
  intro p ev s m below meth c ls F htab hP hK hN hO hT hS hr hk hl
  have F : Fx p c cL_tune 5 s m _ RL D Y := F
  have hx := F.1.1
  have hb := F.1.2.1
  have hts := F.1.2.2.2.2
  refine lv_aload_n hx hb dL_tune_0 rfl (lv_at hl 3 rfl) ?_
  refine lv_iconst (v := 0) hx hb dL_tune_1 (by decide) ?_
  refine lv_aload_n hx hb dL_tune_2 rfl (lv_at hl 0 rfl) ?_
  refine lv_iload_n hx hb dL_tune_3 rfl (lv_at hl 1 rfl) ?_
  refine lv_iload_n hx hb dL_tune_4 rfl (lv_at hl 2 rfl) ?_
  refine lh_call (α := Int32) (RR := RR) (G' := G') (o := o) (rest := [.int 0, .ref o]) (As := [.int p0, .int p1]) Value.int F hP hK hO hT hS va_S.rf k_X9_tune mw_750 rfl (q_X9_tune l hst D Y ad hI G p0 p1 RR G' h) lh_qi rfl hl.1 ⟨Nat.le_of_ble_eq_true rfl, Nat.le_of_ble_eq_true rfl⟩ rfl (Nat.le_of_ble_eq_true rfl) ⟨Nat.le_of_ble_eq_true rfl, Nat.le_of_ble_eq_true rfl⟩ dL_tune_5 (fun x H1 L1 hR hP hT hS => ?_) (fun k q ce H1 L1 hR hP hT hS hce hcv hcl => ?_)
  · refine lv_i2l (v := x.toInt64) hx hb dL_tune_8 rfl ?_
    refine lh_last F hP hO hT hS dL_tune_9 ?_
    intro H1 L1 hP hT hS
    refine lv_goto (tgt := 25) hx hb dL_tune_10 (by decide) ?_
    refine lv_iconst (v := 0) hx hb dL_tune_25 (by decide) ?_
    exact lh_end (en := oL Y) (cv := (fun v : Int32 => v.toInt64)) F hP hT hS hr hk (by rw [hR]; rfl) (fun y hy => by cases hR.symm.trans hy; rfl) dL_tune_26
  · have hk2 := hks k hR
    simp only [List.mem_cons, List.not_mem_nil, or_false] at hk2
    rcases hk2 with rfl | rfl | rfl
    · refine vx_catch (own := RL) (name := exN 0) (E := exN 0) F.1.2.2.2.1 [] ⟨0, 10, 13, 21⟩ [⟨0, 10, 17, 13⟩, ⟨0, 10, 21, 15⟩] htab (fun z hz => absurd hz List.not_mem_nil) rfl (by decide) (hts _ mw_681) (va_Nw.use rfl (F.2.2 _ mw_527)) hce hcv hcl ?_
      refine lv_astore (lv' := [(4, .ref q), (0, .ref (ad 77)), (1, .int p0), (2, .int p1), (3, .ref o)]) hx hb dL_tune_13 hl (by decide) rfl (fun ls hl => ?_)
      refine lv_iconst (v := 1) hx hb dL_tune_15 (by decide) ?_
      exact lh_end (en := oL Y) (cv := (fun v : Int32 => v.toInt64)) F hP hT hS hr hk (by rw [hR]; rfl) (fun y hy => by cases hR.symm.trans hy) dL_tune_16
    · refine vx_catch (own := RL) (name := exN 1) (E := exN 1) F.1.2.2.2.1 [⟨0, 10, 13, 21⟩] ⟨0, 10, 17, 13⟩ [⟨0, 10, 21, 15⟩] htab (List.forall_mem_cons.mpr ⟨Or.inr ⟨by decide, exN 0, hts _ mw_681, hN 1 0 (by decide) (by decide) (by decide)⟩, (fun z hz => absurd hz List.not_mem_nil)⟩) rfl (by decide) (hts _ mw_423) (va_Nw.use rfl (F.2.2 _ mw_602)) hce hcv hcl ?_
      refine lv_astore (lv' := [(4, .ref q), (0, .ref (ad 77)), (1, .int p0), (2, .int p1), (3, .ref o)]) hx hb dL_tune_17 hl (by decide) rfl (fun ls hl => ?_)
      refine lv_iconst (v := 2) hx hb dL_tune_19 (by decide) ?_
      exact lh_end (en := oL Y) (cv := (fun v : Int32 => v.toInt64)) F hP hT hS hr hk (by rw [hR]; rfl) (fun y hy => by cases hR.symm.trans hy) dL_tune_20
    · refine vx_catch (own := RL) (name := exN 2) (E := exN 2) F.1.2.2.2.1 [⟨0, 10, 13, 21⟩, ⟨0, 10, 17, 13⟩] ⟨0, 10, 21, 15⟩ [] htab (List.forall_mem_cons.mpr ⟨Or.inr ⟨by decide, exN 0, hts _ mw_681, hN 2 0 (by decide) (by decide) (by decide)⟩, (List.forall_mem_cons.mpr ⟨Or.inr ⟨by decide, exN 1, hts _ mw_423, hN 2 1 (by decide) (by decide) (by decide)⟩, (fun z hz => absurd hz List.not_mem_nil)⟩)⟩) rfl (by decide) (hts _ mw_424) (va_Nw.use rfl (F.2.2 _ mw_621)) hce hcv hcl ?_
      refine lv_astore (lv' := [(4, .ref q), (0, .ref (ad 77)), (1, .int p0), (2, .int p1), (3, .ref o)]) hx hb dL_tune_21 hl (by decide) rfl (fun ls hl => ?_)
      refine lv_iconst (v := 3) hx hb dL_tune_23 (by decide) ?_
      exact lh_end (en := oL Y) (cv := (fun v : Int32 => v.toInt64)) F hP hT hS hr hk (by rw [hR]; rfl) (fun y hy => by cases hR.symm.trans hy) dL_tune_24
theorem kl_tinOf : CKL yL_tinOf cL_tinOf 5 [(0, 10, 13, 21), (0, 10, 17, 13)] 4 := ⟨mw_756, mw_0, mw_757, by decide +kernel⟩
set_option maxRecDepth 100000 in
set_option maxHeartbeats 4000000 in
theorem ql_tinOf (l : Launch) (hst : l.stackTraces = false) (D : va_G) (Y : Nat → ClassId) (ad : Nat → Nat) (hI : Inj 90 ad) (G : GT) (p0 : Int32) (p1 : Int32) (o : Nat) (f : Nat → Int64) (RR : Nat ⊕ Int32) (G' : GT) (h : f_X9_tinOf G p0 p1 = some (RR, G')) (hks : ∀ k, RR = .inl k → k ∈ ([0, 1] : List Nat)) : LH l yL_tinOf cL_tinOf 5 [(0, 10, 13, 21), (0, 10, 17, 13)] 10 2 D Y ad G [.ref (ad 77), .int p0, .int p1, .ref o] o (oL Y f) [0, 1] RR (fun v : Int32 => v.toInt64) (oL Y) G' := by
  refine L_of (by decide) (Nat.le_of_ble_eq_true rfl) (lv := [(0, .ref (ad 77)), (1, .int p0), (2, .int p1), (3, .ref o)]) rfl ?_
  intro p ev s m below meth c ls F htab hP hK hN hO hT hS hr hk hl
  have F : Fx p c cL_tinOf 5 s m _ RL D Y := F
  have hx := F.1.1
  have hb := F.1.2.1
  have hts := F.1.2.2.2.2
  refine lv_aload_n hx hb dL_tinOf_0 rfl (lv_at hl 3 rfl) ?_
  refine lv_iconst (v := 0) hx hb dL_tinOf_1 (by decide) ?_
  refine lv_aload_n hx hb dL_tinOf_2 rfl (lv_at hl 0 rfl) ?_
  refine lv_iload_n hx hb dL_tinOf_3 rfl (lv_at hl 1 rfl) ?_
  refine lv_iload_n hx hb dL_tinOf_4 rfl (lv_at hl 2 rfl) ?_
  refine lh_call (α := Int32) (RR := RR) (G' := G') (o := o) (rest := [.int 0, .ref o]) (As := [.int p0, .int p1]) Value.int F hP hK hO hT hS va_S.rf k_X9_tinOf mw_758 rfl (q_X9_tinOf l hst D Y ad hI G p0 p1 RR G' h) lh_qi rfl hl.1 ⟨Nat.le_of_ble_eq_true rfl, Nat.le_of_ble_eq_true rfl⟩ rfl (Nat.le_of_ble_eq_true rfl) ⟨Nat.le_of_ble_eq_true rfl, Nat.le_of_ble_eq_true rfl⟩ dL_tinOf_5 (fun x H1 L1 hR hP hT hS => ?_) (fun k q ce H1 L1 hR hP hT hS hce hcv hcl => ?_)
  · refine lv_i2l (v := x.toInt64) hx hb dL_tinOf_8 rfl ?_
    refine lh_last F hP hO hT hS dL_tinOf_9 ?_
    intro H1 L1 hP hT hS
    refine lv_goto (tgt := 21) hx hb dL_tinOf_10 (by decide) ?_
    refine lv_iconst (v := 0) hx hb dL_tinOf_21 (by decide) ?_
    exact lh_end (en := oL Y) (cv := (fun v : Int32 => v.toInt64)) F hP hT hS hr hk (by rw [hR]; rfl) (fun y hy => by cases hR.symm.trans hy; rfl) dL_tinOf_22
  · have hk2 := hks k hR
    simp only [List.mem_cons, List.not_mem_nil, or_false] at hk2
    rcases hk2 with rfl | rfl
    · refine vx_catch (own := RL) (name := exN 0) (E := exN 0) F.1.2.2.2.1 [] ⟨0, 10, 13, 21⟩ [⟨0, 10, 17, 13⟩] htab (fun z hz => absurd hz List.not_mem_nil) rfl (by decide) (hts _ mw_681) (va_Nw.use rfl (F.2.2 _ mw_527)) hce hcv hcl ?_
      refine lv_astore (lv' := [(4, .ref q), (0, .ref (ad 77)), (1, .int p0), (2, .int p1), (3, .ref o)]) hx hb dL_tinOf_13 hl (by decide) rfl (fun ls hl => ?_)
      refine lv_iconst (v := 1) hx hb dL_tinOf_15 (by decide) ?_
      exact lh_end (en := oL Y) (cv := (fun v : Int32 => v.toInt64)) F hP hT hS hr hk (by rw [hR]; rfl) (fun y hy => by cases hR.symm.trans hy) dL_tinOf_16
    · refine vx_catch (own := RL) (name := exN 1) (E := exN 1) F.1.2.2.2.1 [⟨0, 10, 13, 21⟩] ⟨0, 10, 17, 13⟩ [] htab (List.forall_mem_cons.mpr ⟨Or.inr ⟨by decide, exN 0, hts _ mw_681, hN 1 0 (by decide) (by decide) (by decide)⟩, (fun z hz => absurd hz List.not_mem_nil)⟩) rfl (by decide) (hts _ mw_423) (va_Nw.use rfl (F.2.2 _ mw_602)) hce hcv hcl ?_
      refine lv_astore (lv' := [(4, .ref q), (0, .ref (ad 77)), (1, .int p0), (2, .int p1), (3, .ref o)]) hx hb dL_tinOf_17 hl (by decide) rfl (fun ls hl => ?_)
      refine lv_iconst (v := 2) hx hb dL_tinOf_19 (by decide) ?_
      exact lh_end (en := oL Y) (cv := (fun v : Int32 => v.toInt64)) F hP hT hS hr hk (by rw [hR]; rfl) (fun y hy => by cases hR.symm.trans hy) dL_tinOf_20
theorem kl_soundOf : CKL yL_soundOf cL_soundOf 5 [(0, 10, 13, 21), (0, 10, 17, 13)] 4 := ⟨mw_775, mw_0, mw_776, by decide +kernel⟩
set_option maxRecDepth 100000 in
set_option maxHeartbeats 4000000 in
theorem ql_soundOf (l : Launch) (hst : l.stackTraces = false) (D : va_G) (Y : Nat → ClassId) (ad : Nat → Nat) (hI : Inj 90 ad) (G : GT) (p0 : Int32) (p1 : Int32) (o : Nat) (f : Nat → Int64) (RR : Nat ⊕ Int32) (G' : GT) (h : f_X9_soundOf G p0 p1 = some (RR, G')) (hks : ∀ k, RR = .inl k → k ∈ ([0, 1] : List Nat)) : LH l yL_soundOf cL_soundOf 5 [(0, 10, 13, 21), (0, 10, 17, 13)] 10 2 D Y ad G [.ref (ad 77), .int p0, .int p1, .ref o] o (oL Y f) [0, 1] RR (fun v : Int32 => v.toInt64) (oL Y) G' := by
  refine L_of (by decide) (Nat.le_of_ble_eq_true rfl) (lv := [(0, .ref (ad 77)), (1, .int p0), (2, .int p1), (3, .ref o)]) rfl ?_
  intro p ev s m below meth c ls F htab hP hK hN hO hT hS hr hk hl
  have F : Fx p c cL_soundOf 5 s m _ RL D Y := F
  have hx := F.1.1
  have hb := F.1.2.1
  have hts := F.1.2.2.2.2
  refine lv_aload_n hx hb dL_soundOf_0 rfl (lv_at hl 3 rfl) ?_
  refine lv_iconst (v := 0) hx hb dL_soundOf_1 (by decide) ?_
  refine lv_aload_n hx hb dL_soundOf_2 rfl (lv_at hl 0 rfl) ?_
  refine lv_iload_n hx hb dL_soundOf_3 rfl (lv_at hl 1 rfl) ?_
  refine lv_iload_n hx hb dL_soundOf_4 rfl (lv_at hl 2 rfl) ?_
  refine lh_call (α := Int32) (RR := RR) (G' := G') (o := o) (rest := [.int 0, .ref o]) (As := [.int p0, .int p1]) Value.int F hP hK hO hT hS va_S.rf k_X9_soundOf mw_777 rfl (q_X9_soundOf l hst D Y ad hI G p0 p1 RR G' h) lh_qi rfl hl.1 ⟨Nat.le_of_ble_eq_true rfl, Nat.le_of_ble_eq_true rfl⟩ rfl (Nat.le_of_ble_eq_true rfl) ⟨Nat.le_of_ble_eq_true rfl, Nat.le_of_ble_eq_true rfl⟩ dL_soundOf_5 (fun x H1 L1 hR hP hT hS => ?_) (fun k q ce H1 L1 hR hP hT hS hce hcv hcl => ?_)
  · refine lv_i2l (v := x.toInt64) hx hb dL_soundOf_8 rfl ?_
    refine lh_last F hP hO hT hS dL_soundOf_9 ?_
    intro H1 L1 hP hT hS
    refine lv_goto (tgt := 21) hx hb dL_soundOf_10 (by decide) ?_
    refine lv_iconst (v := 0) hx hb dL_soundOf_21 (by decide) ?_
    exact lh_end (en := oL Y) (cv := (fun v : Int32 => v.toInt64)) F hP hT hS hr hk (by rw [hR]; rfl) (fun y hy => by cases hR.symm.trans hy; rfl) dL_soundOf_22
  · have hk2 := hks k hR
    simp only [List.mem_cons, List.not_mem_nil, or_false] at hk2
    rcases hk2 with rfl | rfl
    · refine vx_catch (own := RL) (name := exN 0) (E := exN 0) F.1.2.2.2.1 [] ⟨0, 10, 13, 21⟩ [⟨0, 10, 17, 13⟩] htab (fun z hz => absurd hz List.not_mem_nil) rfl (by decide) (hts _ mw_681) (va_Nw.use rfl (F.2.2 _ mw_527)) hce hcv hcl ?_
      refine lv_astore (lv' := [(4, .ref q), (0, .ref (ad 77)), (1, .int p0), (2, .int p1), (3, .ref o)]) hx hb dL_soundOf_13 hl (by decide) rfl (fun ls hl => ?_)
      refine lv_iconst (v := 1) hx hb dL_soundOf_15 (by decide) ?_
      exact lh_end (en := oL Y) (cv := (fun v : Int32 => v.toInt64)) F hP hT hS hr hk (by rw [hR]; rfl) (fun y hy => by cases hR.symm.trans hy) dL_soundOf_16
    · refine vx_catch (own := RL) (name := exN 1) (E := exN 1) F.1.2.2.2.1 [⟨0, 10, 13, 21⟩] ⟨0, 10, 17, 13⟩ [] htab (List.forall_mem_cons.mpr ⟨Or.inr ⟨by decide, exN 0, hts _ mw_681, hN 1 0 (by decide) (by decide) (by decide)⟩, (fun z hz => absurd hz List.not_mem_nil)⟩) rfl (by decide) (hts _ mw_423) (va_Nw.use rfl (F.2.2 _ mw_602)) hce hcv hcl ?_
      refine lv_astore (lv' := [(4, .ref q), (0, .ref (ad 77)), (1, .int p0), (2, .int p1), (3, .ref o)]) hx hb dL_soundOf_17 hl (by decide) rfl (fun ls hl => ?_)
      refine lv_iconst (v := 2) hx hb dL_soundOf_19 (by decide) ?_
      exact lh_end (en := oL Y) (cv := (fun v : Int32 => v.toInt64)) F hP hT hS hr hk (by rw [hR]; rfl) (fun y hy => by cases hR.symm.trans hy) dL_soundOf_20
theorem kl_barOf : CKL yL_barOf cL_barOf 5 [(0, 10, 13, 21), (0, 10, 17, 13)] 4 := ⟨mw_793, mw_0, mw_794, by decide +kernel⟩
set_option maxRecDepth 100000 in
set_option maxHeartbeats 4000000 in
theorem ql_barOf (l : Launch) (hst : l.stackTraces = false) (D : va_G) (Y : Nat → ClassId) (ad : Nat → Nat) (hI : Inj 90 ad) (G : GT) (p0 : Int32) (p1 : Int32) (o : Nat) (f : Nat → Int64) (RR : Nat ⊕ Int32) (G' : GT) (h : f_X9_barOf G p0 p1 = some (RR, G')) (hks : ∀ k, RR = .inl k → k ∈ ([0, 1] : List Nat)) : LH l yL_barOf cL_barOf 5 [(0, 10, 13, 21), (0, 10, 17, 13)] 10 2 D Y ad G [.ref (ad 77), .int p0, .int p1, .ref o] o (oL Y f) [0, 1] RR (fun v : Int32 => v.toInt64) (oL Y) G' := by
  refine L_of (by decide) (Nat.le_of_ble_eq_true rfl) (lv := [(0, .ref (ad 77)), (1, .int p0), (2, .int p1), (3, .ref o)]) rfl ?_
  intro p ev s m below meth c ls F htab hP hK hN hO hT hS hr hk hl
  have F : Fx p c cL_barOf 5 s m _ RL D Y := F
  have hx := F.1.1
  have hb := F.1.2.1
  have hts := F.1.2.2.2.2
  refine lv_aload_n hx hb dL_barOf_0 rfl (lv_at hl 3 rfl) ?_
  refine lv_iconst (v := 0) hx hb dL_barOf_1 (by decide) ?_
  refine lv_aload_n hx hb dL_barOf_2 rfl (lv_at hl 0 rfl) ?_
  refine lv_iload_n hx hb dL_barOf_3 rfl (lv_at hl 1 rfl) ?_
  refine lv_iload_n hx hb dL_barOf_4 rfl (lv_at hl 2 rfl) ?_
  refine lh_call (α := Int32) (RR := RR) (G' := G') (o := o) (rest := [.int 0, .ref o]) (As := [.int p0, .int p1]) Value.int F hP hK hO hT hS va_S.rf k_X9_barOf mw_795 rfl (q_X9_barOf l hst D Y ad hI G p0 p1 RR G' h) lh_qi rfl hl.1 ⟨Nat.le_of_ble_eq_true rfl, Nat.le_of_ble_eq_true rfl⟩ rfl (Nat.le_of_ble_eq_true rfl) ⟨Nat.le_of_ble_eq_true rfl, Nat.le_of_ble_eq_true rfl⟩ dL_barOf_5 (fun x H1 L1 hR hP hT hS => ?_) (fun k q ce H1 L1 hR hP hT hS hce hcv hcl => ?_)
  · refine lv_i2l (v := x.toInt64) hx hb dL_barOf_8 rfl ?_
    refine lh_last F hP hO hT hS dL_barOf_9 ?_
    intro H1 L1 hP hT hS
    refine lv_goto (tgt := 21) hx hb dL_barOf_10 (by decide) ?_
    refine lv_iconst (v := 0) hx hb dL_barOf_21 (by decide) ?_
    exact lh_end (en := oL Y) (cv := (fun v : Int32 => v.toInt64)) F hP hT hS hr hk (by rw [hR]; rfl) (fun y hy => by cases hR.symm.trans hy; rfl) dL_barOf_22
  · have hk2 := hks k hR
    simp only [List.mem_cons, List.not_mem_nil, or_false] at hk2
    rcases hk2 with rfl | rfl
    · refine vx_catch (own := RL) (name := exN 0) (E := exN 0) F.1.2.2.2.1 [] ⟨0, 10, 13, 21⟩ [⟨0, 10, 17, 13⟩] htab (fun z hz => absurd hz List.not_mem_nil) rfl (by decide) (hts _ mw_681) (va_Nw.use rfl (F.2.2 _ mw_527)) hce hcv hcl ?_
      refine lv_astore (lv' := [(4, .ref q), (0, .ref (ad 77)), (1, .int p0), (2, .int p1), (3, .ref o)]) hx hb dL_barOf_13 hl (by decide) rfl (fun ls hl => ?_)
      refine lv_iconst (v := 1) hx hb dL_barOf_15 (by decide) ?_
      exact lh_end (en := oL Y) (cv := (fun v : Int32 => v.toInt64)) F hP hT hS hr hk (by rw [hR]; rfl) (fun y hy => by cases hR.symm.trans hy) dL_barOf_16
    · refine vx_catch (own := RL) (name := exN 1) (E := exN 1) F.1.2.2.2.1 [⟨0, 10, 13, 21⟩] ⟨0, 10, 17, 13⟩ [] htab (List.forall_mem_cons.mpr ⟨Or.inr ⟨by decide, exN 0, hts _ mw_681, hN 1 0 (by decide) (by decide) (by decide)⟩, (fun z hz => absurd hz List.not_mem_nil)⟩) rfl (by decide) (hts _ mw_423) (va_Nw.use rfl (F.2.2 _ mw_602)) hce hcv hcl ?_
      refine lv_astore (lv' := [(4, .ref q), (0, .ref (ad 77)), (1, .int p0), (2, .int p1), (3, .ref o)]) hx hb dL_barOf_17 hl (by decide) rfl (fun ls hl => ?_)
      refine lv_iconst (v := 2) hx hb dL_barOf_19 (by decide) ?_
      exact lh_end (en := oL Y) (cv := (fun v : Int32 => v.toInt64)) F hP hT hS hr hk (by rw [hR]; rfl) (fun y hy => by cases hR.symm.trans hy) dL_barOf_20
theorem kl_partOf : CKL yL_partOf cL_partOf 6 [(0, 12, 15, 21), (0, 12, 19, 13)] 5 := ⟨mw_822, mw_0, mw_823, by decide +kernel⟩
set_option maxRecDepth 100000 in
set_option maxHeartbeats 4000000 in
theorem ql_partOf (l : Launch) (hst : l.stackTraces = false) (D : va_G) (Y : Nat → ClassId) (ad : Nat → Nat) (hI : Inj 90 ad) (G : GT) (p0 : Int32) (p1 : Int32) (p2 : Int32) (o : Nat) (f : Nat → Int64) (RR : Nat ⊕ Int32) (G' : GT) (h : f_X9_partOf G p0 p1 p2 = some (RR, G')) (hks : ∀ k, RR = .inl k → k ∈ ([0, 1] : List Nat)) : LH l yL_partOf cL_partOf 6 [(0, 12, 15, 21), (0, 12, 19, 13)] 10 3 D Y ad G [.ref (ad 77), .int p0, .int p1, .int p2, .ref o] o (oL Y f) [0, 1] RR (fun v : Int32 => v.toInt64) (oL Y) G' := by
  refine L_of (by decide) (Nat.le_of_ble_eq_true rfl) (lv := [(0, .ref (ad 77)), (1, .int p0), (2, .int p1), (3, .int p2), (4, .ref o)]) rfl ?_
  intro p ev s m below meth c ls F htab hP hK hN hO hT hS hr hk hl
  have F : Fx p c cL_partOf 6 s m _ RL D Y := F
  have hx := F.1.1
  have hb := F.1.2.1
  have hts := F.1.2.2.2.2
  refine lv_aload hx hb dL_partOf_0 (lv_at hl 4 rfl) ?_
  refine lv_iconst (v := 0) hx hb dL_partOf_2 (by decide) ?_
  refine lv_aload_n hx hb dL_partOf_3 rfl (lv_at hl 0 rfl) ?_
  refine lv_iload_n hx hb dL_partOf_4 rfl (lv_at hl 1 rfl) ?_
  refine lv_iload_n hx hb dL_partOf_5 rfl (lv_at hl 2 rfl) ?_
  refine lv_iload_n hx hb dL_partOf_6 rfl (lv_at hl 3 rfl) ?_
  refine lh_call (α := Int32) (RR := RR) (G' := G') (o := o) (rest := [.int 0, .ref o]) (As := [.int p0, .int p1, .int p2]) Value.int F hP hK hO hT hS va_S.rf k_X9_partOf mw_824 rfl (q_X9_partOf l hst D Y ad hI G p0 p1 p2 RR G' h) lh_qi rfl hl.1 ⟨Nat.le_of_ble_eq_true rfl, Nat.le_of_ble_eq_true rfl⟩ rfl (Nat.le_of_ble_eq_true rfl) ⟨Nat.le_of_ble_eq_true rfl, Nat.le_of_ble_eq_true rfl⟩ dL_partOf_7 (fun x H1 L1 hR hP hT hS => ?_) (fun k q ce H1 L1 hR hP hT hS hce hcv hcl => ?_)
  · refine lv_i2l (v := x.toInt64) hx hb dL_partOf_10 rfl ?_
    refine lh_last F hP hO hT hS dL_partOf_11 ?_
    intro H1 L1 hP hT hS
    refine lv_goto (tgt := 23) hx hb dL_partOf_12 (by decide) ?_
    refine lv_iconst (v := 0) hx hb dL_partOf_23 (by decide) ?_
    exact lh_end (en := oL Y) (cv := (fun v : Int32 => v.toInt64)) F hP hT hS hr hk (by rw [hR]; rfl) (fun y hy => by cases hR.symm.trans hy; rfl) dL_partOf_24
  · have hk2 := hks k hR
    simp only [List.mem_cons, List.not_mem_nil, or_false] at hk2
    rcases hk2 with rfl | rfl
    · refine vx_catch (own := RL) (name := exN 0) (E := exN 0) F.1.2.2.2.1 [] ⟨0, 12, 15, 21⟩ [⟨0, 12, 19, 13⟩] htab (fun z hz => absurd hz List.not_mem_nil) rfl (by decide) (hts _ mw_681) (va_Nw.use rfl (F.2.2 _ mw_527)) hce hcv hcl ?_
      refine lv_astore (lv' := [(5, .ref q), (0, .ref (ad 77)), (1, .int p0), (2, .int p1), (3, .int p2), (4, .ref o)]) hx hb dL_partOf_15 hl (by decide) rfl (fun ls hl => ?_)
      refine lv_iconst (v := 1) hx hb dL_partOf_17 (by decide) ?_
      exact lh_end (en := oL Y) (cv := (fun v : Int32 => v.toInt64)) F hP hT hS hr hk (by rw [hR]; rfl) (fun y hy => by cases hR.symm.trans hy) dL_partOf_18
    · refine vx_catch (own := RL) (name := exN 1) (E := exN 1) F.1.2.2.2.1 [⟨0, 12, 15, 21⟩] ⟨0, 12, 19, 13⟩ [] htab (List.forall_mem_cons.mpr ⟨Or.inr ⟨by decide, exN 0, hts _ mw_681, hN 1 0 (by decide) (by decide) (by decide)⟩, (fun z hz => absurd hz List.not_mem_nil)⟩) rfl (by decide) (hts _ mw_423) (va_Nw.use rfl (F.2.2 _ mw_602)) hce hcv hcl ?_
      refine lv_astore (lv' := [(5, .ref q), (0, .ref (ad 77)), (1, .int p0), (2, .int p1), (3, .int p2), (4, .ref o)]) hx hb dL_partOf_19 hl (by decide) rfl (fun ls hl => ?_)
      refine lv_iconst (v := 2) hx hb dL_partOf_21 (by decide) ?_
      exact lh_end (en := oL Y) (cv := (fun v : Int32 => v.toInt64)) F hP hT hS hr hk (by rw [hR]; rfl) (fun y hy => by cases hR.symm.trans hy) dL_partOf_22
theorem kl_at : CKL yL_at cL_at 4 [(0, 9, 12, 58)] 3 := ⟨mw_838, mw_0, mw_839, by decide +kernel⟩
set_option maxRecDepth 100000 in
set_option maxHeartbeats 4000000 in
theorem ql_at (l : Launch) (hst : l.stackTraces = false) (D : va_G) (Y : Nat → ClassId) (ad : Nat → Nat) (hI : Inj 90 ad) (G : GT) (p0 : Int32) (o : Nat) (f : Nat → Int64) (RR : Nat ⊕ Int32) (G' : GT) (h : f_X9_at G p0 = some (RR, G')) (hks : ∀ k, RR = .inl k → k ∈ ([3] : List Nat)) : LH l yL_at cL_at 4 [(0, 9, 12, 58)] 11 1 D Y ad G [.ref (ad 77), .int p0, .ref o] o (oL Y f) [3] RR (fun v : Int32 => v.toInt64) (oL Y) G' := by
  refine L_of (by decide) (Nat.le_of_ble_eq_true rfl) (lv := [(0, .ref (ad 77)), (1, .int p0), (2, .ref o)]) rfl ?_
  intro p ev s m below meth c ls F htab hP hK hN hO hT hS hr hk hl
  have F : Fx p c cL_at 4 s m _ RL D Y := F
  have hx := F.1.1
  have hb := F.1.2.1
  have hts := F.1.2.2.2.2
  refine lv_aload_n hx hb dL_at_0 rfl (lv_at hl 2 rfl) ?_
  refine lv_iconst (v := 0) hx hb dL_at_1 (by decide) ?_
  refine lv_aload_n hx hb dL_at_2 rfl (lv_at hl 0 rfl) ?_
  refine lv_iload_n hx hb dL_at_3 rfl (lv_at hl 1 rfl) ?_
  refine lh_call (α := Int32) (RR := RR) (G' := G') (o := o) (rest := [.int 0, .ref o]) (As := [.int p0]) Value.int F hP hK hO hT hS va_S.rf k_X9_at mw_841 rfl (q_X9_at l hst D Y ad hI G p0 RR G' h) lh_qi rfl hl.1 ⟨Nat.le_of_ble_eq_true rfl, Nat.le_of_ble_eq_true rfl⟩ rfl (Nat.le_of_ble_eq_true rfl) ⟨Nat.le_of_ble_eq_true rfl, Nat.le_of_ble_eq_true rfl⟩ dL_at_4 (fun x H1 L1 hR hP hT hS => ?_) (fun k q ce H1 L1 hR hP hT hS hce hcv hcl => ?_)
  · refine lv_i2l (v := x.toInt64) hx hb dL_at_7 rfl ?_
    refine lh_last F hP hO hT hS dL_at_8 ?_
    intro H1 L1 hP hT hS
    refine lv_goto (tgt := 15) hx hb dL_at_9 (by decide) ?_
    refine lv_iconst (v := 0) hx hb dL_at_15 (by decide) ?_
    exact lh_end (en := oL Y) (cv := (fun v : Int32 => v.toInt64)) F hP hT hS hr hk (by rw [hR]; rfl) (fun y hy => by cases hR.symm.trans hy; rfl) dL_at_16
  · have hk2 := hks k hR
    simp only [List.mem_cons, List.not_mem_nil, or_false] at hk2
    subst hk2
    refine vx_catch (own := RL) (name := exN 3) (E := exN 3) F.1.2.2.2.1 [] ⟨0, 9, 12, 58⟩ [] htab (fun z hz => absurd hz List.not_mem_nil) rfl (by decide) (hts _ mw_840) (va_Nw.use rfl (F.2.2 _ mw_854)) hce hcv hcl ?_
    refine lv_astore_n (lv' := [(3, .ref q), (0, .ref (ad 77)), (1, .int p0), (2, .ref o)]) hx hb dL_at_12 rfl hl (by decide) rfl (fun ls hl => ?_)
    refine lv_iconst (v := 1) hx hb dL_at_13 (by decide) ?_
    exact lh_end (en := oL Y) (cv := (fun v : Int32 => v.toInt64)) F hP hT hS hr hk (by rw [hR]; rfl) (fun y hy => by cases hR.symm.trans hy) dL_at_14
theorem kl_faults : CKL yL_faults cL_faults 5 [(0, 10, 13, 13)] 4 := ⟨mw_869, mw_0, mw_870, by decide +kernel⟩
set_option maxRecDepth 100000 in
set_option maxHeartbeats 4000000 in
theorem ql_faults (l : Launch) (hst : l.stackTraces = false) (D : va_G) (Y : Nat → ClassId) (ad : Nat → Nat) (hI : Inj 90 ad) (G : GT) (p0 : Int32) (p1 : Int32) (o : Nat) (f : Nat → Int64) (RR : Nat ⊕ Int32) (G' : GT) (h : f_X9_faults G p0 p1 = some (RR, G')) (hks : ∀ k, RR = .inl k → k ∈ ([1] : List Nat)) : LH l yL_faults cL_faults 5 [(0, 10, 13, 13)] 10 1 D Y ad G [.ref (ad 77), .int p0, .int p1, .ref o] o (oL Y f) [1] RR (fun v : Int32 => v.toInt64) (oL Y) G' := by
  refine L_of (by decide) (Nat.le_of_ble_eq_true rfl) (lv := [(0, .ref (ad 77)), (1, .int p0), (2, .int p1), (3, .ref o)]) rfl ?_
  intro p ev s m below meth c ls F htab hP hK hN hO hT hS hr hk hl
  have F : Fx p c cL_faults 5 s m _ RL D Y := F
  have hx := F.1.1
  have hb := F.1.2.1
  have hts := F.1.2.2.2.2
  refine lv_aload_n hx hb dL_faults_0 rfl (lv_at hl 3 rfl) ?_
  refine lv_iconst (v := 0) hx hb dL_faults_1 (by decide) ?_
  refine lv_aload_n hx hb dL_faults_2 rfl (lv_at hl 0 rfl) ?_
  refine lv_iload_n hx hb dL_faults_3 rfl (lv_at hl 1 rfl) ?_
  refine lv_iload_n hx hb dL_faults_4 rfl (lv_at hl 2 rfl) ?_
  refine lh_call (α := Int32) (RR := RR) (G' := G') (o := o) (rest := [.int 0, .ref o]) (As := [.int p0, .int p1]) Value.int F hP hK hO hT hS va_S.rf k_X9_faults mw_871 rfl (q_X9_faults l hst D Y ad hI G p0 p1 RR G' h) lh_qi rfl hl.1 ⟨Nat.le_of_ble_eq_true rfl, Nat.le_of_ble_eq_true rfl⟩ rfl (Nat.le_of_ble_eq_true rfl) ⟨Nat.le_of_ble_eq_true rfl, Nat.le_of_ble_eq_true rfl⟩ dL_faults_5 (fun x H1 L1 hR hP hT hS => ?_) (fun k q ce H1 L1 hR hP hT hS hce hcv hcl => ?_)
  · refine lv_i2l (v := x.toInt64) hx hb dL_faults_8 rfl ?_
    refine lh_last F hP hO hT hS dL_faults_9 ?_
    intro H1 L1 hP hT hS
    refine lv_goto (tgt := 17) hx hb dL_faults_10 (by decide) ?_
    refine lv_iconst (v := 0) hx hb dL_faults_17 (by decide) ?_
    exact lh_end (en := oL Y) (cv := (fun v : Int32 => v.toInt64)) F hP hT hS hr hk (by rw [hR]; rfl) (fun y hy => by cases hR.symm.trans hy; rfl) dL_faults_18
  · have hk2 := hks k hR
    simp only [List.mem_cons, List.not_mem_nil, or_false] at hk2
    subst hk2
    refine vx_catch (own := RL) (name := exN 1) (E := exN 1) F.1.2.2.2.1 [] ⟨0, 10, 13, 13⟩ [] htab (fun z hz => absurd hz List.not_mem_nil) rfl (by decide) (hts _ mw_423) (va_Nw.use rfl (F.2.2 _ mw_602)) hce hcv hcl ?_
    refine lv_astore (lv' := [(4, .ref q), (0, .ref (ad 77)), (1, .int p0), (2, .int p1), (3, .ref o)]) hx hb dL_faults_13 hl (by decide) rfl (fun ls hl => ?_)
    refine lv_iconst (v := 1) hx hb dL_faults_15 (by decide) ?_
    exact lh_end (en := oL Y) (cv := (fun v : Int32 => v.toInt64)) F hP hT hS hr hk (by rw [hR]; rfl) (fun y hy => by cases hR.symm.trans hy) dL_faults_16
theorem kl_firstFault : CKL yL_firstFault cL_firstFault 4 [(0, 9, 12, 13), (0, 9, 15, 58)] 3 := ⟨mw_878, mw_0, mw_879, by decide +kernel⟩
set_option maxRecDepth 100000 in
set_option maxHeartbeats 4000000 in
theorem ql_firstFault (l : Launch) (hst : l.stackTraces = false) (D : va_G) (Y : Nat → ClassId) (ad : Nat → Nat) (hI : Inj 90 ad) (G : GT) (p0 : Int32) (o : Nat) (f : Nat → Int64) (RR : Nat ⊕ Int32) (G' : GT) (h : f_X9_firstFault G p0 = some (RR, G')) (hks : ∀ k, RR = .inl k → k ∈ ([1, 3] : List Nat)) : LH l yL_firstFault cL_firstFault 4 [(0, 9, 12, 13), (0, 9, 15, 58)] 11 2 D Y ad G [.ref (ad 77), .int p0, .ref o] o (oL Y f) [1, 3] RR (fun v : Int32 => v.toInt64) (oL Y) G' := by
  refine L_of (by decide) (Nat.le_of_ble_eq_true rfl) (lv := [(0, .ref (ad 77)), (1, .int p0), (2, .ref o)]) rfl ?_
  intro p ev s m below meth c ls F htab hP hK hN hO hT hS hr hk hl
  have F : Fx p c cL_firstFault 4 s m _ RL D Y := F
  have hx := F.1.1
  have hb := F.1.2.1
  have hts := F.1.2.2.2.2
  refine lv_aload_n hx hb dL_firstFault_0 rfl (lv_at hl 2 rfl) ?_
  refine lv_iconst (v := 0) hx hb dL_firstFault_1 (by decide) ?_
  refine lv_aload_n hx hb dL_firstFault_2 rfl (lv_at hl 0 rfl) ?_
  refine lv_iload_n hx hb dL_firstFault_3 rfl (lv_at hl 1 rfl) ?_
  refine lh_call (α := Int32) (RR := RR) (G' := G') (o := o) (rest := [.int 0, .ref o]) (As := [.int p0]) Value.int F hP hK hO hT hS va_S.rf k_X9_firstFault mw_880 rfl (q_X9_firstFault l hst D Y ad hI G p0 RR G' h) lh_qi rfl hl.1 ⟨Nat.le_of_ble_eq_true rfl, Nat.le_of_ble_eq_true rfl⟩ rfl (Nat.le_of_ble_eq_true rfl) ⟨Nat.le_of_ble_eq_true rfl, Nat.le_of_ble_eq_true rfl⟩ dL_firstFault_4 (fun x H1 L1 hR hP hT hS => ?_) (fun k q ce H1 L1 hR hP hT hS hce hcv hcl => ?_)
  · refine lv_i2l (v := x.toInt64) hx hb dL_firstFault_7 rfl ?_
    refine lh_last F hP hO hT hS dL_firstFault_8 ?_
    intro H1 L1 hP hT hS
    refine lv_goto (tgt := 18) hx hb dL_firstFault_9 (by decide) ?_
    refine lv_iconst (v := 0) hx hb dL_firstFault_18 (by decide) ?_
    exact lh_end (en := oL Y) (cv := (fun v : Int32 => v.toInt64)) F hP hT hS hr hk (by rw [hR]; rfl) (fun y hy => by cases hR.symm.trans hy; rfl) dL_firstFault_19
  · have hk2 := hks k hR
    simp only [List.mem_cons, List.not_mem_nil, or_false] at hk2
    rcases hk2 with rfl | rfl
    · refine vx_catch (own := RL) (name := exN 1) (E := exN 1) F.1.2.2.2.1 [] ⟨0, 9, 12, 13⟩ [⟨0, 9, 15, 58⟩] htab (fun z hz => absurd hz List.not_mem_nil) rfl (by decide) (hts _ mw_423) (va_Nw.use rfl (F.2.2 _ mw_602)) hce hcv hcl ?_
      refine lv_astore_n (lv' := [(3, .ref q), (0, .ref (ad 77)), (1, .int p0), (2, .ref o)]) hx hb dL_firstFault_12 rfl hl (by decide) rfl (fun ls hl => ?_)
      refine lv_iconst (v := 1) hx hb dL_firstFault_13 (by decide) ?_
      exact lh_end (en := oL Y) (cv := (fun v : Int32 => v.toInt64)) F hP hT hS hr hk (by rw [hR]; rfl) (fun y hy => by cases hR.symm.trans hy) dL_firstFault_14
    · refine vx_catch (own := RL) (name := exN 3) (E := exN 3) F.1.2.2.2.1 [⟨0, 9, 12, 13⟩] ⟨0, 9, 15, 58⟩ [] htab (List.forall_mem_cons.mpr ⟨Or.inr ⟨by decide, exN 1, hts _ mw_423, hN 3 1 (by decide) (by decide) (by decide)⟩, (fun z hz => absurd hz List.not_mem_nil)⟩) rfl (by decide) (hts _ mw_840) (va_Nw.use rfl (F.2.2 _ mw_854)) hce hcv hcl ?_
      refine lv_astore_n (lv' := [(3, .ref q), (0, .ref (ad 77)), (1, .int p0), (2, .ref o)]) hx hb dL_firstFault_15 rfl hl (by decide) rfl (fun ls hl => ?_)
      refine lv_iconst (v := 2) hx hb dL_firstFault_16 (by decide) ?_
      exact lh_end (en := oL Y) (cv := (fun v : Int32 => v.toInt64)) F hP hT hS hr hk (by rw [hR]; rfl) (fun y hy => by cases hR.symm.trans hy) dL_firstFault_17
theorem kl_wouldFault : CKL yL_wouldFault cL_wouldFault 5 [(0, 10, 13, 21), (0, 10, 17, 13), (0, 10, 21, 58)] 4 := ⟨mw_889, mw_0, mw_890, by decide +kernel⟩
set_option maxRecDepth 100000 in
set_option maxHeartbeats 4000000 in
theorem ql_wouldFault (l : Launch) (hst : l.stackTraces = false) (D : va_G) (Y : Nat → ClassId) (ad : Nat → Nat) (hI : Inj 90 ad) (G : GT) (p0 : Int32) (p1 : Int32) (o : Nat) (f : Nat → Int64) (RR : Nat ⊕ Int32) (G' : GT) (h : f_X9_wouldFault G p0 p1 = some (RR, G')) (hks : ∀ k, RR = .inl k → k ∈ ([0, 1, 3] : List Nat)) : LH l yL_wouldFault cL_wouldFault 5 [(0, 10, 13, 21), (0, 10, 17, 13), (0, 10, 21, 58)] 10 3 D Y ad G [.ref (ad 77), .int p0, .int p1, .ref o] o (oL Y f) [0, 1, 3] RR (fun v : Int32 => v.toInt64) (oL Y) G' := by
  refine L_of (by decide) (Nat.le_of_ble_eq_true rfl) (lv := [(0, .ref (ad 77)), (1, .int p0), (2, .int p1), (3, .ref o)]) rfl ?_
  intro p ev s m below meth c ls F htab hP hK hN hO hT hS hr hk hl
  have F : Fx p c cL_wouldFault 5 s m _ RL D Y := F
  have hx := F.1.1
  have hb := F.1.2.1
  have hts := F.1.2.2.2.2
  refine lv_aload_n hx hb dL_wouldFault_0 rfl (lv_at hl 3 rfl) ?_
  refine lv_iconst (v := 0) hx hb dL_wouldFault_1 (by decide) ?_
  refine lv_aload_n hx hb dL_wouldFault_2 rfl (lv_at hl 0 rfl) ?_
  refine lv_iload_n hx hb dL_wouldFault_3 rfl (lv_at hl 1 rfl) ?_
  refine lv_iload_n hx hb dL_wouldFault_4 rfl (lv_at hl 2 rfl) ?_
  refine lh_call (α := Int32) (RR := RR) (G' := G') (o := o) (rest := [.int 0, .ref o]) (As := [.int p0, .int p1]) Value.int F hP hK hO hT hS va_S.rf k_X9_wouldFault mw_891 rfl (q_X9_wouldFault l hst D Y ad hI G p0 p1 RR G' h) lh_qi rfl hl.1 ⟨Nat.le_of_ble_eq_true rfl, Nat.le_of_ble_eq_true rfl⟩ rfl (Nat.le_of_ble_eq_true rfl) ⟨Nat.le_of_ble_eq_true rfl, Nat.le_of_ble_eq_true rfl⟩ dL_wouldFault_5 (fun x H1 L1 hR hP hT hS => ?_) (fun k q ce H1 L1 hR hP hT hS hce hcv hcl => ?_)
  · refine lv_i2l (v := x.toInt64) hx hb dL_wouldFault_8 rfl ?_
    refine lh_last F hP hO hT hS dL_wouldFault_9 ?_
    intro H1 L1 hP hT hS
    refine lv_goto (tgt := 25) hx hb dL_wouldFault_10 (by decide) ?_
    refine lv_iconst (v := 0) hx hb dL_wouldFault_25 (by decide) ?_
    exact lh_end (en := oL Y) (cv := (fun v : Int32 => v.toInt64)) F hP hT hS hr hk (by rw [hR]; rfl) (fun y hy => by cases hR.symm.trans hy; rfl) dL_wouldFault_26
  · have hk2 := hks k hR
    simp only [List.mem_cons, List.not_mem_nil, or_false] at hk2
    rcases hk2 with rfl | rfl | rfl
    · refine vx_catch (own := RL) (name := exN 0) (E := exN 0) F.1.2.2.2.1 [] ⟨0, 10, 13, 21⟩ [⟨0, 10, 17, 13⟩, ⟨0, 10, 21, 58⟩] htab (fun z hz => absurd hz List.not_mem_nil) rfl (by decide) (hts _ mw_681) (va_Nw.use rfl (F.2.2 _ mw_527)) hce hcv hcl ?_
      refine lv_astore (lv' := [(4, .ref q), (0, .ref (ad 77)), (1, .int p0), (2, .int p1), (3, .ref o)]) hx hb dL_wouldFault_13 hl (by decide) rfl (fun ls hl => ?_)
      refine lv_iconst (v := 1) hx hb dL_wouldFault_15 (by decide) ?_
      exact lh_end (en := oL Y) (cv := (fun v : Int32 => v.toInt64)) F hP hT hS hr hk (by rw [hR]; rfl) (fun y hy => by cases hR.symm.trans hy) dL_wouldFault_16
    · refine vx_catch (own := RL) (name := exN 1) (E := exN 1) F.1.2.2.2.1 [⟨0, 10, 13, 21⟩] ⟨0, 10, 17, 13⟩ [⟨0, 10, 21, 58⟩] htab (List.forall_mem_cons.mpr ⟨Or.inr ⟨by decide, exN 0, hts _ mw_681, hN 1 0 (by decide) (by decide) (by decide)⟩, (fun z hz => absurd hz List.not_mem_nil)⟩) rfl (by decide) (hts _ mw_423) (va_Nw.use rfl (F.2.2 _ mw_602)) hce hcv hcl ?_
      refine lv_astore (lv' := [(4, .ref q), (0, .ref (ad 77)), (1, .int p0), (2, .int p1), (3, .ref o)]) hx hb dL_wouldFault_17 hl (by decide) rfl (fun ls hl => ?_)
      refine lv_iconst (v := 2) hx hb dL_wouldFault_19 (by decide) ?_
      exact lh_end (en := oL Y) (cv := (fun v : Int32 => v.toInt64)) F hP hT hS hr hk (by rw [hR]; rfl) (fun y hy => by cases hR.symm.trans hy) dL_wouldFault_20
    · refine vx_catch (own := RL) (name := exN 3) (E := exN 3) F.1.2.2.2.1 [⟨0, 10, 13, 21⟩, ⟨0, 10, 17, 13⟩] ⟨0, 10, 21, 58⟩ [] htab (List.forall_mem_cons.mpr ⟨Or.inr ⟨by decide, exN 0, hts _ mw_681, hN 3 0 (by decide) (by decide) (by decide)⟩, (List.forall_mem_cons.mpr ⟨Or.inr ⟨by decide, exN 1, hts _ mw_423, hN 3 1 (by decide) (by decide) (by decide)⟩, (fun z hz => absurd hz List.not_mem_nil)⟩)⟩) rfl (by decide) (hts _ mw_840) (va_Nw.use rfl (F.2.2 _ mw_854)) hce hcv hcl ?_
      refine lv_astore (lv' := [(4, .ref q), (0, .ref (ad 77)), (1, .int p0), (2, .int p1), (3, .ref o)]) hx hb dL_wouldFault_21 hl (by decide) rfl (fun ls hl => ?_)
      refine lv_iconst (v := 3) hx hb dL_wouldFault_23 (by decide) ?_
      exact lh_end (en := oL Y) (cv := (fun v : Int32 => v.toInt64)) F hP hT hS hr hk (by rw [hR]; rfl) (fun y hy => by cases hR.symm.trans hy) dL_wouldFault_24
theorem kl_bestHeight : CKL yL_bestHeight cL_bestHeight 4 [(0, 9, 12, 21), (0, 9, 15, 58)] 3 := ⟨mw_903, mw_0, mw_904, by decide +kernel⟩
set_option maxRecDepth 100000 in
set_option maxHeartbeats 4000000 in
theorem ql_bestHeight (l : Launch) (hst : l.stackTraces = false) (D : va_G) (Y : Nat → ClassId) (ad : Nat → Nat) (hI : Inj 90 ad) (G : GT) (p0 : Int32) (o : Nat) (f : Nat → Int64) (RR : Nat ⊕ Int32) (G' : GT) (h : f_X9_bestHeight G p0 = some (RR, G')) (hks : ∀ k, RR = .inl k → k ∈ ([0, 3] : List Nat)) : LH l yL_bestHeight cL_bestHeight 4 [(0, 9, 12, 21), (0, 9, 15, 58)] 10 2 D Y ad G [.ref (ad 77), .int p0, .ref o] o (oL Y f) [0, 3] RR (fun v : Int32 => v.toInt64) (oL Y) G' := by
  refine L_of (by decide) (Nat.le_of_ble_eq_true rfl) (lv := [(0, .ref (ad 77)), (1, .int p0), (2, .ref o)]) rfl ?_
  intro p ev s m below meth c ls F htab hP hK hN hO hT hS hr hk hl
  have F : Fx p c cL_bestHeight 4 s m _ RL D Y := F
  have hx := F.1.1
  have hb := F.1.2.1
  have hts := F.1.2.2.2.2
  refine lv_aload_n hx hb dL_bestHeight_0 rfl (lv_at hl 2 rfl) ?_
  refine lv_iconst (v := 0) hx hb dL_bestHeight_1 (by decide) ?_
  refine lv_aload_n hx hb dL_bestHeight_2 rfl (lv_at hl 0 rfl) ?_
  refine lv_iload_n hx hb dL_bestHeight_3 rfl (lv_at hl 1 rfl) ?_
  refine lh_call (α := Int32) (RR := RR) (G' := G') (o := o) (rest := [.int 0, .ref o]) (As := [.int p0]) Value.int F hP hK hO hT hS va_S.rf k_X9_bestHeight mw_905 rfl (q_X9_bestHeight l hst D Y ad hI G p0 RR G' h) lh_qi rfl hl.1 ⟨Nat.le_of_ble_eq_true rfl, Nat.le_of_ble_eq_true rfl⟩ rfl (Nat.le_of_ble_eq_true rfl) ⟨Nat.le_of_ble_eq_true rfl, Nat.le_of_ble_eq_true rfl⟩ dL_bestHeight_4 (fun x H1 L1 hR hP hT hS => ?_) (fun k q ce H1 L1 hR hP hT hS hce hcv hcl => ?_)
  · refine lv_i2l (v := x.toInt64) hx hb dL_bestHeight_7 rfl ?_
    refine lh_last F hP hO hT hS dL_bestHeight_8 ?_
    intro H1 L1 hP hT hS
    refine lv_goto (tgt := 18) hx hb dL_bestHeight_9 (by decide) ?_
    refine lv_iconst (v := 0) hx hb dL_bestHeight_18 (by decide) ?_
    exact lh_end (en := oL Y) (cv := (fun v : Int32 => v.toInt64)) F hP hT hS hr hk (by rw [hR]; rfl) (fun y hy => by cases hR.symm.trans hy; rfl) dL_bestHeight_19
  · have hk2 := hks k hR
    simp only [List.mem_cons, List.not_mem_nil, or_false] at hk2
    rcases hk2 with rfl | rfl
    · refine vx_catch (own := RL) (name := exN 0) (E := exN 0) F.1.2.2.2.1 [] ⟨0, 9, 12, 21⟩ [⟨0, 9, 15, 58⟩] htab (fun z hz => absurd hz List.not_mem_nil) rfl (by decide) (hts _ mw_681) (va_Nw.use rfl (F.2.2 _ mw_527)) hce hcv hcl ?_
      refine lv_astore_n (lv' := [(3, .ref q), (0, .ref (ad 77)), (1, .int p0), (2, .ref o)]) hx hb dL_bestHeight_12 rfl hl (by decide) rfl (fun ls hl => ?_)
      refine lv_iconst (v := 1) hx hb dL_bestHeight_13 (by decide) ?_
      exact lh_end (en := oL Y) (cv := (fun v : Int32 => v.toInt64)) F hP hT hS hr hk (by rw [hR]; rfl) (fun y hy => by cases hR.symm.trans hy) dL_bestHeight_14
    · refine vx_catch (own := RL) (name := exN 3) (E := exN 3) F.1.2.2.2.1 [⟨0, 9, 12, 21⟩] ⟨0, 9, 15, 58⟩ [] htab (List.forall_mem_cons.mpr ⟨Or.inr ⟨by decide, exN 0, hts _ mw_681, hN 3 0 (by decide) (by decide) (by decide)⟩, (fun z hz => absurd hz List.not_mem_nil)⟩) rfl (by decide) (hts _ mw_840) (va_Nw.use rfl (F.2.2 _ mw_854)) hce hcv hcl ?_
      refine lv_astore_n (lv' := [(3, .ref q), (0, .ref (ad 77)), (1, .int p0), (2, .ref o)]) hx hb dL_bestHeight_15 rfl hl (by decide) rfl (fun ls hl => ?_)
      refine lv_iconst (v := 2) hx hb dL_bestHeight_16 (by decide) ?_
      exact lh_end (en := oL Y) (cv := (fun v : Int32 => v.toInt64)) F hP hT hS hr hk (by rw [hR]; rfl) (fun y hy => by cases hR.symm.trans hy) dL_bestHeight_17
theorem kl_withPitch : CKL yL_withPitch cL_withPitch 4 [(0, 9, 12, 13)] 3 := ⟨mw_910, mw_0, mw_911, by decide +kernel⟩
set_option maxRecDepth 100000 in
set_option maxHeartbeats 4000000 in
theorem ql_withPitch (l : Launch) (hst : l.stackTraces = false) (D : va_G) (Y : Nat → ClassId) (ad : Nat → Nat) (hI : Inj 90 ad) (G : GT) (p0 : Int32) (o : Nat) (f : Nat → Int64) (RR : Nat ⊕ Int32) (G' : GT) (h : f_X9_withPitch G p0 = some (RR, G')) (hks : ∀ k, RR = .inl k → k ∈ ([1] : List Nat)) : LH l yL_withPitch cL_withPitch 4 [(0, 9, 12, 13)] 10 1 D Y ad G [.ref (ad 77), .int p0, .ref o] o (oL Y f) [1] RR (fun v : Int32 => v.toInt64) (oL Y) G' := by
  refine L_of (by decide) (Nat.le_of_ble_eq_true rfl) (lv := [(0, .ref (ad 77)), (1, .int p0), (2, .ref o)]) rfl ?_
  intro p ev s m below meth c ls F htab hP hK hN hO hT hS hr hk hl
  have F : Fx p c cL_withPitch 4 s m _ RL D Y := F
  have hx := F.1.1
  have hb := F.1.2.1
  have hts := F.1.2.2.2.2
  refine lv_aload_n hx hb dL_withPitch_0 rfl (lv_at hl 2 rfl) ?_
  refine lv_iconst (v := 0) hx hb dL_withPitch_1 (by decide) ?_
  refine lv_aload_n hx hb dL_withPitch_2 rfl (lv_at hl 0 rfl) ?_
  refine lv_iload_n hx hb dL_withPitch_3 rfl (lv_at hl 1 rfl) ?_
  refine lh_call (α := Int32) (RR := RR) (G' := G') (o := o) (rest := [.int 0, .ref o]) (As := [.int p0]) Value.int F hP hK hO hT hS va_S.rf k_X9_withPitch mw_912 rfl (q_X9_withPitch l hst D Y ad hI G p0 RR G' h) lh_qi rfl hl.1 ⟨Nat.le_of_ble_eq_true rfl, Nat.le_of_ble_eq_true rfl⟩ rfl (Nat.le_of_ble_eq_true rfl) ⟨Nat.le_of_ble_eq_true rfl, Nat.le_of_ble_eq_true rfl⟩ dL_withPitch_4 (fun x H1 L1 hR hP hT hS => ?_) (fun k q ce H1 L1 hR hP hT hS hce hcv hcl => ?_)
  · refine lv_i2l (v := x.toInt64) hx hb dL_withPitch_7 rfl ?_
    refine lh_last F hP hO hT hS dL_withPitch_8 ?_
    intro H1 L1 hP hT hS
    refine lv_goto (tgt := 15) hx hb dL_withPitch_9 (by decide) ?_
    refine lv_iconst (v := 0) hx hb dL_withPitch_15 (by decide) ?_
    exact lh_end (en := oL Y) (cv := (fun v : Int32 => v.toInt64)) F hP hT hS hr hk (by rw [hR]; rfl) (fun y hy => by cases hR.symm.trans hy; rfl) dL_withPitch_16
  · have hk2 := hks k hR
    simp only [List.mem_cons, List.not_mem_nil, or_false] at hk2
    subst hk2
    refine vx_catch (own := RL) (name := exN 1) (E := exN 1) F.1.2.2.2.1 [] ⟨0, 9, 12, 13⟩ [] htab (fun z hz => absurd hz List.not_mem_nil) rfl (by decide) (hts _ mw_423) (va_Nw.use rfl (F.2.2 _ mw_602)) hce hcv hcl ?_
    refine lv_astore_n (lv' := [(3, .ref q), (0, .ref (ad 77)), (1, .int p0), (2, .ref o)]) hx hb dL_withPitch_12 rfl hl (by decide) rfl (fun ls hl => ?_)
    refine lv_iconst (v := 1) hx hb dL_withPitch_13 (by decide) ?_
    exact lh_end (en := oL Y) (cv := (fun v : Int32 => v.toInt64)) F hP hT hS hr hk (by rw [hR]; rfl) (fun y hy => by cases hR.symm.trans hy) dL_withPitch_14
theorem kl_loudest : CKL yL_loudest cL_loudest 4 [(0, 9, 12, 58)] 3 := ⟨mw_921, mw_0, mw_922, by decide +kernel⟩
set_option maxRecDepth 100000 in
set_option maxHeartbeats 4000000 in
theorem ql_loudest (l : Launch) (hst : l.stackTraces = false) (D : va_G) (Y : Nat → ClassId) (ad : Nat → Nat) (hI : Inj 90 ad) (G : GT) (p0 : Int32) (o : Nat) (f : Nat → Int64) (RR : Nat ⊕ Int32) (G' : GT) (h : f_X9_loudest G p0 = some (RR, G')) (hks : ∀ k, RR = .inl k → k ∈ ([3] : List Nat)) : LH l yL_loudest cL_loudest 4 [(0, 9, 12, 58)] 11 1 D Y ad G [.ref (ad 77), .int p0, .ref o] o (oL Y f) [3] RR (fun v : Int32 => v.toInt64) (oL Y) G' := by
  refine L_of (by decide) (Nat.le_of_ble_eq_true rfl) (lv := [(0, .ref (ad 77)), (1, .int p0), (2, .ref o)]) rfl ?_
  intro p ev s m below meth c ls F htab hP hK hN hO hT hS hr hk hl
  have F : Fx p c cL_loudest 4 s m _ RL D Y := F
  have hx := F.1.1
  have hb := F.1.2.1
  have hts := F.1.2.2.2.2
  refine lv_aload_n hx hb dL_loudest_0 rfl (lv_at hl 2 rfl) ?_
  refine lv_iconst (v := 0) hx hb dL_loudest_1 (by decide) ?_
  refine lv_aload_n hx hb dL_loudest_2 rfl (lv_at hl 0 rfl) ?_
  refine lv_iload_n hx hb dL_loudest_3 rfl (lv_at hl 1 rfl) ?_
  refine lh_call (α := Int32) (RR := RR) (G' := G') (o := o) (rest := [.int 0, .ref o]) (As := [.int p0]) Value.int F hP hK hO hT hS va_S.rf k_X9_loudest mw_923 rfl (q_X9_loudest l hst D Y ad hI G p0 RR G' h) lh_qi rfl hl.1 ⟨Nat.le_of_ble_eq_true rfl, Nat.le_of_ble_eq_true rfl⟩ rfl (Nat.le_of_ble_eq_true rfl) ⟨Nat.le_of_ble_eq_true rfl, Nat.le_of_ble_eq_true rfl⟩ dL_loudest_4 (fun x H1 L1 hR hP hT hS => ?_) (fun k q ce H1 L1 hR hP hT hS hce hcv hcl => ?_)
  · refine lv_i2l (v := x.toInt64) hx hb dL_loudest_7 rfl ?_
    refine lh_last F hP hO hT hS dL_loudest_8 ?_
    intro H1 L1 hP hT hS
    refine lv_goto (tgt := 15) hx hb dL_loudest_9 (by decide) ?_
    refine lv_iconst (v := 0) hx hb dL_loudest_15 (by decide) ?_
    exact lh_end (en := oL Y) (cv := (fun v : Int32 => v.toInt64)) F hP hT hS hr hk (by rw [hR]; rfl) (fun y hy => by cases hR.symm.trans hy; rfl) dL_loudest_16
  · have hk2 := hks k hR
    simp only [List.mem_cons, List.not_mem_nil, or_false] at hk2
    subst hk2
    refine vx_catch (own := RL) (name := exN 3) (E := exN 3) F.1.2.2.2.1 [] ⟨0, 9, 12, 58⟩ [] htab (fun z hz => absurd hz List.not_mem_nil) rfl (by decide) (hts _ mw_840) (va_Nw.use rfl (F.2.2 _ mw_854)) hce hcv hcl ?_
    refine lv_astore_n (lv' := [(3, .ref q), (0, .ref (ad 77)), (1, .int p0), (2, .ref o)]) hx hb dL_loudest_12 rfl hl (by decide) rfl (fun ls hl => ?_)
    refine lv_iconst (v := 1) hx hb dL_loudest_13 (by decide) ?_
    exact lh_end (en := oL Y) (cv := (fun v : Int32 => v.toInt64)) F hP hT hS hr hk (by rw [hR]; rfl) (fun y hy => by cases hR.symm.trans hy) dL_loudest_14
theorem kl_highest : CKL yL_highest cL_highest 4 [(0, 9, 12, 58)] 3 := ⟨mw_942, mw_0, mw_943, by decide +kernel⟩
set_option maxRecDepth 100000 in
set_option maxHeartbeats 4000000 in
theorem ql_highest (l : Launch) (hst : l.stackTraces = false) (D : va_G) (Y : Nat → ClassId) (ad : Nat → Nat) (hI : Inj 90 ad) (G : GT) (p0 : Int32) (o : Nat) (f : Nat → Int64) (RR : Nat ⊕ Int32) (G' : GT) (h : f_X9_highest G p0 = some (RR, G')) (hks : ∀ k, RR = .inl k → k ∈ ([3] : List Nat)) : LH l yL_highest cL_highest 4 [(0, 9, 12, 58)] 11 1 D Y ad G [.ref (ad 77), .int p0, .ref o] o (oL Y f) [3] RR (fun v : Int32 => v.toInt64) (oL Y) G' := by
  refine L_of (by decide) (Nat.le_of_ble_eq_true rfl) (lv := [(0, .ref (ad 77)), (1, .int p0), (2, .ref o)]) rfl ?_
  intro p ev s m below meth c ls F htab hP hK hN hO hT hS hr hk hl
  have F : Fx p c cL_highest 4 s m _ RL D Y := F
  have hx := F.1.1
  have hb := F.1.2.1
  have hts := F.1.2.2.2.2
  refine lv_aload_n hx hb dL_highest_0 rfl (lv_at hl 2 rfl) ?_
  refine lv_iconst (v := 0) hx hb dL_highest_1 (by decide) ?_
  refine lv_aload_n hx hb dL_highest_2 rfl (lv_at hl 0 rfl) ?_
  refine lv_iload_n hx hb dL_highest_3 rfl (lv_at hl 1 rfl) ?_
  refine lh_call (α := Int32) (RR := RR) (G' := G') (o := o) (rest := [.int 0, .ref o]) (As := [.int p0]) Value.int F hP hK hO hT hS va_S.rf k_X9_highest mw_944 rfl (q_X9_highest l hst D Y ad hI G p0 RR G' h) lh_qi rfl hl.1 ⟨Nat.le_of_ble_eq_true rfl, Nat.le_of_ble_eq_true rfl⟩ rfl (Nat.le_of_ble_eq_true rfl) ⟨Nat.le_of_ble_eq_true rfl, Nat.le_of_ble_eq_true rfl⟩ dL_highest_4 (fun x H1 L1 hR hP hT hS => ?_) (fun k q ce H1 L1 hR hP hT hS hce hcv hcl => ?_)
  · refine lv_i2l (v := x.toInt64) hx hb dL_highest_7 rfl ?_
    refine lh_last F hP hO hT hS dL_highest_8 ?_
    intro H1 L1 hP hT hS
    refine lv_goto (tgt := 15) hx hb dL_highest_9 (by decide) ?_
    refine lv_iconst (v := 0) hx hb dL_highest_15 (by decide) ?_
    exact lh_end (en := oL Y) (cv := (fun v : Int32 => v.toInt64)) F hP hT hS hr hk (by rw [hR]; rfl) (fun y hy => by cases hR.symm.trans hy; rfl) dL_highest_16
  · have hk2 := hks k hR
    simp only [List.mem_cons, List.not_mem_nil, or_false] at hk2
    subst hk2
    refine vx_catch (own := RL) (name := exN 3) (E := exN 3) F.1.2.2.2.1 [] ⟨0, 9, 12, 58⟩ [] htab (fun z hz => absurd hz List.not_mem_nil) rfl (by decide) (hts _ mw_840) (va_Nw.use rfl (F.2.2 _ mw_854)) hce hcv hcl ?_
    refine lv_astore_n (lv' := [(3, .ref q), (0, .ref (ad 77)), (1, .int p0), (2, .ref o)]) hx hb dL_highest_12 rfl hl (by decide) rfl (fun ls hl => ?_)
    refine lv_iconst (v := 1) hx hb dL_highest_13 (by decide) ?_
    exact lh_end (en := oL Y) (cv := (fun v : Int32 => v.toInt64)) F hP hT hS hr hk (by rw [hR]; rfl) (fun y hy => by cases hR.symm.trans hy) dL_highest_14
theorem kl_line : CKL yL_line cL_line 4 [(0, 9, 12, 21)] 3 := ⟨mw_965, mw_0, mw_966, by decide +kernel⟩
set_option maxRecDepth 100000 in
set_option maxHeartbeats 4000000 in
theorem ql_line (l : Launch) (hst : l.stackTraces = false) (D : va_G) (Y : Nat → ClassId) (ad : Nat → Nat) (hI : Inj 90 ad) (G : GT) (p0 : Int32) (o : Nat) (f : Nat → Int64) (RR : Nat ⊕ Int32) (G' : GT) (h : f_X9_line G p0 = some (RR, G')) (hks : ∀ k, RR = .inl k → k ∈ ([0] : List Nat)) : LH l yL_line cL_line 4 [(0, 9, 12, 21)] 10 1 D Y ad G [.ref (ad 77), .int p0, .ref o] o (oL Y f) [0] RR (fun v : Int32 => v.toInt64) (oL Y) G' := by
  refine L_of (by decide) (Nat.le_of_ble_eq_true rfl) (lv := [(0, .ref (ad 77)), (1, .int p0), (2, .ref o)]) rfl ?_
  intro p ev s m below meth c ls F htab hP hK hN hO hT hS hr hk hl
  have F : Fx p c cL_line 4 s m _ RL D Y := F
  have hx := F.1.1
  have hb := F.1.2.1
  have hts := F.1.2.2.2.2
  refine lv_aload_n hx hb dL_line_0 rfl (lv_at hl 2 rfl) ?_
  refine lv_iconst (v := 0) hx hb dL_line_1 (by decide) ?_
  refine lv_aload_n hx hb dL_line_2 rfl (lv_at hl 0 rfl) ?_
  refine lv_iload_n hx hb dL_line_3 rfl (lv_at hl 1 rfl) ?_
  refine lh_call (α := Int32) (RR := RR) (G' := G') (o := o) (rest := [.int 0, .ref o]) (As := [.int p0]) Value.int F hP hK hO hT hS va_S.rf k_X9_line mw_967 rfl (q_X9_line l hst D Y ad hI G p0 RR G' h) lh_qi rfl hl.1 ⟨Nat.le_of_ble_eq_true rfl, Nat.le_of_ble_eq_true rfl⟩ rfl (Nat.le_of_ble_eq_true rfl) ⟨Nat.le_of_ble_eq_true rfl, Nat.le_of_ble_eq_true rfl⟩ dL_line_4 (fun x H1 L1 hR hP hT hS => ?_) (fun k q ce H1 L1 hR hP hT hS hce hcv hcl => ?_)
  · refine lv_i2l (v := x.toInt64) hx hb dL_line_7 rfl ?_
    refine lh_last F hP hO hT hS dL_line_8 ?_
    intro H1 L1 hP hT hS
    refine lv_goto (tgt := 15) hx hb dL_line_9 (by decide) ?_
    refine lv_iconst (v := 0) hx hb dL_line_15 (by decide) ?_
    exact lh_end (en := oL Y) (cv := (fun v : Int32 => v.toInt64)) F hP hT hS hr hk (by rw [hR]; rfl) (fun y hy => by cases hR.symm.trans hy; rfl) dL_line_16
  · have hk2 := hks k hR
    simp only [List.mem_cons, List.not_mem_nil, or_false] at hk2
    subst hk2
    refine vx_catch (own := RL) (name := exN 0) (E := exN 0) F.1.2.2.2.1 [] ⟨0, 9, 12, 21⟩ [] htab (fun z hz => absurd hz List.not_mem_nil) rfl (by decide) (hts _ mw_681) (va_Nw.use rfl (F.2.2 _ mw_527)) hce hcv hcl ?_
    refine lv_astore_n (lv' := [(3, .ref q), (0, .ref (ad 77)), (1, .int p0), (2, .ref o)]) hx hb dL_line_12 rfl hl (by decide) rfl (fun ls hl => ?_)
    refine lv_iconst (v := 1) hx hb dL_line_13 (by decide) ?_
    exact lh_end (en := oL Y) (cv := (fun v : Int32 => v.toInt64)) F hP hT hS hr hk (by rw [hR]; rfl) (fun y hy => by cases hR.symm.trans hy) dL_line_14
theorem kl_tinLine : CKL yL_tinLine cL_tinLine 4 [(0, 9, 12, 21)] 3 := ⟨mw_995, mw_0, mw_996, by decide +kernel⟩
set_option maxRecDepth 100000 in
set_option maxHeartbeats 4000000 in
theorem ql_tinLine (l : Launch) (hst : l.stackTraces = false) (D : va_G) (Y : Nat → ClassId) (ad : Nat → Nat) (hI : Inj 90 ad) (G : GT) (p0 : Int32) (o : Nat) (f : Nat → Int64) (RR : Nat ⊕ Int32) (G' : GT) (h : f_X9_tinLine G p0 = some (RR, G')) (hks : ∀ k, RR = .inl k → k ∈ ([0] : List Nat)) : LH l yL_tinLine cL_tinLine 4 [(0, 9, 12, 21)] 10 1 D Y ad G [.ref (ad 77), .int p0, .ref o] o (oL Y f) [0] RR (fun v : Int32 => v.toInt64) (oL Y) G' := by
  refine L_of (by decide) (Nat.le_of_ble_eq_true rfl) (lv := [(0, .ref (ad 77)), (1, .int p0), (2, .ref o)]) rfl ?_
  intro p ev s m below meth c ls F htab hP hK hN hO hT hS hr hk hl
  have F : Fx p c cL_tinLine 4 s m _ RL D Y := F
  have hx := F.1.1
  have hb := F.1.2.1
  have hts := F.1.2.2.2.2
  refine lv_aload_n hx hb dL_tinLine_0 rfl (lv_at hl 2 rfl) ?_
  refine lv_iconst (v := 0) hx hb dL_tinLine_1 (by decide) ?_
  refine lv_aload_n hx hb dL_tinLine_2 rfl (lv_at hl 0 rfl) ?_
  refine lv_iload_n hx hb dL_tinLine_3 rfl (lv_at hl 1 rfl) ?_
  refine lh_call (α := Int32) (RR := RR) (G' := G') (o := o) (rest := [.int 0, .ref o]) (As := [.int p0]) Value.int F hP hK hO hT hS va_S.rf k_X9_tinLine mw_997 rfl (q_X9_tinLine l hst D Y ad hI G p0 RR G' h) lh_qi rfl hl.1 ⟨Nat.le_of_ble_eq_true rfl, Nat.le_of_ble_eq_true rfl⟩ rfl (Nat.le_of_ble_eq_true rfl) ⟨Nat.le_of_ble_eq_true rfl, Nat.le_of_ble_eq_true rfl⟩ dL_tinLine_4 (fun x H1 L1 hR hP hT hS => ?_) (fun k q ce H1 L1 hR hP hT hS hce hcv hcl => ?_)
  · refine lv_i2l (v := x.toInt64) hx hb dL_tinLine_7 rfl ?_
    refine lh_last F hP hO hT hS dL_tinLine_8 ?_
    intro H1 L1 hP hT hS
    refine lv_goto (tgt := 15) hx hb dL_tinLine_9 (by decide) ?_
    refine lv_iconst (v := 0) hx hb dL_tinLine_15 (by decide) ?_
    exact lh_end (en := oL Y) (cv := (fun v : Int32 => v.toInt64)) F hP hT hS hr hk (by rw [hR]; rfl) (fun y hy => by cases hR.symm.trans hy; rfl) dL_tinLine_16
  · have hk2 := hks k hR
    simp only [List.mem_cons, List.not_mem_nil, or_false] at hk2
    subst hk2
    refine vx_catch (own := RL) (name := exN 0) (E := exN 0) F.1.2.2.2.1 [] ⟨0, 9, 12, 21⟩ [] htab (fun z hz => absurd hz List.not_mem_nil) rfl (by decide) (hts _ mw_681) (va_Nw.use rfl (F.2.2 _ mw_527)) hce hcv hcl ?_
    refine lv_astore_n (lv' := [(3, .ref q), (0, .ref (ad 77)), (1, .int p0), (2, .ref o)]) hx hb dL_tinLine_12 rfl hl (by decide) rfl (fun ls hl => ?_)
    refine lv_iconst (v := 1) hx hb dL_tinLine_13 (by decide) ?_
    exact lh_end (en := oL Y) (cv := (fun v : Int32 => v.toInt64)) F hP hT hS hr hk (by rw [hR]; rfl) (fun y hy => by cases hR.symm.trans hy) dL_tinLine_14
theorem kl_character : CKL yL_character cL_character 4 [(0, 9, 12, 21)] 3 := ⟨mw_1008, mw_0, mw_1009, by decide +kernel⟩
set_option maxRecDepth 100000 in
set_option maxHeartbeats 4000000 in
theorem ql_character (l : Launch) (hst : l.stackTraces = false) (D : va_G) (Y : Nat → ClassId) (ad : Nat → Nat) (hI : Inj 90 ad) (G : GT) (p0 : Int32) (o : Nat) (f : Nat → Int64) (RR : Nat ⊕ Int32) (G' : GT) (h : f_X9_character G p0 = some (RR, G')) (hks : ∀ k, RR = .inl k → k ∈ ([0] : List Nat)) : LH l yL_character cL_character 4 [(0, 9, 12, 21)] 10 1 D Y ad G [.ref (ad 77), .int p0, .ref o] o (oL Y f) [0] RR (fun v : Int32 => v.toInt64) (oL Y) G' := by
  refine L_of (by decide) (Nat.le_of_ble_eq_true rfl) (lv := [(0, .ref (ad 77)), (1, .int p0), (2, .ref o)]) rfl ?_
  intro p ev s m below meth c ls F htab hP hK hN hO hT hS hr hk hl
  have F : Fx p c cL_character 4 s m _ RL D Y := F
  have hx := F.1.1
  have hb := F.1.2.1
  have hts := F.1.2.2.2.2
  refine lv_aload_n hx hb dL_character_0 rfl (lv_at hl 2 rfl) ?_
  refine lv_iconst (v := 0) hx hb dL_character_1 (by decide) ?_
  refine lv_aload_n hx hb dL_character_2 rfl (lv_at hl 0 rfl) ?_
  refine lv_iload_n hx hb dL_character_3 rfl (lv_at hl 1 rfl) ?_
  refine lh_call (α := Int32) (RR := RR) (G' := G') (o := o) (rest := [.int 0, .ref o]) (As := [.int p0]) Value.int F hP hK hO hT hS va_S.rf k_X9_character mw_1010 rfl (q_X9_character l hst D Y ad hI G p0 RR G' h) lh_qi rfl hl.1 ⟨Nat.le_of_ble_eq_true rfl, Nat.le_of_ble_eq_true rfl⟩ rfl (Nat.le_of_ble_eq_true rfl) ⟨Nat.le_of_ble_eq_true rfl, Nat.le_of_ble_eq_true rfl⟩ dL_character_4 (fun x H1 L1 hR hP hT hS => ?_) (fun k q ce H1 L1 hR hP hT hS hce hcv hcl => ?_)
  · refine lv_i2l (v := x.toInt64) hx hb dL_character_7 rfl ?_
    refine lh_last F hP hO hT hS dL_character_8 ?_
    intro H1 L1 hP hT hS
    refine lv_goto (tgt := 15) hx hb dL_character_9 (by decide) ?_
    refine lv_iconst (v := 0) hx hb dL_character_15 (by decide) ?_
    exact lh_end (en := oL Y) (cv := (fun v : Int32 => v.toInt64)) F hP hT hS hr hk (by rw [hR]; rfl) (fun y hy => by cases hR.symm.trans hy; rfl) dL_character_16
  · have hk2 := hks k hR
    simp only [List.mem_cons, List.not_mem_nil, or_false] at hk2
    subst hk2
    refine vx_catch (own := RL) (name := exN 0) (E := exN 0) F.1.2.2.2.1 [] ⟨0, 9, 12, 21⟩ [] htab (fun z hz => absurd hz List.not_mem_nil) rfl (by decide) (hts _ mw_681) (va_Nw.use rfl (F.2.2 _ mw_527)) hce hcv hcl ?_
    refine lv_astore_n (lv' := [(3, .ref q), (0, .ref (ad 77)), (1, .int p0), (2, .ref o)]) hx hb dL_character_12 rfl hl (by decide) rfl (fun ls hl => ?_)
    refine lv_iconst (v := 1) hx hb dL_character_13 (by decide) ?_
    exact lh_end (en := oL Y) (cv := (fun v : Int32 => v.toInt64)) F hP hT hS hr hk (by rw [hR]; rfl) (fun y hy => by cases hR.symm.trans hy) dL_character_14
theorem kl_append : CKL yL_append cL_append 4 [(0, 9, 12, 96)] 3 := ⟨mw_1024, mw_0, mw_1025, by decide +kernel⟩
set_option maxRecDepth 100000 in
set_option maxHeartbeats 4000000 in
theorem ql_append (l : Launch) (hst : l.stackTraces = false) (D : va_G) (Y : Nat → ClassId) (ad : Nat → Nat) (hI : Inj 90 ad) (G : GT) (p0 : Int32) (o : Nat) (f : Nat → Int64) (RR : Nat ⊕ Int32) (G' : GT) (h : f_X9_append G p0 = some (RR, G')) (hks : ∀ k, RR = .inl k → k ∈ ([4] : List Nat)) : LH l yL_append cL_append 4 [(0, 9, 12, 96)] 10 1 D Y ad G [.ref (ad 77), .int p0, .ref o] o (oL Y f) [4] RR (fun v : Int32 => v.toInt64) (oL Y) G' := by
  refine L_of (by decide) (Nat.le_of_ble_eq_true rfl) (lv := [(0, .ref (ad 77)), (1, .int p0), (2, .ref o)]) rfl ?_
  intro p ev s m below meth c ls F htab hP hK hN hO hT hS hr hk hl
  have F : Fx p c cL_append 4 s m _ RL D Y := F
  have hx := F.1.1
  have hb := F.1.2.1
  have hts := F.1.2.2.2.2
  refine lv_aload_n hx hb dL_append_0 rfl (lv_at hl 2 rfl) ?_
  refine lv_iconst (v := 0) hx hb dL_append_1 (by decide) ?_
  refine lv_aload_n hx hb dL_append_2 rfl (lv_at hl 0 rfl) ?_
  refine lv_iload_n hx hb dL_append_3 rfl (lv_at hl 1 rfl) ?_
  refine lh_call (α := Int32) (RR := RR) (G' := G') (o := o) (rest := [.int 0, .ref o]) (As := [.int p0]) Value.int F hP hK hO hT hS va_S.rf k_X9_append mw_1027 rfl (q_X9_append l hst D Y ad hI G p0 RR G' h) lh_qi rfl hl.1 ⟨Nat.le_of_ble_eq_true rfl, Nat.le_of_ble_eq_true rfl⟩ rfl (Nat.le_of_ble_eq_true rfl) ⟨Nat.le_of_ble_eq_true rfl, Nat.le_of_ble_eq_true rfl⟩ dL_append_4 (fun x H1 L1 hR hP hT hS => ?_) (fun k q ce H1 L1 hR hP hT hS hce hcv hcl => ?_)
  · refine lv_i2l (v := x.toInt64) hx hb dL_append_7 rfl ?_
    refine lh_last F hP hO hT hS dL_append_8 ?_
    intro H1 L1 hP hT hS
    refine lv_goto (tgt := 15) hx hb dL_append_9 (by decide) ?_
    refine lv_iconst (v := 0) hx hb dL_append_15 (by decide) ?_
    exact lh_end (en := oL Y) (cv := (fun v : Int32 => v.toInt64)) F hP hT hS hr hk (by rw [hR]; rfl) (fun y hy => by cases hR.symm.trans hy; rfl) dL_append_16
  · have hk2 := hks k hR
    simp only [List.mem_cons, List.not_mem_nil, or_false] at hk2
    subst hk2
    refine vx_catch (own := RL) (name := exN 4) (E := exN 4) F.1.2.2.2.1 [] ⟨0, 9, 12, 96⟩ [] htab (fun z hz => absurd hz List.not_mem_nil) rfl (by decide) (hts _ mw_1026) (va_Nw.use rfl (F.2.2 _ mw_1040)) hce hcv hcl ?_
    refine lv_astore_n (lv' := [(3, .ref q), (0, .ref (ad 77)), (1, .int p0), (2, .ref o)]) hx hb dL_append_12 rfl hl (by decide) rfl (fun ls hl => ?_)
    refine lv_iconst (v := 1) hx hb dL_append_13 (by decide) ?_
    exact lh_end (en := oL Y) (cv := (fun v : Int32 => v.toInt64)) F hP hT hS hr hk (by rw [hR]; rfl) (fun y hy => by cases hR.symm.trans hy) dL_append_14
theorem kl_run : CKL yL_run cL_run 3 [(0, 8, 11, 13), (0, 8, 14, 15)] 2 := ⟨mw_1059, mw_0, mw_1060, by decide +kernel⟩
set_option maxRecDepth 100000 in
set_option maxHeartbeats 4000000 in
theorem ql_run (l : Launch) (hst : l.stackTraces = false) (D : va_G) (Y : Nat → ClassId) (ad : Nat → Nat) (hI : Inj 90 ad) (G : GT) (o : Nat) (f : Nat → Int64) (RR : Nat ⊕ Int32) (G' : GT) (h : f_X9_run G  = some (RR, G')) (hks : ∀ k, RR = .inl k → k ∈ ([1, 2] : List Nat)) : LH l yL_run cL_run 3 [(0, 8, 11, 13), (0, 8, 14, 15)] 10 3 D Y ad G [.ref (ad 77), .ref o] o (oL Y f) [1, 2] RR (fun v : Int32 => v.toInt64) (oL Y) G' := by
  refine L_of (by decide) (Nat.le_of_ble_eq_true rfl) (lv := [(0, .ref (ad 77)), (1, .ref o)]) rfl ?_
  intro p ev s m below meth c ls F htab hP hK hN hO hT hS hr hk hl
  have F : Fx p c cL_run 3 s m _ RL D Y := F
  have hx := F.1.1
  have hb := F.1.2.1
  have hts := F.1.2.2.2.2
  refine lv_aload_n hx hb dL_run_0 rfl (lv_at hl 1 rfl) ?_
  refine lv_iconst (v := 0) hx hb dL_run_1 (by decide) ?_
  refine lv_aload_n hx hb dL_run_2 rfl (lv_at hl 0 rfl) ?_
  refine lh_call (α := Int32) (RR := RR) (G' := G') (o := o) (rest := [.int 0, .ref o]) (As := []) Value.int F hP hK hO hT hS va_S.rf k_X9_run mw_1061 rfl (q_X9_run l hst D Y ad hI G  RR G' h) lh_qi rfl hl.1 ⟨Nat.le_of_ble_eq_true rfl, Nat.le_of_ble_eq_true rfl⟩ rfl (Nat.le_of_ble_eq_true rfl) ⟨Nat.le_of_ble_eq_true rfl, Nat.le_of_ble_eq_true rfl⟩ dL_run_3 (fun x H1 L1 hR hP hT hS => ?_) (fun k q ce H1 L1 hR hP hT hS hce hcv hcl => ?_)
  · refine lv_i2l (v := x.toInt64) hx hb dL_run_6 rfl ?_
    refine lh_last F hP hO hT hS dL_run_7 ?_
    intro H1 L1 hP hT hS
    refine lv_goto (tgt := 17) hx hb dL_run_8 (by decide) ?_
    refine lv_iconst (v := 0) hx hb dL_run_17 (by decide) ?_
    exact lh_end (en := oL Y) (cv := (fun v : Int32 => v.toInt64)) F hP hT hS hr hk (by rw [hR]; rfl) (fun y hy => by cases hR.symm.trans hy; rfl) dL_run_18
  · have hk2 := hks k hR
    simp only [List.mem_cons, List.not_mem_nil, or_false] at hk2
    rcases hk2 with rfl | rfl
    · refine vx_catch (own := RL) (name := exN 1) (E := exN 1) F.1.2.2.2.1 [] ⟨0, 8, 11, 13⟩ [⟨0, 8, 14, 15⟩] htab (fun z hz => absurd hz List.not_mem_nil) rfl (by decide) (hts _ mw_423) (va_Nw.use rfl (F.2.2 _ mw_602)) hce hcv hcl ?_
      refine lv_astore_n (lv' := [(2, .ref q), (0, .ref (ad 77)), (1, .ref o)]) hx hb dL_run_11 rfl hl (by decide) rfl (fun ls hl => ?_)
      refine lv_iconst (v := 1) hx hb dL_run_12 (by decide) ?_
      exact lh_end (en := oL Y) (cv := (fun v : Int32 => v.toInt64)) F hP hT hS hr hk (by rw [hR]; rfl) (fun y hy => by cases hR.symm.trans hy) dL_run_13
    · refine vx_catch (own := RL) (name := exN 2) (E := exN 2) F.1.2.2.2.1 [⟨0, 8, 11, 13⟩] ⟨0, 8, 14, 15⟩ [] htab (List.forall_mem_cons.mpr ⟨Or.inr ⟨by decide, exN 1, hts _ mw_423, hN 2 1 (by decide) (by decide) (by decide)⟩, (fun z hz => absurd hz List.not_mem_nil)⟩) rfl (by decide) (hts _ mw_424) (va_Nw.use rfl (F.2.2 _ mw_621)) hce hcv hcl ?_
      refine lv_astore_n (lv' := [(2, .ref q), (0, .ref (ad 77)), (1, .ref o)]) hx hb dL_run_14 rfl hl (by decide) rfl (fun ls hl => ?_)
      refine lv_iconst (v := 2) hx hb dL_run_15 (by decide) ?_
      exact lh_end (en := oL Y) (cv := (fun v : Int32 => v.toInt64)) F hP hT hS hr hk (by rw [hR]; rfl) (fun y hy => by cases hR.symm.trans hy) dL_run_16
theorem kl_refusal : CKL yL_refusal cL_refusal 4 [(0, 9, 12, 58)] 3 := ⟨mw_1172, mw_0, mw_1173, by decide +kernel⟩
set_option maxRecDepth 100000 in
set_option maxHeartbeats 4000000 in
theorem ql_refusal (l : Launch) (hst : l.stackTraces = false) (D : va_G) (Y : Nat → ClassId) (ad : Nat → Nat) (hI : Inj 90 ad) (G : GT) (p0 : Int32) (o : Nat) (f : Nat → Int64) (RR : Nat ⊕ Int32) (G' : GT) (h : f_X9_refusal G p0 = some (RR, G')) (hks : ∀ k, RR = .inl k → k ∈ ([3] : List Nat)) : LH l yL_refusal cL_refusal 4 [(0, 9, 12, 58)] 10 1 D Y ad G [.ref (ad 77), .int p0, .ref o] o (oL Y f) [3] RR (fun v : Int32 => v.toInt64) (oL Y) G' := by
  refine L_of (by decide) (Nat.le_of_ble_eq_true rfl) (lv := [(0, .ref (ad 77)), (1, .int p0), (2, .ref o)]) rfl ?_
  intro p ev s m below meth c ls F htab hP hK hN hO hT hS hr hk hl
  have F : Fx p c cL_refusal 4 s m _ RL D Y := F
  have hx := F.1.1
  have hb := F.1.2.1
  have hts := F.1.2.2.2.2
  refine lv_aload_n hx hb dL_refusal_0 rfl (lv_at hl 2 rfl) ?_
  refine lv_iconst (v := 0) hx hb dL_refusal_1 (by decide) ?_
  refine lv_aload_n hx hb dL_refusal_2 rfl (lv_at hl 0 rfl) ?_
  refine lv_iload_n hx hb dL_refusal_3 rfl (lv_at hl 1 rfl) ?_
  refine lh_call (α := Int32) (RR := RR) (G' := G') (o := o) (rest := [.int 0, .ref o]) (As := [.int p0]) Value.int F hP hK hO hT hS va_S.rf k_X9_refusal mw_1174 rfl (q_X9_refusal l hst D Y ad hI G p0 RR G' h) lh_qi rfl hl.1 ⟨Nat.le_of_ble_eq_true rfl, Nat.le_of_ble_eq_true rfl⟩ rfl (Nat.le_of_ble_eq_true rfl) ⟨Nat.le_of_ble_eq_true rfl, Nat.le_of_ble_eq_true rfl⟩ dL_refusal_4 (fun x H1 L1 hR hP hT hS => ?_) (fun k q ce H1 L1 hR hP hT hS hce hcv hcl => ?_)
  · refine lv_i2l (v := x.toInt64) hx hb dL_refusal_7 rfl ?_
    refine lh_last F hP hO hT hS dL_refusal_8 ?_
    intro H1 L1 hP hT hS
    refine lv_goto (tgt := 15) hx hb dL_refusal_9 (by decide) ?_
    refine lv_iconst (v := 0) hx hb dL_refusal_15 (by decide) ?_
    exact lh_end (en := oL Y) (cv := (fun v : Int32 => v.toInt64)) F hP hT hS hr hk (by rw [hR]; rfl) (fun y hy => by cases hR.symm.trans hy; rfl) dL_refusal_16
  · have hk2 := hks k hR
    simp only [List.mem_cons, List.not_mem_nil, or_false] at hk2
    subst hk2
    refine vx_catch (own := RL) (name := exN 3) (E := exN 3) F.1.2.2.2.1 [] ⟨0, 9, 12, 58⟩ [] htab (fun z hz => absurd hz List.not_mem_nil) rfl (by decide) (hts _ mw_840) (va_Nw.use rfl (F.2.2 _ mw_854)) hce hcv hcl ?_
    refine lv_astore_n (lv' := [(3, .ref q), (0, .ref (ad 77)), (1, .int p0), (2, .ref o)]) hx hb dL_refusal_12 rfl hl (by decide) rfl (fun ls hl => ?_)
    refine lv_iconst (v := 1) hx hb dL_refusal_13 (by decide) ?_
    exact lh_end (en := oL Y) (cv := (fun v : Int32 => v.toInt64)) F hP hT hS hr hk (by rw [hR]; rfl) (fun y hy => by cases hR.symm.trans hy) dL_refusal_14
theorem kl_account : CKL yL_account cL_account 4 [(0, 9, 12, 13)] 3 := ⟨mw_1191, mw_0, mw_1192, by decide +kernel⟩
set_option maxRecDepth 100000 in
set_option maxHeartbeats 4000000 in
theorem ql_account (l : Launch) (hst : l.stackTraces = false) (D : va_G) (Y : Nat → ClassId) (ad : Nat → Nat) (hI : Inj 90 ad) (G : GT) (p0 : Int32) (o : Nat) (f : Nat → Int64) (RR : Nat ⊕ Int32) (G' : GT) (h : f_X9_account G p0 = some (RR, G')) (hks : ∀ k, RR = .inl k → k ∈ ([1] : List Nat)) : LH l yL_account cL_account 4 [(0, 9, 12, 13)] 10 1 D Y ad G [.ref (ad 77), .int p0, .ref o] o (oL Y f) [1] RR (fun v : Int32 => v.toInt64) (oL Y) G' := by
  refine L_of (by decide) (Nat.le_of_ble_eq_true rfl) (lv := [(0, .ref (ad 77)), (1, .int p0), (2, .ref o)]) rfl ?_
  intro p ev s m below meth c ls F htab hP hK hN hO hT hS hr hk hl
  have F : Fx p c cL_account 4 s m _ RL D Y := F
  have hx := F.1.1
  have hb := F.1.2.1
  have hts := F.1.2.2.2.2
  refine lv_aload_n hx hb dL_account_0 rfl (lv_at hl 2 rfl) ?_
  refine lv_iconst (v := 0) hx hb dL_account_1 (by decide) ?_
  refine lv_aload_n hx hb dL_account_2 rfl (lv_at hl 0 rfl) ?_
  refine lv_iload_n hx hb dL_account_3 rfl (lv_at hl 1 rfl) ?_
  refine lh_call (α := Int32) (RR := RR) (G' := G') (o := o) (rest := [.int 0, .ref o]) (As := [.int p0]) Value.int F hP hK hO hT hS va_S.rf k_X9_account mw_1193 rfl (q_X9_account l hst D Y ad hI G p0 RR G' h) lh_qi rfl hl.1 ⟨Nat.le_of_ble_eq_true rfl, Nat.le_of_ble_eq_true rfl⟩ rfl (Nat.le_of_ble_eq_true rfl) ⟨Nat.le_of_ble_eq_true rfl, Nat.le_of_ble_eq_true rfl⟩ dL_account_4 (fun x H1 L1 hR hP hT hS => ?_) (fun k q ce H1 L1 hR hP hT hS hce hcv hcl => ?_)
  · refine lv_i2l (v := x.toInt64) hx hb dL_account_7 rfl ?_
    refine lh_last F hP hO hT hS dL_account_8 ?_
    intro H1 L1 hP hT hS
    refine lv_goto (tgt := 15) hx hb dL_account_9 (by decide) ?_
    refine lv_iconst (v := 0) hx hb dL_account_15 (by decide) ?_
    exact lh_end (en := oL Y) (cv := (fun v : Int32 => v.toInt64)) F hP hT hS hr hk (by rw [hR]; rfl) (fun y hy => by cases hR.symm.trans hy; rfl) dL_account_16
  · have hk2 := hks k hR
    simp only [List.mem_cons, List.not_mem_nil, or_false] at hk2
    subst hk2
    refine vx_catch (own := RL) (name := exN 1) (E := exN 1) F.1.2.2.2.1 [] ⟨0, 9, 12, 13⟩ [] htab (fun z hz => absurd hz List.not_mem_nil) rfl (by decide) (hts _ mw_423) (va_Nw.use rfl (F.2.2 _ mw_602)) hce hcv hcl ?_
    refine lv_astore_n (lv' := [(3, .ref q), (0, .ref (ad 77)), (1, .int p0), (2, .ref o)]) hx hb dL_account_12 rfl hl (by decide) rfl (fun ls hl => ?_)
    refine lv_iconst (v := 1) hx hb dL_account_13 (by decide) ?_
    exact lh_end (en := oL Y) (cv := (fun v : Int32 => v.toInt64)) F hP hT hS hr hk (by rw [hR]; rfl) (fun y hy => by cases hR.symm.trans hy) dL_account_14
theorem kl_meanPitch : CKL yL_meanPitch cL_meanPitch 3 [(0, 7, 10, 112)] 2 := ⟨mw_1230, mw_0, mw_1231, by decide +kernel⟩
set_option maxRecDepth 100000 in
set_option maxHeartbeats 4000000 in
theorem ql_meanPitch (l : Launch) (hst : l.stackTraces = false) (D : va_G) (Y : Nat → ClassId) (ad : Nat → Nat) (hI : Inj 90 ad) (G : GT) (o : Nat) (f : Nat → UInt64) (RR : Nat ⊕ UInt64) (G' : GT) (h : f_X9_meanPitch G  = some (RR, G')) (hks : ∀ k, RR = .inl k → k ∈ ([5] : List Nat)) : LH l yL_meanPitch cL_meanPitch 3 [(0, 7, 10, 112)] 7 1 D Y ad G [.ref (ad 77), .ref o] o (oD Y f) [5] RR (fun v : UInt64 => v) (oD Y) G' := by
  refine L_of (by decide) (Nat.le_of_ble_eq_true rfl) (lv := [(0, .ref (ad 77)), (1, .ref o)]) rfl ?_
  intro p ev s m below meth c ls F htab hP hK hN hO hT hS hr hk hl
  have F : Fx p c cL_meanPitch 3 s m _ RL D Y := F
  have hx := F.1.1
  have hb := F.1.2.1
  have hts := F.1.2.2.2.2
  refine lv_aload_n hx hb dL_meanPitch_0 rfl (lv_at hl 1 rfl) ?_
  refine lv_iconst (v := 0) hx hb dL_meanPitch_1 (by decide) ?_
  refine lv_aload_n hx hb dL_meanPitch_2 rfl (lv_at hl 0 rfl) ?_
  refine lh_call (α := UInt64) (RR := RR) (G' := G') (o := o) (rest := [.int 0, .ref o]) (As := []) Value.double F hP hK hO hT hS va_S.rf k_X9_meanPitch mw_1246 rfl (q_X9_meanPitch l hst D Y ad hI G  RR G' h) lh_qd rfl hl.1 ⟨Nat.le_of_ble_eq_true rfl, Nat.le_of_ble_eq_true rfl⟩ rfl (Nat.le_of_ble_eq_true rfl) ⟨Nat.le_of_ble_eq_true rfl, Nat.le_of_ble_eq_true rfl⟩ dL_meanPitch_3 (fun x H1 L1 hR hP hT hS => ?_) (fun k q ce H1 L1 hR hP hT hS hce hcv hcl => ?_)
  · refine lh_dast F hP hO hT hS dL_meanPitch_6 ?_
    intro H1 L1 hP hT hS
    refine lv_goto (tgt := 13) hx hb dL_meanPitch_7 (by decide) ?_
    refine lv_iconst (v := 0) hx hb dL_meanPitch_13 (by decide) ?_
    exact lh_end (en := oD Y) (cv := (fun v : UInt64 => v)) F hP hT hS hr hk (by rw [hR]; rfl) (fun y hy => by cases hR.symm.trans hy; rfl) dL_meanPitch_14
  · have hk2 := hks k hR
    simp only [List.mem_cons, List.not_mem_nil, or_false] at hk2
    subst hk2
    refine vx_catch (own := RL) (name := exN 5) (E := exN 5) F.1.2.2.2.1 [] ⟨0, 7, 10, 112⟩ [] htab (fun z hz => absurd hz List.not_mem_nil) rfl (by decide) (hts _ mw_1232) (va_Nw.use rfl (F.2.2 _ mw_1244)) hce hcv hcl ?_
    refine lv_astore_n (lv' := [(2, .ref q), (0, .ref (ad 77)), (1, .ref o)]) hx hb dL_meanPitch_10 rfl hl (by decide) rfl (fun ls hl => ?_)
    refine lv_iconst (v := 1) hx hb dL_meanPitch_11 (by decide) ?_
    exact lh_end (en := oD Y) (cv := (fun v : UInt64 => v)) F hP hT hS hr hk (by rw [hR]; rfl) (fun y hy => by cases hR.symm.trans hy) dL_meanPitch_12
theorem kl_filledShare : CKL yL_filledShare cL_filledShare 3 [(0, 8, 11, 112)] 2 := ⟨mw_1263, mw_0, mw_1264, by decide +kernel⟩
set_option maxRecDepth 100000 in
set_option maxHeartbeats 4000000 in
theorem ql_filledShare (l : Launch) (hst : l.stackTraces = false) (D : va_G) (Y : Nat → ClassId) (ad : Nat → Nat) (hI : Inj 90 ad) (G : GT) (o : Nat) (f : Nat → UInt64) (RR : Nat ⊕ UInt32) (G' : GT) (h : f_X9_filledShare G  = some (RR, G')) (hf : ∀ v, RR = .inr v → vf_n64 (FP.f2d v)) (hks : ∀ k, RR = .inl k → k ∈ ([5] : List Nat)) : LH l yL_filledShare cL_filledShare 3 [(0, 8, 11, 112)] 7 1 D Y ad G [.ref (ad 77), .ref o] o (oD Y f) [5] RR (fun v : UInt32 => FP.f2d v) (oD Y) G' := by
  refine L_of (by decide) (Nat.le_of_ble_eq_true rfl) (lv := [(0, .ref (ad 77)), (1, .ref o)]) rfl ?_
  intro p ev s m below meth c ls F htab hP hK hN hO hT hS hr hk hl
  have F : Fx p c cL_filledShare 3 s m _ RL D Y := F
  have hx := F.1.1
  have hb := F.1.2.1
  have hts := F.1.2.2.2.2
  refine lv_aload_n hx hb dL_filledShare_0 rfl (lv_at hl 1 rfl) ?_
  refine lv_iconst (v := 0) hx hb dL_filledShare_1 (by decide) ?_
  refine lv_aload_n hx hb dL_filledShare_2 rfl (lv_at hl 0 rfl) ?_
  refine lh_call (α := UInt32) (RR := RR) (G' := G') (o := o) (rest := [.int 0, .ref o]) (As := []) Value.float F hP hK hO hT hS va_S.rf k_X9_filledShare mw_1265 rfl (q_X9_filledShare l hst D Y ad hI G  RR G' h) lh_qf rfl hl.1 ⟨Nat.le_of_ble_eq_true rfl, Nat.le_of_ble_eq_true rfl⟩ rfl (Nat.le_of_ble_eq_true rfl) ⟨Nat.le_of_ble_eq_true rfl, Nat.le_of_ble_eq_true rfl⟩ dL_filledShare_3 (fun x H1 L1 hR hP hT hS => ?_) (fun k q ce H1 L1 hR hP hT hS hce hcv hcl => ?_)
  · refine lv_f2d hx hb dL_filledShare_6 (hf x hR) ?_
    refine lh_dast F hP hO hT hS dL_filledShare_7 ?_
    intro H1 L1 hP hT hS
    refine lv_goto (tgt := 14) hx hb dL_filledShare_8 (by decide) ?_
    refine lv_iconst (v := 0) hx hb dL_filledShare_14 (by decide) ?_
    exact lh_end (en := oD Y) (cv := (fun v : UInt32 => FP.f2d v)) F hP hT hS hr hk (by rw [hR]; rfl) (fun y hy => by cases hR.symm.trans hy; rfl) dL_filledShare_15
  · have hk2 := hks k hR
    simp only [List.mem_cons, List.not_mem_nil, or_false] at hk2
    subst hk2
    refine vx_catch (own := RL) (name := exN 5) (E := exN 5) F.1.2.2.2.1 [] ⟨0, 8, 11, 112⟩ [] htab (fun z hz => absurd hz List.not_mem_nil) rfl (by decide) (hts _ mw_1232) (va_Nw.use rfl (F.2.2 _ mw_1244)) hce hcv hcl ?_
    refine lv_astore_n (lv' := [(2, .ref q), (0, .ref (ad 77)), (1, .ref o)]) hx hb dL_filledShare_11 rfl hl (by decide) rfl (fun ls hl => ?_)
    refine lv_iconst (v := 1) hx hb dL_filledShare_12 (by decide) ?_
    exact lh_end (en := oD Y) (cv := (fun v : UInt32 => FP.f2d v)) F hP hT hS hr hk (by rw [hR]; rfl) (fun y hy => by cases hR.symm.trans hy) dL_filledShare_13
theorem kl_undo : CKL yL_undo cL_undo 3 [(0, 8, 11, 96)] 2 := ⟨mw_1271, mw_0, mw_1272, by decide +kernel⟩
set_option maxRecDepth 100000 in
set_option maxHeartbeats 4000000 in
theorem ql_undo (l : Launch) (hst : l.stackTraces = false) (D : va_G) (Y : Nat → ClassId) (ad : Nat → Nat) (hI : Inj 90 ad) (G : GT) (o : Nat) (f : Nat → Int64) (RR : Nat ⊕ Int32) (G' : GT) (h : f_X9_undo G  = some (RR, G')) (hks : ∀ k, RR = .inl k → k ∈ ([4] : List Nat)) : LH l yL_undo cL_undo 3 [(0, 8, 11, 96)] 10 1 D Y ad G [.ref (ad 77), .ref o] o (oL Y f) [4] RR (fun v : Int32 => v.toInt64) (oL Y) G' := by
  refine L_of (by decide) (Nat.le_of_ble_eq_true rfl) (lv := [(0, .ref (ad 77)), (1, .ref o)]) rfl ?_
  intro p ev s m below meth c ls F htab hP hK hN hO hT hS hr hk hl
  have F : Fx p c cL_undo 3 s m _ RL D Y := F
  have hx := F.1.1
  have hb := F.1.2.1
  have hts := F.1.2.2.2.2
  refine lv_aload_n hx hb dL_undo_0 rfl (lv_at hl 1 rfl) ?_
  refine lv_iconst (v := 0) hx hb dL_undo_1 (by decide) ?_
  refine lv_aload_n hx hb dL_undo_2 rfl (lv_at hl 0 rfl) ?_
  refine lh_call (α := Int32) (RR := RR) (G' := G') (o := o) (rest := [.int 0, .ref o]) (As := []) Value.int F hP hK hO hT hS va_S.rf k_X9_undo mw_1273 rfl (q_X9_undo l hst D Y ad hI G  RR G' h) lh_qi rfl hl.1 ⟨Nat.le_of_ble_eq_true rfl, Nat.le_of_ble_eq_true rfl⟩ rfl (Nat.le_of_ble_eq_true rfl) ⟨Nat.le_of_ble_eq_true rfl, Nat.le_of_ble_eq_true rfl⟩ dL_undo_3 (fun x H1 L1 hR hP hT hS => ?_) (fun k q ce H1 L1 hR hP hT hS hce hcv hcl => ?_)
  · refine lv_i2l (v := x.toInt64) hx hb dL_undo_6 rfl ?_
    refine lh_last F hP hO hT hS dL_undo_7 ?_
    intro H1 L1 hP hT hS
    refine lv_goto (tgt := 14) hx hb dL_undo_8 (by decide) ?_
    refine lv_iconst (v := 0) hx hb dL_undo_14 (by decide) ?_
    exact lh_end (en := oL Y) (cv := (fun v : Int32 => v.toInt64)) F hP hT hS hr hk (by rw [hR]; rfl) (fun y hy => by cases hR.symm.trans hy; rfl) dL_undo_15
  · have hk2 := hks k hR
    simp only [List.mem_cons, List.not_mem_nil, or_false] at hk2
    subst hk2
    refine vx_catch (own := RL) (name := exN 4) (E := exN 4) F.1.2.2.2.1 [] ⟨0, 8, 11, 96⟩ [] htab (fun z hz => absurd hz List.not_mem_nil) rfl (by decide) (hts _ mw_1026) (va_Nw.use rfl (F.2.2 _ mw_1040)) hce hcv hcl ?_
    refine lv_astore_n (lv' := [(2, .ref q), (0, .ref (ad 77)), (1, .ref o)]) hx hb dL_undo_11 rfl hl (by decide) rfl (fun ls hl => ?_)
    refine lv_iconst (v := 1) hx hb dL_undo_12 (by decide) ?_
    exact lh_end (en := oL Y) (cv := (fun v : Int32 => v.toInt64)) F hP hT hS hr hk (by rw [hR]; rfl) (fun y hy => by cases hR.symm.trans hy) dL_undo_13
theorem kl_restore : CKL yL_restore cL_restore 3 [(0, 8, 11, 96)] 2 := ⟨mw_1282, mw_0, mw_1283, by decide +kernel⟩
set_option maxRecDepth 100000 in
set_option maxHeartbeats 4000000 in
theorem ql_restore (l : Launch) (hst : l.stackTraces = false) (D : va_G) (Y : Nat → ClassId) (ad : Nat → Nat) (hI : Inj 90 ad) (G : GT) (o : Nat) (f : Nat → Int64) (RR : Nat ⊕ Int32) (G' : GT) (h : f_X9_restore G  = some (RR, G')) (hks : ∀ k, RR = .inl k → k ∈ ([4] : List Nat)) : LH l yL_restore cL_restore 3 [(0, 8, 11, 96)] 10 1 D Y ad G [.ref (ad 77), .ref o] o (oL Y f) [4] RR (fun v : Int32 => v.toInt64) (oL Y) G' := by
  refine L_of (by decide) (Nat.le_of_ble_eq_true rfl) (lv := [(0, .ref (ad 77)), (1, .ref o)]) rfl ?_
  intro p ev s m below meth c ls F htab hP hK hN hO hT hS hr hk hl
  have F : Fx p c cL_restore 3 s m _ RL D Y := F
  have hx := F.1.1
  have hb := F.1.2.1
  have hts := F.1.2.2.2.2
  refine lv_aload_n hx hb dL_restore_0 rfl (lv_at hl 1 rfl) ?_
  refine lv_iconst (v := 0) hx hb dL_restore_1 (by decide) ?_
  refine lv_aload_n hx hb dL_restore_2 rfl (lv_at hl 0 rfl) ?_
  refine lh_call (α := Int32) (RR := RR) (G' := G') (o := o) (rest := [.int 0, .ref o]) (As := []) Value.int F hP hK hO hT hS va_S.rf k_X9_restore mw_1284 rfl (q_X9_restore l hst D Y ad hI G  RR G' h) lh_qi rfl hl.1 ⟨Nat.le_of_ble_eq_true rfl, Nat.le_of_ble_eq_true rfl⟩ rfl (Nat.le_of_ble_eq_true rfl) ⟨Nat.le_of_ble_eq_true rfl, Nat.le_of_ble_eq_true rfl⟩ dL_restore_3 (fun x H1 L1 hR hP hT hS => ?_) (fun k q ce H1 L1 hR hP hT hS hce hcv hcl => ?_)
  · refine lv_i2l (v := x.toInt64) hx hb dL_restore_6 rfl ?_
    refine lh_last F hP hO hT hS dL_restore_7 ?_
    intro H1 L1 hP hT hS
    refine lv_goto (tgt := 14) hx hb dL_restore_8 (by decide) ?_
    refine lv_iconst (v := 0) hx hb dL_restore_14 (by decide) ?_
    exact lh_end (en := oL Y) (cv := (fun v : Int32 => v.toInt64)) F hP hT hS hr hk (by rw [hR]; rfl) (fun y hy => by cases hR.symm.trans hy; rfl) dL_restore_15
  · have hk2 := hks k hR
    simp only [List.mem_cons, List.not_mem_nil, or_false] at hk2
    subst hk2
    refine vx_catch (own := RL) (name := exN 4) (E := exN 4) F.1.2.2.2.1 [] ⟨0, 8, 11, 96⟩ [] htab (fun z hz => absurd hz List.not_mem_nil) rfl (by decide) (hts _ mw_1026) (va_Nw.use rfl (F.2.2 _ mw_1040)) hce hcv hcl ?_
    refine lv_astore_n (lv' := [(2, .ref q), (0, .ref (ad 77)), (1, .ref o)]) hx hb dL_restore_11 rfl hl (by decide) rfl (fun ls hl => ?_)
    refine lv_iconst (v := 1) hx hb dL_restore_12 (by decide) ?_
    exact lh_end (en := oL Y) (cv := (fun v : Int32 => v.toInt64)) F hP hT hS hr hk (by rw [hR]; rfl) (fun y hy => by cases hR.symm.trans hy) dL_restore_13
