/-! constants: what nobody writes. kd: their addresses: 100 .. the orders, 130 the array of them, 200 .. the texts in the order of the tables -/
def stB (i : Nat) : List Int32 := [[116, 104, 101, 114, 101, 32, 105, 115, 32, 110, 111, 32, 115, 117, 99, 104, 32, 112, 108, 97, 99, 101], [116, 104, 105, 115, 32, 105, 115, 32, 111, 117, 116, 32, 111, 102, 32, 114, 97, 110, 103, 101, 44, 32, 111, 114, 32, 99, 97, 110, 110, 111, 116, 32, 98, 101, 32, 114, 101, 97, 100], [116, 104, 105, 115, 32, 105, 115, 32, 114, 101, 102, 117, 115, 101, 100], [116, 104, 101, 114, 101, 32, 105, 115, 32, 110, 111, 110, 101], [116, 104, 101, 114, 101, 32, 97, 114, 101, 32, 110, 111, 32, 100, 114, 111, 112, 115], [116, 104, 101, 114, 101, 32, 97, 114, 101, 32, 110, 111, 32, 98, 97, 114, 115], [], [126], [32], [32, 62, 32], [95], [47], [98, 97, 114, 32, 50, 59, 100, 114, 111, 112, 32], [32, 51, 32, 49], [59, 116, 117, 110, 101, 32], [32, 48], [59, 108, 105, 102, 116], [116, 104, 105, 115, 32, 99, 97, 110, 110, 111, 116, 32, 98, 101, 32, 100, 111, 110, 101, 32, 110, 111, 119], [98, 97, 114], [49], [107, 101, 121], [49, 50], [108, 101, 97, 107], [49, 49], [100, 114, 111, 112], [49, 49, 49], [114, 101, 115, 116], [108, 105, 102, 116], [], [108, 105, 109, 105, 116], [50], [116, 117, 110, 101], [50, 49]].getD i []
def stO (i : Nat) : String := ["TinRoofScore", "TinRoofScore", "TinRoofScore", "TinRoofScore", "TinRoofScore", "TinRoofScore", "TinRoofScoreLaw", "TinRoofScoreLaw", "TinRoofScoreLaw", "java/util/Arrays", "TinRoofScoreLaw", "TinRoofScoreLaw", "TinRoofScoreLaw", "TinRoofScoreLaw", "TinRoofScoreLaw", "TinRoofScoreLaw", "TinRoofScoreLaw", "TinRoofScore", "TinRoofScore$Order", "TinRoofScore$Order", "TinRoofScore$Order", "TinRoofScore$Order", "TinRoofScore$Order", "TinRoofScore$Order", "TinRoofScore$Order", "TinRoofScore$Order", "TinRoofScore$Order", "TinRoofScore$Order", "TinRoofScore$Order", "TinRoofScore$Order", "TinRoofScore$Order", "TinRoofScore$Order", "TinRoofScore$Order"].getD i ""
def stK (i : Nat) : Nat := [372, 377, 382, 387, 341, 349, 262, 270, 278, 337, 286, 294, 314, 316, 318, 320, 322, 392, 55, 57, 63, 65, 68, 70, 73, 75, 78, 81, 83, 86, 88, 91, 93].getD i 0
def stT (i : Nat) : String := ["there is no such place", "this is out of range, or cannot be read", "this is refused", "there is none", "there are no drops", "there are no bars", "", "~", " ", " > ", "_", "/", "bar 2;drop ", " 3 1", ";tune ", " 0", ";lift", "this cannot be done now", "bar", "1", "key", "12", "leak", "11", "drop", "111", "rest", "lift", "", "limit", "2", "tune", "21"].getD i ""
def nmO (i : Nat) : String := ["BAR", "KEY", "LEAK", "DROP", "REST", "LIFT", "LIMIT", "TUNE"].getD i ""
def woO (i : Nat) : Nat := [18, 20, 22, 24, 26, 27, 29, 31].getD i 0
def diO (i : Nat) : Nat := [19, 21, 23, 25, 19, 28, 30, 32].getD i 0
abbrev RO' : String := "TinRoofScore$Order"
abbrev RS' : String := "java/lang/String"
def Str (a v : Nat) (bs : List Int32) (A : Nat → Prop) (U : State) (H : Heap) : Prop := va_O RS' a A U H ∧ va_OF RS' "coder" "B" (.int 0) a A U H ∧ va_OF RS' "value" "[B" (.ref v) a A U H ∧ va_T .byte v bs.length (fun j => .int (bs.getD j 0)) A U H
theorem Str.moved {a v : Nat} {bs : List Int32} {A : Nat → Prop} {u U : State} {H : Heap} (hvm : u.vm.Alike U.vm) (h : Str a v bs A u H) : Str a v bs A U H := by
  obtain ⟨h1, h2, h3, h4⟩ := h
  exact ⟨va_O.moved hvm h1, va_OF.moved hvm h2, va_OF.moved hvm h3, va_T.moved hvm h4⟩
theorem Str.kept {a v : Nat} {bs : List Int32} {A : Nat → Prop} {U : State} {H H1 : Heap} (h : Str a v bs A U H) (hq : ∀ a : Nat, a < H.size → ¬ A a → H1[a]? = H[a]?) : Str a v bs A U H1 := by
  obtain ⟨h1, h2, h3, h4⟩ := h
  exact ⟨h1.kept hq, h2.kept hq, h3.kept hq, h4.kept hq⟩
theorem Str.narrow {a v : Nat} {bs : List Int32} {A B : Nat → Prop} {U : State} {H : Heap} (h : Str a v bs A U H) (hAB : ∀ q, B q → A q) : Str a v bs B U H := by
  obtain ⟨h1, h2, h3, h4⟩ := h
  exact ⟨h1.narrow hAB, h2.narrow hAB, h3.narrow hAB, h4.narrow hAB⟩
def Kd1 (kd : Nat → Nat) (A : Nat → Prop) (U : State) (H : Heap) : Prop := ∀ k, k < 8 → va_Z RO' (nmO k) "LTinRoofScore$Order;" (.ref (kd (100 + k))) A U H ∧ va_O RO' (kd (100 + k)) A U H ∧ va_OF RO' "word" "Ljava/lang/String;" (.ref (kd (200 + woO k))) (kd (100 + k)) A U H ∧ va_OF RO' "digits" "Ljava/lang/String;" (.ref (kd (200 + diO k))) (kd (100 + k)) A U H
def Kd2 (kd : Nat → Nat) (A : Nat → Prop) (U : State) (H : Heap) : Prop := va_Z "TinRoofScore" "ORDERS" "[LTinRoofScore$Order;" (.ref (kd 130)) A U H ∧ va_T (.object RO') (kd 130) 8 (fun j => .ref (kd (100 + j))) A U H
def Kd3 (A : Nat → Prop) (U : State) (H : Heap) : Prop := va_Z RS' "COMPACT_STRINGS" "Z" (.int 1) A U H ∧ va_Zq "jdk/internal/util/Preconditions" "SIOOBE_FORMATTER" "Ljava/util/function/BiFunction;" A U H ∧ vx_Zq Bundle.tN "UNASSIGNED_STACK" Bundle.steD A U H ∧ vx_Zq Bundle.tN "SUPPRESSED_SENTINEL" Bundle.listD A U H
def Ks (kd : Nat → Nat) (A : Nat → Prop) (U : State) (H : Heap) : Prop := Kd1 kd A U H ∧ (∀ i j, i < 8 → j < 8 → kd (100 + i) = kd (100 + j) → i = j) ∧ (∀ i, i < 33 → Str (kd (200 + i)) (kd (300 + i)) (stB i) A U H) ∧ Kd2 kd A U H ∧ Kd3 A U H ∧ ∀ i, i < 18 → vk_R (stO i) (stK i) (stT i) (kd (200 + i)) U
theorem Ks.kept {kd : Nat → Nat} {A : Nat → Prop} {U : State} {H H1 : Heap} (h : Ks kd A U H) (hq : ∀ a : Nat, a < H.size → ¬ A a → H1[a]? = H[a]?) : Ks kd A U H1 := by
  obtain ⟨h1, h2, h3, h4, h5, h6⟩ := h
  exact ⟨fun k hk => ⟨(h1 k hk).1.kept hq, (h1 k hk).2.1.kept hq, (h1 k hk).2.2.1.kept hq, (h1 k hk).2.2.2.kept hq⟩, h2, fun i hi => (h3 i hi).kept hq, ⟨h4.1.kept hq, h4.2.kept hq⟩, ⟨h5.1.kept hq, h5.2.1.kept hq, h5.2.2.1.kept hq, h5.2.2.2.kept hq⟩, h6⟩
theorem Ks.narrow {kd : Nat → Nat} {A B : Nat → Prop} {U : State} {H : Heap} (h : Ks kd A U H) (hAB : ∀ q, B q → A q) : Ks kd B U H := by
  obtain ⟨h1, h2, h3, h4, h5, h6⟩ := h
  exact ⟨fun k hk => ⟨(h1 k hk).1.narrow hAB, (h1 k hk).2.1.narrow hAB, (h1 k hk).2.2.1.narrow hAB, (h1 k hk).2.2.2.narrow hAB⟩, h2, fun i hi => (h3 i hi).narrow hAB, ⟨h4.1.narrow hAB, h4.2.narrow hAB⟩, ⟨h5.1.narrow hAB, h5.2.1.narrow hAB, h5.2.2.1.narrow hAB, h5.2.2.2.narrow hAB⟩, h6⟩
theorem Ks.warm {kd : Nat → Nat} {A : Nat → Prop} {s U : State} {H : Heap} (hW : s.WarmedH U.vm) (h : Ks kd A s H) : Ks kd A U H := by
  obtain ⟨h1, h2, h3, h4, h5, h6⟩ := h
  have hv := hW.alike
  exact ⟨fun k hk => ⟨va_Z.moved hv (h1 k hk).1, va_O.moved hv (h1 k hk).2.1, va_OF.moved hv (h1 k hk).2.2.1, va_OF.moved hv (h1 k hk).2.2.2⟩, h2, fun i hi => (h3 i hi).moved hv, ⟨va_Z.moved hv h4.1, va_T.moved hv h4.2⟩, ⟨va_Z.moved hv h5.1, va_Zq.moved hv h5.2.1, vx_Zq.moved hv h5.2.2.1, vx_Zq.moved hv h5.2.2.2⟩, fun i hi => (h6 i hi).warm hW⟩
theorem Ks.call {kd : Nat → Nat} {A : Nat → Prop} {U : State} {H : Heap} {g : JFrame} {mk : MethodId} {a : Array Value} (h : Ks kd A U H) : Ks kd A (U.calling g mk a) H := by
  obtain ⟨h1, h2, h3, h4, h5, h6⟩ := h
  have hv : U.vm.Alike (U.calling g mk a).vm := Vm.Alike.refl U.vm
  exact ⟨fun k hk => ⟨va_Z.moved hv (h1 k hk).1, va_O.moved hv (h1 k hk).2.1, va_OF.moved hv (h1 k hk).2.2.1, va_OF.moved hv (h1 k hk).2.2.2⟩, h2, fun i hi => (h3 i hi).moved hv, ⟨va_Z.moved hv h4.1, va_T.moved hv h4.2⟩, ⟨va_Z.moved hv h5.1, va_Zq.moved hv h5.2.1, vx_Zq.moved hv h5.2.2.1, vx_Zq.moved hv h5.2.2.2⟩, fun i hi => vk_R.same (u := U) rfl (h6 i hi)⟩
def BK (D : va_G) (Y : Nat → ClassId) (ws : va_W) (kd : Nat → Nat) (A : Nat → Prop) : State → Prop := fun U => Bw D Y ws U ∧ Ks kd A U U.heap
theorem BK.blind {D : va_G} {Y : Nat → ClassId} {ws : va_W} {kd : Nat → Nat} {A : Nat → Prop} {As : List Value} : FrameBlind (va_Pc As (BK D Y ws kd A)) := fun _ _ _ _ h => ⟨h.1, Bw.call h.2.1, Ks.call h.2.2⟩
theorem BK.of {D : va_G} {Y : Nat → ClassId} {ws : va_W} {kd : Nat → Nat} {A : Nat → Prop} {s U : State} {H : Heap} {locs : List Loc} (hE : Ev D Y s) (hP : va_P D vwCl ws H) (hK : Ks kd A s s.heap) (hS : va_S A s.heap H locs) (hU : U.heap = H) (hW : s.WarmedH U.vm) : BK D Y ws kd A U := ⟨Bw.of hE hP hU hW, by rw [hU]; exact (hK.kept hS.2.1).warm hW⟩
def RK (l : Launch) (y : MethodName) (b : ByteArray) (n : Nat) (ret : Option FieldType) (d : Nat) (D : va_G) (Y : Nat → ClassId) (ws : va_W) (kd : Nat → Nat) (A : Nat → Prop) (As : List Value) (r : Int32) : Prop :=
  Met l y (wc y b n ret) (rmD d 0 0) (va_Pc As (BK D Y ws kd A)) (RQ ret r) 0 0 (fun _ => False)
theorem RK_of {l : Launch} {y : MethodName} {b : ByteArray} {n : Nat} {ret : Option FieldType} {d : Nat} {D : va_G} {Y : Nat → ClassId} {ws : va_W} {kd : Nat → Nat} {A : Nat → Prop} {As : List Value} {Qc : Array Value → State → Outcome → State → Prop} {fr : Nat → Prop} {lv : List (Nat × Value)} (hy : plainName y.cls = true) (hn : (lg_sl As).length ≤ n) (hlv : lv_args 0 As = lv)
    (body : ∀ (p : Program) (e : Env) (s : State) (m : MethodId) (below : List Frame) (meth : Method) (c : Code) (ls : Array Slot), Fx p c b n s m As.toArray y.cls D Y → va_P D vwCl ws s.heap → Ks kd A s s.heap → va_S A s.heap s.heap [] → meth.sig.returnType = ret → meth.locks = false → lv_has ls n lv → WW p l e d s m As.toArray below meth c s.heap [] Qc fr (F0 m 0 ls [])) : Met l y (wc y b n ret) (rmD d 0 0) (va_Pc As (BK D Y ws kd A)) Qc 0 0 fr := by
  refine Met.ofW (cc := b) (maxL := n) (ret := ret) hy rfl ?_
  intro p e s m args below meth c s₁ B hml hv
  obtain ⟨rfl, ⟨hE, hP⟩, hK⟩ := hv
  have hts := atoms_spec (ws := wc y b n ret) B.pre
  have hl := lv_entry As hn
  rw [lg_entry_eq]
  rw [hlv] at hl
  exact body p e s m below meth c _ ⟨⟨B.exec, B.bytes, hml, findClass_of_methodNamed B.named, fun w hw => hts w (List.mem_cons_of_mem _ hw)⟩, hE⟩ hP hK va_S.rf B.returns B.notSynchronized hl
section RKR
variable {p : Program} {l : Launch} {e : Env} {R : Room} {s : State} {m : MethodId} {args : Array Value} {below : List Frame} {meth : Method} {c : Code} {H : Heap} {locs : List Loc} {cells slots : Nat} {Q : State → Prop}
variable {cc : ByteArray} {pc nL : Nat} {ls : Array Slot} {rest st0 : List Value}
variable {own host : String} {idx : Nat} {y : MethodName} {b : ByteArray} {n ar d : Nat} {ret : Option FieldType} {D : va_G} {Y : Nat → ClassId} {ws : va_W} {kd : Nat → Nat} {A : Nat → Prop} {As : List Value} {r : Int32}
theorem rk_V {a : Nat} (F : Fx p c cc nL s m args own D Y) (hP : va_P D vwCl ws H) (hK : Ks kd A s s.heap) (hS : va_S A s.heap H locs) {d' : Nat} (k : CKV y b n ret ar) (hl : Cond.methodLink own idx y ∈ LW) (hrec : ∃ cellB : Cell, H[a]? = some cellB ∧ cellB.vm.isStatics = false ∧ s.vm.findClass y.cls = some cellB.cls)
    (hM : RK l y b n ret d' D Y ws kd A (.ref a :: As) r) (hn : As.length = ar) (hsz : ls.size = nL) (hR : d' + 1 ≤ R.frames ∧ 8 + (n + 11) + 40 * d' ≤ R.locals) (hst : st0 = As.reverse ++ .ref a :: rest) (hcat : (rest.map fun v => v.category).sum ≤ 8) (hc : cells ≤ R.cells ∧ slots ≤ R.slots) (hdg : decode cc pc = .ok (.invokevirtual idx, 3))
    (kk : okR ret r → W p l e R s m args below meth c H locs cells slots Q (F0 m (pc + 3) ls (.int r :: rest))) : W p l e R s m args below meth c H locs cells slots Q (F0 m pc ls st0) := by
  subst hst
  refine vp_callSi (W.runV (As := As) (rest := rest) F.1 hM (ck_V F.1.2.2.2.2 k hl rfl rfl hR) ⟨BK.blind, hrec, fun U hU hW => ⟨rfl, BK.of F.2 hP hK hS hU hW⟩⟩ rfl hn hsz rfl (lv_room hcat) hdg hc) (fun v hv => ?_)
  obtain ⟨rfl, ho⟩ := hv
  exact kk ho
theorem rk_S (F : Fx p c cc nL s m args own D Y) (hP : va_P D vwCl ws H) (hK : Ks kd A s s.heap) (hS : va_S A s.heap H locs) {d' : Nat} (k : CKS y b n ret ar) (hl : Cond.methodLink own idx y ∈ LW)
    (hM : RK l y b n ret d' D Y ws kd A As r) (hn : As.length = ar) (hsz : ls.size = nL) (hR : d' + 1 ≤ R.frames ∧ 8 + (n + 11) + 40 * d' ≤ R.locals) (hst : st0 = As.reverse ++ rest) (hcat : (rest.map fun v => v.category).sum ≤ 8) (hc : cells ≤ R.cells ∧ slots ≤ R.slots) (hdg : decode cc pc = .ok (.invokestatic idx, 3))
    (kk : okR ret r → W p l e R s m args below meth c H locs cells slots Q (F0 m (pc + 3) ls (.int r :: rest))) : W p l e R s m args below meth c H locs cells slots Q (F0 m pc ls st0) := by
  subst hst
  refine vp_callSi (W.runS (As := As) (rest := rest) F.1 hM (ck_S F.1.2.2.2.2 k hl rfl rfl hR) ⟨BK.blind, fun U hU hW => ⟨rfl, BK.of F.2 hP hK hS hU hW⟩⟩ rfl hn hsz rfl (lv_room hcat) hdg hc) (fun v hv => ?_)
  obtain ⟨rfl, ho⟩ := hv
  exact kk ho
theorem rk_end {ty : FieldType} {v : Int32} (F : Fx p c cc nL s m args own D Y) (hr : meth.sig.returnType = some ty) (hk : meth.locks = false) (ho : okR (some ty) v) (h : some v = some r) (hdg : decode cc pc = .ok (.ireturn, 1)) : WW p l e d s m args below meth c s.heap [] (RQ (some ty) r) (fun _ => False) (F0 m pc ls [.int v]) := by
  cases h
  exact W.zret F.1.1 F.1.2.1 hr ho (fun t ht _ => ⟨r, rfl, ⟨rfl, ho⟩, ht⟩) (fun q hq => by cases hq) hdg hk
end RKR
