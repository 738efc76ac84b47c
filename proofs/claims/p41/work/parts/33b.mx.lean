/-! an array of rows of six ints as it is made: an array of nulls first, then row by row -/
def oc (cA : ClassId) (N h i : Nat) : Cell := arrV cA N (fun j => va_rf (if j < i then some (h + 1 + j) else none))
def ic (cC : ClassId) : Cell := arrV cC 6 (fun _ => .int 0)
theorem oc_0 (cA : ClassId) (N h : Nat) : ({ cls := cA, slots := Array.replicate N .null, vm := .none } : Cell) = oc cA N h 0 := by
  rw [arrV_new]
  refine congrArg (arrV cA N) (funext fun j => ?_)
  simp [va_rf]
theorem ic_0 (cC : ClassId) : ({ cls := cC, slots := Array.replicate 6 (.int 0), vm := .none } : Cell) = ic cC := arrV_new cC 6 (.int 0)
theorem oc_1 (cA : ClassId) (N h i : Nat) : (oc cA N h i).setSlot i (.ref (h + 1 + i)) = oc cA N h (i + 1) := by
  unfold oc
  rw [arrV_store]
  refine congrArg (arrV cA N) (funext fun j => ?_)
  by_cases e : j = i
  · subst e
    simp [updV, va_rf]
  · by_cases h2 : j < i
    · simp [updV, e, h2, Nat.lt_succ_of_lt h2]
    · simp [updV, e, h2, show ¬ j < i + 1 by omega]
theorem oc_n (cA : ClassId) (N h i : Nat) : (oc cA N h i).slots.size = N := arrV_size _ _ _
theorem ic_n (cC : ClassId) : (ic cC).slots.size = 6 := arrV_size _ _ _
/-- with i rows -/
def rwS (T : State) (cA cC : ClassId) (N : Nat) : Nat → State
  | 0 => T.pushCell (oc cA N T.heap.size 0)
  | i + 1 => ((rwS T cA cC N i).pushCell (ic cC)).setCell T.heap.size (oc cA N T.heap.size (i + 1))
theorem rwS_f (T : State) (cA cC : ClassId) (N : Nat) : ∀ i, (rwS T cA cC N i).heap.size = T.heap.size + 1 + i ∧ (rwS T cA cC N i).heap[T.heap.size]? = some (oc cA N T.heap.size i) ∧ (rwS T cA cC N i).vm = T.vm ∧ (rwS T cA cC N i).slotsUsed = T.slotsUsed + N + 6 * i ∧ (∀ q : Nat, q < T.heap.size → (rwS T cA cC N i).heap[q]? = T.heap[q]?) ∧ ∀ j : Nat, j < i → (rwS T cA cC N i).heap[T.heap.size + 1 + j]? = some (ic cC) := by
  intro i
  induction i with
  | zero =>
    refine ⟨by simp [rwS], State.heap_pushCell_size _ _, rfl, ?_, fun q hq => State.heap_pushCell_of_lt _ _ hq, fun j hj => absurd hj (Nat.not_lt_zero _)⟩
    show T.slotsUsed + (oc cA N T.heap.size 0).slots.size = _
    rw [oc_n]
    omega
  | succ i ih =>
    obtain ⟨a1, a2, a3, a4, a5, a6⟩ := ih
    have hlt : T.heap.size < (rwS T cA cC N i).heap.size := by omega
    have b2 : ((rwS T cA cC N i).pushCell (ic cC)).heap[T.heap.size]? = some (oc cA N T.heap.size i) := (State.heap_pushCell_of_lt _ _ hlt).trans a2
    refine ⟨?_, State.heap_setCell_self b2, a3, ?_, fun q hq => ?_, fun j hj => ?_⟩
    · have h1 : (rwS T cA cC N (i + 1)).heap.size = (rwS T cA cC N i).heap.size + 1 := by simp [rwS, State.setCell]
      omega
    · show (rwS T cA cC N i).slotsUsed + (ic cC).slots.size = _
      rw [ic_n]
      omega
    · show (((rwS T cA cC N i).pushCell (ic cC)).setCell T.heap.size _).heap[q]? = _
      have h1 : q < (rwS T cA cC N i).heap.size := by omega
      rw [State.heap_setCell_other (Nat.ne_of_gt hq), State.heap_pushCell_of_lt _ _ h1]
      exact a5 q hq
    · show (((rwS T cA cC N i).pushCell (ic cC)).setCell T.heap.size _).heap[T.heap.size + 1 + j]? = _
      rw [State.heap_setCell_other (show T.heap.size ≠ T.heap.size + 1 + j by omega)]
      by_cases e : j = i
      · subst e
        rw [← a1]
        exact State.heap_pushCell_size _ _
      · have h1 : T.heap.size + 1 + j < (rwS T cA cC N i).heap.size := by omega
        rw [State.heap_pushCell_of_lt _ _ h1]
        exact a6 j (by omega)
theorem rwS_top (T : State) (f : JFrame) (cA cC : ClassId) (N : Nat) : ∀ i, rwS (T.setTop f) cA cC N i = (rwS T cA cC N i).setTop f := by
  intro i
  induction i with
  | zero => rfl
  | succ i ih => simp only [rwS, ih, State.heap_setTop, State.pushCell_setTop, State.setCell_setTop]
section MXW
variable {E : CtlPost} {e : Env} {d : Bool} {acts : List Action} {U : State}
/-- one row is made -/
theorem wp_row {cC cc : ClassId} {kC : Class} (hk : U.vm.classes[cC]? = some kC) (hkind : kC.kind = .array cc .int) (hl : 16 ≤ e.platform.arrayLengthLimit) (hh : 64 ≤ e.platform.maxHeapBytes) (h1 : U.heap.size < e.platform.maxCells) (h2 : U.slotsUsed + 6 ≤ e.platform.maxSlots) {Q : Addr → Pre} (hq : ∀ acts', Q U.heap.size d acts' (U.pushCell (ic cC))) : wp (multianewarray.make cC [6]) Q E e d acts U := by
  have e6 : (6 : Int32).toNatClampNeg = 6 := by decide
  have e0 : ¬ (6 : Int32) < 0 := by decide
  rw [multianewarray.make]
  simp only [wp_bind', W.ite, e0, e6, if_false, wp_pure', W.theClass, hk, hkind, Option.some.injEq, exists_eq_left']
  refine W.newArray_of hk hkind (by omega) (by show ¬ 6 * 4 > _; omega) h1 h2 rfl (fun a => ?_)
  have h := hq a
  rw [← ic_0] at h
  exact h
/-- all rows are made -/
theorem wp_rows {cA cC cc : ClassId} {kA kC : Class} {n : Int32} {N : Nat} (hN : n.toNatClampNeg = N) (hn : ¬ n < 0) (hA : U.vm.classes[cA]? = some kA) (hkA : kA.kind = .array cC (.array .int)) (hC : U.vm.classes[cC]? = some kC) (hkC : kC.kind = .array cc .int) (h16 : N ≤ 16) (hl : 16 ≤ e.platform.arrayLengthLimit) (hh : 64 ≤ e.platform.maxHeapBytes) (h1 : U.heap.size + 1 + N ≤ e.platform.maxCells) (h2 : U.slotsUsed + N + 6 * N ≤ e.platform.maxSlots) {Q : Addr → Pre} (hq : ∀ d' acts', Q U.heap.size d' acts' (rwS U cA cC N N)) : wp (multianewarray.make cA [n, 6]) Q E e d acts U := by
  have hf : (([6] : List Int32).find? (· < 0)) = none := by decide
  rw [multianewarray.make]
  simp only [wp_bind', W.ite, hn, hN, if_false, wp_pure', W.theClass, hA, hkA, Option.some.injEq, exists_eq_left']
  refine W.newArray_of hA hkA (by omega) (by show ¬ N * 4 > _; omega) (by omega) (by omega) rfl (fun a => ?_)
  simp only [hf]
  rw [ite_self, wp_bind', Std.Legacy.Range.forIn_eq_forIn_range']
  rw [show ([:N] : Std.Legacy.Range).size = N by simp [Std.Legacy.Range.size]]
  show wp (forIn (List.range' 0 N 1) PUnit.unit _) _ E e d a _
  refine wp_forIn_inv (fun r V => ∃ i, i ≤ N ∧ r = List.range' i (N - i) ∧ V = rwS U cA cC N i) _ _ ⟨0, Nat.zero_le _, rfl, by rw [oc_0 cA N U.heap.size]; rfl⟩ ?_ ?_
  · rintro x r V d' a' Q' ⟨i, hi, hr, rfl⟩ hnext
    have hlt : i < N := by
      rcases Nat.lt_or_ge i N with h | h
      · exact h
      · rw [show N - i = 0 by omega] at hr
        cases hr
    rw [show N - i = (N - (i + 1)) + 1 by omega, List.range'_succ] at hr
    obtain ⟨rfl, hr2⟩ := List.cons.inj hr
    obtain ⟨f1, f2, f3, f4, -⟩ := rwS_f U cA cC N x
    simp only [wp_bind']
    refine wp_row (by rw [f3]; exact hC) hkC hl hh (by omega) (by omega) (fun a2 => ?_)
    simp only [wp_bind', W.writeLoc, wp_pure']
    have h9 : U.heap.size < (rwS U cA cC N x).heap.size := by omega
    refine ⟨oc cA N U.heap.size x, (State.heap_pushCell_of_lt _ _ h9).trans f2, (fun z => by cases z), by rw [oc_n]; exact hlt, ?_, hnext _ _ _ ⟨x + 1, hlt, hr2, ?_⟩⟩
    · simp [State.fitsSlot, State.slotType?, oc, arrV, f3, hA, hkA, fits]
    · rw [f1, oc_1]
      rfl
  · rintro V d' a' ⟨i, hi, hr, rfl⟩
    have hiN : i = N := by
      rcases Nat.lt_or_ge i N with h | h
      · rw [show N - i = (N - (i + 1)) + 1 by omega, List.range'_succ] at hr
        cases hr
      · omega
    subst hiN
    simp only [wp_pure']
    exact hq _ _
end MXW
section MXR
variable {p : Program} {l : Launch} {ev : Env} {R : Room} {s : State} {m : MethodId} {args : Array Value} {below : List Frame} {meth : Method} {c : Code} {T : State} {locs : List Loc} {cells slots : Nat}
theorem rwS_X (X : Stand p l ev R s m args below meth c T locs cells slots) (cA cC : ClassId) (N : Nat) : ∀ i, ∃ L : List Loc, (∀ z ∈ L, z.base = T.heap.size) ∧ Stand p l ev R s m args below meth c (rwS T cA cC N i) (locs ++ L) (cells + 1 + i) (slots + N + 6 * i) := by
  intro i
  induction i with
  | zero =>
    refine ⟨[], (fun z hz => absurd hz List.not_mem_nil), ?_⟩
    have h := X.pushed (oc cA N T.heap.size 0)
    rw [oc_n] at h
    rw [List.append_nil]
    exact h
  | succ i ih =>
    obtain ⟨L, hL, Xi⟩ := ih
    obtain ⟨a1, a2, -⟩ := rwS_f T cA cC N i
    have h9 : T.heap.size < (rwS T cA cC N i).heap.size := by omega
    have b2 : ((rwS T cA cC N i).pushCell (ic cC)).heap[T.heap.size]? = some (oc cA N T.heap.size i) := (State.heap_pushCell_of_lt _ _ h9).trans a2
    have h := (Xi.pushed (ic cC)).stored b2 i (.ref (T.heap.size + 1 + i))
    rw [oc_1, ic_n] at h
    refine ⟨L ++ [⟨T.heap.size, i⟩], fun z hz => ?_, ?_⟩
    · rcases List.mem_append.mp hz with h1 | h1
      · exact hL z h1
      · rw [List.mem_singleton] at h1
        rw [h1]
    · rw [← List.append_assoc, show slots + N + 6 * (i + 1) = slots + N + 6 * i + 6 by omega]
      exact h
/-- the instruction -/
theorem mx_new (X : Stand p l ev R s m args below meth c T locs cells slots) (hexec : p.tables.exec = Jvm.exec) {own : String} {index : Nat} (hown : s.vm.findClass own = some m.cls) (hclink : (Cond.classLink own index "[[I").before args s = true) (hover : AOI s) (harr : (Cond.arrayClass .int).before args s = true)
    {g : JFrame} (hg : g.method = m) (hdg : decode c.code g.pc = .ok (.multianewarray index 2, 4)) {n : Int32} {N : Nat} {rest : List Value} (hstack : g.stack = .int 6 :: .int n :: rest) (hn : ¬ n < 0) (hN : n.toNatClampNeg = N) (h16 : N ≤ 16) (hcells : cells + (1 + N) ≤ R.cells) (hslots : slots + (N + 6 * N) ≤ R.slots) :
    ∃ (vm₁ : Vm) (cA cC : ClassId), s.vm.findClass ("[" ++ (FieldType.array .int).toString) = some cA ∧ s.vm.findClass (FieldType.array .int).toString = some cC ∧ Stand p l ev R s m args below meth c (rwS (T.setVm vm₁) cA cC N N) locs (cells + 1 + N) (slots + N + 6 * N) ∧
      ∀ target, Steps p.tables ev below ((rwS (T.setVm vm₁) cA cC N N).setTop { g with pc := g.pc + 4, stack := .ref T.heap.size :: rest }) target → Steps p.tables ev below (T.setTop g) target := by
  subst hg
  have hpl : ev.platform.magicAccessors = ({} : Platform).magicAccessors := by rw [X.admits.platform]
  obtain ⟨comp, cA, kA, g1, -, g3, g4, g5⟩ := arrayOverA_spec (AOI.use (A := args) hover)
  obtain ⟨cC, kC, cc, q1, q2, q3⟩ := Cond.arrayClass_spec harr
  obtain rfl : comp = cC := Option.some.inj (g1.symm.trans q1)
  obtain ⟨c0, q4, hcl⟩ := Cond.classLink_spec hown hclink ev.platform hpl
  obtain rfl : cA = c0 := Option.some.inj (g5.symm.trans q4)
  obtain ⟨w1, w2, w3⟩ := State.classEntry (e := ev) X.warmed hcl
  generalize T.vm.noted g.method.cls index (.cls cA) = vm₁ at w1 w2 w3
  obtain ⟨kA1, a1, a2⟩ := w2.alike.2.2 _ _ g3
  obtain ⟨kC1, b1, b2⟩ := w2.alike.2.2 _ _ q2
  obtain ⟨r1, r2⟩ := X.roomAbove hcells hslots
  obtain ⟨L, hL, XF⟩ := rwS_X (X.noted w2) cA comp N N
  have hlim : 16 ≤ ev.platform.arrayLengthLimit := by
    rw [Launch.admits_arrayLengthLimit X.admits]
    exact Nat.le_of_ble_eq_true rfl
  have hmax : 64 ≤ ev.platform.maxHeapBytes := by
    rw [Launch.admits_maxHeapBytes X.admits]
    exact Nat.le_of_ble_eq_true rfl
  refine ⟨vm₁, cA, comp, g5, g1, Stand.forget (extra := L) XF (fun y hy => ?_), fun target hrest => ?_⟩
  · rw [hL y hy]
    exact X.heapGrown
  jvm_step X.here [hexec, hdg]
  simp only [multianewarray.sem, wp_bind', W.resolveClassAt_links (State.method?_setTop g X.here.top) w1]
  rw [W.popN, if_neg (by decide)]
  refine ⟨g, State.topJava?_setTop' (s := T.setVm vm₁) g X.here.top, [.int n, .int 6], rest, rfl, hstack, ?_⟩
  simp only [List.mapM_cons, List.mapM_nil, wp_bind', wp_pure']
  refine wp_rows hN hn (kA := kA1) (kC := kC1) (cc := cc) a1 (by rw [a2]; exact g4) b1 (by rw [b2]; exact q3) h16 hlim hmax (by show T.heap.size + 1 + N ≤ _; omega) (by show T.slotsUsed + N + 6 * N ≤ _; omega) (fun d' acts' => ?_)
  have eS : ((T.setTop g).setVm vm₁).setTop { g with stack := rest } = (T.setVm vm₁).setTop { g with stack := rest } := by
    show ((T.setVm vm₁).setTop g).setTop _ = _
    rw [State.setTop_setTop]
  rw [eS, rwS_top]
  simp only [wp_bind', W.mark, W.pushRef, State.topJava?_setTop' _ XF.here.top, Option.some.injEq, exists_eq_left', State.setTop_setTop, State.heap_setTop]
  intro a9
  simp [jvm, XF.here.top]
  exact hrest
end MXR
