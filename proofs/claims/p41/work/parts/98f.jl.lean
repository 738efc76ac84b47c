/-! the law's strings and builders -/
theorem inb_nI {x : Int32} {n : Nat} (h : inb x n) (hn : n < 2 ^ 31) : ∃ k, k < n ∧ x = nI k ∧ x.toNatClampNeg = k := by
  rcases pk_ix x hn with h1 | h1 | ⟨j, hj, rfl⟩
  · exact absurd h.1 (Int32.not_le.mpr h1)
  · exact absurd h.2 (Int32.not_lt.mpr h1)
  · exact ⟨j, hj, rfl, nI_clamp (by omega)⟩
theorem Str.to {a v : Nat} {bs : List Int32} {A B : Nat → Prop} {U : State} {H : Heap} (h : Str a v bs B U H) (ha : ¬ A a) (hv : ¬ A v) : Str a v bs A U H := by
  obtain ⟨⟨c1, x1, x2, x3, -⟩, ⟨cf1, k1, i1, f1, d1, y1, y2, y3, y4, y5, -⟩, ⟨cf2, k2, i2, f2, d2, z1, z2, z3, z4, z5, -⟩, ⟨c4, w1, w2, w3, w4, w5, w6, -⟩⟩ := h
  exact ⟨⟨c1, x1, x2, x3, ha⟩, ⟨cf1, k1, i1, f1, d1, y1, y2, y3, y4, y5, ha⟩, ⟨cf2, k2, i2, f2, d2, z1, z2, z3, z4, z5, ha⟩, ⟨c4, w1, w2, w3, w4, w5, w6, hv⟩⟩
theorem Str.lt {a v : Nat} {bs : List Int32} {B : Nat → Prop} {U : State} {H : Heap} (h : Str a v bs B U H) : (a < H.size ∧ v < H.size) ∧ ¬ B a ∧ ¬ B v := by
  obtain ⟨⟨c1, x1, -, -, x4⟩, -, -, ⟨c4, w1, -, -, -, -, -, w7⟩⟩ := h
  exact ⟨⟨(Array.getElem?_eq_some_iff.mp x1).1, (Array.getElem?_eq_some_iff.mp w1).1⟩, x4, w7⟩
theorem va_Zq.wide {C n d : String} {A : Nat → Prop} {U : State} {H : Heap} (h : va_Zq C n d A U H) : va_Zq C n d (fun x => A x ∨ H.size ≤ x) U H := h.elim (fun h => Or.inl h.wide) (fun ⟨t, h⟩ => Or.inr ⟨t, h.wide⟩)
def OW (a v : Nat) : Nat → Prop := fun x => x ≠ a ∧ x ≠ v
/-- a string of a text -/
def Sg (ad : Nat → Nat) (s : State) (a v : Nat) (T : List Int32) (H : Heap) : Prop := Str a v T (OW a v) s H ∧ (¬ AW 90 ad a ∧ ¬ AW 90 ad v) ∧ T.length ≤ 64 ∧ Fb (fun j => T.getD j 0)
/-- a builder's step: two cells alone, and new ones -/
def Ko (q b : Nat) (H H1 : Heap) : Prop := H.size ≤ H1.size ∧ ∀ x : Nat, x < H.size → x ≠ q → x ≠ b → H1[x]? = H[x]?
section SG
variable {ad : Nat → Nat} {s : State} {a v q b cap : Nat} {T T2 : List Int32} {H H1 : Heap} {D : va_G} {Y : Nat → ClassId} {f : Nat → Int32} {av av2 : List Nat}
theorem Sg.lt (h : Sg ad s a v T H) : a < H.size ∧ v < H.size := h.1.lt.1
theorem Sg.keep (h : Sg ad s a v T H) (k1 : H1[a]? = H[a]?) (k2 : H1[v]? = H[v]?) : Sg ad s a v T H1 := ⟨h.1.kept (fun x hx hn => by
  by_cases e : x = a
  · rw [e]; exact k1
  · by_cases e2 : x = v
    · rw [e2]; exact k2
    · exact absurd ⟨e, e2⟩ hn), h.2⟩
theorem Sg.kp (h : Sg ad s a v T H) (k : Kp ad H H1) : Sg ad s a v T H1 := h.keep (k.2 _ h.lt.1 h.2.1.1) (k.2 _ h.lt.2 h.2.1.2)
theorem Sg.ko (h : Sg ad s a v T H) (k : Ko q b H H1) (x1 : a ≠ q ∧ a ≠ b) (x2 : v ≠ q ∧ v ≠ b) : Sg ad s a v T H1 := h.keep (k.2 _ h.lt.1 x1.1 x1.2) (k.2 _ h.lt.2 x2.1 x2.2)
theorem AJ.ko {z n : Nat} {g : Nat → Int64} (h : AJ Y ad z n g H) (k : Ko q b H H1) (x : z ≠ q ∧ z ≠ b) : AJ Y ad z n g H1 := ⟨h.1, (k.2 z h.lt x.1 x.2).trans h.2⟩
theorem st_len64 : ∀ i, i < 33 → (stB i).length ≤ 64 := by decide +kernel
theorem st_b : ∀ i, i < 33 → ∀ x ∈ stB i, fits .byte (.int x) = true := by decide +kernel
theorem Fb_list {T : List Int32} (h : ∀ x ∈ T, fits .byte (.int x) = true) : Fb (fun j => T.getD j 0) := fun j => by
  show fits .byte (.int (T.getD j 0)) = true
  by_cases hj : j < T.length
  · rw [show T.getD j 0 = T[j] by simp [List.getD, hj]]
    exact h _ (List.getElem_mem hj)
  · rw [show T.getD j 0 = 0 by simp [List.getD, Nat.le_of_not_lt hj]]
    rfl
theorem ks_lt (hK : Ks ad (AW 90 ad) s s.heap) {i : Nat} (hi : i < 33) : ad (200 + i) < s.heap.size ∧ ad (300 + i) < s.heap.size := (hK.2.2.1 i hi).lt.1
theorem Sg.ks {locs : List Loc} (hK : Ks ad (AW 90 ad) s s.heap) (hS : va_S (AW 90 ad) s.heap H locs) {i : Nat} (hi : i < 33) : Sg ad s (ad (200 + i)) (ad (300 + i)) (stB i) H := by
  have h := (hK.2.2.1 i hi).kept hS.2.1
  have h2 := h.lt.2
  exact ⟨h.to (fun z => z.1 rfl) (fun z => z.2 rfl), h2, st_len64 i hi, Fb_list (st_b i hi)⟩
/-- a builder of a text; av: cells that are none of its own -/
def Bd (D : va_G) (Y : Nat → ClassId) (ad : Nat → Nat) (s : State) (q b cap : Nat) (f : Nat → Int32) (T : List Int32) (av : List Nat) (H : Heap) : Prop := (s.heap.size ≤ q ∧ s.heap.size ≤ b ∧ q ≠ b) ∧ (¬ AW 90 ad q ∧ ¬ AW 90 ad b) ∧ (T.length ≤ cap ∧ cap ≤ 128 ∧ Fb f ∧ Ct T f) ∧ (va_P D vwCl (wB Y q b T.length cap f) H ∧ T.length ≤ 64) ∧ ∀ x ∈ av, x < H.size ∧ x ≠ q ∧ x ≠ b
theorem Bd.lt (h : Bd D Y ad s q b cap f T av H) : q < H.size ∧ b < H.size := wB_lt h.2.2.2.1.1
theorem Bd.sub (h : Bd D Y ad s q b cap f T av H) (hs : ∀ x ∈ av2, x ∈ av) : Bd D Y ad s q b cap f T av2 H := ⟨h.1, h.2.1, h.2.2.1, h.2.2.2.1, fun x hx => h.2.2.2.2 x (hs x hx)⟩
theorem Bd.off (h : Bd D Y ad s q b cap f T av H) {x : Nat} (hx : x ∈ av) : x ≠ q ∧ x ≠ b := (h.2.2.2.2 x hx).2
theorem Bd.keep (h : Bd D Y ad s q b cap f T av H) (hz : H.size ≤ H1.size) (k1 : H1[q]? = H[q]?) (k2 : H1[b]? = H[b]?) : Bd D Y ad s q b cap f T av H1 := ⟨h.1, h.2.1, h.2.2.1, ⟨at_P2 ((h.2.2.2.1.1 0 _ rfl).kept k1) ((h.2.2.2.1.1 1 _ rfl).kept k2), h.2.2.2.1.2⟩, fun x hx => ⟨Nat.lt_of_lt_of_le (h.2.2.2.2 x hx).1 hz, (h.2.2.2.2 x hx).2⟩⟩
theorem Bd.kp (h : Bd D Y ad s q b cap f T av H) (k : Kp ad H H1) : Bd D Y ad s q b cap f T av H1 := h.keep k.1 (k.2 _ h.lt.1 h.2.1.1) (k.2 _ h.lt.2 h.2.1.2)
theorem Bd.ko {q2 b2 : Nat} (h : Bd D Y ad s q b cap f T av H) (k : Ko q2 b2 H H1) (x1 : q ≠ q2 ∧ q ≠ b2) (x2 : b ≠ q2 ∧ b ≠ b2) : Bd D Y ad s q b cap f T av H1 := h.keep k.1 (k.2 _ h.lt.1 x1.1 x1.2) (k.2 _ h.lt.2 x2.1 x2.2)
theorem Bd.cons (h : Bd D Y ad s q b cap f T av H) {x : Nat} (h0 : x < H.size) (h1 : x ≠ q) (h2 : x ≠ b) : Bd D Y ad s q b cap f T (x :: av) H := ⟨h.1, h.2.1, h.2.2.1, h.2.2.2.1, fun y hy => by
  rcases List.mem_cons.mp hy with rfl | hy
  · exact ⟨h0, h1, h2⟩
  · exact h.2.2.2.2 y hy⟩
theorem Bd.old (h : Bd D Y ad s q b cap f T av H) {x : Nat} (hx : x < s.heap.size) : Bd D Y ad s q b cap f T (x :: av) H := h.cons (by have := h.lt; have := h.1; omega) (by have := h.1; omega) (by have := h.1; omega)
theorem jk_at {locs : List Loc} (hJ : Jk (AW 90 ad) s s.heap) (hS : va_S (AW 90 ad) s.heap H locs) (hq : s.heap.size ≤ q) (hb : s.heap.size ≤ b) : Jk (AB q b H.size) s H :=
  (hJ.wide.kept (H1 := H) (fun x hx hn => hS.2.1 x hx (fun z => hn (Or.inl z)))).narrow (fun x z => Or.inr (by
    rcases z with rfl | rfl | z
    · exact hq
    · exact hb
    · exact Nat.le_trans hS.1 z))
theorem bd_ΦB {locs : List Loc} (hJ : Jk (AW 90 ad) s s.heap) (hS : va_S (AW 90 ad) s.heap H locs) (h : Bd D Y ad s q b cap f T av H) : ΦB D Y q b T.length cap f H.size s H := ⟨⟨rfl, h.1.2.2, h.2.2.1.1, h.2.2.1.2.1, h.2.2.1.2.2.1, h.2.2.2.1.1⟩, jk_at hJ hS h.1.1 h.1.2.1⟩
theorem bd_ΦT {locs : List Loc} (hK : Ks ad (AW 90 ad) s s.heap) (hJ : Jk (AW 90 ad) s s.heap) (hS : va_S (AW 90 ad) s.heap H locs) (h : Bd D Y ad s q b cap f T av H) (hA : Sg ad s a v T2 H) (ha : a ≠ q ∧ a ≠ b) (hv : v ≠ q ∧ v ≠ b) : ΦT (AB q b H.size) a v T2 s H := by
  have hl := hA.lt
  refine ⟨(jk_at hJ hS h.1.1 h.1.2.1).1, (hK.2.2.2.2.1.2.1.wide.kept (H1 := H) (fun x hx hn => hS.2.1 x hx (fun z => hn (Or.inl z)))).narrow (fun x z => Or.inr (by
    rcases z with rfl | rfl | z
    · exact h.1.1
    · exact h.1.2.1
    · exact Nat.le_trans hS.1 z)), hA.1.to (fun z => by
    rcases z with z | z | z
    · exact ha.1 z
    · exact ha.2 z
    · omega) (fun z => by
    rcases z with z | z | z
    · exact hv.1 z
    · exact hv.2 z
    · omega), by have := hA.2.2.1; omega, hA.2.2.2⟩
theorem st_Φ {locs : List Loc} (hK : Ks ad (AW 90 ad) s s.heap) (hS : va_S (AW 90 ad) s.heap H locs) (hA : Sg ad s a v T H) : ΦS a v T s H := ⟨(hK.2.2.2.2.1.1.kept hS.2.1).narrow (fun _ z => z.elim), (hK.2.2.2.2.1.2.1.kept hS.2.1).narrow (fun _ z => z.elim), hA.1.to (fun z => z) (fun z => z), by have := hA.2.2.1; omega⟩
/-! what a method finds: a string; what builders want -/
def PhS (ad : Nat → Nat) (a v : Nat) (T : List Int32) : State → Prop := fun U => Sg ad U a v T U.heap
theorem Sg.moved {U : State} (hvm : s.vm.Alike U.vm) (h : Sg ad s a v T H) : Sg ad U a v T H := ⟨Str.moved hvm h.1, h.2⟩
theorem phS_b : PhB (PhS ad a v T) := fun U g mk x h => Sg.moved (s := U) (U := U.calling g mk x) (Vm.Alike.refl U.vm) h
theorem phS_o (h : Sg ad s a v T H) : ∀ U : State, U.heap = H → s.WarmedH U.vm → PhS ad a v T U := fun U hU hW => by
  unfold PhS
  rw [hU]
  exact Sg.moved hW.alike h
def PhJ (ad : Nat → Nat) : State → Prop := fun U => Jk (AW 90 ad) U U.heap
theorem phJ_b : PhB (PhJ ad) := fun U g mk x h => Jk.call (U := U) h
theorem phJ_o {locs : List Loc} (h : Jk (AW 90 ad) s s.heap) (hS : va_S (AW 90 ad) s.heap H locs) : ∀ U : State, U.heap = H → s.WarmedH U.vm → PhJ ad U := fun U hU hW => by
  unfold PhJ
  rw [hU]
  exact (h.kept hS.2.1).warm hW
def PhXJ (ad : Nat → Nat) (b L : Nat) (xs : Nat → Int32) : State → Prop := fun U => PhX ad b L xs U ∧ PhJ ad U
theorem phXJ_b {b L : Nat} {xs : Nat → Int32} : PhB (PhXJ ad b L xs) := fun U g mk x h => ⟨phX_b U g mk x h.1, phJ_b U g mk x h.2⟩
end SG
theorem hfs4 : ∀ j, j < 4 → defaultValue (tyJ4 j) = vp_V fs0 j := fun j hj => by
  obtain rfl | rfl | rfl | rfl : j = 0 ∨ j = 1 ∨ j = 2 ∨ j = 3 := by omega
  · rfl
  · rfl
  · rfl
  · rfl
section BDR
variable {p : Program} {l : Launch} {ev : Env} {R : Room} {s : State} {m : MethodId} {args : Array Value} {below : List Frame} {meth : Method} {c : Code} {H : Heap} {locs : List Loc} {cells slots mc B B' : Nat} {Q : State → Prop}
variable {cc : ByteArray} {pc nL idx dd : Nat} {ls : Array Slot} {rest st0 : List Value} {own : String} {D : va_G} {Y : Nat → ClassId} {ad : Nat → Nat} {G G' : GT} {q b cap a v : Nat} {f : Nat → Int32} {T T2 : List Int32} {av : List Nat}
/-- behind a call that writes new cells alone -/
theorem j_goL {m' k' : Nat} {A : Nat → Prop} {Post : Option Value → State → State → Prop} {Qa : State → Outcome → State → Prop} (hrun : CallRun p l ev R s m args below meth c H locs cells slots m' k' (F0 m pc ls st0) rest Qa A) (hQ : ∀ st o t, Qa st o t → ∃ v, o = .returned v ∧ Post v st t ∧ va_F A st t) (hA : ∀ x, A x → s.heap.size ≤ x)
    (kk : ∀ (v : Option Value) (st t : State) (H1 : Heap), st.heap = H → t.heap = H1 → Post v st t → H.size ≤ H1.size → (∀ x : Nat, x < H.size → ¬ A x → H1[x]? = H[x]?) → W p l ev R s m args below meth c H1 locs (cells + m') (slots + k') Q (F0 m (pc + 3) ls (v.toList ++ rest))) : W p l ev R s m args below meth c H locs cells slots Q (F0 m pc ls st0) := by
  intro T hT X
  obtain ⟨v, st₀, t, T', L, h0, X', hL, e1, hq, st⟩ := hrun T hT X
  obtain ⟨v', ho, hp, hz, hk⟩ := hQ _ _ _ hq
  cases ho
  rw [h0] at hz hk
  obtain ⟨t2, a1, c1⟩ := kk v st₀ t t.heap h0 rfl hp hz hk T' e1 (Stand.forget (locs := locs) (extra := L) X' (fun y hy => hA _ (hL y hy)))
  exact ⟨t2, st t2 a1, c1⟩
theorem ko_P (hP : va_P D vwCl (wsC Y ad G) H) {H1 : Heap} (hq : ¬ AW 90 ad q) (hb : ¬ AW 90 ad b) (k : Ko q b H H1) : va_P D vwCl (wsC Y ad G) H1 := wsW_kept hP (fun i hi => k.2 _ ((hP i _ (wsW_get i hi)).lt) (fun z => hq ⟨i, hi, z⟩) (fun z => hb ⟨i, hi, z⟩))
theorem ko_S {A : Nat → Prop} (hS : va_S A s.heap H locs) {H1 : Heap} (hq : s.heap.size ≤ q) (hb : s.heap.size ≤ b) (k : Ko q b H H1) : va_S A s.heap H1 locs := ⟨Nat.le_trans hS.1 k.1, fun z h1 h2 => (k.2 z (Nat.lt_of_lt_of_le h1 hS.1) (by omega) (by omega)).trans (hS.2.1 z h1 h2), hS.2.2⟩
/-- an append -/
theorem bd_go {y : MethodName} {bb : ByteArray} {n ar d : Nat} {ret : Option FieldType} {As : List Value} {Φ : State → Heap → Prop} (F : Fx p c cc nL s m args own D Y) (hMv : Mv Φ) (hΦ : Φ s H) (hP : va_P D vwCl (wsC Y ad G) H) (hS : va_S (AW 90 ad) s.heap H locs) (hB : Bg mc cells slots B) (hD : Bd D Y ad s q b cap f T av H) (h64 : T2.length ≤ 64) (k : CKV y bb n ret ar) (hcl : y.cls = RJ4) (hl : Cond.methodLink own idx y ∈ LW)
    (hM : JM l y bb n ret d 1 128 D Y Φ (.ref q :: As) (PaQ D Y q b H.size T2) (AB q b H.size)) (hn : As.length = ar) (hsz : ls.size = nL) (hR : d + 1 ≤ dd ∧ 8 + (n + 11) + 40 * d ≤ 40 * dd) (hst : st0 = As.reverse ++ .ref q :: rest) (hcat : (rest.map fun v => v.category).sum ≤ 8) (hb : 8 + B' ≤ B) (hdg : decode cc pc = .ok (.invokevirtual idx, 3))
    (kk : ∀ (b1 cap1 : Nat) (f1 : Nat → Int32) (H1 : Heap) (cells1 slots1 : Nat), Bd D Y ad s q b1 cap1 f1 T2 av H1 → Ko q b H H1 → va_P D vwCl (wsC Y ad G) H1 → va_S (AW 90 ad) s.heap H1 locs → Bg mc cells1 slots1 B' → W p l ev (rmD dd mc (16 * mc)) s m args below meth c H1 locs cells1 slots1 Q (F0 m (pc + 3) ls (.ref q :: rest))) : W p l ev (rmD dd mc (16 * mc)) s m args below meth c H locs cells slots Q (F0 m pc ls st0) := by
  subst hst
  have hg : Bg mc (cells + 1) (slots + 128) B' ∧ cells + 1 ≤ mc ∧ slots + 128 ≤ 16 * mc := by
    unfold Bg at *
    omega
  have k2 : CKC RJ4 s y bb n ret ar := by
    rw [← hcl]
    exact ckc_V F.1.2.2.2.2 k
  have hlt := hD.lt
  have h1 := hD.1
  refine j_goL (W.runV (As := As) (rest := rest) F.1 hM (ck_C F.1.2.2.2.2 k2 hl rfl rfl hR) ⟨PE.blind hMv, b_rec F hD.2.2.2.1.1, fun U hU hW => ⟨rfl, PE.of hMv F.2 hΦ hU hW⟩⟩ rfl hn hsz (g := F0 m pc ls (As.reverse ++ .ref q :: rest)) rfl (lv_room (m := m) (pc := pc) (ls := ls) (rest := As.reverse ++ .ref q :: rest) hcat) hdg hg.2) (fun _ _ _ h => h) (fun x z => by
    have := hS.1
    rcases z with z | z | z <;> omega) (fun v st t H1 e0 e1 hp hz hq => ?_)
  obtain ⟨rfl, b1, cap1, f1, g1, g2, g3, g4, g5, g6, g7⟩ := hp
  rw [e1] at g7
  have hko : Ko q b H H1 := ⟨hz, fun x hx n1 n2 => hq x hx (fun z => by
    rcases z with z | z | z
    · exact n1 z
    · exact n2 z
    · omega)⟩
  have hs1 : s.heap.size ≤ b1 := by
    have := hS.1
    rcases g1 with g1 | g1 <;> omega
  have ha1 : ¬ AW 90 ad b1 := by
    rcases g1 with g1 | g1
    · rw [g1]; exact hD.2.1.2
    · exact notAW hP g1
  refine kk b1 cap1 f1 H1 _ _ ⟨⟨h1.1, hs1, g2⟩, ⟨hD.2.1.1, ha1⟩, ⟨g3, g4, g5, g6⟩, ⟨g7, h64⟩, fun x hx => ?_⟩ hko (ko_P hP hD.2.1.1 hD.2.1.2 hko) (ko_S hS h1.1 h1.2.1 hko) hg.1
  obtain ⟨x1, x2, x3⟩ := hD.2.2.2.2 x hx
  refine ⟨by omega, x2, ?_⟩
  rcases g1 with g1 | g1 <;> omega
theorem bd_S (F : Fx p c cc nL s m args RL D Y) (hK : Ks ad (AW 90 ad) s s.heap) (hJ : Jk (AW 90 ad) s s.heap) (hP : va_P D vwCl (wsC Y ad G) H) (hS : va_S (AW 90 ad) s.heap H locs) (hB : Bg mc cells slots B) (hD : Bd D Y ad s q b cap f T av H) (hA : Sg ad s a v T2 H) (ha : a ∈ av) (hv : v ∈ av) (h64 : T.length + T2.length ≤ 64) (hsz : ls.size = nL) (hR : 7 ≤ dd) (hcat : (rest.map fun v => v.category).sum ≤ 8) (hb : 8 + B' ≤ B) (hdg : decode cc pc = .ok (.invokevirtual 267, 3))
    (kk : ∀ (b1 cap1 : Nat) (f1 : Nat → Int32) (H1 : Heap) (cells1 slots1 : Nat), Bd D Y ad s q b1 cap1 f1 (T ++ T2) av H1 → Ko q b H H1 → va_P D vwCl (wsC Y ad G) H1 → va_S (AW 90 ad) s.heap H1 locs → Bg mc cells1 slots1 B' → W p l ev (rmD dd mc (16 * mc)) s m args below meth c H1 locs cells1 slots1 Q (F0 m (pc + 3) ls (.ref q :: rest))) : W p l ev (rmD dd mc (16 * mc)) s m args below meth c H locs cells slots Q (F0 m pc ls (.ref a :: .ref q :: rest)) :=
  bd_go (As := [.ref a]) F (mv_and ΦB_mv ΦT_mv) ⟨bd_ΦB hJ hS hD, bd_ΦT hK hJ hS hD hA (hD.off ha) (hD.off hv)⟩ hP hS hB hD (by rw [List.length_append]; exact h64) k_J4_append_15ec4 rfl mw_1103 (q_apS l D Y hD.2.2.1.2.2.2 h64) rfl hsz ⟨hR, by omega⟩ rfl hcat hb hdg kk
theorem bd_C (F : Fx p c cc nL s m args RL D Y) (hJ : Jk (AW 90 ad) s s.heap) (hP : va_P D vwCl (wsC Y ad G) H) (hS : va_S (AW 90 ad) s.heap H locs) (hB : Bg mc cells slots B) (hD : Bd D Y ad s q b cap f T av H) {x : Int32} (hx : inb x 128) (h64 : T.length + 1 ≤ 64) (hsz : ls.size = nL) (hR : 7 ≤ dd) (hcat : (rest.map fun v => v.category).sum ≤ 8) (hb : 8 + B' ≤ B) (hdg : decode cc pc = .ok (.invokevirtual 272, 3))
    (kk : ∀ (b1 cap1 : Nat) (f1 : Nat → Int32) (H1 : Heap) (cells1 slots1 : Nat), Bd D Y ad s q b1 cap1 f1 (T ++ [x]) av H1 → Ko q b H H1 → va_P D vwCl (wsC Y ad G) H1 → va_S (AW 90 ad) s.heap H1 locs → Bg mc cells1 slots1 B' → W p l ev (rmD dd mc (16 * mc)) s m args below meth c H1 locs cells1 slots1 Q (F0 m (pc + 3) ls (.ref q :: rest))) : W p l ev (rmD dd mc (16 * mc)) s m args below meth c H locs cells slots Q (F0 m pc ls (.int x :: .ref q :: rest)) := by
  obtain ⟨k, hk, rfl, -⟩ := inb_nI hx (by decide)
  exact bd_go (As := [.int (nI k)]) F ΦB_mv (bd_ΦB hJ hS hD) hP hS hB hD (by rw [List.length_append]; exact h64) k_J4_append_cf468 rfl mw_1220 (q_apC l D Y hD.2.2.1.2.2.2 h64 hk) rfl hsz ⟨hR, by omega⟩ rfl hcat hb hdg kk
theorem bd_I (F : Fx p c cc nL s m args RL D Y) (hJ : Jk (AW 90 ad) s s.heap) (hP : va_P D vwCl (wsC Y ad G) H) (hS : va_S (AW 90 ad) s.heap H locs) (hB : Bg mc cells slots B) (hD : Bd D Y ad s q b cap f T av H) {x : Int32} (hx : inb x 100) (h64 : T.length + (dgs x.toNatClampNeg).length ≤ 64) (hsz : ls.size = nL) (hR : 7 ≤ dd) (hcat : (rest.map fun v => v.category).sum ≤ 8) (hb : 8 + B' ≤ B) (hdg : decode cc pc = .ok (.invokevirtual 275, 3))
    (kk : ∀ (b1 cap1 : Nat) (f1 : Nat → Int32) (H1 : Heap) (cells1 slots1 : Nat), Bd D Y ad s q b1 cap1 f1 (T ++ dgs x.toNatClampNeg) av H1 → Ko q b H H1 → va_P D vwCl (wsC Y ad G) H1 → va_S (AW 90 ad) s.heap H1 locs → Bg mc cells1 slots1 B' → W p l ev (rmD dd mc (16 * mc)) s m args below meth c H1 locs cells1 slots1 Q (F0 m (pc + 3) ls (.ref q :: rest))) : W p l ev (rmD dd mc (16 * mc)) s m args below meth c H locs cells slots Q (F0 m pc ls (.int x :: .ref q :: rest)) := by
  obtain ⟨k, hk, rfl, hk2⟩ := inb_nI hx (by decide)
  rw [hk2] at h64 kk
  exact bd_go (As := [.int (nI k)]) F ΦB_mv (bd_ΦB hJ hS hD) hP hS hB hD (by rw [List.length_append]; exact h64) k_J4_append_bf812 rfl mw_1242 (q_apI l D Y hD.2.2.1.2.2.2 h64 hk) rfl hsz ⟨hR, by omega⟩ rfl hcat hb hdg kk
/-- toString -/
theorem bd_T (F : Fx p c cc nL s m args RL D Y) (hJ : Jk (AW 90 ad) s s.heap) (hP : va_P D vwCl (wsC Y ad G) H) (hS : va_S (AW 90 ad) s.heap H locs) (hB : Bg mc cells slots B) (hD : Bd D Y ad s q b cap f T av H) (hsz : ls.size = nL) (hR : 7 ≤ dd) (hcat : (rest.map fun v => v.category).sum ≤ 8) (hb : 9 + B' ≤ B) (hdg : decode cc pc = .ok (.invokevirtual 280, 3))
    (kk : ∀ (a v : Nat) (H1 : Heap) (cells1 slots1 : Nat), Sg ad s a v T H1 → H.size ≤ a ∧ H.size ≤ v → Ko q b H H1 → va_P D vwCl (wsC Y ad G) H1 → va_S (AW 90 ad) s.heap H1 locs → Bg mc cells1 slots1 B' → W p l ev (rmD dd mc (16 * mc)) s m args below meth c H1 locs cells1 slots1 Q (F0 m (pc + 3) ls (.ref a :: rest))) : W p l ev (rmD dd mc (16 * mc)) s m args below meth c H locs cells slots Q (F0 m pc ls (.ref q :: rest)) := by
  have hg : Bg mc (cells + 2) (slots + 132) B' ∧ cells + 2 ≤ mc ∧ slots + 132 ≤ 16 * mc := by
    unfold Bg at *
    omega
  have hlt := hD.lt
  have h1 := hD.1
  refine j_goL (W.runV (As := []) (rest := rest) F.1 (q_tos l D Y (q := q) (b := b) (cap := cap) (sz := H.size) (f := f) (t := T)) (ck_C F.1.2.2.2.2 (ckc_V F.1.2.2.2.2 k_J4_toString_0e30d) mw_1268 rfl rfl ⟨by show 5 + 1 ≤ dd; omega, by show 8 + (1 + 11) + 40 * 5 ≤ 40 * dd; omega⟩) ⟨PE.blind ΦB_mv, b_rec F hD.2.2.2.1.1, fun U hU hW => ⟨rfl, PE.of ΦB_mv F.2 (bd_ΦB hJ hS hD) hU hW⟩⟩ rfl rfl hsz (g := F0 m pc ls (.ref q :: rest)) rfl (lv_room (m := m) (pc := pc) (ls := ls) (rest := .ref q :: rest) hcat) hdg hg.2) (fun _ _ _ h => h) (fun x z => by
    have := hS.1
    rcases z with z | z | z <;> omega) (fun v st t H1 e0 e1 hp hz hq => ?_)
  obtain ⟨a, r, f', rfl, g1, g2, g3, g4, g5⟩ := hp
  rw [e1] at g5
  have hko : Ko q b H H1 := ⟨hz, fun x hx n1 n2 => hq x hx (fun z => by
    rcases z with z | z | z
    · exact n1 z
    · exact n2 z
    · omega)⟩
  refine kk a r H1 _ _ ⟨Str_of F g5 (Ct_ext hD.2.2.1.2.2.2 g4) (fun z => z.1 rfl) (fun z => z.2 rfl), ⟨notAW hP g1, notAW hP g2⟩, hD.2.2.2.1.2, fun j => ?_⟩ ⟨g1, g2⟩ hko (ko_P hP hD.2.1.1 hD.2.1.2 hko) (ko_S hS h1.1 h1.2.1 hko) hg.1
  by_cases hj : j < T.length
  · show fits .byte (.int (T.getD j 0)) = true
    rw [← hD.2.2.1.2.2.2 j hj]
    exact hD.2.2.1.2.2.1 j
  · show fits .byte (.int (T.getD j 0)) = true
    rw [show T.getD j 0 = 0 by simp [List.getD, Nat.le_of_not_lt hj]]
    rfl
/-- a new builder -/
theorem bd_N (av : List Nat) (F : Fx p c cc nL s m args RL D Y) (hJ : Jk (AW 90 ad) s s.heap) (hP : va_P D vwCl (wsC Y ad G) H) (hS : va_S (AW 90 ad) s.heap H locs) (hB : Bg mc cells slots B) (hav : ∀ x ∈ av, x < H.size) (hsz : ls.size = nL) (hR : 7 ≤ dd) (hcat : (rest.map fun v => v.category).sum ≤ 7) (hb : 2 + B' ≤ B) (hd1 : decode cc pc = .ok (.new 264, 3)) (hd2 : decode cc (pc + 3) = .ok (.dup, 1)) (hd3 : decode cc (pc + 3 + 1) = .ok (.invokespecial 266, 3))
    (kk : ∀ (q b cap : Nat) (f : Nat → Int32) (H1 : Heap) (cells1 slots1 : Nat), Bd D Y ad s q b cap f [] av H1 → Kp ad H H1 → va_P D vwCl (wsC Y ad G) H1 → va_S (AW 90 ad) s.heap H1 locs → Bg mc cells1 slots1 B' → W p l ev (rmD dd mc (16 * mc)) s m args below meth c H1 locs cells1 slots1 Q (F0 m (pc + 3 + 1 + 3) ls (.ref q :: rest))) : W p l ev (rmD dd mc (16 * mc)) s m args below meth c H locs cells slots Q (F0 m pc ls rest) := by
  have hg : Bg mc (cells + 1 + 1) (slots + 4 + 16) B' ∧ cells + 1 + 1 ≤ mc ∧ slots + 4 + 16 ≤ 16 * mc := by
    unfold Bg at *
    omega
  have hx := F.1.1
  have hb := F.1.2.1
  have hts := F.1.2.2.2.2
  have hKn := F.2.1.1 11 _ cl11
  refine W.newcK hx hb F.1.2.2.2.1 (hts _ mw_1072) (hts _ mw_1073) (hts _ mw_24) rfl hd1 (by show cells + 1 ≤ mc; omega) (by show slots + 4 ≤ 16 * mc; omega) hKn.2.1 rfl fun H1 kC hkC e1 z1 o1 => ?_
  have hat : va_P D vwCl [(H.size, .inr (11, fs0))] H1 := at_P ⟨_, cl11, (u_born tyJ4 hts i_J4 hKn hkC e1 tyJ4_ok).to hfs4⟩
  have hP1 := ext_P hP o1
  have hS1 := kpS hS (by omega) o1
  refine lv_dup hx hb hd2 rfl ?_
  have hΦ : ΦI D H.size H1.size s H1 := ⟨⟨rfl, hat⟩, jk_at hJ hS1 hS.1 hS.1⟩
  have hsz1 := hS.1
  refine j_goL (run_of (va_runI (As := []) (rest := .ref H.size :: rest) F.1 (q_binit l D Y (q := H.size) (sz := H1.size)) ⟨callB_of (ws' := LW) 0 hts (LW_goodc mw_1076) rfl rfl rfl (hts _ mw_24) (hts _ mw_1074) (by decide +kernel) ⟨by show 2 + 1 ≤ dd; omega, by show 8 + (1 + 11) + 40 * 2 ≤ 40 * dd; omega⟩, rfl, hts _ mw_1075⟩ ⟨PE.blind ΦI_mv, fun U hU hW => ⟨rfl, PE.of ΦI_mv F.2 hΦ hU hW⟩⟩ rfl rfl hsz (g := F0 m (pc + 3 + 1) ls (.ref H.size :: .ref H.size :: rest)) rfl (lv_room (m := m) (pc := pc + 3 + 1) (ls := ls) (rest := .ref H.size :: .ref H.size :: rest) (by show 1 + (rest.map fun v => v.category).sum ≤ 8; omega)) hd3 ⟨hg.2.1, hg.2.2⟩)) (fun _ _ _ h => h) (fun x z => by
    rcases z with z | z | z <;> omega) (fun v st t H2 e0 e2 hp hz hq => ?_)
  obtain ⟨rfl, g1⟩ := hp
  rw [e2] at g1
  have o2 : ∀ x : Nat, x < H.size → H2[x]? = H[x]? := fun x hx => (hq x (by omega) (fun z => by rcases z with z | z | z <;> omega)).trans (o1 x hx)
  have hl2 := wB_lt g1
  refine kk H.size H1.size 16 (fun _ => 0) H2 _ _ ⟨⟨hsz1, by omega, by omega⟩, ⟨notAW hP (Nat.le_refl _), notAW hP (by omega)⟩, ⟨by decide, by decide, Fb_0, fun j hj => by cases hj⟩, ⟨g1, by decide⟩, fun x hx => ?_⟩ ⟨by omega, fun x hx _ => o2 x hx⟩ (ext_P hP o2) (kpS hS (by omega) o2) hg.1
  have := hav x hx
  omega
/-- strings read -/
theorem st_len (F : Fx p c cc nL s m args RL D Y) (hK : Ks ad (AW 90 ad) s s.heap) (hS : va_S (AW 90 ad) s.heap H locs) (hB : Bg mc cells slots B) (hA : Sg ad s a v T H) (hsz : ls.size = nL) (hR : 2 ≤ dd) (hcat : (rest.map fun v => v.category).sum ≤ 8) (hdg : decode cc pc = .ok (.invokevirtual 109, 3))
    (kk : W p l ev (rmD dd mc (16 * mc)) s m args below meth c H locs cells slots Q (F0 m (pc + 3) ls (.int (nI T.length) :: rest))) : W p l ev (rmD dd mc (16 * mc)) s m args below meth c H locs cells slots Q (F0 m pc ls (.ref a :: rest)) :=
  jr_V (As := []) F ΦS_mv (st_Φ hK hS hA) (ckc_V F.1.2.2.2.2 k_J0_length_8abf5) mw_1365 (ΦS_rec (st_Φ hK hS hA)) (s_length l D Y) rfl hsz ⟨hR, by show 8 + (1 + 11) + 40 * 1 ≤ 40 * dd; omega⟩ (rest := rest) rfl hcat hB.hc hdg (fun _ => kk)
theorem st_chr {i : Int32} (F : Fx p c cc nL s m args RL D Y) (hK : Ks ad (AW 90 ad) s s.heap) (hS : va_S (AW 90 ad) s.heap H locs) (hB : Bg mc cells slots B) (hA : Sg ad s a v T H) (hi : inb i T.length) (hsz : ls.size = nL) (hR : 4 ≤ dd) (hcat : (rest.map fun v => v.category).sum ≤ 8) (hdg : decode cc pc = .ok (.invokevirtual 114, 3))
    (kk : W p l ev (rmD dd mc (16 * mc)) s m args below meth c H locs cells slots Q (F0 m (pc + 3) ls (.int (chT T i) :: rest))) : W p l ev (rmD dd mc (16 * mc)) s m args below meth c H locs cells slots Q (F0 m pc ls (.int i :: .ref a :: rest)) :=
  jr_V (As := [.int i]) F ΦS_mv (st_Φ hK hS hA) (ckc_V F.1.2.2.2.2 k_J0_charAt_5068e) mw_1382 (ΦS_rec (st_Φ hK hS hA)) (s_charAt l D Y i (Int32.not_lt.mpr hi.1) hi.2) rfl hsz ⟨hR, by show 8 + (2 + 11) + 40 * 3 ≤ 40 * dd; omega⟩ (rest := rest) rfl hcat hB.hc hdg (fun _ => kk)
end BDR
