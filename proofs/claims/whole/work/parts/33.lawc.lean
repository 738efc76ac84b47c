/-! the law: what it finds, what its calls do -/
def LA (n0 : Nat) : Nat → Prop := fun q => n0 ≤ q
def Dj (ad am : Nat → Nat) (o od n0 : Nat) : Prop := Inj 90 ad ∧ Inj 8 am ∧ (∀ i, i < 90 → n0 ≤ ad i) ∧ (∀ i, i < 8 → n0 ≤ am i) ∧ n0 ≤ o ∧ n0 ≤ od ∧ (∀ i j, i < 90 → j < 8 → ad i ≠ am j) ∧ ¬ AW 90 ad o ∧ ¬ AW 90 ad od ∧ ¬ AW 8 am o ∧ ¬ AW 8 am od ∧ o ≠ od
def LWd (D : va_G) (Y : Nat → ClassId) (ad am : Nat → Nat) (o od : Nat) (G K : GT) (H : Heap) : Prop := va_P D vwCl (wsC Y ad G) H ∧ va_P D vwCl (wsM Y am K) H ∧ (∃ f, va_at D vwCl (o, oL Y f) H) ∧ ∃ f, va_at D vwCl (od, oD Y f) H
def LEn (s : State) (ad am : Nat → Nat) (o od n0 b L : Nat) (xs : Nat → Int32) : Prop := s.heap.size = n0 ∧ Dj ad am o od n0 ∧ Ks ad (LA n0) s s.heap ∧ Ncs s ∧ va_X b L xs s s.heap ∧ b < n0
def bz (v : Int32) : Int32 := if v = 0 then 0 else 1
def chr (v : Int32) : Int32 := (v.toUInt32 % 65536).toInt32
theorem at_lt {D : va_G} {q : Nat × va_E} {H : Heap} (h : va_at D vwCl q H) : q.1 < H.size := h.lt
theorem cod0 {α : Type} {ks : List Nat} {R : Nat ⊕ α} (hk : ks.length < 100) (h : cod ks R = 0) : ∃ v, R = .inr v := by
  cases R with
  | inr v => exact ⟨v, rfl⟩
  | inl k =>
    have h1 : nI (1 + ks.idxOf k) = 0 := h
    have h2 : ks.idxOf k ≤ ks.length := List.idxOf_le_length
    have h3 := congrArg Int32.toInt h1
    rw [nI_toInt (by omega)] at h3
    have h4 : ((1 + ks.idxOf k : Nat) : Int) = 0 := h3
    omega
theorem lgc_self (x : Int64) : lg_cmp x x = 0 := by
  unfold lg_cmp
  simp
section LAR
variable {p : Program} {l : Launch} {ev : Env} {R : Room} {s : State} {m : MethodId} {args : Array Value} {below : List Frame} {meth : Method} {c : Code} {H : Heap} {locs : List Loc} {cells slots : Nat} {Q : State → Prop}
variable {cc : ByteArray} {pc nL idx : Nat} {ls : Array Slot} {rest st0 : List Value} {own : String} {D : va_G} {Y : Nat → ClassId} {ad am : Nat → Nat} {G G' K K' : GT} {o od n0 b L : Nat} {xs : Nat → Int32}
theorem Dj.am_C (J : Dj ad am o od n0) (i : Nat) (hi : i < 8) : ¬ AW 90 ad (am i) := fun ⟨j, hj, h⟩ => J.2.2.2.2.2.2.1 j i hj hi h
theorem Dj.ad_M (J : Dj ad am o od n0) (i : Nat) (hi : i < 90) : ¬ AW 8 am (ad i) := fun ⟨j, hj, h⟩ => J.2.2.2.2.2.2.1 i j hi hj h.symm
/-- the class's world changed, and nothing else -/
theorem LWd.upC {H1 : Heap} (J : Dj ad am o od n0) (h : LWd D Y ad am o od G K H) (hP : va_P D vwCl (wsC Y ad G') H1) (hk : ∀ q : Nat, q < H.size → ¬ AW 90 ad q → H1[q]? = H[q]?) : LWd D Y ad am o od G' K H1 := by
  obtain ⟨h1, h2, ⟨f, h3⟩, g, h4⟩ := h
  exact ⟨hP, wsW_kept h2 (fun i hi => hk _ (at_lt (h2 i _ (wsW_get i hi))) (J.am_C i hi)), ⟨f, h3.kept (hk _ (at_lt h3) J.2.2.2.2.2.2.2.1)⟩, g, h4.kept (hk _ (at_lt h4) J.2.2.2.2.2.2.2.2.1)⟩
theorem LWd.upM {H1 : Heap} (J : Dj ad am o od n0) (h : LWd D Y ad am o od G K H) (hP : va_P D vwCl (wsM Y am K') H1) (hk : ∀ q : Nat, q < H.size → ¬ AW 8 am q → H1[q]? = H[q]?) : LWd D Y ad am o od G K' H1 := by
  obtain ⟨h1, h2, ⟨f, h3⟩, g, h4⟩ := h
  exact ⟨wsW_kept h1 (fun i hi => hk _ (at_lt (h1 i _ (wsW_get i hi))) (J.ad_M i hi)), hP, ⟨f, h3.kept (hk _ (at_lt h3) J.2.2.2.2.2.2.2.2.2.1)⟩, g, h4.kept (hk _ (at_lt h4) J.2.2.2.2.2.2.2.2.2.2.1)⟩
theorem LWd.upH {H1 : Heap} {f1 : Nat → Int64} (J : Dj ad am o od n0) (h : LWd D Y ad am o od G K H) (hP : va_P D vwCl (wsC Y ad G') H1) (hf : va_at D vwCl (o, oL Y f1) H1) (hk : ∀ q : Nat, q < H.size → ¬ AO ad o q → H1[q]? = H[q]?) : LWd D Y ad am o od G' K H1 := by
  obtain ⟨h1, h2, ⟨f, h3⟩, g, h4⟩ := h
  refine ⟨hP, wsW_kept h2 (fun i hi => hk _ (at_lt (h2 i _ (wsW_get i hi))) ?_), ⟨f1, hf⟩, g, h4.kept (hk _ (at_lt h4) ?_)⟩
  · rintro (h | h)
    · exact J.am_C i hi h
    · exact J.2.2.2.2.2.2.2.2.2.1 ⟨i, hi, h⟩
  · rintro (h | h)
    · exact J.2.2.2.2.2.2.2.2.1 h
    · exact J.2.2.2.2.2.2.2.2.2.2.2 h.symm
theorem LWd.upD {H1 : Heap} {f1 : Nat → UInt64} (J : Dj ad am o od n0) (h : LWd D Y ad am o od G K H) (hP : va_P D vwCl (wsC Y ad G') H1) (hf : va_at D vwCl (od, oD Y f1) H1) (hk : ∀ q : Nat, q < H.size → ¬ AO ad od q → H1[q]? = H[q]?) : LWd D Y ad am o od G' K H1 := by
  obtain ⟨h1, h2, ⟨f, h3⟩, g, h4⟩ := h
  refine ⟨hP, wsW_kept h2 (fun i hi => hk _ (at_lt (h2 i _ (wsW_get i hi))) ?_), ⟨f, h3.kept (hk _ (at_lt h3) ?_)⟩, f1, hf⟩
  · rintro (h | h)
    · exact J.am_C i hi h
    · exact J.2.2.2.2.2.2.2.2.2.2.1 ⟨i, hi, h⟩
  · rintro (h | h)
    · exact J.2.2.2.2.2.2.2.1 h
    · exact J.2.2.2.2.2.2.2.2.2.2.2 h
theorem AO_LA (J : Dj ad am o od n0) {q oo : Nat} (ho : oo = o ∨ oo = od) (h : AO ad oo q) : LA n0 q := by
  rcases h with ⟨i, hi, h⟩ | h
  · subst h; exact J.2.2.1 i hi
  · subst h
    rcases ho with rfl | rfl
    · exact J.2.2.2.2.1
    · exact J.2.2.2.2.2.1
theorem BK_law {U : State} {N : Nat} {kf : Nat → (Nat → Int32) → va_E} {a0 : Nat → Nat} {G0 : GT} (hE : Ev D Y s) (hz : s.heap.size = n0) (hK : Ks ad (LA n0) s s.heap) (hA : ∀ i, i < N → n0 ≤ a0 i) (hP : va_P D vwCl (wsW N a0 kf G0) H) (hS : va_S (LA n0) s.heap H locs) (hU : U.heap = H) (hW : s.WarmedH U.vm) : BK D Y (wsW N a0 kf G0) ad (AW N a0) U :=
  ⟨Bw.of hE hP hU hW, by rw [hU]; exact ((hK.kept (fun a h1 h2 => hS.2.1 a h1 h2)).narrow (fun q ⟨i, hi, h⟩ => by subst h; exact hA i hi)).warm hW⟩
theorem la_csw {y : MethodName} {bb : ByteArray} {n ar d mc : Nat} {hh : List (Nat × Nat × Nat × Nat)} (F : Fx p c cc nL s m args own D Y) (k : CKL y bb n hh ar) (hl : Cond.methodLink own idx y ∈ LW) (hR : d + 1 ≤ R.frames ∧ 8 + (n + 11) + 40 * d ≤ R.locals) : vx_CSW R s args own idx y bb n (some .int) hh (Cond.codeWith y bb n (some .int) hh :: LW) (rmD d mc (6 * mc)) mc (6 * mc) ar := by
  have hts := F.1.2.2.2.2
  have hG : GoodIn LW (Cond.codeWith y bb n (some .int) hh :: LW) := fun w hw => by
    rcases List.mem_cons.mp hw with rfl | h1
    · exact LW_goodIn _ k.2.2.1
    · exact LW_goodIn _ h1
  refine ⟨⟨rfl, rfl, hR.1, hR.2, pay_in hts hG, List.mem_cons_self⟩, hts _ k.2.2.1, hts _ k.2.1, ⟨k.2.2.2.1, k.2.2.2.2.1⟩, fun sig h => ?_, hts _ hl, hts _ k.1⟩
  have h2 := k.2.2.2.2.2
  rw [h] at h2
  exact (Option.some.inj h2).symm
theorem la_H0 {α β : Type} {RR : Nat ⊕ α} {cv : α → β} {en : (Nat → β) → va_E} {y : MethodName} {bb : ByteArray} {n ar d mc oo : Nat} {hh : List (Nat × Nat × Nat × Nat)} {ks : List Nat} {As : List Value} {e : va_E} (F : Fx p c cc nL s m args own D Y) (E : LEn s ad am o od n0 b L xs) (hoo : oo = o ∨ oo = od) (hW : LWd D Y ad am o od G K H) (hT : va_at D vwCl (oo, e) H) (hS : va_S (LA n0) s.heap H locs) (k : CKL y bb n hh ar) (hl : Cond.methodLink own idx y ∈ LW) (hM : LH l y bb n hh d mc D Y ad G As oo e ks RR cv en G')
    (hn : As.length = ar) (hsz : ls.size = nL) (hR : d + 1 ≤ R.frames ∧ 8 + (n + 11) + 40 * d ≤ R.locals) (hst : st0 = As.reverse ++ rest) (hcat : (rest.map fun v => v.category).sum ≤ 8) (hc : cells + mc ≤ R.cells ∧ slots + 6 * mc ≤ R.slots) (hdg : decode cc pc = .ok (.invokestatic idx, 3))
    (kk : ∀ (f : Nat → β) (H1 : Heap) (locs1 : List Loc), va_at D vwCl (oo, en f) H1 → (∀ v, RR = .inr v → f 0 = cv v) → va_P D vwCl (wsC Y ad G') H1 → (∀ q : Nat, q < H.size → ¬ AO ad oo q → H1[q]? = H[q]?) → va_S (LA n0) s.heap H1 locs1 → W p l ev R s m args below meth c H1 locs1 (cells + mc) (slots + 6 * mc) Q (F0 m (pc + 3) ls (.int (cod ks RR) :: rest))) : W p l ev R s m args below meth c H locs cells slots Q (F0 m pc ls st0) := by
  subst hst
  obtain ⟨hz, J, hK, hN, -, -⟩ := E
  intro T hT' X
  have hno : ¬ AW 90 ad oo := by rcases hoo with rfl | rfl; exact J.2.2.2.2.2.2.2.1; exact J.2.2.2.2.2.2.2.2.1
  rcases vx_runSX (As := As) (rest := rest) F.1 hM (la_csw F k hl hR) ⟨BL.blind, fun U hU hW1 => ⟨rfl, BK_law F.2 hz hK J.2.2.1 hW.1 hS hU hW1, Ncs.warm hW1 hN, hno, by rw [hU]; exact hT⟩⟩ rfl hn hsz (g := F0 m pc ls (As.reverse ++ rest)) rfl (lv_room hcat) hdg hc T hT' X with ⟨v, st₀, t, T', Lq, g0, X', hL, e1, e2, ⟨⟨v1, _, q1, q2, q3, f, q4, q5⟩, hf1, hf2⟩, st⟩ | ⟨q, st₀, t, T', Lq, E, ce, g0, X', hL, e1, e2, hF, -⟩
  · cases q1
    subst q2
    rw [g0] at hf1 hf2
    obtain ⟨t2, a1, b1⟩ := kk f t.heap (locs ++ Lq) q4 q5 q3 hf2 ⟨Nat.le_trans hS.1 hf1, fun q g1 g2 => (hf2 q (Nat.lt_of_lt_of_le g1 hS.1) (fun h => g2 (AO_LA J hoo h))).trans (hS.2.1 q g1 g2), fun z hz2 => by
      rcases List.mem_append.mp hz2 with h | h
      · exact hS.2.2 z h
      · exact AO_LA J hoo (hL z h)⟩ T' e1 X'
    exact ⟨t2, st t2 a1, b1⟩
  · exact hF.elim
theorem la_H {RR : Nat ⊕ Int32} {y : MethodName} {bb : ByteArray} {n ar d mc : Nat} {hh : List (Nat × Nat × Nat × Nat)} {ks : List Nat} {As : List Value} (F : Fx p c cc nL s m args own D Y) (E : LEn s ad am o od n0 b L xs) (hW : LWd D Y ad am o od G K H) (hS : va_S (LA n0) s.heap H locs) (k : CKL y bb n hh ar) (hl : Cond.methodLink own idx y ∈ LW) (hM : ∀ f : Nat → Int64, LH l y bb n hh d mc D Y ad G As o (oL Y f) ks RR (fun v : Int32 => v.toInt64) (oL Y) G')
    (hn : As.length = ar) (hsz : ls.size = nL) (hR : d + 1 ≤ R.frames ∧ 8 + (n + 11) + 40 * d ≤ R.locals) (hst : st0 = As.reverse ++ rest) (hcat : (rest.map fun v => v.category).sum ≤ 8) (hc : cells + mc ≤ R.cells ∧ slots + 6 * mc ≤ R.slots) (hdg : decode cc pc = .ok (.invokestatic idx, 3))
    (kk : ∀ (f : Nat → Int64) (H1 : Heap) (locs1 : List Loc), va_at D vwCl (o, oL Y f) H1 → (∀ v, RR = .inr v → f 0 = v.toInt64) → LWd D Y ad am o od G' K H1 → va_S (LA n0) s.heap H1 locs1 → W p l ev R s m args below meth c H1 locs1 (cells + mc) (slots + 6 * mc) Q (F0 m (pc + 3) ls (.int (cod ks RR) :: rest))) : W p l ev R s m args below meth c H locs cells slots Q (F0 m pc ls st0) := by
  obtain ⟨f, hT⟩ := hW.2.2.1
  exact la_H0 F E (Or.inl rfl) hW hT hS k hl (hM f) hn hsz hR hst hcat hc hdg (fun f1 H1 L1 h1 h2 h3 h4 h5 => kk f1 H1 L1 h1 h2 (hW.upH E.2.1 h3 h1 h4) h5)
theorem la_Hd {α : Type} {RR : Nat ⊕ α} {cv : α → UInt64} {y : MethodName} {bb : ByteArray} {n ar d mc : Nat} {hh : List (Nat × Nat × Nat × Nat)} {ks : List Nat} {As : List Value} (F : Fx p c cc nL s m args own D Y) (E : LEn s ad am o od n0 b L xs) (hW : LWd D Y ad am o od G K H) (hS : va_S (LA n0) s.heap H locs) (k : CKL y bb n hh ar) (hl : Cond.methodLink own idx y ∈ LW) (hM : ∀ f : Nat → UInt64, LH l y bb n hh d mc D Y ad G As od (oD Y f) ks RR cv (oD Y) G')
    (hn : As.length = ar) (hsz : ls.size = nL) (hR : d + 1 ≤ R.frames ∧ 8 + (n + 11) + 40 * d ≤ R.locals) (hst : st0 = As.reverse ++ rest) (hcat : (rest.map fun v => v.category).sum ≤ 8) (hc : cells + mc ≤ R.cells ∧ slots + 6 * mc ≤ R.slots) (hdg : decode cc pc = .ok (.invokestatic idx, 3))
    (kk : ∀ (f : Nat → UInt64) (H1 : Heap) (locs1 : List Loc), va_at D vwCl (od, oD Y f) H1 → (∀ v, RR = .inr v → f 0 = cv v) → LWd D Y ad am o od G' K H1 → va_S (LA n0) s.heap H1 locs1 → W p l ev R s m args below meth c H1 locs1 (cells + mc) (slots + 6 * mc) Q (F0 m (pc + 3) ls (.int (cod ks RR) :: rest))) : W p l ev R s m args below meth c H locs cells slots Q (F0 m pc ls st0) := by
  obtain ⟨f, hT⟩ := hW.2.2.2
  exact la_H0 F E (Or.inr rfl) hW hT hS k hl (hM f) hn hsz hR hst hcat hc hdg (fun f1 H1 L1 h1 h2 h3 h4 h5 => kk f1 H1 L1 h1 h2 (hW.upD E.2.1 h3 h1 h4) h5)
/-- a call of one of the two objects, an int comes back -/
theorem la_W {N : Nat} {kf : Nat → (Nat → Int32) → va_E} {a0 : Nat → Nat} {G0 G1 : GT} {P0 : State → Prop} {y : MethodName} {bb : ByteArray} {n ar d : Nat} {ret : Option FieldType} {As : List Value} {r : Int32} {a : Nat} (F : Fx p c cc nL s m args own D Y) (hS : va_S (LA n0) s.heap H locs) (hA : ∀ i, i < N → n0 ≤ a0 i) (k : CKV y bb n ret ar) (hl : Cond.methodLink own idx y ∈ LW) (hP : va_P D vwCl (wsW N a0 kf G0) H) (q0 ci : Nat) {T : u_T} {M : Nat} (hci : vwCl[ci]? = some (y.cls, T, M)) {fs : List Value} (he : (wsW N a0 kf G0)[q0]? = some (a, .inr (ci, fs)))
    (hM : Met l y (wc y bb n ret) (rmD d 0 0) (va_Pc (.ref a :: As) P0) (WQi ret r D (wsW N a0 kf G1) (AW N a0)) 0 0 (AW N a0)) (hbl : FrameBlind (va_Pc (.ref a :: As) P0)) (hpre : ∀ U : State, U.heap = H → s.WarmedH U.vm → P0 U)
    (hn : As.length = ar) (hsz : ls.size = nL) (hR : d + 1 ≤ R.frames ∧ 8 + (n + 11) + 40 * d ≤ R.locals) (hst : st0 = As.reverse ++ .ref a :: rest) (hcat : (rest.map fun v => v.category).sum ≤ 8) (hc : cells ≤ R.cells ∧ slots ≤ R.slots) (hdg : decode cc pc = .ok (.invokevirtual idx, 3))
    (kk : ∀ (H1 : Heap) (locs1 : List Loc), va_P D vwCl (wsW N a0 kf G1) H1 → (∀ q : Nat, q < H.size → ¬ AW N a0 q → H1[q]? = H[q]?) → va_S (LA n0) s.heap H1 locs1 → W p l ev R s m args below meth c H1 locs1 cells slots Q (F0 m (pc + 3) ls (.int r :: rest))) : W p l ev R s m args below meth c H locs cells slots Q (F0 m pc ls st0) := by
  subst hst
  have hA2 : ∀ q, AW N a0 q → LA n0 q := fun q ⟨i, hi, h⟩ => by subst h; exact hA i hi
  refine va_calli (va_runV (As := As) (rest := rest) F.1 hM (ck_V F.1.2.2.2.2 k hl rfl rfl hR) ⟨hbl, va_recv F.2.1 hP hci he, fun U hU hW => ⟨rfl, hpre U hU hW⟩⟩ rfl hn hsz rfl (lv_room hcat) hdg hc) hS (fun q _ h => hA2 q h) hA2 (fun v u t H1 locs1 ht _ hp hB _ hk hS1 => ?_)
  obtain ⟨rfl, ho⟩ := hp
  exact kk H1 locs1 (by rw [← ht]; exact hB) hk hS1
theorem la_Wd {N : Nat} {kf : Nat → (Nat → Int32) → va_E} {a0 : Nat → Nat} {G0 G1 : GT} {P0 : State → Prop} {y : MethodName} {bb : ByteArray} {n ar d : Nat} {ret : Option FieldType} {As : List Value} {r : UInt64} {a : Nat} (F : Fx p c cc nL s m args own D Y) (hS : va_S (LA n0) s.heap H locs) (hA : ∀ i, i < N → n0 ≤ a0 i) (k : CKV y bb n ret ar) (hl : Cond.methodLink own idx y ∈ LW) (hP : va_P D vwCl (wsW N a0 kf G0) H) (q0 ci : Nat) {T : u_T} {M : Nat} (hci : vwCl[ci]? = some (y.cls, T, M)) {fs : List Value} (he : (wsW N a0 kf G0)[q0]? = some (a, .inr (ci, fs)))
    (hM : Met l y (wc y bb n ret) (rmD d 0 0) (va_Pc (.ref a :: As) P0) (WQd r D (wsW N a0 kf G1) (AW N a0)) 0 0 (AW N a0)) (hbl : FrameBlind (va_Pc (.ref a :: As) P0)) (hpre : ∀ U : State, U.heap = H → s.WarmedH U.vm → P0 U)
    (hn : As.length = ar) (hsz : ls.size = nL) (hR : d + 1 ≤ R.frames ∧ 8 + (n + 11) + 40 * d ≤ R.locals) (hst : st0 = As.reverse ++ .ref a :: rest) (hcat : (rest.map fun v => v.category).sum ≤ 8) (hc : cells ≤ R.cells ∧ slots ≤ R.slots) (hdg : decode cc pc = .ok (.invokevirtual idx, 3))
    (kk : ∀ (H1 : Heap) (locs1 : List Loc), va_P D vwCl (wsW N a0 kf G1) H1 → (∀ q : Nat, q < H.size → ¬ AW N a0 q → H1[q]? = H[q]?) → va_S (LA n0) s.heap H1 locs1 → W p l ev R s m args below meth c H1 locs1 cells slots Q (F0 m (pc + 3) ls (.double r :: rest))) : W p l ev R s m args below meth c H locs cells slots Q (F0 m pc ls st0) := by
  subst hst
  have hA2 : ∀ q, AW N a0 q → LA n0 q := fun q ⟨i, hi, h⟩ => by subst h; exact hA i hi
  refine va_calld (va_runV (As := As) (rest := rest) F.1 hM (ck_V F.1.2.2.2.2 k hl rfl rfl hR) ⟨hbl, va_recv F.2.1 hP hci he, fun U hU hW => ⟨rfl, hpre U hU hW⟩⟩ rfl hn hsz rfl (lv_room hcat) hdg hc) hS (fun q _ h => hA2 q h) hA2 (fun v u t H1 locs1 ht _ hp hB _ hk hS1 => ?_)
  subst hp
  exact kk H1 locs1 (by rw [← ht]; exact hB) hk hS1
theorem la_Wf {N : Nat} {kf : Nat → (Nat → Int32) → va_E} {a0 : Nat → Nat} {G0 G1 : GT} {P0 : State → Prop} {y : MethodName} {bb : ByteArray} {n ar d : Nat} {ret : Option FieldType} {As : List Value} {r : UInt32} {a : Nat} (F : Fx p c cc nL s m args own D Y) (hS : va_S (LA n0) s.heap H locs) (hA : ∀ i, i < N → n0 ≤ a0 i) (k : CKV y bb n ret ar) (hl : Cond.methodLink own idx y ∈ LW) (hP : va_P D vwCl (wsW N a0 kf G0) H) (q0 ci : Nat) {T : u_T} {M : Nat} (hci : vwCl[ci]? = some (y.cls, T, M)) {fs : List Value} (he : (wsW N a0 kf G0)[q0]? = some (a, .inr (ci, fs)))
    (hM : Met l y (wc y bb n ret) (rmD d 0 0) (va_Pc (.ref a :: As) P0) (WQf r D (wsW N a0 kf G1) (AW N a0)) 0 0 (AW N a0)) (hbl : FrameBlind (va_Pc (.ref a :: As) P0)) (hpre : ∀ U : State, U.heap = H → s.WarmedH U.vm → P0 U)
    (hn : As.length = ar) (hsz : ls.size = nL) (hR : d + 1 ≤ R.frames ∧ 8 + (n + 11) + 40 * d ≤ R.locals) (hst : st0 = As.reverse ++ .ref a :: rest) (hcat : (rest.map fun v => v.category).sum ≤ 8) (hc : cells ≤ R.cells ∧ slots ≤ R.slots) (hdg : decode cc pc = .ok (.invokevirtual idx, 3))
    (kk : ∀ (H1 : Heap) (locs1 : List Loc), va_P D vwCl (wsW N a0 kf G1) H1 → (∀ q : Nat, q < H.size → ¬ AW N a0 q → H1[q]? = H[q]?) → va_S (LA n0) s.heap H1 locs1 → W p l ev R s m args below meth c H1 locs1 cells slots Q (F0 m (pc + 3) ls (.float r :: rest))) : W p l ev R s m args below meth c H locs cells slots Q (F0 m pc ls st0) := by
  subst hst
  have hA2 : ∀ q, AW N a0 q → LA n0 q := fun q ⟨i, hi, h⟩ => by subst h; exact hA i hi
  refine va_callf (va_runV (As := As) (rest := rest) F.1 hM (ck_V F.1.2.2.2.2 k hl rfl rfl hR) ⟨hbl, va_recv F.2.1 hP hci he, fun U hU hW => ⟨rfl, hpre U hU hW⟩⟩ rfl hn hsz rfl (lv_room hcat) hdg hc) hS (fun q _ h => hA2 q h) hA2 (fun v u t H1 locs1 ht _ hp hB _ hk hS1 => ?_)
  subst hp
  exact kk H1 locs1 (by rw [← ht]; exact hB) hk hS1
/-- the script -/
theorem la_x (F : Fx p c cc nL s m args own D Y) (E : LEn s ad am o od n0 b L xs) (hS : va_S (LA n0) s.heap H locs) {i : Int32} (hi : vp_in i L) (hdg : decode cc pc = .ok (.iaload, 1))
    (kk : W p l ev R s m args below meth c H locs cells slots Q (F0 m (pc + 1) ls (.int (xs i.toNatClampNeg) :: rest))) : W p l ev R s m args below meth c H locs cells slots Q (F0 m pc ls (.int i :: .ref b :: rest)) :=
  va_sld F.1.1 F.1.2.1 E.2.2.2.2.1 (by rw [E.1]; exact E.2.2.2.2.2) (Nat.not_le_of_lt E.2.2.2.2.2) hS hi hdg kk
/-- an int as a boolean -/
theorem la_bool {v : Int32} {off1 off2 : Int} (F : Fx p c cc nL s m args own D Y) (h1 : decode cc pc = .ok (.ifCond .eq off1, 3)) (t1 : (pc : Int) + off1 = ((pc + 7 : Nat) : Int)) (h2 : decode cc (pc + 3) = .ok (.iconst 1, 1)) (h3 : decode cc (pc + 4) = .ok (.goto off2, 3)) (t2 : ((pc + 4 : Nat) : Int) + off2 = ((pc + 8 : Nat) : Int)) (h4 : decode cc (pc + 7) = .ok (.iconst 0, 1))
    (kk : W p l ev R s m args below meth c H locs cells slots Q (F0 m (pc + 8) ls (.int (bz v) :: rest))) : W p l ev R s m args below meth c H locs cells slots Q (F0 m pc ls (.int v :: rest)) := by
  refine lv_if_eq F.1.1 F.1.2.1 h1 t1 (fun c1 => ?_) (fun c1 => ?_)
  · refine lv_iconst (v := 0) F.1.1 F.1.2.1 h4 (by decide) ?_
    rw [show bz v = 0 by unfold bz; rw [if_pos c1]] at kk
    exact kk
  · refine lv_iconst (v := 1) F.1.1 F.1.2.1 h2 (by decide) ?_
    refine lv_goto F.1.1 F.1.2.1 h3 t2 ?_
    rw [show bz v = 1 by unfold bz; rw [if_neg c1]] at kk
    exact kk
end LAR
def St_bar (Rel : GT → GT → Prop) : Prop := ∀ G K, Rel G K → ∀ p1 : Int32, ∃ (RR : Nat ⊕ Int32) (G' : GT) (r : Int32) (K' : GT), f_X9_bar G p1 = some (RR, G') ∧ f_X10_bar K p1 = some (r, K') ∧ f_X10_thrown K' = some (cod [1, 2] RR) ∧ (∀ k, RR = .inl k → k ∈ ([1, 2] : List Nat)) ∧ (∀ v, RR = .inr v → v = r) ∧ Rel G' K'
def St_key (Rel : GT → GT → Prop) : Prop := ∀ G K, Rel G K → ∀ p1 p2 : Int32, ∃ (RR : Nat ⊕ Int32) (G' : GT) (r : Int32) (K' : GT), f_X9_key G p1 p2 = some (RR, G') ∧ f_X10_key K p1 p2 = some (r, K') ∧ f_X10_thrown K' = some (cod [0, 1, 2] RR) ∧ (∀ k, RR = .inl k → k ∈ ([0, 1, 2] : List Nat)) ∧ (∀ v, RR = .inr v → v = r) ∧ Rel G' K'
def St_leak (Rel : GT → GT → Prop) : Prop := ∀ G K, Rel G K → ∀ p1 p2 : Int32, ∃ (RR : Nat ⊕ Int32) (G' : GT) (r : Int32) (K' : GT), f_X9_leak G p1 p2 = some (RR, G') ∧ f_X10_leak K p1 p2 = some (r, K') ∧ f_X10_thrown K' = some (cod [0, 1, 2] RR) ∧ (∀ k, RR = .inl k → k ∈ ([0, 1, 2] : List Nat)) ∧ (∀ v, RR = .inr v → v = r) ∧ Rel G' K'
def St_drop (Rel : GT → GT → Prop) : Prop := ∀ G K, Rel G K → ∀ p1 p2 p3 : Int32, ∃ (RR : Nat ⊕ Int32) (G' : GT) (r : Int32) (K' : GT), f_X9_drop G p1 p2 p3 = some (RR, G') ∧ f_X10_drop K p1 p2 p3 = some (r, K') ∧ f_X10_thrown K' = some (cod [0, 1, 2] RR) ∧ (∀ k, RR = .inl k → k ∈ ([0, 1, 2] : List Nat)) ∧ (∀ v, RR = .inr v → v = r) ∧ Rel G' K'
def St_rest (Rel : GT → GT → Prop) : Prop := ∀ G K, Rel G K → ∀ p1 : Int32, ∃ (RR : Nat ⊕ Int32) (G' : GT) (r : Int32) (K' : GT), f_X9_rest G p1 = some (RR, G') ∧ f_X10_rest K p1 = some (r, K') ∧ f_X10_thrown K' = some (cod [0, 2] RR) ∧ (∀ k, RR = .inl k → k ∈ ([0, 2] : List Nat)) ∧ (∀ v, RR = .inr v → v = r) ∧ Rel G' K'
def St_lift (Rel : GT → GT → Prop) : Prop := ∀ G K, Rel G K → ∃ (RR : Nat ⊕ Int32) (G' : GT) (r : Int32) (K' : GT), f_X9_lift G  = some (RR, G') ∧ f_X10_lift K  = some (r, K') ∧ f_X10_thrown K' = some (cod [2] RR) ∧ (∀ k, RR = .inl k → k ∈ ([2] : List Nat)) ∧ (∀ v, RR = .inr v → v = r) ∧ Rel G' K'
def St_limit (Rel : GT → GT → Prop) : Prop := ∀ G K, Rel G K → ∀ p1 : Int32, ∃ (RR : Nat ⊕ Int32) (G' : GT) (r : Int32) (K' : GT), f_X9_limit G p1 = some (RR, G') ∧ f_X10_limit K p1 = some (r, K') ∧ f_X10_thrown K' = some (cod [1, 2] RR) ∧ (∀ k, RR = .inl k → k ∈ ([1, 2] : List Nat)) ∧ (∀ v, RR = .inr v → v = r) ∧ Rel G' K'
def St_tune (Rel : GT → GT → Prop) : Prop := ∀ G K, Rel G K → ∀ p1 p2 : Int32, ∃ (RR : Nat ⊕ Int32) (G' : GT) (r : Int32) (K' : GT), f_X9_tune G p1 p2 = some (RR, G') ∧ f_X10_tune K p1 p2 = some (r, K') ∧ f_X10_thrown K' = some (cod [0, 1, 2] RR) ∧ (∀ k, RR = .inl k → k ∈ ([0, 1, 2] : List Nat)) ∧ (∀ v, RR = .inr v → v = r) ∧ Rel G' K'
def St_tinOf (Rel : GT → GT → Prop) : Prop := ∀ G K, Rel G K → ∀ p1 p2 : Int32, ∃ (RR : Nat ⊕ Int32) (G' : GT) (r : Int32) (K' : GT), f_X9_tinOf G p1 p2 = some (RR, G') ∧ f_X10_tinOf K p1 p2 = some (r, K') ∧ f_X10_thrown K' = some (cod [0, 1] RR) ∧ (∀ k, RR = .inl k → k ∈ ([0, 1] : List Nat)) ∧ (∀ v, RR = .inr v → v = r) ∧ Rel G' K'
def St_soundOf (Rel : GT → GT → Prop) : Prop := ∀ G K, Rel G K → ∀ p1 p2 : Int32, ∃ (RR : Nat ⊕ Int32) (G' : GT) (r : Int32) (K' : GT), f_X9_soundOf G p1 p2 = some (RR, G') ∧ f_X10_soundOf K p1 p2 = some (r, K') ∧ f_X10_thrown K' = some (cod [0, 1] RR) ∧ (∀ k, RR = .inl k → k ∈ ([0, 1] : List Nat)) ∧ (∀ v, RR = .inr v → v = r) ∧ Rel G' K'
def St_barOf (Rel : GT → GT → Prop) : Prop := ∀ G K, Rel G K → ∀ p1 p2 : Int32, ∃ (RR : Nat ⊕ Int32) (G' : GT) (r : Int32) (K' : GT), f_X9_barOf G p1 p2 = some (RR, G') ∧ f_X10_barOf K p1 p2 = some (r, K') ∧ f_X10_thrown K' = some (cod [0, 1] RR) ∧ (∀ k, RR = .inl k → k ∈ ([0, 1] : List Nat)) ∧ (∀ v, RR = .inr v → v = r) ∧ Rel G' K'
def St_partOf (Rel : GT → GT → Prop) : Prop := ∀ G K, Rel G K → ∀ p1 p2 p3 : Int32, ∃ (RR : Nat ⊕ Int32) (G' : GT) (r : Int32) (K' : GT), f_X9_partOf G p1 p2 p3 = some (RR, G') ∧ f_X10_partOf K p1 p2 p3 = some (r, K') ∧ f_X10_thrown K' = some (cod [0, 1] RR) ∧ (∀ k, RR = .inl k → k ∈ ([0, 1] : List Nat)) ∧ (∀ v, RR = .inr v → v = r) ∧ Rel G' K'
def St_at (Rel : GT → GT → Prop) : Prop := ∀ G K, Rel G K → ∀ p1 : Int32, ∃ (RR : Nat ⊕ Int32) (G' : GT) (r : Int32) (K' : GT), f_X9_at G p1 = some (RR, G') ∧ f_X10_at K p1 = some (r, K') ∧ f_X10_thrown K' = some (cod [3] RR) ∧ (∀ k, RR = .inl k → k ∈ ([3] : List Nat)) ∧ (∀ v, RR = .inr v → v = r) ∧ Rel G' K'
def St_faults (Rel : GT → GT → Prop) : Prop := ∀ G K, Rel G K → ∀ p1 p2 : Int32, ∃ (RR : Nat ⊕ Int32) (G' : GT) (r : Int32) (K' : GT), f_X9_faults G p1 (bz p2) = some (RR, G') ∧ f_X10_faults K p1 (bz p2) = some (r, K') ∧ f_X10_thrown K' = some (cod [1] RR) ∧ (∀ k, RR = .inl k → k ∈ ([1] : List Nat)) ∧ (∀ v, RR = .inr v → v = r) ∧ Rel G' K'
def St_firstFault (Rel : GT → GT → Prop) : Prop := ∀ G K, Rel G K → ∀ p1 : Int32, ∃ (RR : Nat ⊕ Int32) (G' : GT) (r : Int32) (K' : GT), f_X9_firstFault G p1 = some (RR, G') ∧ f_X10_firstFault K p1 = some (r, K') ∧ f_X10_thrown K' = some (cod [1, 3] RR) ∧ (∀ k, RR = .inl k → k ∈ ([1, 3] : List Nat)) ∧ (∀ v, RR = .inr v → v = r) ∧ Rel G' K'
def St_isClean (Rel : GT → GT → Prop) : Prop := ∀ G K, Rel G K → ∃ (r : Int32) (K' : GT), f_X9_isClean G  = some r ∧ f_X10_isClean K  = some (r, K') ∧ Rel G K'
def St_wouldFault (Rel : GT → GT → Prop) : Prop := ∀ G K, Rel G K → ∀ p1 p2 : Int32, ∃ (RR : Nat ⊕ Int32) (G' : GT) (r : Int32) (K' : GT), f_X9_wouldFault G p1 p2 = some (RR, G') ∧ f_X10_wouldFault K p1 p2 = some (r, K') ∧ f_X10_thrown K' = some (cod [0, 1, 3] RR) ∧ (∀ k, RR = .inl k → k ∈ ([0, 1, 3] : List Nat)) ∧ (∀ v, RR = .inr v → v = r) ∧ Rel G' K'
def St_bestHeight (Rel : GT → GT → Prop) : Prop := ∀ G K, Rel G K → ∀ p1 : Int32, ∃ (RR : Nat ⊕ Int32) (G' : GT) (r : Int32) (K' : GT), f_X9_bestHeight G p1 = some (RR, G') ∧ f_X10_bestHeight K p1 = some (r, K') ∧ f_X10_thrown K' = some (cod [0, 3] RR) ∧ (∀ k, RR = .inl k → k ∈ ([0, 3] : List Nat)) ∧ (∀ v, RR = .inr v → v = r) ∧ Rel G' K'
def St_walk (Rel : GT → GT → Prop) : Prop := ∀ G K, Rel G K → ∀ p1 : Int32, ∃ (r : Int32) (K' : GT), f_X9_walk G (bz p1) = some r ∧ f_X10_walk K (bz p1) = some (r, K') ∧ Rel G K'
def St_goes (Rel : GT → GT → Prop) : Prop := ∀ G K, Rel G K → ∀ p1 : Int32, ∃ (r : Int32) (K' : GT), f_X9_goes G (bz p1) = some r ∧ f_X10_goes K (bz p1) = some (r, K') ∧ Rel G K'
def St_span (Rel : GT → GT → Prop) : Prop := ∀ G K, Rel G K → ∃ (r : Int32) (K' : GT), f_X9_span G  = some r ∧ f_X10_span K  = some (r, K') ∧ Rel G K'
def St_withPitch (Rel : GT → GT → Prop) : Prop := ∀ G K, Rel G K → ∀ p1 : Int32, ∃ (RR : Nat ⊕ Int32) (G' : GT) (r : Int32) (K' : GT), f_X9_withPitch G p1 = some (RR, G') ∧ f_X10_withPitch K p1 = some (r, K') ∧ f_X10_thrown K' = some (cod [1] RR) ∧ (∀ k, RR = .inl k → k ∈ ([1] : List Nat)) ∧ (∀ v, RR = .inr v → v = r) ∧ Rel G' K'
def St_loudest (Rel : GT → GT → Prop) : Prop := ∀ G K, Rel G K → ∀ p1 : Int32, ∃ (RR : Nat ⊕ Int32) (G' : GT) (r : Int32) (K' : GT), f_X9_loudest G p1 = some (RR, G') ∧ f_X10_loudest K p1 = some (r, K') ∧ f_X10_thrown K' = some (cod [3] RR) ∧ (∀ k, RR = .inl k → k ∈ ([3] : List Nat)) ∧ (∀ v, RR = .inr v → v = r) ∧ Rel G' K'
def St_highest (Rel : GT → GT → Prop) : Prop := ∀ G K, Rel G K → ∀ p1 : Int32, ∃ (RR : Nat ⊕ Int32) (G' : GT) (r : Int32) (K' : GT), f_X9_highest G p1 = some (RR, G') ∧ f_X10_highest K p1 = some (r, K') ∧ f_X10_thrown K' = some (cod [3] RR) ∧ (∀ k, RR = .inl k → k ∈ ([3] : List Nat)) ∧ (∀ v, RR = .inr v → v = r) ∧ Rel G' K'
def St_line (Rel : GT → GT → Prop) : Prop := ∀ G K, Rel G K → ∀ p1 : Int32, ∃ (RR : Nat ⊕ Int32) (G' : GT) (r : Int32) (K' : GT), f_X9_line G p1 = some (RR, G') ∧ f_X10_line K p1 = some (r, K') ∧ f_X10_thrown K' = some (cod [0] RR) ∧ (∀ k, RR = .inl k → k ∈ ([0] : List Nat)) ∧ (∀ v, RR = .inr v → v = r) ∧ Rel G' K'
def St_tinLine (Rel : GT → GT → Prop) : Prop := ∀ G K, Rel G K → ∀ p1 : Int32, ∃ (RR : Nat ⊕ Int32) (G' : GT) (r : Int32) (K' : GT), f_X9_tinLine G p1 = some (RR, G') ∧ f_X10_tinLine K p1 = some (r, K') ∧ f_X10_thrown K' = some (cod [0] RR) ∧ (∀ k, RR = .inl k → k ∈ ([0] : List Nat)) ∧ (∀ v, RR = .inr v → v = r) ∧ Rel G' K'
def St_character (Rel : GT → GT → Prop) : Prop := ∀ G K, Rel G K → ∀ p1 : Int32, ∃ (RR : Nat ⊕ Int32) (G' : GT) (r : Int32) (K' : GT), f_X9_character G p1 = some (RR, G') ∧ f_X10_character K p1 = some (r, K') ∧ f_X10_thrown K' = some (cod [0] RR) ∧ (∀ k, RR = .inl k → k ∈ ([0] : List Nat)) ∧ (∀ v, RR = .inr v → v = r) ∧ Rel G' K'
def St_append (Rel : GT → GT → Prop) : Prop := ∀ G K, Rel G K → ∀ p1 : Int32, ∃ (RR : Nat ⊕ Int32) (G' : GT) (r : Int32) (K' : GT), f_X9_append G (chr p1) = some (RR, G') ∧ f_X10_append K (chr p1) = some (r, K') ∧ f_X10_thrown K' = some (cod [4] RR) ∧ (∀ k, RR = .inl k → k ∈ ([4] : List Nat)) ∧ (∀ v, RR = .inr v → v = r) ∧ Rel G' K'
def St_run (Rel : GT → GT → Prop) : Prop := ∀ G K, Rel G K → ∃ (RR : Nat ⊕ Int32) (G' : GT) (r : Int32) (K' : GT), f_X9_run G  = some (RR, G') ∧ f_X10_run K  = some (r, K') ∧ f_X10_thrown K' = some (cod [1, 2] RR) ∧ (∀ k, RR = .inl k → k ∈ ([1, 2] : List Nat)) ∧ (∀ v, RR = .inr v → v = r) ∧ Rel G' K'
def St_errorPosition (Rel : GT → GT → Prop) : Prop := ∀ G K, Rel G K → ∃ (r : Int32) (K' : GT), f_X9_errorPosition G  = some r ∧ f_X10_errorPosition K  = some (r, K') ∧ Rel G K'
def St_refusal (Rel : GT → GT → Prop) : Prop := ∀ G K, Rel G K → ∀ p1 : Int32, ∃ (RR : Nat ⊕ Int32) (G' : GT) (r : Int32) (K' : GT), f_X9_refusal G (bz p1) = some (RR, G') ∧ f_X10_refusal K (bz p1) = some (r, K') ∧ f_X10_thrown K' = some (cod [3] RR) ∧ (∀ k, RR = .inl k → k ∈ ([3] : List Nat)) ∧ (∀ v, RR = .inr v → v = r) ∧ Rel G' K'
def St_account (Rel : GT → GT → Prop) : Prop := ∀ G K, Rel G K → ∀ p1 : Int32, ∃ (RR : Nat ⊕ Int32) (G' : GT) (r : Int32) (K' : GT), f_X9_account G p1 = some (RR, G') ∧ f_X10_account K p1 = some (r, K') ∧ f_X10_thrown K' = some (cod [1] RR) ∧ (∀ k, RR = .inl k → k ∈ ([1] : List Nat)) ∧ (∀ v, RR = .inr v → v = r) ∧ Rel G' K'
def St_isWell (Rel : GT → GT → Prop) : Prop := ∀ G K, Rel G K → ∃ (r : Int32) (K' : GT), f_X9_isWell G  = some r ∧ f_X10_isWell K  = some (r, K') ∧ Rel G K'
def St_meanPitch (Rel : GT → GT → Prop) : Prop := ∀ G K, Rel G K → ∃ (RR : Nat ⊕ UInt64) (G' : GT) (r : UInt64) (K' : GT), f_X9_meanPitch G  = some (RR, G') ∧ f_X10_meanPitch K  = some (r, K') ∧ f_X10_thrown K' = some (cod [5] RR) ∧ (∀ k, RR = .inl k → k ∈ ([5] : List Nat)) ∧ (∀ v, RR = .inr v → v = r) ∧ Rel G' K'
def St_filledShare (Rel : GT → GT → Prop) : Prop := ∀ G K, Rel G K → ∃ (RR : Nat ⊕ UInt32) (G' : GT) (r : UInt32) (K' : GT), f_X9_filledShare G  = some (RR, G') ∧ f_X10_filledShare K  = some (r, K') ∧ f_X10_thrown K' = some (cod [5] RR) ∧ (∀ k, RR = .inl k → k ∈ ([5] : List Nat)) ∧ (∀ v, RR = .inr v → v = r) ∧ Rel G' K' ∧ (∀ v, RR = .inr v → vf_n64 (FP.f2d v) ∧ FP.dcmp (FP.f2d v) (FP.f2d v) = some .eq)
def St_undo (Rel : GT → GT → Prop) : Prop := ∀ G K, Rel G K → ∃ (RR : Nat ⊕ Int32) (G' : GT) (r : Int32) (K' : GT), f_X9_undo G  = some (RR, G') ∧ f_X10_undo K  = some (r, K') ∧ f_X10_thrown K' = some (cod [4] RR) ∧ (∀ k, RR = .inl k → k ∈ ([4] : List Nat)) ∧ (∀ v, RR = .inr v → v = r) ∧ Rel G' K'
def St_save (Rel : GT → GT → Prop) : Prop := ∀ G K, Rel G K → ∃ (r : Int32) (G' K' : GT), f_X9_save G = some (r, G') ∧ f_X10_save K = some (r, K') ∧ Rel G' K'
def St_restore (Rel : GT → GT → Prop) : Prop := ∀ G K, Rel G K → ∃ (RR : Nat ⊕ Int32) (G' : GT) (r : Int32) (K' : GT), f_X9_restore G  = some (RR, G') ∧ f_X10_restore K  = some (r, K') ∧ f_X10_thrown K' = some (cod [4] RR) ∧ (∀ k, RR = .inl k → k ∈ ([4] : List Nat)) ∧ (∀ v, RR = .inr v → v = r) ∧ Rel G' K'
set_option maxRecDepth 100000 in
set_option maxHeartbeats 4000000 in
theorem case_0 {p : Program} {l : Launch} {ev : Env} {R : Room} {s : State} {m : MethodId} {args : Array Value} {below : List Frame} {meth : Method} {c : Code} {H : Heap} {locs : List Loc} {cells slots : Nat} {Q : State → Prop} {ls : Array Slot} {D : va_G} {Y : Nat → ClassId} {ad am : Nat → Nat} {G K : GT} {o od n0 b L : Nat} {xs : Nat → Int32} {Rel : GT → GT → Prop} {i : Int32} (hst : l.stackTraces = false) (F : Fx p c cL_law 9 s m args RL D Y) (E : LEn s ad am o od n0 b L xs) (hW : LWd D Y ad am o od G K H) (hS : va_S (LA n0) s.heap H locs) (hl : lv_has ls 9 [(0, .ref b), (1, .ref (ad 77)), (2, .ref (am 0)), (3, .ref o), (4, .ref od), (5, .int i)]) (hR : R.frames = 2048 ∧ R.locals = 94400 ∧ cells + 16 ≤ R.cells ∧ slots + 96 ≤ R.slots) (hst1 : St_bar Rel) (hr : Rel G K) (h1 : vp_in (i + 1) L) 
    (kk : ∀ (H1 : Heap) (L1 : List Loc) (ls1 : Array Slot) (G' K' : GT), Rel G' K' → LWd D Y ad am o od G' K' H1 → va_S (LA n0) s.heap H1 L1 → lv_has ls1 9 [(0, .ref b), (1, .ref (ad 77)), (2, .ref (am 0)), (3, .ref o), (4, .ref od), (5, .int i)] → W p l ev R s m args below meth c H1 L1 (cells + 16) (slots + 96) Q (F0 m 2244 ls1 [])) : W p l ev R s m args below meth c H locs cells slots Q (F0 m 212 ls []) := by
  have hx := F.1.1
  have hb := F.1.2.1
  obtain ⟨RR, G', r2, K', e1, e2, e3, hks, e5, hrel⟩ := hst1 G K hr (xs (i + 1).toNatClampNeg)
  refine lv_aload_n hx hb dL_law_212 rfl (lv_at hl 1 rfl) ?_
  refine lv_aload_n hx hb dL_law_213 rfl (lv_at hl 0 rfl) ?_
  refine lv_iload hx hb dL_law_214 (lv_at hl 5 rfl) ?_
  refine lv_iconst (v := 1) hx hb dL_law_216 (by decide) ?_
  refine lv_iadd hx hb dL_law_217 ?_
  refine la_x F E hS h1 dL_law_218 ?_
  refine lv_aload_n hx hb dL_law_219 rfl (lv_at hl 3 rfl) ?_
  refine la_H (G' := G') F E hW hS kl_bar mw_420 (fun f => ql_bar l hst D Y ad E.2.1.1 G (xs (i + 1).toNatClampNeg) o f RR G' e1 hks) rfl hl.1 ⟨by rw [hR.1]; exact Nat.le_of_ble_eq_true rfl, by rw [hR.2.1]; exact Nat.le_of_ble_eq_true rfl⟩ rfl (Nat.le_of_ble_eq_true rfl) ⟨by omega, by omega⟩ dL_law_220 ?_
  intro f H1 L1 hT hv hW hS
  refine lv_istore (lv' := [(6, .int (cod [1, 2] RR)), (0, .ref b), (1, .ref (ad 77)), (2, .ref (am 0)), (3, .ref o), (4, .ref od), (5, .int i)]) hx hb dL_law_223 hl (by decide) rfl (fun ls hl => ?_)
  refine lv_aload_n hx hb dL_law_225 rfl (lv_at hl 3 rfl) ?_
  refine lv_aload_n hx hb dL_law_226 rfl (lv_at hl 1 rfl) ?_
  refine lv_iload hx hb dL_law_227 (lv_at hl 6 rfl) ?_
  refine lv_iconst (v := 1) hx hb dL_law_229 (by decide) ?_
  refine lv_iadd hx hb dL_law_230 ?_
  refine la_x F E hS h1 dL_law_231 ?_
  refine la_W (rest := []) (As := [.int (xs (i + 1).toNatClampNeg)]) (G1 := K') F hS E.2.1.2.2.2.1 k_X10_bar mw_1364 hW.2.1 0 11 rfl (wsW_get 0 (by decide)) (q_X10_bar l D Y am E.2.1.2.1 K (xs (i + 1).toNatClampNeg) r2 K' e2) Bw.blind (fun U hU hw => Bw.of F.2 hW.2.1 hU hw) rfl hl.1 ⟨by rw [hR.1]; exact Nat.le_of_ble_eq_true rfl, by rw [hR.2.1]; exact Nat.le_of_ble_eq_true rfl⟩ rfl (Nat.le_of_ble_eq_true rfl) ⟨by omega, by omega⟩ dL_law_232 ?_
  intro H1 L1 hP hq hS
  have hT := hT.kept (hq _ (at_lt hT) E.2.1.2.2.2.2.2.2.2.2.2.1)
  have hW := hW.upM E.2.1 hP hq
  refine lv_istore (lv' := [(7, .int r2), (6, .int (cod [1, 2] RR)), (0, .ref b), (1, .ref (ad 77)), (2, .ref (am 0)), (3, .ref o), (4, .ref od), (5, .int i)]) hx hb dL_law_235 hl (by decide) rfl (fun ls hl => ?_)
  refine lv_aload_n hx hb dL_law_237 rfl (lv_at hl 4 rfl) ?_
  refine rd_V (rest := []) (As := []) F hW.2.1 k_X10_thrown mw_1356 0 11 rfl (wsW_get 0 (by decide)) (q_X10_thrown l D Y am K'  (cod [1, 2] RR) e3) rfl hl.1 ⟨by rw [hR.1]; exact Nat.le_of_ble_eq_true rfl, by rw [hR.2.1]; exact Nat.le_of_ble_eq_true rfl⟩ rfl (Nat.le_of_ble_eq_true rfl) ⟨by omega, by omega⟩ dL_law_238 ?_
  intro _
  refine lv_iload hx hb dL_law_241 (lv_at hl 1 rfl) ?_
  refine lv_icmp_eq (tgt := 248) hx hb dL_law_243 (by decide) (fun c1 => ?_) (fun c1 => absurd rfl c1)
  refine lv_iload hx hb dL_law_248 (lv_at hl 1 rfl) ?_
  refine lv_if_ne (tgt := 265) hx hb dL_law_250 (by decide) (fun c1 => ?_) (fun c1 => ?_)
  · refine lv_goto (tgt := 2244) hx hb dL_law_265 (by decide) ?_
    refine W.widen (k := cells + 16) (n := slots + 96) (by omega) (by omega) ?_
    exact kk H1 L1 ls G' K' hrel hW hS (lv_sub hl [2, 3, 4, 5, 6, 7] rfl)
  · obtain ⟨v, hRv⟩ := cod0 (ks := [1, 2]) (by decide) c1
    have hfv := hv v hRv
    have hvr := e5 v hRv
    subst hvr
    refine lv_aload_n hx hb dL_law_253 rfl (lv_at hl 5 rfl) ?_
    refine lv_iconst (v := 0) hx hb dL_law_254 (by decide) ?_
    refine va_lald hx hb F.2.1 (at_P hT) 0 4 rfl rfl (by unfold vp_in; decide) dL_law_255 ?_
    refine lv_iload hx hb dL_law_256 (lv_at hl 0 rfl) ?_
    refine lv_i2l (v := v.toInt64) hx hb dL_law_258 rfl ?_
    refine W.lcmp hx hb dL_law_259 ?_
    refine lv_if_eq (tgt := 265) hx hb dL_law_260 (by decide) (fun c2 => ?_) (fun c2 => absurd ?_ c2)
    · refine lv_goto (tgt := 2244) hx hb dL_law_265 (by decide) ?_
      refine W.widen (k := cells + 16) (n := slots + 96) (by omega) (by omega) ?_
      exact kk H1 L1 ls G' K' hrel hW hS (lv_sub hl [2, 3, 4, 5, 6, 7] rfl)
    · rw [show f (0 : Int32).toNatClampNeg = v.toInt64 from hfv]
      exact lgc_self _
set_option maxRecDepth 100000 in
set_option maxHeartbeats 4000000 in
theorem case_1 {p : Program} {l : Launch} {ev : Env} {R : Room} {s : State} {m : MethodId} {args : Array Value} {below : List Frame} {meth : Method} {c : Code} {H : Heap} {locs : List Loc} {cells slots : Nat} {Q : State → Prop} {ls : Array Slot} {D : va_G} {Y : Nat → ClassId} {ad am : Nat → Nat} {G K : GT} {o od n0 b L : Nat} {xs : Nat → Int32} {Rel : GT → GT → Prop} {i : Int32} (hst : l.stackTraces = false) (F : Fx p c cL_law 9 s m args RL D Y) (E : LEn s ad am o od n0 b L xs) (hW : LWd D Y ad am o od G K H) (hS : va_S (LA n0) s.heap H locs) (hl : lv_has ls 9 [(0, .ref b), (1, .ref (ad 77)), (2, .ref (am 0)), (3, .ref o), (4, .ref od), (5, .int i)]) (hR : R.frames = 2048 ∧ R.locals = 94400 ∧ cells + 16 ≤ R.cells ∧ slots + 96 ≤ R.slots) (hst1 : St_key Rel) (hr : Rel G K) (h1 : vp_in (i + 1) L) (h2 : vp_in (i + 2) L) 
    (kk : ∀ (H1 : Heap) (L1 : List Loc) (ls1 : Array Slot) (G' K' : GT), Rel G' K' → LWd D Y ad am o od G' K' H1 → va_S (LA n0) s.heap H1 L1 → lv_has ls1 9 [(0, .ref b), (1, .ref (ad 77)), (2, .ref (am 0)), (3, .ref o), (4, .ref od), (5, .int i)] → W p l ev R s m args below meth c H1 L1 (cells + 16) (slots + 96) Q (F0 m 2244 ls1 [])) : W p l ev R s m args below meth c H locs cells slots Q (F0 m 268 ls []) := by
  have hx := F.1.1
  have hb := F.1.2.1
  obtain ⟨RR, G', r2, K', e1, e2, e3, hks, e5, hrel⟩ := hst1 G K hr (xs (i + 1).toNatClampNeg) (xs (i + 2).toNatClampNeg)
  refine lv_aload_n hx hb dL_law_268 rfl (lv_at hl 1 rfl) ?_
  refine lv_aload_n hx hb dL_law_269 rfl (lv_at hl 0 rfl) ?_
  refine lv_iload hx hb dL_law_270 (lv_at hl 5 rfl) ?_
  refine lv_iconst (v := 1) hx hb dL_law_272 (by decide) ?_
  refine lv_iadd hx hb dL_law_273 ?_
  refine la_x F E hS h1 dL_law_274 ?_
  refine lv_aload_n hx hb dL_law_275 rfl (lv_at hl 0 rfl) ?_
  refine lv_iload hx hb dL_law_276 (lv_at hl 5 rfl) ?_
  refine lv_iconst (v := 2) hx hb dL_law_278 (by decide) ?_
  refine lv_iadd hx hb dL_law_279 ?_
  refine la_x F E hS h2 dL_law_280 ?_
  refine lv_aload_n hx hb dL_law_281 rfl (lv_at hl 3 rfl) ?_
  refine la_H (G' := G') F E hW hS kl_key mw_678 (fun f => ql_key l hst D Y ad E.2.1.1 G (xs (i + 1).toNatClampNeg) (xs (i + 2).toNatClampNeg) o f RR G' e1 hks) rfl hl.1 ⟨by rw [hR.1]; exact Nat.le_of_ble_eq_true rfl, by rw [hR.2.1]; exact Nat.le_of_ble_eq_true rfl⟩ rfl (Nat.le_of_ble_eq_true rfl) ⟨by omega, by omega⟩ dL_law_282 ?_
  intro f H1 L1 hT hv hW hS
  refine lv_istore (lv' := [(6, .int (cod [0, 1, 2] RR)), (0, .ref b), (1, .ref (ad 77)), (2, .ref (am 0)), (3, .ref o), (4, .ref od), (5, .int i)]) hx hb dL_law_285 hl (by decide) rfl (fun ls hl => ?_)
  refine lv_aload_n hx hb dL_law_287 rfl (lv_at hl 3 rfl) ?_
  refine lv_aload_n hx hb dL_law_288 rfl (lv_at hl 1 rfl) ?_
  refine lv_iload hx hb dL_law_289 (lv_at hl 6 rfl) ?_
  refine lv_iconst (v := 1) hx hb dL_law_291 (by decide) ?_
  refine lv_iadd hx hb dL_law_292 ?_
  refine la_x F E hS h1 dL_law_293 ?_
  refine lv_aload_n hx hb dL_law_294 rfl (lv_at hl 1 rfl) ?_
  refine lv_iload hx hb dL_law_295 (lv_at hl 6 rfl) ?_
  refine lv_iconst (v := 2) hx hb dL_law_297 (by decide) ?_
  refine lv_iadd hx hb dL_law_298 ?_
  refine la_x F E hS h2 dL_law_299 ?_
  refine la_W (rest := []) (As := [.int (xs (i + 1).toNatClampNeg), .int (xs (i + 2).toNatClampNeg)]) (G1 := K') F hS E.2.1.2.2.2.1 k_X10_key mw_1394 hW.2.1 0 11 rfl (wsW_get 0 (by decide)) (q_X10_key l D Y am E.2.1.2.1 K (xs (i + 1).toNatClampNeg) (xs (i + 2).toNatClampNeg) r2 K' e2) Bw.blind (fun U hU hw => Bw.of F.2 hW.2.1 hU hw) rfl hl.1 ⟨by rw [hR.1]; exact Nat.le_of_ble_eq_true rfl, by rw [hR.2.1]; exact Nat.le_of_ble_eq_true rfl⟩ rfl (Nat.le_of_ble_eq_true rfl) ⟨by omega, by omega⟩ dL_law_300 ?_
  intro H1 L1 hP hq hS
  have hT := hT.kept (hq _ (at_lt hT) E.2.1.2.2.2.2.2.2.2.2.2.1)
  have hW := hW.upM E.2.1 hP hq
  refine lv_istore (lv' := [(7, .int r2), (6, .int (cod [0, 1, 2] RR)), (0, .ref b), (1, .ref (ad 77)), (2, .ref (am 0)), (3, .ref o), (4, .ref od), (5, .int i)]) hx hb dL_law_303 hl (by decide) rfl (fun ls hl => ?_)
  refine lv_aload_n hx hb dL_law_305 rfl (lv_at hl 4 rfl) ?_
  refine rd_V (rest := []) (As := []) F hW.2.1 k_X10_thrown mw_1356 0 11 rfl (wsW_get 0 (by decide)) (q_X10_thrown l D Y am K'  (cod [0, 1, 2] RR) e3) rfl hl.1 ⟨by rw [hR.1]; exact Nat.le_of_ble_eq_true rfl, by rw [hR.2.1]; exact Nat.le_of_ble_eq_true rfl⟩ rfl (Nat.le_of_ble_eq_true rfl) ⟨by omega, by omega⟩ dL_law_306 ?_
  intro _
  refine lv_iload hx hb dL_law_309 (lv_at hl 1 rfl) ?_
  refine lv_icmp_eq (tgt := 316) hx hb dL_law_311 (by decide) (fun c1 => ?_) (fun c1 => absurd rfl c1)
  refine lv_iload hx hb dL_law_316 (lv_at hl 1 rfl) ?_
  refine lv_if_ne (tgt := 333) hx hb dL_law_318 (by decide) (fun c1 => ?_) (fun c1 => ?_)
  · refine lv_goto (tgt := 2244) hx hb dL_law_333 (by decide) ?_
    refine W.widen (k := cells + 16) (n := slots + 96) (by omega) (by omega) ?_
    exact kk H1 L1 ls G' K' hrel hW hS (lv_sub hl [2, 3, 4, 5, 6, 7] rfl)
  · obtain ⟨v, hRv⟩ := cod0 (ks := [0, 1, 2]) (by decide) c1
    have hfv := hv v hRv
    have hvr := e5 v hRv
    subst hvr
    refine lv_aload_n hx hb dL_law_321 rfl (lv_at hl 5 rfl) ?_
    refine lv_iconst (v := 0) hx hb dL_law_322 (by decide) ?_
    refine va_lald hx hb F.2.1 (at_P hT) 0 4 rfl rfl (by unfold vp_in; decide) dL_law_323 ?_
    refine lv_iload hx hb dL_law_324 (lv_at hl 0 rfl) ?_
    refine lv_i2l (v := v.toInt64) hx hb dL_law_326 rfl ?_
    refine W.lcmp hx hb dL_law_327 ?_
    refine lv_if_eq (tgt := 333) hx hb dL_law_328 (by decide) (fun c2 => ?_) (fun c2 => absurd ?_ c2)
    · refine lv_goto (tgt := 2244) hx hb dL_law_333 (by decide) ?_
      refine W.widen (k := cells + 16) (n := slots + 96) (by omega) (by omega) ?_
      exact kk H1 L1 ls G' K' hrel hW hS (lv_sub hl [2, 3, 4, 5, 6, 7] rfl)
    · rw [show f (0 : Int32).toNatClampNeg = v.toInt64 from hfv]
      exact lgc_self _
set_option maxRecDepth 100000 in
set_option maxHeartbeats 4000000 in
theorem case_2 {p : Program} {l : Launch} {ev : Env} {R : Room} {s : State} {m : MethodId} {args : Array Value} {below : List Frame} {meth : Method} {c : Code} {H : Heap} {locs : List Loc} {cells slots : Nat} {Q : State → Prop} {ls : Array Slot} {D : va_G} {Y : Nat → ClassId} {ad am : Nat → Nat} {G K : GT} {o od n0 b L : Nat} {xs : Nat → Int32} {Rel : GT → GT → Prop} {i : Int32} (hst : l.stackTraces = false) (F : Fx p c cL_law 9 s m args RL D Y) (E : LEn s ad am o od n0 b L xs) (hW : LWd D Y ad am o od G K H) (hS : va_S (LA n0) s.heap H locs) (hl : lv_has ls 9 [(0, .ref b), (1, .ref (ad 77)), (2, .ref (am 0)), (3, .ref o), (4, .ref od), (5, .int i)]) (hR : R.frames = 2048 ∧ R.locals = 94400 ∧ cells + 16 ≤ R.cells ∧ slots + 96 ≤ R.slots) (hst1 : St_leak Rel) (hr : Rel G K) (h1 : vp_in (i + 1) L) (h2 : vp_in (i + 2) L) 
    (kk : ∀ (H1 : Heap) (L1 : List Loc) (ls1 : Array Slot) (G' K' : GT), Rel G' K' → LWd D Y ad am o od G' K' H1 → va_S (LA n0) s.heap H1 L1 → lv_has ls1 9 [(0, .ref b), (1, .ref (ad 77)), (2, .ref (am 0)), (3, .ref o), (4, .ref od), (5, .int i)] → W p l ev R s m args below meth c H1 L1 (cells + 16) (slots + 96) Q (F0 m 2244 ls1 [])) : W p l ev R s m args below meth c H locs cells slots Q (F0 m 336 ls []) := by
  have hx := F.1.1
  have hb := F.1.2.1
  obtain ⟨RR, G', r2, K', e1, e2, e3, hks, e5, hrel⟩ := hst1 G K hr (xs (i + 1).toNatClampNeg) (xs (i + 2).toNatClampNeg)
  refine lv_aload_n hx hb dL_law_336 rfl (lv_at hl 1 rfl) ?_
  refine lv_aload_n hx hb dL_law_337 rfl (lv_at hl 0 rfl) ?_
  refine lv_iload hx hb dL_law_338 (lv_at hl 5 rfl) ?_
  refine lv_iconst (v := 1) hx hb dL_law_340 (by decide) ?_
  refine lv_iadd hx hb dL_law_341 ?_
  refine la_x F E hS h1 dL_law_342 ?_
  refine lv_aload_n hx hb dL_law_343 rfl (lv_at hl 0 rfl) ?_
  refine lv_iload hx hb dL_law_344 (lv_at hl 5 rfl) ?_
  refine lv_iconst (v := 2) hx hb dL_law_346 (by decide) ?_
  refine lv_iadd hx hb dL_law_347 ?_
  refine la_x F E hS h2 dL_law_348 ?_
  refine lv_aload_n hx hb dL_law_349 rfl (lv_at hl 3 rfl) ?_
  refine la_H (G' := G') F E hW hS kl_leak mw_707 (fun f => ql_leak l hst D Y ad E.2.1.1 G (xs (i + 1).toNatClampNeg) (xs (i + 2).toNatClampNeg) o f RR G' e1 hks) rfl hl.1 ⟨by rw [hR.1]; exact Nat.le_of_ble_eq_true rfl, by rw [hR.2.1]; exact Nat.le_of_ble_eq_true rfl⟩ rfl (Nat.le_of_ble_eq_true rfl) ⟨by omega, by omega⟩ dL_law_350 ?_
  intro f H1 L1 hT hv hW hS
  refine lv_istore (lv' := [(6, .int (cod [0, 1, 2] RR)), (0, .ref b), (1, .ref (ad 77)), (2, .ref (am 0)), (3, .ref o), (4, .ref od), (5, .int i)]) hx hb dL_law_353 hl (by decide) rfl (fun ls hl => ?_)
  refine lv_aload_n hx hb dL_law_355 rfl (lv_at hl 3 rfl) ?_
  refine lv_aload_n hx hb dL_law_356 rfl (lv_at hl 1 rfl) ?_
  refine lv_iload hx hb dL_law_357 (lv_at hl 6 rfl) ?_
  refine lv_iconst (v := 1) hx hb dL_law_359 (by decide) ?_
  refine lv_iadd hx hb dL_law_360 ?_
  refine la_x F E hS h1 dL_law_361 ?_
  refine lv_aload_n hx hb dL_law_362 rfl (lv_at hl 1 rfl) ?_
  refine lv_iload hx hb dL_law_363 (lv_at hl 6 rfl) ?_
  refine lv_iconst (v := 2) hx hb dL_law_365 (by decide) ?_
  refine lv_iadd hx hb dL_law_366 ?_
  refine la_x F E hS h2 dL_law_367 ?_
  refine la_W (rest := []) (As := [.int (xs (i + 1).toNatClampNeg), .int (xs (i + 2).toNatClampNeg)]) (G1 := K') F hS E.2.1.2.2.2.1 k_X10_leak mw_1405 hW.2.1 0 11 rfl (wsW_get 0 (by decide)) (q_X10_leak l D Y am E.2.1.2.1 K (xs (i + 1).toNatClampNeg) (xs (i + 2).toNatClampNeg) r2 K' e2) Bw.blind (fun U hU hw => Bw.of F.2 hW.2.1 hU hw) rfl hl.1 ⟨by rw [hR.1]; exact Nat.le_of_ble_eq_true rfl, by rw [hR.2.1]; exact Nat.le_of_ble_eq_true rfl⟩ rfl (Nat.le_of_ble_eq_true rfl) ⟨by omega, by omega⟩ dL_law_368 ?_
  intro H1 L1 hP hq hS
  have hT := hT.kept (hq _ (at_lt hT) E.2.1.2.2.2.2.2.2.2.2.2.1)
  have hW := hW.upM E.2.1 hP hq
  refine lv_istore (lv' := [(7, .int r2), (6, .int (cod [0, 1, 2] RR)), (0, .ref b), (1, .ref (ad 77)), (2, .ref (am 0)), (3, .ref o), (4, .ref od), (5, .int i)]) hx hb dL_law_371 hl (by decide) rfl (fun ls hl => ?_)
  refine lv_aload_n hx hb dL_law_373 rfl (lv_at hl 4 rfl) ?_
  refine rd_V (rest := []) (As := []) F hW.2.1 k_X10_thrown mw_1356 0 11 rfl (wsW_get 0 (by decide)) (q_X10_thrown l D Y am K'  (cod [0, 1, 2] RR) e3) rfl hl.1 ⟨by rw [hR.1]; exact Nat.le_of_ble_eq_true rfl, by rw [hR.2.1]; exact Nat.le_of_ble_eq_true rfl⟩ rfl (Nat.le_of_ble_eq_true rfl) ⟨by omega, by omega⟩ dL_law_374 ?_
  intro _
  refine lv_iload hx hb dL_law_377 (lv_at hl 1 rfl) ?_
  refine lv_icmp_eq (tgt := 384) hx hb dL_law_379 (by decide) (fun c1 => ?_) (fun c1 => absurd rfl c1)
  refine lv_iload hx hb dL_law_384 (lv_at hl 1 rfl) ?_
  refine lv_if_ne (tgt := 401) hx hb dL_law_386 (by decide) (fun c1 => ?_) (fun c1 => ?_)
  · refine lv_goto (tgt := 2244) hx hb dL_law_401 (by decide) ?_
    refine W.widen (k := cells + 16) (n := slots + 96) (by omega) (by omega) ?_
    exact kk H1 L1 ls G' K' hrel hW hS (lv_sub hl [2, 3, 4, 5, 6, 7] rfl)
  · obtain ⟨v, hRv⟩ := cod0 (ks := [0, 1, 2]) (by decide) c1
    have hfv := hv v hRv
    have hvr := e5 v hRv
    subst hvr
    refine lv_aload_n hx hb dL_law_389 rfl (lv_at hl 5 rfl) ?_
    refine lv_iconst (v := 0) hx hb dL_law_390 (by decide) ?_
    refine va_lald hx hb F.2.1 (at_P hT) 0 4 rfl rfl (by unfold vp_in; decide) dL_law_391 ?_
    refine lv_iload hx hb dL_law_392 (lv_at hl 0 rfl) ?_
    refine lv_i2l (v := v.toInt64) hx hb dL_law_394 rfl ?_
    refine W.lcmp hx hb dL_law_395 ?_
    refine lv_if_eq (tgt := 401) hx hb dL_law_396 (by decide) (fun c2 => ?_) (fun c2 => absurd ?_ c2)
    · refine lv_goto (tgt := 2244) hx hb dL_law_401 (by decide) ?_
      refine W.widen (k := cells + 16) (n := slots + 96) (by omega) (by omega) ?_
      exact kk H1 L1 ls G' K' hrel hW hS (lv_sub hl [2, 3, 4, 5, 6, 7] rfl)
    · rw [show f (0 : Int32).toNatClampNeg = v.toInt64 from hfv]
      exact lgc_self _
set_option maxRecDepth 100000 in
set_option maxHeartbeats 4000000 in
theorem case_3 {p : Program} {l : Launch} {ev : Env} {R : Room} {s : State} {m : MethodId} {args : Array Value} {below : List Frame} {meth : Method} {c : Code} {H : Heap} {locs : List Loc} {cells slots : Nat} {Q : State → Prop} {ls : Array Slot} {D : va_G} {Y : Nat → ClassId} {ad am : Nat → Nat} {G K : GT} {o od n0 b L : Nat} {xs : Nat → Int32} {Rel : GT → GT → Prop} {i : Int32} (hst : l.stackTraces = false) (F : Fx p c cL_law 9 s m args RL D Y) (E : LEn s ad am o od n0 b L xs) (hW : LWd D Y ad am o od G K H) (hS : va_S (LA n0) s.heap H locs) (hl : lv_has ls 9 [(0, .ref b), (1, .ref (ad 77)), (2, .ref (am 0)), (3, .ref o), (4, .ref od), (5, .int i)]) (hR : R.frames = 2048 ∧ R.locals = 94400 ∧ cells + 16 ≤ R.cells ∧ slots + 96 ≤ R.slots) (hst1 : St_drop Rel) (hr : Rel G K) (h1 : vp_in (i + 1) L) (h2 : vp_in (i + 2) L) (h3 : vp_in (i + 3) L) 
    (kk : ∀ (H1 : Heap) (L1 : List Loc) (ls1 : Array Slot) (G' K' : GT), Rel G' K' → LWd D Y ad am o od G' K' H1 → va_S (LA n0) s.heap H1 L1 → lv_has ls1 9 [(0, .ref b), (1, .ref (ad 77)), (2, .ref (am 0)), (3, .ref o), (4, .ref od), (5, .int i)] → W p l ev R s m args below meth c H1 L1 (cells + 16) (slots + 96) Q (F0 m 2244 ls1 [])) : W p l ev R s m args below meth c H locs cells slots Q (F0 m 404 ls []) := by
  have hx := F.1.1
  have hb := F.1.2.1
  obtain ⟨RR, G', r2, K', e1, e2, e3, hks, e5, hrel⟩ := hst1 G K hr (xs (i + 1).toNatClampNeg) (xs (i + 2).toNatClampNeg) (xs (i + 3).toNatClampNeg)
  refine lv_aload_n hx hb dL_law_404 rfl (lv_at hl 1 rfl) ?_
  refine lv_aload_n hx hb dL_law_405 rfl (lv_at hl 0 rfl) ?_
  refine lv_iload hx hb dL_law_406 (lv_at hl 5 rfl) ?_
  refine lv_iconst (v := 1) hx hb dL_law_408 (by decide) ?_
  refine lv_iadd hx hb dL_law_409 ?_
  refine la_x F E hS h1 dL_law_410 ?_
  refine lv_aload_n hx hb dL_law_411 rfl (lv_at hl 0 rfl) ?_
  refine lv_iload hx hb dL_law_412 (lv_at hl 5 rfl) ?_
  refine lv_iconst (v := 2) hx hb dL_law_414 (by decide) ?_
  refine lv_iadd hx hb dL_law_415 ?_
  refine la_x F E hS h2 dL_law_416 ?_
  refine lv_aload_n hx hb dL_law_417 rfl (lv_at hl 0 rfl) ?_
  refine lv_iload hx hb dL_law_418 (lv_at hl 5 rfl) ?_
  refine lv_iconst (v := 3) hx hb dL_law_420 (by decide) ?_
  refine lv_iadd hx hb dL_law_421 ?_
  refine la_x F E hS h3 dL_law_422 ?_
  refine lv_aload_n hx hb dL_law_423 rfl (lv_at hl 3 rfl) ?_
  refine la_H (G' := G') F E hW hS kl_drop mw_715 (fun f => ql_drop l hst D Y ad E.2.1.1 G (xs (i + 1).toNatClampNeg) (xs (i + 2).toNatClampNeg) (xs (i + 3).toNatClampNeg) o f RR G' e1 hks) rfl hl.1 ⟨by rw [hR.1]; exact Nat.le_of_ble_eq_true rfl, by rw [hR.2.1]; exact Nat.le_of_ble_eq_true rfl⟩ rfl (Nat.le_of_ble_eq_true rfl) ⟨by omega, by omega⟩ dL_law_424 ?_
  intro f H1 L1 hT hv hW hS
  refine lv_istore (lv' := [(6, .int (cod [0, 1, 2] RR)), (0, .ref b), (1, .ref (ad 77)), (2, .ref (am 0)), (3, .ref o), (4, .ref od), (5, .int i)]) hx hb dL_law_427 hl (by decide) rfl (fun ls hl => ?_)
  refine lv_aload_n hx hb dL_law_429 rfl (lv_at hl 3 rfl) ?_
  refine lv_aload_n hx hb dL_law_430 rfl (lv_at hl 1 rfl) ?_
  refine lv_iload hx hb dL_law_431 (lv_at hl 6 rfl) ?_
  refine lv_iconst (v := 1) hx hb dL_law_433 (by decide) ?_
  refine lv_iadd hx hb dL_law_434 ?_
  refine la_x F E hS h1 dL_law_435 ?_
  refine lv_aload_n hx hb dL_law_436 rfl (lv_at hl 1 rfl) ?_
  refine lv_iload hx hb dL_law_437 (lv_at hl 6 rfl) ?_
  refine lv_iconst (v := 2) hx hb dL_law_439 (by decide) ?_
  refine lv_iadd hx hb dL_law_440 ?_
  refine la_x F E hS h2 dL_law_441 ?_
  refine lv_aload_n hx hb dL_law_442 rfl (lv_at hl 1 rfl) ?_
  refine lv_iload hx hb dL_law_443 (lv_at hl 6 rfl) ?_
  refine lv_iconst (v := 3) hx hb dL_law_445 (by decide) ?_
  refine lv_iadd hx hb dL_law_446 ?_
  refine la_x F E hS h3 dL_law_447 ?_
  refine la_W (rest := []) (As := [.int (xs (i + 1).toNatClampNeg), .int (xs (i + 2).toNatClampNeg), .int (xs (i + 3).toNatClampNeg)]) (G1 := K') F hS E.2.1.2.2.2.1 k_X10_drop mw_1409 hW.2.1 0 11 rfl (wsW_get 0 (by decide)) (q_X10_drop l D Y am E.2.1.2.1 K (xs (i + 1).toNatClampNeg) (xs (i + 2).toNatClampNeg) (xs (i + 3).toNatClampNeg) r2 K' e2) Bw.blind (fun U hU hw => Bw.of F.2 hW.2.1 hU hw) rfl hl.1 ⟨by rw [hR.1]; exact Nat.le_of_ble_eq_true rfl, by rw [hR.2.1]; exact Nat.le_of_ble_eq_true rfl⟩ rfl (Nat.le_of_ble_eq_true rfl) ⟨by omega, by omega⟩ dL_law_448 ?_
  intro H1 L1 hP hq hS
  have hT := hT.kept (hq _ (at_lt hT) E.2.1.2.2.2.2.2.2.2.2.2.1)
  have hW := hW.upM E.2.1 hP hq
  refine lv_istore (lv' := [(7, .int r2), (6, .int (cod [0, 1, 2] RR)), (0, .ref b), (1, .ref (ad 77)), (2, .ref (am 0)), (3, .ref o), (4, .ref od), (5, .int i)]) hx hb dL_law_451 hl (by decide) rfl (fun ls hl => ?_)
  refine lv_aload_n hx hb dL_law_453 rfl (lv_at hl 4 rfl) ?_
  refine rd_V (rest := []) (As := []) F hW.2.1 k_X10_thrown mw_1356 0 11 rfl (wsW_get 0 (by decide)) (q_X10_thrown l D Y am K'  (cod [0, 1, 2] RR) e3) rfl hl.1 ⟨by rw [hR.1]; exact Nat.le_of_ble_eq_true rfl, by rw [hR.2.1]; exact Nat.le_of_ble_eq_true rfl⟩ rfl (Nat.le_of_ble_eq_true rfl) ⟨by omega, by omega⟩ dL_law_454 ?_
  intro _
  refine lv_iload hx hb dL_law_457 (lv_at hl 1 rfl) ?_
  refine lv_icmp_eq (tgt := 464) hx hb dL_law_459 (by decide) (fun c1 => ?_) (fun c1 => absurd rfl c1)
  refine lv_iload hx hb dL_law_464 (lv_at hl 1 rfl) ?_
  refine lv_if_ne (tgt := 481) hx hb dL_law_466 (by decide) (fun c1 => ?_) (fun c1 => ?_)
  · refine lv_goto (tgt := 2244) hx hb dL_law_481 (by decide) ?_
    refine W.widen (k := cells + 16) (n := slots + 96) (by omega) (by omega) ?_
    exact kk H1 L1 ls G' K' hrel hW hS (lv_sub hl [2, 3, 4, 5, 6, 7] rfl)
  · obtain ⟨v, hRv⟩ := cod0 (ks := [0, 1, 2]) (by decide) c1
    have hfv := hv v hRv
    have hvr := e5 v hRv
    subst hvr
    refine lv_aload_n hx hb dL_law_469 rfl (lv_at hl 5 rfl) ?_
    refine lv_iconst (v := 0) hx hb dL_law_470 (by decide) ?_
    refine va_lald hx hb F.2.1 (at_P hT) 0 4 rfl rfl (by unfold vp_in; decide) dL_law_471 ?_
    refine lv_iload hx hb dL_law_472 (lv_at hl 0 rfl) ?_
    refine lv_i2l (v := v.toInt64) hx hb dL_law_474 rfl ?_
    refine W.lcmp hx hb dL_law_475 ?_
    refine lv_if_eq (tgt := 481) hx hb dL_law_476 (by decide) (fun c2 => ?_) (fun c2 => absurd ?_ c2)
    · refine lv_goto (tgt := 2244) hx hb dL_law_481 (by decide) ?_
      refine W.widen (k := cells + 16) (n := slots + 96) (by omega) (by omega) ?_
      exact kk H1 L1 ls G' K' hrel hW hS (lv_sub hl [2, 3, 4, 5, 6, 7] rfl)
    · rw [show f (0 : Int32).toNatClampNeg = v.toInt64 from hfv]
      exact lgc_self _
set_option maxRecDepth 100000 in
set_option maxHeartbeats 4000000 in
theorem case_4 {p : Program} {l : Launch} {ev : Env} {R : Room} {s : State} {m : MethodId} {args : Array Value} {below : List Frame} {meth : Method} {c : Code} {H : Heap} {locs : List Loc} {cells slots : Nat} {Q : State → Prop} {ls : Array Slot} {D : va_G} {Y : Nat → ClassId} {ad am : Nat → Nat} {G K : GT} {o od n0 b L : Nat} {xs : Nat → Int32} {Rel : GT → GT → Prop} {i : Int32} (hst : l.stackTraces = false) (F : Fx p c cL_law 9 s m args RL D Y) (E : LEn s ad am o od n0 b L xs) (hW : LWd D Y ad am o od G K H) (hS : va_S (LA n0) s.heap H locs) (hl : lv_has ls 9 [(0, .ref b), (1, .ref (ad 77)), (2, .ref (am 0)), (3, .ref o), (4, .ref od), (5, .int i)]) (hR : R.frames = 2048 ∧ R.locals = 94400 ∧ cells + 16 ≤ R.cells ∧ slots + 96 ≤ R.slots) (hst1 : St_rest Rel) (hr : Rel G K) (h1 : vp_in (i + 1) L) 
    (kk : ∀ (H1 : Heap) (L1 : List Loc) (ls1 : Array Slot) (G' K' : GT), Rel G' K' → LWd D Y ad am o od G' K' H1 → va_S (LA n0) s.heap H1 L1 → lv_has ls1 9 [(0, .ref b), (1, .ref (ad 77)), (2, .ref (am 0)), (3, .ref o), (4, .ref od), (5, .int i)] → W p l ev R s m args below meth c H1 L1 (cells + 16) (slots + 96) Q (F0 m 2244 ls1 [])) : W p l ev R s m args below meth c H locs cells slots Q (F0 m 484 ls []) := by
  have hx := F.1.1
  have hb := F.1.2.1
  obtain ⟨RR, G', r2, K', e1, e2, e3, hks, e5, hrel⟩ := hst1 G K hr (xs (i + 1).toNatClampNeg)
  refine lv_aload_n hx hb dL_law_484 rfl (lv_at hl 1 rfl) ?_
  refine lv_aload_n hx hb dL_law_485 rfl (lv_at hl 0 rfl) ?_
  refine lv_iload hx hb dL_law_486 (lv_at hl 5 rfl) ?_
  refine lv_iconst (v := 1) hx hb dL_law_488 (by decide) ?_
  refine lv_iadd hx hb dL_law_489 ?_
  refine la_x F E hS h1 dL_law_490 ?_
  refine lv_aload_n hx hb dL_law_491 rfl (lv_at hl 3 rfl) ?_
  refine la_H (G' := G') F E hW hS kl_rest mw_723 (fun f => ql_rest l hst D Y ad E.2.1.1 G (xs (i + 1).toNatClampNeg) o f RR G' e1 hks) rfl hl.1 ⟨by rw [hR.1]; exact Nat.le_of_ble_eq_true rfl, by rw [hR.2.1]; exact Nat.le_of_ble_eq_true rfl⟩ rfl (Nat.le_of_ble_eq_true rfl) ⟨by omega, by omega⟩ dL_law_492 ?_
  intro f H1 L1 hT hv hW hS
  refine lv_istore (lv' := [(6, .int (cod [0, 2] RR)), (0, .ref b), (1, .ref (ad 77)), (2, .ref (am 0)), (3, .ref o), (4, .ref od), (5, .int i)]) hx hb dL_law_495 hl (by decide) rfl (fun ls hl => ?_)
  refine lv_aload_n hx hb dL_law_497 rfl (lv_at hl 3 rfl) ?_
  refine lv_aload_n hx hb dL_law_498 rfl (lv_at hl 1 rfl) ?_
  refine lv_iload hx hb dL_law_499 (lv_at hl 6 rfl) ?_
  refine lv_iconst (v := 1) hx hb dL_law_501 (by decide) ?_
  refine lv_iadd hx hb dL_law_502 ?_
  refine la_x F E hS h1 dL_law_503 ?_
  refine la_W (rest := []) (As := [.int (xs (i + 1).toNatClampNeg)]) (G1 := K') F hS E.2.1.2.2.2.1 k_X10_rest mw_1437 hW.2.1 0 11 rfl (wsW_get 0 (by decide)) (q_X10_rest l D Y am E.2.1.2.1 K (xs (i + 1).toNatClampNeg) r2 K' e2) Bw.blind (fun U hU hw => Bw.of F.2 hW.2.1 hU hw) rfl hl.1 ⟨by rw [hR.1]; exact Nat.le_of_ble_eq_true rfl, by rw [hR.2.1]; exact Nat.le_of_ble_eq_true rfl⟩ rfl (Nat.le_of_ble_eq_true rfl) ⟨by omega, by omega⟩ dL_law_504 ?_
  intro H1 L1 hP hq hS
  have hT := hT.kept (hq _ (at_lt hT) E.2.1.2.2.2.2.2.2.2.2.2.1)
  have hW := hW.upM E.2.1 hP hq
  refine lv_istore (lv' := [(7, .int r2), (6, .int (cod [0, 2] RR)), (0, .ref b), (1, .ref (ad 77)), (2, .ref (am 0)), (3, .ref o), (4, .ref od), (5, .int i)]) hx hb dL_law_507 hl (by decide) rfl (fun ls hl => ?_)
  refine lv_aload_n hx hb dL_law_509 rfl (lv_at hl 4 rfl) ?_
  refine rd_V (rest := []) (As := []) F hW.2.1 k_X10_thrown mw_1356 0 11 rfl (wsW_get 0 (by decide)) (q_X10_thrown l D Y am K'  (cod [0, 2] RR) e3) rfl hl.1 ⟨by rw [hR.1]; exact Nat.le_of_ble_eq_true rfl, by rw [hR.2.1]; exact Nat.le_of_ble_eq_true rfl⟩ rfl (Nat.le_of_ble_eq_true rfl) ⟨by omega, by omega⟩ dL_law_510 ?_
  intro _
  refine lv_iload hx hb dL_law_513 (lv_at hl 1 rfl) ?_
  refine lv_icmp_eq (tgt := 520) hx hb dL_law_515 (by decide) (fun c1 => ?_) (fun c1 => absurd rfl c1)
  refine lv_iload hx hb dL_law_520 (lv_at hl 1 rfl) ?_
  refine lv_if_ne (tgt := 537) hx hb dL_law_522 (by decide) (fun c1 => ?_) (fun c1 => ?_)
  · refine lv_goto (tgt := 2244) hx hb dL_law_537 (by decide) ?_
    refine W.widen (k := cells + 16) (n := slots + 96) (by omega) (by omega) ?_
    exact kk H1 L1 ls G' K' hrel hW hS (lv_sub hl [2, 3, 4, 5, 6, 7] rfl)
  · obtain ⟨v, hRv⟩ := cod0 (ks := [0, 2]) (by decide) c1
    have hfv := hv v hRv
    have hvr := e5 v hRv
    subst hvr
    refine lv_aload_n hx hb dL_law_525 rfl (lv_at hl 5 rfl) ?_
    refine lv_iconst (v := 0) hx hb dL_law_526 (by decide) ?_
    refine va_lald hx hb F.2.1 (at_P hT) 0 4 rfl rfl (by unfold vp_in; decide) dL_law_527 ?_
    refine lv_iload hx hb dL_law_528 (lv_at hl 0 rfl) ?_
    refine lv_i2l (v := v.toInt64) hx hb dL_law_530 rfl ?_
    refine W.lcmp hx hb dL_law_531 ?_
    refine lv_if_eq (tgt := 537) hx hb dL_law_532 (by decide) (fun c2 => ?_) (fun c2 => absurd ?_ c2)
    · refine lv_goto (tgt := 2244) hx hb dL_law_537 (by decide) ?_
      refine W.widen (k := cells + 16) (n := slots + 96) (by omega) (by omega) ?_
      exact kk H1 L1 ls G' K' hrel hW hS (lv_sub hl [2, 3, 4, 5, 6, 7] rfl)
    · rw [show f (0 : Int32).toNatClampNeg = v.toInt64 from hfv]
      exact lgc_self _
set_option maxRecDepth 100000 in
set_option maxHeartbeats 4000000 in
theorem case_5 {p : Program} {l : Launch} {ev : Env} {R : Room} {s : State} {m : MethodId} {args : Array Value} {below : List Frame} {meth : Method} {c : Code} {H : Heap} {locs : List Loc} {cells slots : Nat} {Q : State → Prop} {ls : Array Slot} {D : va_G} {Y : Nat → ClassId} {ad am : Nat → Nat} {G K : GT} {o od n0 b L : Nat} {xs : Nat → Int32} {Rel : GT → GT → Prop} {i : Int32} (hst : l.stackTraces = false) (F : Fx p c cL_law 9 s m args RL D Y) (E : LEn s ad am o od n0 b L xs) (hW : LWd D Y ad am o od G K H) (hS : va_S (LA n0) s.heap H locs) (hl : lv_has ls 9 [(0, .ref b), (1, .ref (ad 77)), (2, .ref (am 0)), (3, .ref o), (4, .ref od), (5, .int i)]) (hR : R.frames = 2048 ∧ R.locals = 94400 ∧ cells + 16 ≤ R.cells ∧ slots + 96 ≤ R.slots) (hst1 : St_lift Rel) (hr : Rel G K) 
    (kk : ∀ (H1 : Heap) (L1 : List Loc) (ls1 : Array Slot) (G' K' : GT), Rel G' K' → LWd D Y ad am o od G' K' H1 → va_S (LA n0) s.heap H1 L1 → lv_has ls1 9 [(0, .ref b), (1, .ref (ad 77)), (2, .ref (am 0)), (3, .ref o), (4, .ref od), (5, .int i)] → W p l ev R s m args below meth c H1 L1 (cells + 16) (slots + 96) Q (F0 m 2244 ls1 [])) : W p l ev R s m args below meth c H locs cells slots Q (F0 m 540 ls []) := by
  have hx := F.1.1
  have hb := F.1.2.1
  obtain ⟨RR, G', r2, K', e1, e2, e3, hks, e5, hrel⟩ := hst1 G K hr 
  refine lv_aload_n hx hb dL_law_540 rfl (lv_at hl 1 rfl) ?_
  refine lv_aload_n hx hb dL_law_541 rfl (lv_at hl 3 rfl) ?_
  refine la_H (G' := G') F E hW hS kl_lift mw_731 (fun f => ql_lift l hst D Y ad E.2.1.1 G  o f RR G' e1 hks) rfl hl.1 ⟨by rw [hR.1]; exact Nat.le_of_ble_eq_true rfl, by rw [hR.2.1]; exact Nat.le_of_ble_eq_true rfl⟩ rfl (Nat.le_of_ble_eq_true rfl) ⟨by omega, by omega⟩ dL_law_542 ?_
  intro f H1 L1 hT hv hW hS
  refine lv_istore (lv' := [(6, .int (cod [2] RR)), (0, .ref b), (1, .ref (ad 77)), (2, .ref (am 0)), (3, .ref o), (4, .ref od), (5, .int i)]) hx hb dL_law_545 hl (by decide) rfl (fun ls hl => ?_)
  refine lv_aload_n hx hb dL_law_547 rfl (lv_at hl 3 rfl) ?_
  refine la_W (rest := []) (As := []) (G1 := K') F hS E.2.1.2.2.2.1 k_X10_lift mw_1445 hW.2.1 0 11 rfl (wsW_get 0 (by decide)) (q_X10_lift l D Y am E.2.1.2.1 K  r2 K' e2) Bw.blind (fun U hU hw => Bw.of F.2 hW.2.1 hU hw) rfl hl.1 ⟨by rw [hR.1]; exact Nat.le_of_ble_eq_true rfl, by rw [hR.2.1]; exact Nat.le_of_ble_eq_true rfl⟩ rfl (Nat.le_of_ble_eq_true rfl) ⟨by omega, by omega⟩ dL_law_548 ?_
  intro H1 L1 hP hq hS
  have hT := hT.kept (hq _ (at_lt hT) E.2.1.2.2.2.2.2.2.2.2.2.1)
  have hW := hW.upM E.2.1 hP hq
  refine lv_istore (lv' := [(7, .int r2), (6, .int (cod [2] RR)), (0, .ref b), (1, .ref (ad 77)), (2, .ref (am 0)), (3, .ref o), (4, .ref od), (5, .int i)]) hx hb dL_law_551 hl (by decide) rfl (fun ls hl => ?_)
  refine lv_aload_n hx hb dL_law_553 rfl (lv_at hl 4 rfl) ?_
  refine rd_V (rest := []) (As := []) F hW.2.1 k_X10_thrown mw_1356 0 11 rfl (wsW_get 0 (by decide)) (q_X10_thrown l D Y am K'  (cod [2] RR) e3) rfl hl.1 ⟨by rw [hR.1]; exact Nat.le_of_ble_eq_true rfl, by rw [hR.2.1]; exact Nat.le_of_ble_eq_true rfl⟩ rfl (Nat.le_of_ble_eq_true rfl) ⟨by omega, by omega⟩ dL_law_554 ?_
  intro _
  refine lv_iload hx hb dL_law_557 (lv_at hl 1 rfl) ?_
  refine lv_icmp_eq (tgt := 564) hx hb dL_law_559 (by decide) (fun c1 => ?_) (fun c1 => absurd rfl c1)
  refine lv_iload hx hb dL_law_564 (lv_at hl 1 rfl) ?_
  refine lv_if_ne (tgt := 581) hx hb dL_law_566 (by decide) (fun c1 => ?_) (fun c1 => ?_)
  · refine lv_goto (tgt := 2244) hx hb dL_law_581 (by decide) ?_
    refine W.widen (k := cells + 16) (n := slots + 96) (by omega) (by omega) ?_
    exact kk H1 L1 ls G' K' hrel hW hS (lv_sub hl [2, 3, 4, 5, 6, 7] rfl)
  · obtain ⟨v, hRv⟩ := cod0 (ks := [2]) (by decide) c1
    have hfv := hv v hRv
    have hvr := e5 v hRv
    subst hvr
    refine lv_aload_n hx hb dL_law_569 rfl (lv_at hl 5 rfl) ?_
    refine lv_iconst (v := 0) hx hb dL_law_570 (by decide) ?_
    refine va_lald hx hb F.2.1 (at_P hT) 0 4 rfl rfl (by unfold vp_in; decide) dL_law_571 ?_
    refine lv_iload hx hb dL_law_572 (lv_at hl 0 rfl) ?_
    refine lv_i2l (v := v.toInt64) hx hb dL_law_574 rfl ?_
    refine W.lcmp hx hb dL_law_575 ?_
    refine lv_if_eq (tgt := 581) hx hb dL_law_576 (by decide) (fun c2 => ?_) (fun c2 => absurd ?_ c2)
    · refine lv_goto (tgt := 2244) hx hb dL_law_581 (by decide) ?_
      refine W.widen (k := cells + 16) (n := slots + 96) (by omega) (by omega) ?_
      exact kk H1 L1 ls G' K' hrel hW hS (lv_sub hl [2, 3, 4, 5, 6, 7] rfl)
    · rw [show f (0 : Int32).toNatClampNeg = v.toInt64 from hfv]
      exact lgc_self _
set_option maxRecDepth 100000 in
set_option maxHeartbeats 4000000 in
theorem case_6 {p : Program} {l : Launch} {ev : Env} {R : Room} {s : State} {m : MethodId} {args : Array Value} {below : List Frame} {meth : Method} {c : Code} {H : Heap} {locs : List Loc} {cells slots : Nat} {Q : State → Prop} {ls : Array Slot} {D : va_G} {Y : Nat → ClassId} {ad am : Nat → Nat} {G K : GT} {o od n0 b L : Nat} {xs : Nat → Int32} {Rel : GT → GT → Prop} {i : Int32} (hst : l.stackTraces = false) (F : Fx p c cL_law 9 s m args RL D Y) (E : LEn s ad am o od n0 b L xs) (hW : LWd D Y ad am o od G K H) (hS : va_S (LA n0) s.heap H locs) (hl : lv_has ls 9 [(0, .ref b), (1, .ref (ad 77)), (2, .ref (am 0)), (3, .ref o), (4, .ref od), (5, .int i)]) (hR : R.frames = 2048 ∧ R.locals = 94400 ∧ cells + 16 ≤ R.cells ∧ slots + 96 ≤ R.slots) (hst1 : St_limit Rel) (hr : Rel G K) (h1 : vp_in (i + 1) L) 
    (kk : ∀ (H1 : Heap) (L1 : List Loc) (ls1 : Array Slot) (G' K' : GT), Rel G' K' → LWd D Y ad am o od G' K' H1 → va_S (LA n0) s.heap H1 L1 → lv_has ls1 9 [(0, .ref b), (1, .ref (ad 77)), (2, .ref (am 0)), (3, .ref o), (4, .ref od), (5, .int i)] → W p l ev R s m args below meth c H1 L1 (cells + 16) (slots + 96) Q (F0 m 2244 ls1 [])) : W p l ev R s m args below meth c H locs cells slots Q (F0 m 584 ls []) := by
  have hx := F.1.1
  have hb := F.1.2.1
  obtain ⟨RR, G', r2, K', e1, e2, e3, hks, e5, hrel⟩ := hst1 G K hr (xs (i + 1).toNatClampNeg)
  refine lv_aload_n hx hb dL_law_584 rfl (lv_at hl 1 rfl) ?_
  refine lv_aload_n hx hb dL_law_585 rfl (lv_at hl 0 rfl) ?_
  refine lv_iload hx hb dL_law_586 (lv_at hl 5 rfl) ?_
  refine lv_iconst (v := 1) hx hb dL_law_588 (by decide) ?_
  refine lv_iadd hx hb dL_law_589 ?_
  refine la_x F E hS h1 dL_law_590 ?_
  refine lv_aload_n hx hb dL_law_591 rfl (lv_at hl 3 rfl) ?_
  refine la_H (G' := G') F E hW hS kl_limit mw_739 (fun f => ql_limit l hst D Y ad E.2.1.1 G (xs (i + 1).toNatClampNeg) o f RR G' e1 hks) rfl hl.1 ⟨by rw [hR.1]; exact Nat.le_of_ble_eq_true rfl, by rw [hR.2.1]; exact Nat.le_of_ble_eq_true rfl⟩ rfl (Nat.le_of_ble_eq_true rfl) ⟨by omega, by omega⟩ dL_law_592 ?_
  intro f H1 L1 hT hv hW hS
  refine lv_istore (lv' := [(6, .int (cod [1, 2] RR)), (0, .ref b), (1, .ref (ad 77)), (2, .ref (am 0)), (3, .ref o), (4, .ref od), (5, .int i)]) hx hb dL_law_595 hl (by decide) rfl (fun ls hl => ?_)
  refine lv_aload_n hx hb dL_law_597 rfl (lv_at hl 3 rfl) ?_
  refine lv_aload_n hx hb dL_law_598 rfl (lv_at hl 1 rfl) ?_
  refine lv_iload hx hb dL_law_599 (lv_at hl 6 rfl) ?_
  refine lv_iconst (v := 1) hx hb dL_law_601 (by decide) ?_
  refine lv_iadd hx hb dL_law_602 ?_
  refine la_x F E hS h1 dL_law_603 ?_
  refine la_W (rest := []) (As := [.int (xs (i + 1).toNatClampNeg)]) (G1 := K') F hS E.2.1.2.2.2.1 k_X10_limit mw_1453 hW.2.1 0 11 rfl (wsW_get 0 (by decide)) (q_X10_limit l D Y am E.2.1.2.1 K (xs (i + 1).toNatClampNeg) r2 K' e2) Bw.blind (fun U hU hw => Bw.of F.2 hW.2.1 hU hw) rfl hl.1 ⟨by rw [hR.1]; exact Nat.le_of_ble_eq_true rfl, by rw [hR.2.1]; exact Nat.le_of_ble_eq_true rfl⟩ rfl (Nat.le_of_ble_eq_true rfl) ⟨by omega, by omega⟩ dL_law_604 ?_
  intro H1 L1 hP hq hS
  have hT := hT.kept (hq _ (at_lt hT) E.2.1.2.2.2.2.2.2.2.2.2.1)
  have hW := hW.upM E.2.1 hP hq
  refine lv_istore (lv' := [(7, .int r2), (6, .int (cod [1, 2] RR)), (0, .ref b), (1, .ref (ad 77)), (2, .ref (am 0)), (3, .ref o), (4, .ref od), (5, .int i)]) hx hb dL_law_607 hl (by decide) rfl (fun ls hl => ?_)
  refine lv_aload_n hx hb dL_law_609 rfl (lv_at hl 4 rfl) ?_
  refine rd_V (rest := []) (As := []) F hW.2.1 k_X10_thrown mw_1356 0 11 rfl (wsW_get 0 (by decide)) (q_X10_thrown l D Y am K'  (cod [1, 2] RR) e3) rfl hl.1 ⟨by rw [hR.1]; exact Nat.le_of_ble_eq_true rfl, by rw [hR.2.1]; exact Nat.le_of_ble_eq_true rfl⟩ rfl (Nat.le_of_ble_eq_true rfl) ⟨by omega, by omega⟩ dL_law_610 ?_
  intro _
  refine lv_iload hx hb dL_law_613 (lv_at hl 1 rfl) ?_
  refine lv_icmp_eq (tgt := 620) hx hb dL_law_615 (by decide) (fun c1 => ?_) (fun c1 => absurd rfl c1)
  refine lv_iload hx hb dL_law_620 (lv_at hl 1 rfl) ?_
  refine lv_if_ne (tgt := 637) hx hb dL_law_622 (by decide) (fun c1 => ?_) (fun c1 => ?_)
  · refine lv_goto (tgt := 2244) hx hb dL_law_637 (by decide) ?_
    refine W.widen (k := cells + 16) (n := slots + 96) (by omega) (by omega) ?_
    exact kk H1 L1 ls G' K' hrel hW hS (lv_sub hl [2, 3, 4, 5, 6, 7] rfl)
  · obtain ⟨v, hRv⟩ := cod0 (ks := [1, 2]) (by decide) c1
    have hfv := hv v hRv
    have hvr := e5 v hRv
    subst hvr
    refine lv_aload_n hx hb dL_law_625 rfl (lv_at hl 5 rfl) ?_
    refine lv_iconst (v := 0) hx hb dL_law_626 (by decide) ?_
    refine va_lald hx hb F.2.1 (at_P hT) 0 4 rfl rfl (by unfold vp_in; decide) dL_law_627 ?_
    refine lv_iload hx hb dL_law_628 (lv_at hl 0 rfl) ?_
    refine lv_i2l (v := v.toInt64) hx hb dL_law_630 rfl ?_
    refine W.lcmp hx hb dL_law_631 ?_
    refine lv_if_eq (tgt := 637) hx hb dL_law_632 (by decide) (fun c2 => ?_) (fun c2 => absurd ?_ c2)
    · refine lv_goto (tgt := 2244) hx hb dL_law_637 (by decide) ?_
      refine W.widen (k := cells + 16) (n := slots + 96) (by omega) (by omega) ?_
      exact kk H1 L1 ls G' K' hrel hW hS (lv_sub hl [2, 3, 4, 5, 6, 7] rfl)
    · rw [show f (0 : Int32).toNatClampNeg = v.toInt64 from hfv]
      exact lgc_self _
set_option maxRecDepth 100000 in
set_option maxHeartbeats 4000000 in
theorem case_7 {p : Program} {l : Launch} {ev : Env} {R : Room} {s : State} {m : MethodId} {args : Array Value} {below : List Frame} {meth : Method} {c : Code} {H : Heap} {locs : List Loc} {cells slots : Nat} {Q : State → Prop} {ls : Array Slot} {D : va_G} {Y : Nat → ClassId} {ad am : Nat → Nat} {G K : GT} {o od n0 b L : Nat} {xs : Nat → Int32} {Rel : GT → GT → Prop} {i : Int32} (hst : l.stackTraces = false) (F : Fx p c cL_law 9 s m args RL D Y) (E : LEn s ad am o od n0 b L xs) (hW : LWd D Y ad am o od G K H) (hS : va_S (LA n0) s.heap H locs) (hl : lv_has ls 9 [(0, .ref b), (1, .ref (ad 77)), (2, .ref (am 0)), (3, .ref o), (4, .ref od), (5, .int i)]) (hR : R.frames = 2048 ∧ R.locals = 94400 ∧ cells + 16 ≤ R.cells ∧ slots + 96 ≤ R.slots) (hst1 : St_tune Rel) (hr : Rel G K) (h1 : vp_in (i + 1) L) (h2 : vp_in (i + 2) L) 
    (kk : ∀ (H1 : Heap) (L1 : List Loc) (ls1 : Array Slot) (G' K' : GT), Rel G' K' → LWd D Y ad am o od G' K' H1 → va_S (LA n0) s.heap H1 L1 → lv_has ls1 9 [(0, .ref b), (1, .ref (ad 77)), (2, .ref (am 0)), (3, .ref o), (4, .ref od), (5, .int i)] → W p l ev R s m args below meth c H1 L1 (cells + 16) (slots + 96) Q (F0 m 2244 ls1 [])) : W p l ev R s m args below meth c H locs cells slots Q (F0 m 640 ls []) := by
  have hx := F.1.1
  have hb := F.1.2.1
  obtain ⟨RR, G', r2, K', e1, e2, e3, hks, e5, hrel⟩ := hst1 G K hr (xs (i + 1).toNatClampNeg) (xs (i + 2).toNatClampNeg)
  refine lv_aload_n hx hb dL_law_640 rfl (lv_at hl 1 rfl) ?_
  refine lv_aload_n hx hb dL_law_641 rfl (lv_at hl 0 rfl) ?_
  refine lv_iload hx hb dL_law_642 (lv_at hl 5 rfl) ?_
  refine lv_iconst (v := 1) hx hb dL_law_644 (by decide) ?_
  refine lv_iadd hx hb dL_law_645 ?_
  refine la_x F E hS h1 dL_law_646 ?_
  refine lv_aload_n hx hb dL_law_647 rfl (lv_at hl 0 rfl) ?_
  refine lv_iload hx hb dL_law_648 (lv_at hl 5 rfl) ?_
  refine lv_iconst (v := 2) hx hb dL_law_650 (by decide) ?_
  refine lv_iadd hx hb dL_law_651 ?_
  refine la_x F E hS h2 dL_law_652 ?_
  refine lv_aload_n hx hb dL_law_653 rfl (lv_at hl 3 rfl) ?_
  refine la_H (G' := G') F E hW hS kl_tune mw_747 (fun f => ql_tune l hst D Y ad E.2.1.1 G (xs (i + 1).toNatClampNeg) (xs (i + 2).toNatClampNeg) o f RR G' e1 hks) rfl hl.1 ⟨by rw [hR.1]; exact Nat.le_of_ble_eq_true rfl, by rw [hR.2.1]; exact Nat.le_of_ble_eq_true rfl⟩ rfl (Nat.le_of_ble_eq_true rfl) ⟨by omega, by omega⟩ dL_law_654 ?_
  intro f H1 L1 hT hv hW hS
  refine lv_istore (lv' := [(6, .int (cod [0, 1, 2] RR)), (0, .ref b), (1, .ref (ad 77)), (2, .ref (am 0)), (3, .ref o), (4, .ref od), (5, .int i)]) hx hb dL_law_657 hl (by decide) rfl (fun ls hl => ?_)
  refine lv_aload_n hx hb dL_law_659 rfl (lv_at hl 3 rfl) ?_
  refine lv_aload_n hx hb dL_law_660 rfl (lv_at hl 1 rfl) ?_
  refine lv_iload hx hb dL_law_661 (lv_at hl 6 rfl) ?_
  refine lv_iconst (v := 1) hx hb dL_law_663 (by decide) ?_
  refine lv_iadd hx hb dL_law_664 ?_
  refine la_x F E hS h1 dL_law_665 ?_
  refine lv_aload_n hx hb dL_law_666 rfl (lv_at hl 1 rfl) ?_
  refine lv_iload hx hb dL_law_667 (lv_at hl 6 rfl) ?_
  refine lv_iconst (v := 2) hx hb dL_law_669 (by decide) ?_
  refine lv_iadd hx hb dL_law_670 ?_
  refine la_x F E hS h2 dL_law_671 ?_
  refine la_W (rest := []) (As := [.int (xs (i + 1).toNatClampNeg), .int (xs (i + 2).toNatClampNeg)]) (G1 := K') F hS E.2.1.2.2.2.1 k_X10_tune mw_1461 hW.2.1 0 11 rfl (wsW_get 0 (by decide)) (q_X10_tune l D Y am E.2.1.2.1 K (xs (i + 1).toNatClampNeg) (xs (i + 2).toNatClampNeg) r2 K' e2) Bw.blind (fun U hU hw => Bw.of F.2 hW.2.1 hU hw) rfl hl.1 ⟨by rw [hR.1]; exact Nat.le_of_ble_eq_true rfl, by rw [hR.2.1]; exact Nat.le_of_ble_eq_true rfl⟩ rfl (Nat.le_of_ble_eq_true rfl) ⟨by omega, by omega⟩ dL_law_672 ?_
  intro H1 L1 hP hq hS
  have hT := hT.kept (hq _ (at_lt hT) E.2.1.2.2.2.2.2.2.2.2.2.1)
  have hW := hW.upM E.2.1 hP hq
  refine lv_istore (lv' := [(7, .int r2), (6, .int (cod [0, 1, 2] RR)), (0, .ref b), (1, .ref (ad 77)), (2, .ref (am 0)), (3, .ref o), (4, .ref od), (5, .int i)]) hx hb dL_law_675 hl (by decide) rfl (fun ls hl => ?_)
  refine lv_aload_n hx hb dL_law_677 rfl (lv_at hl 4 rfl) ?_
  refine rd_V (rest := []) (As := []) F hW.2.1 k_X10_thrown mw_1356 0 11 rfl (wsW_get 0 (by decide)) (q_X10_thrown l D Y am K'  (cod [0, 1, 2] RR) e3) rfl hl.1 ⟨by rw [hR.1]; exact Nat.le_of_ble_eq_true rfl, by rw [hR.2.1]; exact Nat.le_of_ble_eq_true rfl⟩ rfl (Nat.le_of_ble_eq_true rfl) ⟨by omega, by omega⟩ dL_law_678 ?_
  intro _
  refine lv_iload hx hb dL_law_681 (lv_at hl 1 rfl) ?_
  refine lv_icmp_eq (tgt := 688) hx hb dL_law_683 (by decide) (fun c1 => ?_) (fun c1 => absurd rfl c1)
  refine lv_iload hx hb dL_law_688 (lv_at hl 1 rfl) ?_
  refine lv_if_ne (tgt := 705) hx hb dL_law_690 (by decide) (fun c1 => ?_) (fun c1 => ?_)
  · refine lv_goto (tgt := 2244) hx hb dL_law_705 (by decide) ?_
    refine W.widen (k := cells + 16) (n := slots + 96) (by omega) (by omega) ?_
    exact kk H1 L1 ls G' K' hrel hW hS (lv_sub hl [2, 3, 4, 5, 6, 7] rfl)
  · obtain ⟨v, hRv⟩ := cod0 (ks := [0, 1, 2]) (by decide) c1
    have hfv := hv v hRv
    have hvr := e5 v hRv
    subst hvr
    refine lv_aload_n hx hb dL_law_693 rfl (lv_at hl 5 rfl) ?_
    refine lv_iconst (v := 0) hx hb dL_law_694 (by decide) ?_
    refine va_lald hx hb F.2.1 (at_P hT) 0 4 rfl rfl (by unfold vp_in; decide) dL_law_695 ?_
    refine lv_iload hx hb dL_law_696 (lv_at hl 0 rfl) ?_
    refine lv_i2l (v := v.toInt64) hx hb dL_law_698 rfl ?_
    refine W.lcmp hx hb dL_law_699 ?_
    refine lv_if_eq (tgt := 705) hx hb dL_law_700 (by decide) (fun c2 => ?_) (fun c2 => absurd ?_ c2)
    · refine lv_goto (tgt := 2244) hx hb dL_law_705 (by decide) ?_
      refine W.widen (k := cells + 16) (n := slots + 96) (by omega) (by omega) ?_
      exact kk H1 L1 ls G' K' hrel hW hS (lv_sub hl [2, 3, 4, 5, 6, 7] rfl)
    · rw [show f (0 : Int32).toNatClampNeg = v.toInt64 from hfv]
      exact lgc_self _
set_option maxRecDepth 100000 in
set_option maxHeartbeats 4000000 in
theorem case_8 {p : Program} {l : Launch} {ev : Env} {R : Room} {s : State} {m : MethodId} {args : Array Value} {below : List Frame} {meth : Method} {c : Code} {H : Heap} {locs : List Loc} {cells slots : Nat} {Q : State → Prop} {ls : Array Slot} {D : va_G} {Y : Nat → ClassId} {ad am : Nat → Nat} {G K : GT} {o od n0 b L : Nat} {xs : Nat → Int32} {Rel : GT → GT → Prop} {i : Int32} (hst : l.stackTraces = false) (F : Fx p c cL_law 9 s m args RL D Y) (E : LEn s ad am o od n0 b L xs) (hW : LWd D Y ad am o od G K H) (hS : va_S (LA n0) s.heap H locs) (hl : lv_has ls 9 [(0, .ref b), (1, .ref (ad 77)), (2, .ref (am 0)), (3, .ref o), (4, .ref od), (5, .int i)]) (hR : R.frames = 2048 ∧ R.locals = 94400 ∧ cells + 16 ≤ R.cells ∧ slots + 96 ≤ R.slots) (hst1 : St_tinOf Rel) (hr : Rel G K) (h1 : vp_in (i + 1) L) (h2 : vp_in (i + 2) L) 
    (kk : ∀ (H1 : Heap) (L1 : List Loc) (ls1 : Array Slot) (G' K' : GT), Rel G' K' → LWd D Y ad am o od G' K' H1 → va_S (LA n0) s.heap H1 L1 → lv_has ls1 9 [(0, .ref b), (1, .ref (ad 77)), (2, .ref (am 0)), (3, .ref o), (4, .ref od), (5, .int i)] → W p l ev R s m args below meth c H1 L1 (cells + 16) (slots + 96) Q (F0 m 2244 ls1 [])) : W p l ev R s m args below meth c H locs cells slots Q (F0 m 708 ls []) := by
  have hx := F.1.1
  have hb := F.1.2.1
  obtain ⟨RR, G', r2, K', e1, e2, e3, hks, e5, hrel⟩ := hst1 G K hr (xs (i + 1).toNatClampNeg) (xs (i + 2).toNatClampNeg)
  refine lv_aload_n hx hb dL_law_708 rfl (lv_at hl 1 rfl) ?_
  refine lv_aload_n hx hb dL_law_709 rfl (lv_at hl 0 rfl) ?_
  refine lv_iload hx hb dL_law_710 (lv_at hl 5 rfl) ?_
  refine lv_iconst (v := 1) hx hb dL_law_712 (by decide) ?_
  refine lv_iadd hx hb dL_law_713 ?_
  refine la_x F E hS h1 dL_law_714 ?_
  refine lv_aload_n hx hb dL_law_715 rfl (lv_at hl 0 rfl) ?_
  refine lv_iload hx hb dL_law_716 (lv_at hl 5 rfl) ?_
  refine lv_iconst (v := 2) hx hb dL_law_718 (by decide) ?_
  refine lv_iadd hx hb dL_law_719 ?_
  refine la_x F E hS h2 dL_law_720 ?_
  refine lv_aload_n hx hb dL_law_721 rfl (lv_at hl 3 rfl) ?_
  refine la_H (G' := G') F E hW hS kl_tinOf mw_755 (fun f => ql_tinOf l hst D Y ad E.2.1.1 G (xs (i + 1).toNatClampNeg) (xs (i + 2).toNatClampNeg) o f RR G' e1 hks) rfl hl.1 ⟨by rw [hR.1]; exact Nat.le_of_ble_eq_true rfl, by rw [hR.2.1]; exact Nat.le_of_ble_eq_true rfl⟩ rfl (Nat.le_of_ble_eq_true rfl) ⟨by omega, by omega⟩ dL_law_722 ?_
  intro f H1 L1 hT hv hW hS
  refine lv_istore (lv' := [(6, .int (cod [0, 1] RR)), (0, .ref b), (1, .ref (ad 77)), (2, .ref (am 0)), (3, .ref o), (4, .ref od), (5, .int i)]) hx hb dL_law_725 hl (by decide) rfl (fun ls hl => ?_)
  refine lv_aload_n hx hb dL_law_727 rfl (lv_at hl 3 rfl) ?_
  refine lv_aload_n hx hb dL_law_728 rfl (lv_at hl 1 rfl) ?_
  refine lv_iload hx hb dL_law_729 (lv_at hl 6 rfl) ?_
  refine lv_iconst (v := 1) hx hb dL_law_731 (by decide) ?_
  refine lv_iadd hx hb dL_law_732 ?_
  refine la_x F E hS h1 dL_law_733 ?_
  refine lv_aload_n hx hb dL_law_734 rfl (lv_at hl 1 rfl) ?_
  refine lv_iload hx hb dL_law_735 (lv_at hl 6 rfl) ?_
  refine lv_iconst (v := 2) hx hb dL_law_737 (by decide) ?_
  refine lv_iadd hx hb dL_law_738 ?_
  refine la_x F E hS h2 dL_law_739 ?_
  refine la_W (rest := []) (As := [.int (xs (i + 1).toNatClampNeg), .int (xs (i + 2).toNatClampNeg)]) (G1 := K') F hS E.2.1.2.2.2.1 k_X10_tinOf mw_1473 hW.2.1 0 11 rfl (wsW_get 0 (by decide)) (q_X10_tinOf l D Y am E.2.1.2.1 K (xs (i + 1).toNatClampNeg) (xs (i + 2).toNatClampNeg) r2 K' e2) Bw.blind (fun U hU hw => Bw.of F.2 hW.2.1 hU hw) rfl hl.1 ⟨by rw [hR.1]; exact Nat.le_of_ble_eq_true rfl, by rw [hR.2.1]; exact Nat.le_of_ble_eq_true rfl⟩ rfl (Nat.le_of_ble_eq_true rfl) ⟨by omega, by omega⟩ dL_law_740 ?_
  intro H1 L1 hP hq hS
  have hT := hT.kept (hq _ (at_lt hT) E.2.1.2.2.2.2.2.2.2.2.2.1)
  have hW := hW.upM E.2.1 hP hq
  refine lv_istore (lv' := [(7, .int r2), (6, .int (cod [0, 1] RR)), (0, .ref b), (1, .ref (ad 77)), (2, .ref (am 0)), (3, .ref o), (4, .ref od), (5, .int i)]) hx hb dL_law_743 hl (by decide) rfl (fun ls hl => ?_)
  refine lv_aload_n hx hb dL_law_745 rfl (lv_at hl 4 rfl) ?_
  refine rd_V (rest := []) (As := []) F hW.2.1 k_X10_thrown mw_1356 0 11 rfl (wsW_get 0 (by decide)) (q_X10_thrown l D Y am K'  (cod [0, 1] RR) e3) rfl hl.1 ⟨by rw [hR.1]; exact Nat.le_of_ble_eq_true rfl, by rw [hR.2.1]; exact Nat.le_of_ble_eq_true rfl⟩ rfl (Nat.le_of_ble_eq_true rfl) ⟨by omega, by omega⟩ dL_law_746 ?_
  intro _
  refine lv_iload hx hb dL_law_749 (lv_at hl 1 rfl) ?_
  refine lv_icmp_eq (tgt := 756) hx hb dL_law_751 (by decide) (fun c1 => ?_) (fun c1 => absurd rfl c1)
  refine lv_iload hx hb dL_law_756 (lv_at hl 1 rfl) ?_
  refine lv_if_ne (tgt := 773) hx hb dL_law_758 (by decide) (fun c1 => ?_) (fun c1 => ?_)
  · refine lv_goto (tgt := 2244) hx hb dL_law_773 (by decide) ?_
    refine W.widen (k := cells + 16) (n := slots + 96) (by omega) (by omega) ?_
    exact kk H1 L1 ls G' K' hrel hW hS (lv_sub hl [2, 3, 4, 5, 6, 7] rfl)
  · obtain ⟨v, hRv⟩ := cod0 (ks := [0, 1]) (by decide) c1
    have hfv := hv v hRv
    have hvr := e5 v hRv
    subst hvr
    refine lv_aload_n hx hb dL_law_761 rfl (lv_at hl 5 rfl) ?_
    refine lv_iconst (v := 0) hx hb dL_law_762 (by decide) ?_
    refine va_lald hx hb F.2.1 (at_P hT) 0 4 rfl rfl (by unfold vp_in; decide) dL_law_763 ?_
    refine lv_iload hx hb dL_law_764 (lv_at hl 0 rfl) ?_
    refine lv_i2l (v := v.toInt64) hx hb dL_law_766 rfl ?_
    refine W.lcmp hx hb dL_law_767 ?_
    refine lv_if_eq (tgt := 773) hx hb dL_law_768 (by decide) (fun c2 => ?_) (fun c2 => absurd ?_ c2)
    · refine lv_goto (tgt := 2244) hx hb dL_law_773 (by decide) ?_
      refine W.widen (k := cells + 16) (n := slots + 96) (by omega) (by omega) ?_
      exact kk H1 L1 ls G' K' hrel hW hS (lv_sub hl [2, 3, 4, 5, 6, 7] rfl)
    · rw [show f (0 : Int32).toNatClampNeg = v.toInt64 from hfv]
      exact lgc_self _
set_option maxRecDepth 100000 in
set_option maxHeartbeats 4000000 in
theorem case_9 {p : Program} {l : Launch} {ev : Env} {R : Room} {s : State} {m : MethodId} {args : Array Value} {below : List Frame} {meth : Method} {c : Code} {H : Heap} {locs : List Loc} {cells slots : Nat} {Q : State → Prop} {ls : Array Slot} {D : va_G} {Y : Nat → ClassId} {ad am : Nat → Nat} {G K : GT} {o od n0 b L : Nat} {xs : Nat → Int32} {Rel : GT → GT → Prop} {i : Int32} (hst : l.stackTraces = false) (F : Fx p c cL_law 9 s m args RL D Y) (E : LEn s ad am o od n0 b L xs) (hW : LWd D Y ad am o od G K H) (hS : va_S (LA n0) s.heap H locs) (hl : lv_has ls 9 [(0, .ref b), (1, .ref (ad 77)), (2, .ref (am 0)), (3, .ref o), (4, .ref od), (5, .int i)]) (hR : R.frames = 2048 ∧ R.locals = 94400 ∧ cells + 16 ≤ R.cells ∧ slots + 96 ≤ R.slots) (hst1 : St_soundOf Rel) (hr : Rel G K) (h1 : vp_in (i + 1) L) (h2 : vp_in (i + 2) L) 
    (kk : ∀ (H1 : Heap) (L1 : List Loc) (ls1 : Array Slot) (G' K' : GT), Rel G' K' → LWd D Y ad am o od G' K' H1 → va_S (LA n0) s.heap H1 L1 → lv_has ls1 9 [(0, .ref b), (1, .ref (ad 77)), (2, .ref (am 0)), (3, .ref o), (4, .ref od), (5, .int i)] → W p l ev R s m args below meth c H1 L1 (cells + 16) (slots + 96) Q (F0 m 2244 ls1 [])) : W p l ev R s m args below meth c H locs cells slots Q (F0 m 776 ls []) := by
  have hx := F.1.1
  have hb := F.1.2.1
  obtain ⟨RR, G', r2, K', e1, e2, e3, hks, e5, hrel⟩ := hst1 G K hr (xs (i + 1).toNatClampNeg) (xs (i + 2).toNatClampNeg)
  refine lv_aload_n hx hb dL_law_776 rfl (lv_at hl 1 rfl) ?_
  refine lv_aload_n hx hb dL_law_777 rfl (lv_at hl 0 rfl) ?_
  refine lv_iload hx hb dL_law_778 (lv_at hl 5 rfl) ?_
  refine lv_iconst (v := 1) hx hb dL_law_780 (by decide) ?_
  refine lv_iadd hx hb dL_law_781 ?_
  refine la_x F E hS h1 dL_law_782 ?_
  refine lv_aload_n hx hb dL_law_783 rfl (lv_at hl 0 rfl) ?_
  refine lv_iload hx hb dL_law_784 (lv_at hl 5 rfl) ?_
  refine lv_iconst (v := 2) hx hb dL_law_786 (by decide) ?_
  refine lv_iadd hx hb dL_law_787 ?_
  refine la_x F E hS h2 dL_law_788 ?_
  refine lv_aload_n hx hb dL_law_789 rfl (lv_at hl 3 rfl) ?_
  refine la_H (G' := G') F E hW hS kl_soundOf mw_774 (fun f => ql_soundOf l hst D Y ad E.2.1.1 G (xs (i + 1).toNatClampNeg) (xs (i + 2).toNatClampNeg) o f RR G' e1 hks) rfl hl.1 ⟨by rw [hR.1]; exact Nat.le_of_ble_eq_true rfl, by rw [hR.2.1]; exact Nat.le_of_ble_eq_true rfl⟩ rfl (Nat.le_of_ble_eq_true rfl) ⟨by omega, by omega⟩ dL_law_790 ?_
  intro f H1 L1 hT hv hW hS
  refine lv_istore (lv' := [(6, .int (cod [0, 1] RR)), (0, .ref b), (1, .ref (ad 77)), (2, .ref (am 0)), (3, .ref o), (4, .ref od), (5, .int i)]) hx hb dL_law_793 hl (by decide) rfl (fun ls hl => ?_)
  refine lv_aload_n hx hb dL_law_795 rfl (lv_at hl 3 rfl) ?_
  refine lv_aload_n hx hb dL_law_796 rfl (lv_at hl 1 rfl) ?_
  refine lv_iload hx hb dL_law_797 (lv_at hl 6 rfl) ?_
  refine lv_iconst (v := 1) hx hb dL_law_799 (by decide) ?_
  refine lv_iadd hx hb dL_law_800 ?_
  refine la_x F E hS h1 dL_law_801 ?_
  refine lv_aload_n hx hb dL_law_802 rfl (lv_at hl 1 rfl) ?_
  refine lv_iload hx hb dL_law_803 (lv_at hl 6 rfl) ?_
  refine lv_iconst (v := 2) hx hb dL_law_805 (by decide) ?_
  refine lv_iadd hx hb dL_law_806 ?_
  refine la_x F E hS h2 dL_law_807 ?_
  refine la_W (rest := []) (As := [.int (xs (i + 1).toNatClampNeg), .int (xs (i + 2).toNatClampNeg)]) (G1 := K') F hS E.2.1.2.2.2.1 k_X10_soundOf mw_1485 hW.2.1 0 11 rfl (wsW_get 0 (by decide)) (q_X10_soundOf l D Y am E.2.1.2.1 K (xs (i + 1).toNatClampNeg) (xs (i + 2).toNatClampNeg) r2 K' e2) Bw.blind (fun U hU hw => Bw.of F.2 hW.2.1 hU hw) rfl hl.1 ⟨by rw [hR.1]; exact Nat.le_of_ble_eq_true rfl, by rw [hR.2.1]; exact Nat.le_of_ble_eq_true rfl⟩ rfl (Nat.le_of_ble_eq_true rfl) ⟨by omega, by omega⟩ dL_law_808 ?_
  intro H1 L1 hP hq hS
  have hT := hT.kept (hq _ (at_lt hT) E.2.1.2.2.2.2.2.2.2.2.2.1)
  have hW := hW.upM E.2.1 hP hq
  refine lv_istore (lv' := [(7, .int r2), (6, .int (cod [0, 1] RR)), (0, .ref b), (1, .ref (ad 77)), (2, .ref (am 0)), (3, .ref o), (4, .ref od), (5, .int i)]) hx hb dL_law_811 hl (by decide) rfl (fun ls hl => ?_)
  refine lv_aload_n hx hb dL_law_813 rfl (lv_at hl 4 rfl) ?_
  refine rd_V (rest := []) (As := []) F hW.2.1 k_X10_thrown mw_1356 0 11 rfl (wsW_get 0 (by decide)) (q_X10_thrown l D Y am K'  (cod [0, 1] RR) e3) rfl hl.1 ⟨by rw [hR.1]; exact Nat.le_of_ble_eq_true rfl, by rw [hR.2.1]; exact Nat.le_of_ble_eq_true rfl⟩ rfl (Nat.le_of_ble_eq_true rfl) ⟨by omega, by omega⟩ dL_law_814 ?_
  intro _
  refine lv_iload hx hb dL_law_817 (lv_at hl 1 rfl) ?_
  refine lv_icmp_eq (tgt := 824) hx hb dL_law_819 (by decide) (fun c1 => ?_) (fun c1 => absurd rfl c1)
  refine lv_iload hx hb dL_law_824 (lv_at hl 1 rfl) ?_
  refine lv_if_ne (tgt := 841) hx hb dL_law_826 (by decide) (fun c1 => ?_) (fun c1 => ?_)
  · refine lv_goto (tgt := 2244) hx hb dL_law_841 (by decide) ?_
    refine W.widen (k := cells + 16) (n := slots + 96) (by omega) (by omega) ?_
    exact kk H1 L1 ls G' K' hrel hW hS (lv_sub hl [2, 3, 4, 5, 6, 7] rfl)
  · obtain ⟨v, hRv⟩ := cod0 (ks := [0, 1]) (by decide) c1
    have hfv := hv v hRv
    have hvr := e5 v hRv
    subst hvr
    refine lv_aload_n hx hb dL_law_829 rfl (lv_at hl 5 rfl) ?_
    refine lv_iconst (v := 0) hx hb dL_law_830 (by decide) ?_
    refine va_lald hx hb F.2.1 (at_P hT) 0 4 rfl rfl (by unfold vp_in; decide) dL_law_831 ?_
    refine lv_iload hx hb dL_law_832 (lv_at hl 0 rfl) ?_
    refine lv_i2l (v := v.toInt64) hx hb dL_law_834 rfl ?_
    refine W.lcmp hx hb dL_law_835 ?_
    refine lv_if_eq (tgt := 841) hx hb dL_law_836 (by decide) (fun c2 => ?_) (fun c2 => absurd ?_ c2)
    · refine lv_goto (tgt := 2244) hx hb dL_law_841 (by decide) ?_
      refine W.widen (k := cells + 16) (n := slots + 96) (by omega) (by omega) ?_
      exact kk H1 L1 ls G' K' hrel hW hS (lv_sub hl [2, 3, 4, 5, 6, 7] rfl)
    · rw [show f (0 : Int32).toNatClampNeg = v.toInt64 from hfv]
      exact lgc_self _
set_option maxRecDepth 100000 in
set_option maxHeartbeats 4000000 in
theorem case_10 {p : Program} {l : Launch} {ev : Env} {R : Room} {s : State} {m : MethodId} {args : Array Value} {below : List Frame} {meth : Method} {c : Code} {H : Heap} {locs : List Loc} {cells slots : Nat} {Q : State → Prop} {ls : Array Slot} {D : va_G} {Y : Nat → ClassId} {ad am : Nat → Nat} {G K : GT} {o od n0 b L : Nat} {xs : Nat → Int32} {Rel : GT → GT → Prop} {i : Int32} (hst : l.stackTraces = false) (F : Fx p c cL_law 9 s m args RL D Y) (E : LEn s ad am o od n0 b L xs) (hW : LWd D Y ad am o od G K H) (hS : va_S (LA n0) s.heap H locs) (hl : lv_has ls 9 [(0, .ref b), (1, .ref (ad 77)), (2, .ref (am 0)), (3, .ref o), (4, .ref od), (5, .int i)]) (hR : R.frames = 2048 ∧ R.locals = 94400 ∧ cells + 16 ≤ R.cells ∧ slots + 96 ≤ R.slots) (hst1 : St_barOf Rel) (hr : Rel G K) (h1 : vp_in (i + 1) L) (h2 : vp_in (i + 2) L) 
    (kk : ∀ (H1 : Heap) (L1 : List Loc) (ls1 : Array Slot) (G' K' : GT), Rel G' K' → LWd D Y ad am o od G' K' H1 → va_S (LA n0) s.heap H1 L1 → lv_has ls1 9 [(0, .ref b), (1, .ref (ad 77)), (2, .ref (am 0)), (3, .ref o), (4, .ref od), (5, .int i)] → W p l ev R s m args below meth c H1 L1 (cells + 16) (slots + 96) Q (F0 m 2244 ls1 [])) : W p l ev R s m args below meth c H locs cells slots Q (F0 m 844 ls []) := by
  have hx := F.1.1
  have hb := F.1.2.1
  obtain ⟨RR, G', r2, K', e1, e2, e3, hks, e5, hrel⟩ := hst1 G K hr (xs (i + 1).toNatClampNeg) (xs (i + 2).toNatClampNeg)
  refine lv_aload_n hx hb dL_law_844 rfl (lv_at hl 1 rfl) ?_
  refine lv_aload_n hx hb dL_law_845 rfl (lv_at hl 0 rfl) ?_
  refine lv_iload hx hb dL_law_846 (lv_at hl 5 rfl) ?_
  refine lv_iconst (v := 1) hx hb dL_law_848 (by decide) ?_
  refine lv_iadd hx hb dL_law_849 ?_
  refine la_x F E hS h1 dL_law_850 ?_
  refine lv_aload_n hx hb dL_law_851 rfl (lv_at hl 0 rfl) ?_
  refine lv_iload hx hb dL_law_852 (lv_at hl 5 rfl) ?_
  refine lv_iconst (v := 2) hx hb dL_law_854 (by decide) ?_
  refine lv_iadd hx hb dL_law_855 ?_
  refine la_x F E hS h2 dL_law_856 ?_
  refine lv_aload_n hx hb dL_law_857 rfl (lv_at hl 3 rfl) ?_
  refine la_H (G' := G') F E hW hS kl_barOf mw_792 (fun f => ql_barOf l hst D Y ad E.2.1.1 G (xs (i + 1).toNatClampNeg) (xs (i + 2).toNatClampNeg) o f RR G' e1 hks) rfl hl.1 ⟨by rw [hR.1]; exact Nat.le_of_ble_eq_true rfl, by rw [hR.2.1]; exact Nat.le_of_ble_eq_true rfl⟩ rfl (Nat.le_of_ble_eq_true rfl) ⟨by omega, by omega⟩ dL_law_858 ?_
  intro f H1 L1 hT hv hW hS
  refine lv_istore (lv' := [(6, .int (cod [0, 1] RR)), (0, .ref b), (1, .ref (ad 77)), (2, .ref (am 0)), (3, .ref o), (4, .ref od), (5, .int i)]) hx hb dL_law_861 hl (by decide) rfl (fun ls hl => ?_)
  refine lv_aload_n hx hb dL_law_863 rfl (lv_at hl 3 rfl) ?_
  refine lv_aload_n hx hb dL_law_864 rfl (lv_at hl 1 rfl) ?_
  refine lv_iload hx hb dL_law_865 (lv_at hl 6 rfl) ?_
  refine lv_iconst (v := 1) hx hb dL_law_867 (by decide) ?_
  refine lv_iadd hx hb dL_law_868 ?_
  refine la_x F E hS h1 dL_law_869 ?_
  refine lv_aload_n hx hb dL_law_870 rfl (lv_at hl 1 rfl) ?_
  refine lv_iload hx hb dL_law_871 (lv_at hl 6 rfl) ?_
  refine lv_iconst (v := 2) hx hb dL_law_873 (by decide) ?_
  refine lv_iadd hx hb dL_law_874 ?_
  refine la_x F E hS h2 dL_law_875 ?_
  refine la_W (rest := []) (As := [.int (xs (i + 1).toNatClampNeg), .int (xs (i + 2).toNatClampNeg)]) (G1 := K') F hS E.2.1.2.2.2.1 k_X10_barOf mw_1507 hW.2.1 0 11 rfl (wsW_get 0 (by decide)) (q_X10_barOf l D Y am E.2.1.2.1 K (xs (i + 1).toNatClampNeg) (xs (i + 2).toNatClampNeg) r2 K' e2) Bw.blind (fun U hU hw => Bw.of F.2 hW.2.1 hU hw) rfl hl.1 ⟨by rw [hR.1]; exact Nat.le_of_ble_eq_true rfl, by rw [hR.2.1]; exact Nat.le_of_ble_eq_true rfl⟩ rfl (Nat.le_of_ble_eq_true rfl) ⟨by omega, by omega⟩ dL_law_876 ?_
  intro H1 L1 hP hq hS
  have hT := hT.kept (hq _ (at_lt hT) E.2.1.2.2.2.2.2.2.2.2.2.1)
  have hW := hW.upM E.2.1 hP hq
  refine lv_istore (lv' := [(7, .int r2), (6, .int (cod [0, 1] RR)), (0, .ref b), (1, .ref (ad 77)), (2, .ref (am 0)), (3, .ref o), (4, .ref od), (5, .int i)]) hx hb dL_law_879 hl (by decide) rfl (fun ls hl => ?_)
  refine lv_aload_n hx hb dL_law_881 rfl (lv_at hl 4 rfl) ?_
  refine rd_V (rest := []) (As := []) F hW.2.1 k_X10_thrown mw_1356 0 11 rfl (wsW_get 0 (by decide)) (q_X10_thrown l D Y am K'  (cod [0, 1] RR) e3) rfl hl.1 ⟨by rw [hR.1]; exact Nat.le_of_ble_eq_true rfl, by rw [hR.2.1]; exact Nat.le_of_ble_eq_true rfl⟩ rfl (Nat.le_of_ble_eq_true rfl) ⟨by omega, by omega⟩ dL_law_882 ?_
  intro _
  refine lv_iload hx hb dL_law_885 (lv_at hl 1 rfl) ?_
  refine lv_icmp_eq (tgt := 892) hx hb dL_law_887 (by decide) (fun c1 => ?_) (fun c1 => absurd rfl c1)
  refine lv_iload hx hb dL_law_892 (lv_at hl 1 rfl) ?_
  refine lv_if_ne (tgt := 909) hx hb dL_law_894 (by decide) (fun c1 => ?_) (fun c1 => ?_)
  · refine lv_goto (tgt := 2244) hx hb dL_law_909 (by decide) ?_
    refine W.widen (k := cells + 16) (n := slots + 96) (by omega) (by omega) ?_
    exact kk H1 L1 ls G' K' hrel hW hS (lv_sub hl [2, 3, 4, 5, 6, 7] rfl)
  · obtain ⟨v, hRv⟩ := cod0 (ks := [0, 1]) (by decide) c1
    have hfv := hv v hRv
    have hvr := e5 v hRv
    subst hvr
    refine lv_aload_n hx hb dL_law_897 rfl (lv_at hl 5 rfl) ?_
    refine lv_iconst (v := 0) hx hb dL_law_898 (by decide) ?_
    refine va_lald hx hb F.2.1 (at_P hT) 0 4 rfl rfl (by unfold vp_in; decide) dL_law_899 ?_
    refine lv_iload hx hb dL_law_900 (lv_at hl 0 rfl) ?_
    refine lv_i2l (v := v.toInt64) hx hb dL_law_902 rfl ?_
    refine W.lcmp hx hb dL_law_903 ?_
    refine lv_if_eq (tgt := 909) hx hb dL_law_904 (by decide) (fun c2 => ?_) (fun c2 => absurd ?_ c2)
    · refine lv_goto (tgt := 2244) hx hb dL_law_909 (by decide) ?_
      refine W.widen (k := cells + 16) (n := slots + 96) (by omega) (by omega) ?_
      exact kk H1 L1 ls G' K' hrel hW hS (lv_sub hl [2, 3, 4, 5, 6, 7] rfl)
    · rw [show f (0 : Int32).toNatClampNeg = v.toInt64 from hfv]
      exact lgc_self _
set_option maxRecDepth 100000 in
set_option maxHeartbeats 4000000 in
theorem case_11 {p : Program} {l : Launch} {ev : Env} {R : Room} {s : State} {m : MethodId} {args : Array Value} {below : List Frame} {meth : Method} {c : Code} {H : Heap} {locs : List Loc} {cells slots : Nat} {Q : State → Prop} {ls : Array Slot} {D : va_G} {Y : Nat → ClassId} {ad am : Nat → Nat} {G K : GT} {o od n0 b L : Nat} {xs : Nat → Int32} {Rel : GT → GT → Prop} {i : Int32} (hst : l.stackTraces = false) (F : Fx p c cL_law 9 s m args RL D Y) (E : LEn s ad am o od n0 b L xs) (hW : LWd D Y ad am o od G K H) (hS : va_S (LA n0) s.heap H locs) (hl : lv_has ls 9 [(0, .ref b), (1, .ref (ad 77)), (2, .ref (am 0)), (3, .ref o), (4, .ref od), (5, .int i)]) (hR : R.frames = 2048 ∧ R.locals = 94400 ∧ cells + 16 ≤ R.cells ∧ slots + 96 ≤ R.slots) (hst1 : St_partOf Rel) (hr : Rel G K) (h1 : vp_in (i + 1) L) (h2 : vp_in (i + 2) L) (h3 : vp_in (i + 3) L) 
    (kk : ∀ (H1 : Heap) (L1 : List Loc) (ls1 : Array Slot) (G' K' : GT), Rel G' K' → LWd D Y ad am o od G' K' H1 → va_S (LA n0) s.heap H1 L1 → lv_has ls1 9 [(0, .ref b), (1, .ref (ad 77)), (2, .ref (am 0)), (3, .ref o), (4, .ref od), (5, .int i)] → W p l ev R s m args below meth c H1 L1 (cells + 16) (slots + 96) Q (F0 m 2244 ls1 [])) : W p l ev R s m args below meth c H locs cells slots Q (F0 m 912 ls []) := by
  have hx := F.1.1
  have hb := F.1.2.1
  obtain ⟨RR, G', r2, K', e1, e2, e3, hks, e5, hrel⟩ := hst1 G K hr (xs (i + 1).toNatClampNeg) (xs (i + 2).toNatClampNeg) (xs (i + 3).toNatClampNeg)
  refine lv_aload_n hx hb dL_law_912 rfl (lv_at hl 1 rfl) ?_
  refine lv_aload_n hx hb dL_law_913 rfl (lv_at hl 0 rfl) ?_
  refine lv_iload hx hb dL_law_914 (lv_at hl 5 rfl) ?_
  refine lv_iconst (v := 1) hx hb dL_law_916 (by decide) ?_
  refine lv_iadd hx hb dL_law_917 ?_
  refine la_x F E hS h1 dL_law_918 ?_
  refine lv_aload_n hx hb dL_law_919 rfl (lv_at hl 0 rfl) ?_
  refine lv_iload hx hb dL_law_920 (lv_at hl 5 rfl) ?_
  refine lv_iconst (v := 2) hx hb dL_law_922 (by decide) ?_
  refine lv_iadd hx hb dL_law_923 ?_
  refine la_x F E hS h2 dL_law_924 ?_
  refine lv_aload_n hx hb dL_law_925 rfl (lv_at hl 0 rfl) ?_
  refine lv_iload hx hb dL_law_926 (lv_at hl 5 rfl) ?_
  refine lv_iconst (v := 3) hx hb dL_law_928 (by decide) ?_
  refine lv_iadd hx hb dL_law_929 ?_
  refine la_x F E hS h3 dL_law_930 ?_
  refine lv_aload_n hx hb dL_law_931 rfl (lv_at hl 3 rfl) ?_
  refine la_H (G' := G') F E hW hS kl_partOf mw_821 (fun f => ql_partOf l hst D Y ad E.2.1.1 G (xs (i + 1).toNatClampNeg) (xs (i + 2).toNatClampNeg) (xs (i + 3).toNatClampNeg) o f RR G' e1 hks) rfl hl.1 ⟨by rw [hR.1]; exact Nat.le_of_ble_eq_true rfl, by rw [hR.2.1]; exact Nat.le_of_ble_eq_true rfl⟩ rfl (Nat.le_of_ble_eq_true rfl) ⟨by omega, by omega⟩ dL_law_932 ?_
  intro f H1 L1 hT hv hW hS
  refine lv_istore (lv' := [(6, .int (cod [0, 1] RR)), (0, .ref b), (1, .ref (ad 77)), (2, .ref (am 0)), (3, .ref o), (4, .ref od), (5, .int i)]) hx hb dL_law_935 hl (by decide) rfl (fun ls hl => ?_)
  refine lv_aload_n hx hb dL_law_937 rfl (lv_at hl 3 rfl) ?_
  refine lv_aload_n hx hb dL_law_938 rfl (lv_at hl 1 rfl) ?_
  refine lv_iload hx hb dL_law_939 (lv_at hl 6 rfl) ?_
  refine lv_iconst (v := 1) hx hb dL_law_941 (by decide) ?_
  refine lv_iadd hx hb dL_law_942 ?_
  refine la_x F E hS h1 dL_law_943 ?_
  refine lv_aload_n hx hb dL_law_944 rfl (lv_at hl 1 rfl) ?_
  refine lv_iload hx hb dL_law_945 (lv_at hl 6 rfl) ?_
  refine lv_iconst (v := 2) hx hb dL_law_947 (by decide) ?_
  refine lv_iadd hx hb dL_law_948 ?_
  refine la_x F E hS h2 dL_law_949 ?_
  refine lv_aload_n hx hb dL_law_950 rfl (lv_at hl 1 rfl) ?_
  refine lv_iload hx hb dL_law_951 (lv_at hl 6 rfl) ?_
  refine lv_iconst (v := 3) hx hb dL_law_953 (by decide) ?_
  refine lv_iadd hx hb dL_law_954 ?_
  refine la_x F E hS h3 dL_law_955 ?_
  refine la_W (rest := []) (As := [.int (xs (i + 1).toNatClampNeg), .int (xs (i + 2).toNatClampNeg), .int (xs (i + 3).toNatClampNeg)]) (G1 := K') F hS E.2.1.2.2.2.1 k_X10_partOf mw_1527 hW.2.1 0 11 rfl (wsW_get 0 (by decide)) (q_X10_partOf l D Y am E.2.1.2.1 K (xs (i + 1).toNatClampNeg) (xs (i + 2).toNatClampNeg) (xs (i + 3).toNatClampNeg) r2 K' e2) Bw.blind (fun U hU hw => Bw.of F.2 hW.2.1 hU hw) rfl hl.1 ⟨by rw [hR.1]; exact Nat.le_of_ble_eq_true rfl, by rw [hR.2.1]; exact Nat.le_of_ble_eq_true rfl⟩ rfl (Nat.le_of_ble_eq_true rfl) ⟨by omega, by omega⟩ dL_law_956 ?_
  intro H1 L1 hP hq hS
  have hT := hT.kept (hq _ (at_lt hT) E.2.1.2.2.2.2.2.2.2.2.2.1)
  have hW := hW.upM E.2.1 hP hq
  refine lv_istore (lv' := [(7, .int r2), (6, .int (cod [0, 1] RR)), (0, .ref b), (1, .ref (ad 77)), (2, .ref (am 0)), (3, .ref o), (4, .ref od), (5, .int i)]) hx hb dL_law_959 hl (by decide) rfl (fun ls hl => ?_)
  refine lv_aload_n hx hb dL_law_961 rfl (lv_at hl 4 rfl) ?_
  refine rd_V (rest := []) (As := []) F hW.2.1 k_X10_thrown mw_1356 0 11 rfl (wsW_get 0 (by decide)) (q_X10_thrown l D Y am K'  (cod [0, 1] RR) e3) rfl hl.1 ⟨by rw [hR.1]; exact Nat.le_of_ble_eq_true rfl, by rw [hR.2.1]; exact Nat.le_of_ble_eq_true rfl⟩ rfl (Nat.le_of_ble_eq_true rfl) ⟨by omega, by omega⟩ dL_law_962 ?_
  intro _
  refine lv_iload hx hb dL_law_965 (lv_at hl 1 rfl) ?_
  refine lv_icmp_eq (tgt := 972) hx hb dL_law_967 (by decide) (fun c1 => ?_) (fun c1 => absurd rfl c1)
  refine lv_iload hx hb dL_law_972 (lv_at hl 1 rfl) ?_
  refine lv_if_ne (tgt := 989) hx hb dL_law_974 (by decide) (fun c1 => ?_) (fun c1 => ?_)
  · refine lv_goto (tgt := 2244) hx hb dL_law_989 (by decide) ?_
    refine W.widen (k := cells + 16) (n := slots + 96) (by omega) (by omega) ?_
    exact kk H1 L1 ls G' K' hrel hW hS (lv_sub hl [2, 3, 4, 5, 6, 7] rfl)
  · obtain ⟨v, hRv⟩ := cod0 (ks := [0, 1]) (by decide) c1
    have hfv := hv v hRv
    have hvr := e5 v hRv
    subst hvr
    refine lv_aload_n hx hb dL_law_977 rfl (lv_at hl 5 rfl) ?_
    refine lv_iconst (v := 0) hx hb dL_law_978 (by decide) ?_
    refine va_lald hx hb F.2.1 (at_P hT) 0 4 rfl rfl (by unfold vp_in; decide) dL_law_979 ?_
    refine lv_iload hx hb dL_law_980 (lv_at hl 0 rfl) ?_
    refine lv_i2l (v := v.toInt64) hx hb dL_law_982 rfl ?_
    refine W.lcmp hx hb dL_law_983 ?_
    refine lv_if_eq (tgt := 989) hx hb dL_law_984 (by decide) (fun c2 => ?_) (fun c2 => absurd ?_ c2)
    · refine lv_goto (tgt := 2244) hx hb dL_law_989 (by decide) ?_
      refine W.widen (k := cells + 16) (n := slots + 96) (by omega) (by omega) ?_
      exact kk H1 L1 ls G' K' hrel hW hS (lv_sub hl [2, 3, 4, 5, 6, 7] rfl)
    · rw [show f (0 : Int32).toNatClampNeg = v.toInt64 from hfv]
      exact lgc_self _
set_option maxRecDepth 100000 in
set_option maxHeartbeats 4000000 in
theorem case_12 {p : Program} {l : Launch} {ev : Env} {R : Room} {s : State} {m : MethodId} {args : Array Value} {below : List Frame} {meth : Method} {c : Code} {H : Heap} {locs : List Loc} {cells slots : Nat} {Q : State → Prop} {ls : Array Slot} {D : va_G} {Y : Nat → ClassId} {ad am : Nat → Nat} {G K : GT} {o od n0 b L : Nat} {xs : Nat → Int32} {Rel : GT → GT → Prop} {i : Int32} (hst : l.stackTraces = false) (F : Fx p c cL_law 9 s m args RL D Y) (E : LEn s ad am o od n0 b L xs) (hW : LWd D Y ad am o od G K H) (hS : va_S (LA n0) s.heap H locs) (hl : lv_has ls 9 [(0, .ref b), (1, .ref (ad 77)), (2, .ref (am 0)), (3, .ref o), (4, .ref od), (5, .int i)]) (hR : R.frames = 2048 ∧ R.locals = 94400 ∧ cells + 16 ≤ R.cells ∧ slots + 96 ≤ R.slots) (hst1 : St_at Rel) (hr : Rel G K) (h1 : vp_in (i + 1) L) 
    (kk : ∀ (H1 : Heap) (L1 : List Loc) (ls1 : Array Slot) (G' K' : GT), Rel G' K' → LWd D Y ad am o od G' K' H1 → va_S (LA n0) s.heap H1 L1 → lv_has ls1 9 [(0, .ref b), (1, .ref (ad 77)), (2, .ref (am 0)), (3, .ref o), (4, .ref od), (5, .int i)] → W p l ev R s m args below meth c H1 L1 (cells + 16) (slots + 96) Q (F0 m 2244 ls1 [])) : W p l ev R s m args below meth c H locs cells slots Q (F0 m 992 ls []) := by
  have hx := F.1.1
  have hb := F.1.2.1
  obtain ⟨RR, G', r2, K', e1, e2, e3, hks, e5, hrel⟩ := hst1 G K hr (xs (i + 1).toNatClampNeg)
  refine lv_aload_n hx hb dL_law_992 rfl (lv_at hl 1 rfl) ?_
  refine lv_aload_n hx hb dL_law_993 rfl (lv_at hl 0 rfl) ?_
  refine lv_iload hx hb dL_law_994 (lv_at hl 5 rfl) ?_
  refine lv_iconst (v := 1) hx hb dL_law_996 (by decide) ?_
  refine lv_iadd hx hb dL_law_997 ?_
  refine la_x F E hS h1 dL_law_998 ?_
  refine lv_aload_n hx hb dL_law_999 rfl (lv_at hl 3 rfl) ?_
  refine la_H (G' := G') F E hW hS kl_at mw_837 (fun f => ql_at l hst D Y ad E.2.1.1 G (xs (i + 1).toNatClampNeg) o f RR G' e1 hks) rfl hl.1 ⟨by rw [hR.1]; exact Nat.le_of_ble_eq_true rfl, by rw [hR.2.1]; exact Nat.le_of_ble_eq_true rfl⟩ rfl (Nat.le_of_ble_eq_true rfl) ⟨by omega, by omega⟩ dL_law_1000 ?_
  intro f H1 L1 hT hv hW hS
  refine lv_istore (lv' := [(6, .int (cod [3] RR)), (0, .ref b), (1, .ref (ad 77)), (2, .ref (am 0)), (3, .ref o), (4, .ref od), (5, .int i)]) hx hb dL_law_1003 hl (by decide) rfl (fun ls hl => ?_)
  refine lv_aload_n hx hb dL_law_1005 rfl (lv_at hl 3 rfl) ?_
  refine lv_aload_n hx hb dL_law_1006 rfl (lv_at hl 1 rfl) ?_
  refine lv_iload hx hb dL_law_1007 (lv_at hl 6 rfl) ?_
  refine lv_iconst (v := 1) hx hb dL_law_1009 (by decide) ?_
  refine lv_iadd hx hb dL_law_1010 ?_
  refine la_x F E hS h1 dL_law_1011 ?_
  refine la_W (rest := []) (As := [.int (xs (i + 1).toNatClampNeg)]) (G1 := K') F hS E.2.1.2.2.2.1 k_X10_at mw_1539 hW.2.1 0 11 rfl (wsW_get 0 (by decide)) (q_X10_at l D Y am E.2.1.2.1 K (xs (i + 1).toNatClampNeg) r2 K' e2) Bw.blind (fun U hU hw => Bw.of F.2 hW.2.1 hU hw) rfl hl.1 ⟨by rw [hR.1]; exact Nat.le_of_ble_eq_true rfl, by rw [hR.2.1]; exact Nat.le_of_ble_eq_true rfl⟩ rfl (Nat.le_of_ble_eq_true rfl) ⟨by omega, by omega⟩ dL_law_1012 ?_
  intro H1 L1 hP hq hS
  have hT := hT.kept (hq _ (at_lt hT) E.2.1.2.2.2.2.2.2.2.2.2.1)
  have hW := hW.upM E.2.1 hP hq
  refine lv_istore (lv' := [(7, .int r2), (6, .int (cod [3] RR)), (0, .ref b), (1, .ref (ad 77)), (2, .ref (am 0)), (3, .ref o), (4, .ref od), (5, .int i)]) hx hb dL_law_1015 hl (by decide) rfl (fun ls hl => ?_)
  refine lv_aload_n hx hb dL_law_1017 rfl (lv_at hl 4 rfl) ?_
  refine rd_V (rest := []) (As := []) F hW.2.1 k_X10_thrown mw_1356 0 11 rfl (wsW_get 0 (by decide)) (q_X10_thrown l D Y am K'  (cod [3] RR) e3) rfl hl.1 ⟨by rw [hR.1]; exact Nat.le_of_ble_eq_true rfl, by rw [hR.2.1]; exact Nat.le_of_ble_eq_true rfl⟩ rfl (Nat.le_of_ble_eq_true rfl) ⟨by omega, by omega⟩ dL_law_1018 ?_
  intro _
  refine lv_iload hx hb dL_law_1021 (lv_at hl 1 rfl) ?_
  refine lv_icmp_eq (tgt := 1028) hx hb dL_law_1023 (by decide) (fun c1 => ?_) (fun c1 => absurd rfl c1)
  refine lv_iload hx hb dL_law_1028 (lv_at hl 1 rfl) ?_
  refine lv_if_ne (tgt := 1045) hx hb dL_law_1030 (by decide) (fun c1 => ?_) (fun c1 => ?_)
  · refine lv_goto (tgt := 2244) hx hb dL_law_1045 (by decide) ?_
    refine W.widen (k := cells + 16) (n := slots + 96) (by omega) (by omega) ?_
    exact kk H1 L1 ls G' K' hrel hW hS (lv_sub hl [2, 3, 4, 5, 6, 7] rfl)
  · obtain ⟨v, hRv⟩ := cod0 (ks := [3]) (by decide) c1
    have hfv := hv v hRv
    have hvr := e5 v hRv
    subst hvr
    refine lv_aload_n hx hb dL_law_1033 rfl (lv_at hl 5 rfl) ?_
    refine lv_iconst (v := 0) hx hb dL_law_1034 (by decide) ?_
    refine va_lald hx hb F.2.1 (at_P hT) 0 4 rfl rfl (by unfold vp_in; decide) dL_law_1035 ?_
    refine lv_iload hx hb dL_law_1036 (lv_at hl 0 rfl) ?_
    refine lv_i2l (v := v.toInt64) hx hb dL_law_1038 rfl ?_
    refine W.lcmp hx hb dL_law_1039 ?_
    refine lv_if_eq (tgt := 1045) hx hb dL_law_1040 (by decide) (fun c2 => ?_) (fun c2 => absurd ?_ c2)
    · refine lv_goto (tgt := 2244) hx hb dL_law_1045 (by decide) ?_
      refine W.widen (k := cells + 16) (n := slots + 96) (by omega) (by omega) ?_
      exact kk H1 L1 ls G' K' hrel hW hS (lv_sub hl [2, 3, 4, 5, 6, 7] rfl)
    · rw [show f (0 : Int32).toNatClampNeg = v.toInt64 from hfv]
      exact lgc_self _
set_option maxRecDepth 100000 in
set_option maxHeartbeats 4000000 in
theorem case_13 {p : Program} {l : Launch} {ev : Env} {R : Room} {s : State} {m : MethodId} {args : Array Value} {below : List Frame} {meth : Method} {c : Code} {H : Heap} {locs : List Loc} {cells slots : Nat} {Q : State → Prop} {ls : Array Slot} {D : va_G} {Y : Nat → ClassId} {ad am : Nat → Nat} {G K : GT} {o od n0 b L : Nat} {xs : Nat → Int32} {Rel : GT → GT → Prop} {i : Int32} (hst : l.stackTraces = false) (F : Fx p c cL_law 9 s m args RL D Y) (E : LEn s ad am o od n0 b L xs) (hW : LWd D Y ad am o od G K H) (hS : va_S (LA n0) s.heap H locs) (hl : lv_has ls 9 [(0, .ref b), (1, .ref (ad 77)), (2, .ref (am 0)), (3, .ref o), (4, .ref od), (5, .int i)]) (hR : R.frames = 2048 ∧ R.locals = 94400 ∧ cells + 16 ≤ R.cells ∧ slots + 96 ≤ R.slots) (hst1 : St_faults Rel) (hr : Rel G K) (h1 : vp_in (i + 1) L) (h2 : vp_in (i + 2) L) 
    (kk : ∀ (H1 : Heap) (L1 : List Loc) (ls1 : Array Slot) (G' K' : GT), Rel G' K' → LWd D Y ad am o od G' K' H1 → va_S (LA n0) s.heap H1 L1 → lv_has ls1 9 [(0, .ref b), (1, .ref (ad 77)), (2, .ref (am 0)), (3, .ref o), (4, .ref od), (5, .int i)] → W p l ev R s m args below meth c H1 L1 (cells + 16) (slots + 96) Q (F0 m 2244 ls1 [])) : W p l ev R s m args below meth c H locs cells slots Q (F0 m 1048 ls []) := by
  have hx := F.1.1
  have hb := F.1.2.1
  obtain ⟨RR, G', r2, K', e1, e2, e3, hks, e5, hrel⟩ := hst1 G K hr (xs (i + 1).toNatClampNeg) (xs (i + 2).toNatClampNeg)
  refine lv_aload_n hx hb dL_law_1048 rfl (lv_at hl 1 rfl) ?_
  refine lv_aload_n hx hb dL_law_1049 rfl (lv_at hl 0 rfl) ?_
  refine lv_iload hx hb dL_law_1050 (lv_at hl 5 rfl) ?_
  refine lv_iconst (v := 1) hx hb dL_law_1052 (by decide) ?_
  refine lv_iadd hx hb dL_law_1053 ?_
  refine la_x F E hS h1 dL_law_1054 ?_
  refine lv_aload_n hx hb dL_law_1055 rfl (lv_at hl 0 rfl) ?_
  refine lv_iload hx hb dL_law_1056 (lv_at hl 5 rfl) ?_
  refine lv_iconst (v := 2) hx hb dL_law_1058 (by decide) ?_
  refine lv_iadd hx hb dL_law_1059 ?_
  refine la_x F E hS h2 dL_law_1060 ?_
  refine la_bool F dL_law_1061 (by decide) dL_law_1064 dL_law_1065 (by decide) dL_law_1068 ?_
  refine lv_aload_n hx hb dL_law_1069 rfl (lv_at hl 3 rfl) ?_
  refine la_H (G' := G') F E hW hS kl_faults mw_868 (fun f => ql_faults l hst D Y ad E.2.1.1 G (xs (i + 1).toNatClampNeg) (bz (xs (i + 2).toNatClampNeg)) o f RR G' e1 hks) rfl hl.1 ⟨by rw [hR.1]; exact Nat.le_of_ble_eq_true rfl, by rw [hR.2.1]; exact Nat.le_of_ble_eq_true rfl⟩ rfl (Nat.le_of_ble_eq_true rfl) ⟨by omega, by omega⟩ dL_law_1070 ?_
  intro f H1 L1 hT hv hW hS
  refine lv_istore (lv' := [(6, .int (cod [1] RR)), (0, .ref b), (1, .ref (ad 77)), (2, .ref (am 0)), (3, .ref o), (4, .ref od), (5, .int i)]) hx hb dL_law_1073 hl (by decide) rfl (fun ls hl => ?_)
  refine lv_aload_n hx hb dL_law_1075 rfl (lv_at hl 3 rfl) ?_
  refine lv_aload_n hx hb dL_law_1076 rfl (lv_at hl 1 rfl) ?_
  refine lv_iload hx hb dL_law_1077 (lv_at hl 6 rfl) ?_
  refine lv_iconst (v := 1) hx hb dL_law_1079 (by decide) ?_
  refine lv_iadd hx hb dL_law_1080 ?_
  refine la_x F E hS h1 dL_law_1081 ?_
  refine lv_aload_n hx hb dL_law_1082 rfl (lv_at hl 1 rfl) ?_
  refine lv_iload hx hb dL_law_1083 (lv_at hl 6 rfl) ?_
  refine lv_iconst (v := 2) hx hb dL_law_1085 (by decide) ?_
  refine lv_iadd hx hb dL_law_1086 ?_
  refine la_x F E hS h2 dL_law_1087 ?_
  refine la_bool F dL_law_1088 (by decide) dL_law_1091 dL_law_1092 (by decide) dL_law_1095 ?_
  refine la_W (rest := []) (As := [.int (xs (i + 1).toNatClampNeg), .int (bz (xs (i + 2).toNatClampNeg))]) (G1 := K') F hS E.2.1.2.2.2.1 k_X10_faults mw_1547 hW.2.1 0 11 rfl (wsW_get 0 (by decide)) (q_X10_faults l D Y am E.2.1.2.1 K (xs (i + 1).toNatClampNeg) (bz (xs (i + 2).toNatClampNeg)) r2 K' e2) Bw.blind (fun U hU hw => Bw.of F.2 hW.2.1 hU hw) rfl hl.1 ⟨by rw [hR.1]; exact Nat.le_of_ble_eq_true rfl, by rw [hR.2.1]; exact Nat.le_of_ble_eq_true rfl⟩ rfl (Nat.le_of_ble_eq_true rfl) ⟨by omega, by omega⟩ dL_law_1096 ?_
  intro H1 L1 hP hq hS
  have hT := hT.kept (hq _ (at_lt hT) E.2.1.2.2.2.2.2.2.2.2.2.1)
  have hW := hW.upM E.2.1 hP hq
  refine lv_istore (lv' := [(7, .int r2), (6, .int (cod [1] RR)), (0, .ref b), (1, .ref (ad 77)), (2, .ref (am 0)), (3, .ref o), (4, .ref od), (5, .int i)]) hx hb dL_law_1099 hl (by decide) rfl (fun ls hl => ?_)
  refine lv_aload_n hx hb dL_law_1101 rfl (lv_at hl 4 rfl) ?_
  refine rd_V (rest := []) (As := []) F hW.2.1 k_X10_thrown mw_1356 0 11 rfl (wsW_get 0 (by decide)) (q_X10_thrown l D Y am K'  (cod [1] RR) e3) rfl hl.1 ⟨by rw [hR.1]; exact Nat.le_of_ble_eq_true rfl, by rw [hR.2.1]; exact Nat.le_of_ble_eq_true rfl⟩ rfl (Nat.le_of_ble_eq_true rfl) ⟨by omega, by omega⟩ dL_law_1102 ?_
  intro _
  refine lv_iload hx hb dL_law_1105 (lv_at hl 1 rfl) ?_
  refine lv_icmp_eq (tgt := 1112) hx hb dL_law_1107 (by decide) (fun c1 => ?_) (fun c1 => absurd rfl c1)
  refine lv_iload hx hb dL_law_1112 (lv_at hl 1 rfl) ?_
  refine lv_if_ne (tgt := 1129) hx hb dL_law_1114 (by decide) (fun c1 => ?_) (fun c1 => ?_)
  · refine lv_goto (tgt := 2244) hx hb dL_law_1129 (by decide) ?_
    refine W.widen (k := cells + 16) (n := slots + 96) (by omega) (by omega) ?_
    exact kk H1 L1 ls G' K' hrel hW hS (lv_sub hl [2, 3, 4, 5, 6, 7] rfl)
  · obtain ⟨v, hRv⟩ := cod0 (ks := [1]) (by decide) c1
    have hfv := hv v hRv
    have hvr := e5 v hRv
    subst hvr
    refine lv_aload_n hx hb dL_law_1117 rfl (lv_at hl 5 rfl) ?_
    refine lv_iconst (v := 0) hx hb dL_law_1118 (by decide) ?_
    refine va_lald hx hb F.2.1 (at_P hT) 0 4 rfl rfl (by unfold vp_in; decide) dL_law_1119 ?_
    refine lv_iload hx hb dL_law_1120 (lv_at hl 0 rfl) ?_
    refine lv_i2l (v := v.toInt64) hx hb dL_law_1122 rfl ?_
    refine W.lcmp hx hb dL_law_1123 ?_
    refine lv_if_eq (tgt := 1129) hx hb dL_law_1124 (by decide) (fun c2 => ?_) (fun c2 => absurd ?_ c2)
    · refine lv_goto (tgt := 2244) hx hb dL_law_1129 (by decide) ?_
      refine W.widen (k := cells + 16) (n := slots + 96) (by omega) (by omega) ?_
      exact kk H1 L1 ls G' K' hrel hW hS (lv_sub hl [2, 3, 4, 5, 6, 7] rfl)
    · rw [show f (0 : Int32).toNatClampNeg = v.toInt64 from hfv]
      exact lgc_self _
set_option maxRecDepth 100000 in
set_option maxHeartbeats 4000000 in
theorem case_14 {p : Program} {l : Launch} {ev : Env} {R : Room} {s : State} {m : MethodId} {args : Array Value} {below : List Frame} {meth : Method} {c : Code} {H : Heap} {locs : List Loc} {cells slots : Nat} {Q : State → Prop} {ls : Array Slot} {D : va_G} {Y : Nat → ClassId} {ad am : Nat → Nat} {G K : GT} {o od n0 b L : Nat} {xs : Nat → Int32} {Rel : GT → GT → Prop} {i : Int32} (hst : l.stackTraces = false) (F : Fx p c cL_law 9 s m args RL D Y) (E : LEn s ad am o od n0 b L xs) (hW : LWd D Y ad am o od G K H) (hS : va_S (LA n0) s.heap H locs) (hl : lv_has ls 9 [(0, .ref b), (1, .ref (ad 77)), (2, .ref (am 0)), (3, .ref o), (4, .ref od), (5, .int i)]) (hR : R.frames = 2048 ∧ R.locals = 94400 ∧ cells + 16 ≤ R.cells ∧ slots + 96 ≤ R.slots) (hst1 : St_firstFault Rel) (hr : Rel G K) (h1 : vp_in (i + 1) L) 
    (kk : ∀ (H1 : Heap) (L1 : List Loc) (ls1 : Array Slot) (G' K' : GT), Rel G' K' → LWd D Y ad am o od G' K' H1 → va_S (LA n0) s.heap H1 L1 → lv_has ls1 9 [(0, .ref b), (1, .ref (ad 77)), (2, .ref (am 0)), (3, .ref o), (4, .ref od), (5, .int i)] → W p l ev R s m args below meth c H1 L1 (cells + 16) (slots + 96) Q (F0 m 2244 ls1 [])) : W p l ev R s m args below meth c H locs cells slots Q (F0 m 1132 ls []) := by
  have hx := F.1.1
  have hb := F.1.2.1
  obtain ⟨RR, G', r2, K', e1, e2, e3, hks, e5, hrel⟩ := hst1 G K hr (xs (i + 1).toNatClampNeg)
  refine lv_aload_n hx hb dL_law_1132 rfl (lv_at hl 1 rfl) ?_
  refine lv_aload_n hx hb dL_law_1133 rfl (lv_at hl 0 rfl) ?_
  refine lv_iload hx hb dL_law_1134 (lv_at hl 5 rfl) ?_
  refine lv_iconst (v := 1) hx hb dL_law_1136 (by decide) ?_
  refine lv_iadd hx hb dL_law_1137 ?_
  refine la_x F E hS h1 dL_law_1138 ?_
  refine lv_aload_n hx hb dL_law_1139 rfl (lv_at hl 3 rfl) ?_
  refine la_H (G' := G') F E hW hS kl_firstFault mw_877 (fun f => ql_firstFault l hst D Y ad E.2.1.1 G (xs (i + 1).toNatClampNeg) o f RR G' e1 hks) rfl hl.1 ⟨by rw [hR.1]; exact Nat.le_of_ble_eq_true rfl, by rw [hR.2.1]; exact Nat.le_of_ble_eq_true rfl⟩ rfl (Nat.le_of_ble_eq_true rfl) ⟨by omega, by omega⟩ dL_law_1140 ?_
  intro f H1 L1 hT hv hW hS
  refine lv_istore (lv' := [(6, .int (cod [1, 3] RR)), (0, .ref b), (1, .ref (ad 77)), (2, .ref (am 0)), (3, .ref o), (4, .ref od), (5, .int i)]) hx hb dL_law_1143 hl (by decide) rfl (fun ls hl => ?_)
  refine lv_aload_n hx hb dL_law_1145 rfl (lv_at hl 3 rfl) ?_
  refine lv_aload_n hx hb dL_law_1146 rfl (lv_at hl 1 rfl) ?_
  refine lv_iload hx hb dL_law_1147 (lv_at hl 6 rfl) ?_
  refine lv_iconst (v := 1) hx hb dL_law_1149 (by decide) ?_
  refine lv_iadd hx hb dL_law_1150 ?_
  refine la_x F E hS h1 dL_law_1151 ?_
  refine la_W (rest := []) (As := [.int (xs (i + 1).toNatClampNeg)]) (G1 := K') F hS E.2.1.2.2.2.1 k_X10_firstFault mw_1564 hW.2.1 0 11 rfl (wsW_get 0 (by decide)) (q_X10_firstFault l D Y am E.2.1.2.1 K (xs (i + 1).toNatClampNeg) r2 K' e2) Bw.blind (fun U hU hw => Bw.of F.2 hW.2.1 hU hw) rfl hl.1 ⟨by rw [hR.1]; exact Nat.le_of_ble_eq_true rfl, by rw [hR.2.1]; exact Nat.le_of_ble_eq_true rfl⟩ rfl (Nat.le_of_ble_eq_true rfl) ⟨by omega, by omega⟩ dL_law_1152 ?_
  intro H1 L1 hP hq hS
  have hT := hT.kept (hq _ (at_lt hT) E.2.1.2.2.2.2.2.2.2.2.2.1)
  have hW := hW.upM E.2.1 hP hq
  refine lv_istore (lv' := [(7, .int r2), (6, .int (cod [1, 3] RR)), (0, .ref b), (1, .ref (ad 77)), (2, .ref (am 0)), (3, .ref o), (4, .ref od), (5, .int i)]) hx hb dL_law_1155 hl (by decide) rfl (fun ls hl => ?_)
  refine lv_aload_n hx hb dL_law_1157 rfl (lv_at hl 4 rfl) ?_
  refine rd_V (rest := []) (As := []) F hW.2.1 k_X10_thrown mw_1356 0 11 rfl (wsW_get 0 (by decide)) (q_X10_thrown l D Y am K'  (cod [1, 3] RR) e3) rfl hl.1 ⟨by rw [hR.1]; exact Nat.le_of_ble_eq_true rfl, by rw [hR.2.1]; exact Nat.le_of_ble_eq_true rfl⟩ rfl (Nat.le_of_ble_eq_true rfl) ⟨by omega, by omega⟩ dL_law_1158 ?_
  intro _
  refine lv_iload hx hb dL_law_1161 (lv_at hl 1 rfl) ?_
  refine lv_icmp_eq (tgt := 1168) hx hb dL_law_1163 (by decide) (fun c1 => ?_) (fun c1 => absurd rfl c1)
  refine lv_iload hx hb dL_law_1168 (lv_at hl 1 rfl) ?_
  refine lv_if_ne (tgt := 1185) hx hb dL_law_1170 (by decide) (fun c1 => ?_) (fun c1 => ?_)
  · refine lv_goto (tgt := 2244) hx hb dL_law_1185 (by decide) ?_
    refine W.widen (k := cells + 16) (n := slots + 96) (by omega) (by omega) ?_
    exact kk H1 L1 ls G' K' hrel hW hS (lv_sub hl [2, 3, 4, 5, 6, 7] rfl)
  · obtain ⟨v, hRv⟩ := cod0 (ks := [1, 3]) (by decide) c1
    have hfv := hv v hRv
    have hvr := e5 v hRv
    subst hvr
    refine lv_aload_n hx hb dL_law_1173 rfl (lv_at hl 5 rfl) ?_
    refine lv_iconst (v := 0) hx hb dL_law_1174 (by decide) ?_
    refine va_lald hx hb F.2.1 (at_P hT) 0 4 rfl rfl (by unfold vp_in; decide) dL_law_1175 ?_
    refine lv_iload hx hb dL_law_1176 (lv_at hl 0 rfl) ?_
    refine lv_i2l (v := v.toInt64) hx hb dL_law_1178 rfl ?_
    refine W.lcmp hx hb dL_law_1179 ?_
    refine lv_if_eq (tgt := 1185) hx hb dL_law_1180 (by decide) (fun c2 => ?_) (fun c2 => absurd ?_ c2)
    · refine lv_goto (tgt := 2244) hx hb dL_law_1185 (by decide) ?_
      refine W.widen (k := cells + 16) (n := slots + 96) (by omega) (by omega) ?_
      exact kk H1 L1 ls G' K' hrel hW hS (lv_sub hl [2, 3, 4, 5, 6, 7] rfl)
    · rw [show f (0 : Int32).toNatClampNeg = v.toInt64 from hfv]
      exact lgc_self _
set_option maxRecDepth 100000 in
set_option maxHeartbeats 4000000 in
theorem case_15 {p : Program} {l : Launch} {ev : Env} {R : Room} {s : State} {m : MethodId} {args : Array Value} {below : List Frame} {meth : Method} {c : Code} {H : Heap} {locs : List Loc} {cells slots : Nat} {Q : State → Prop} {ls : Array Slot} {D : va_G} {Y : Nat → ClassId} {ad am : Nat → Nat} {G K : GT} {o od n0 b L : Nat} {xs : Nat → Int32} {Rel : GT → GT → Prop} {i : Int32} (hst : l.stackTraces = false) (F : Fx p c cL_law 9 s m args RL D Y) (E : LEn s ad am o od n0 b L xs) (hW : LWd D Y ad am o od G K H) (hS : va_S (LA n0) s.heap H locs) (hl : lv_has ls 9 [(0, .ref b), (1, .ref (ad 77)), (2, .ref (am 0)), (3, .ref o), (4, .ref od), (5, .int i)]) (hR : R.frames = 2048 ∧ R.locals = 94400 ∧ cells + 16 ≤ R.cells ∧ slots + 96 ≤ R.slots) (hst1 : St_isClean Rel) (hr : Rel G K) 
    (kk : ∀ (H1 : Heap) (L1 : List Loc) (ls1 : Array Slot) (G' K' : GT), Rel G' K' → LWd D Y ad am o od G' K' H1 → va_S (LA n0) s.heap H1 L1 → lv_has ls1 9 [(0, .ref b), (1, .ref (ad 77)), (2, .ref (am 0)), (3, .ref o), (4, .ref od), (5, .int i)] → W p l ev R s m args below meth c H1 L1 (cells + 16) (slots + 96) Q (F0 m 2244 ls1 [])) : W p l ev R s m args below meth c H locs cells slots Q (F0 m 1188 ls []) := by
  have hx := F.1.1
  have hb := F.1.2.1
  obtain ⟨r, K', e1, e2, hrel⟩ := hst1 G K hr 
  refine lv_aload_n hx hb dL_law_1188 rfl (lv_at hl 1 rfl) ?_
  refine rd_V (rest := []) (As := []) F hW.1 k_X9_isClean mw_224 77 10 rfl (wsW_get 77 (by decide)) (q_X9_isClean l D Y ad G  r e1) rfl hl.1 ⟨by rw [hR.1]; exact Nat.le_of_ble_eq_true rfl, by rw [hR.2.1]; exact Nat.le_of_ble_eq_true rfl⟩ rfl (Nat.le_of_ble_eq_true rfl) ⟨by omega, by omega⟩ dL_law_1189 ?_
  intro _
  refine lv_aload_n hx hb dL_law_1192 rfl (lv_at hl 2 rfl) ?_
  refine la_W (rest := [.int r]) (As := []) (G1 := K') F hS E.2.1.2.2.2.1 k_X10_isClean mw_1568 hW.2.1 0 11 rfl (wsW_get 0 (by decide)) (q_X10_isClean l D Y am E.2.1.2.1 K  r K' e2) Bw.blind (fun U hU hw => Bw.of F.2 hW.2.1 hU hw) rfl hl.1 ⟨by rw [hR.1]; exact Nat.le_of_ble_eq_true rfl, by rw [hR.2.1]; exact Nat.le_of_ble_eq_true rfl⟩ rfl (Nat.le_of_ble_eq_true rfl) ⟨by omega, by omega⟩ dL_law_1193 ?_
  intro H1 L1 hP hq hS
  have hW := hW.upM E.2.1 hP hq
  refine lv_icmp_eq (tgt := 2244) hx hb dL_law_1196 (by decide) (fun c1 => ?_) (fun c1 => absurd rfl c1)
  refine W.widen (k := cells + 16) (n := slots + 96) (by omega) (by omega) ?_
  exact kk H1 L1 ls G K' hrel hW hS (lv_sub hl [0, 1, 2, 3, 4, 5] rfl)
set_option maxRecDepth 100000 in
set_option maxHeartbeats 4000000 in
theorem case_16 {p : Program} {l : Launch} {ev : Env} {R : Room} {s : State} {m : MethodId} {args : Array Value} {below : List Frame} {meth : Method} {c : Code} {H : Heap} {locs : List Loc} {cells slots : Nat} {Q : State → Prop} {ls : Array Slot} {D : va_G} {Y : Nat → ClassId} {ad am : Nat → Nat} {G K : GT} {o od n0 b L : Nat} {xs : Nat → Int32} {Rel : GT → GT → Prop} {i : Int32} (hst : l.stackTraces = false) (F : Fx p c cL_law 9 s m args RL D Y) (E : LEn s ad am o od n0 b L xs) (hW : LWd D Y ad am o od G K H) (hS : va_S (LA n0) s.heap H locs) (hl : lv_has ls 9 [(0, .ref b), (1, .ref (ad 77)), (2, .ref (am 0)), (3, .ref o), (4, .ref od), (5, .int i)]) (hR : R.frames = 2048 ∧ R.locals = 94400 ∧ cells + 16 ≤ R.cells ∧ slots + 96 ≤ R.slots) (hst1 : St_wouldFault Rel) (hr : Rel G K) (h1 : vp_in (i + 1) L) (h2 : vp_in (i + 2) L) 
    (kk : ∀ (H1 : Heap) (L1 : List Loc) (ls1 : Array Slot) (G' K' : GT), Rel G' K' → LWd D Y ad am o od G' K' H1 → va_S (LA n0) s.heap H1 L1 → lv_has ls1 9 [(0, .ref b), (1, .ref (ad 77)), (2, .ref (am 0)), (3, .ref o), (4, .ref od), (5, .int i)] → W p l ev R s m args below meth c H1 L1 (cells + 16) (slots + 96) Q (F0 m 2244 ls1 [])) : W p l ev R s m args below meth c H locs cells slots Q (F0 m 1201 ls []) := by
  have hx := F.1.1
  have hb := F.1.2.1
  obtain ⟨RR, G', r2, K', e1, e2, e3, hks, e5, hrel⟩ := hst1 G K hr (xs (i + 1).toNatClampNeg) (xs (i + 2).toNatClampNeg)
  refine lv_aload_n hx hb dL_law_1201 rfl (lv_at hl 1 rfl) ?_
  refine lv_aload_n hx hb dL_law_1202 rfl (lv_at hl 0 rfl) ?_
  refine lv_iload hx hb dL_law_1203 (lv_at hl 5 rfl) ?_
  refine lv_iconst (v := 1) hx hb dL_law_1205 (by decide) ?_
  refine lv_iadd hx hb dL_law_1206 ?_
  refine la_x F E hS h1 dL_law_1207 ?_
  refine lv_aload_n hx hb dL_law_1208 rfl (lv_at hl 0 rfl) ?_
  refine lv_iload hx hb dL_law_1209 (lv_at hl 5 rfl) ?_
  refine lv_iconst (v := 2) hx hb dL_law_1211 (by decide) ?_
  refine lv_iadd hx hb dL_law_1212 ?_
  refine la_x F E hS h2 dL_law_1213 ?_
  refine lv_aload_n hx hb dL_law_1214 rfl (lv_at hl 3 rfl) ?_
  refine la_H (G' := G') F E hW hS kl_wouldFault mw_888 (fun f => ql_wouldFault l hst D Y ad E.2.1.1 G (xs (i + 1).toNatClampNeg) (xs (i + 2).toNatClampNeg) o f RR G' e1 hks) rfl hl.1 ⟨by rw [hR.1]; exact Nat.le_of_ble_eq_true rfl, by rw [hR.2.1]; exact Nat.le_of_ble_eq_true rfl⟩ rfl (Nat.le_of_ble_eq_true rfl) ⟨by omega, by omega⟩ dL_law_1215 ?_
  intro f H1 L1 hT hv hW hS
  refine lv_istore (lv' := [(6, .int (cod [0, 1, 3] RR)), (0, .ref b), (1, .ref (ad 77)), (2, .ref (am 0)), (3, .ref o), (4, .ref od), (5, .int i)]) hx hb dL_law_1218 hl (by decide) rfl (fun ls hl => ?_)
  refine lv_aload_n hx hb dL_law_1220 rfl (lv_at hl 3 rfl) ?_
  refine lv_aload_n hx hb dL_law_1221 rfl (lv_at hl 1 rfl) ?_
  refine lv_iload hx hb dL_law_1222 (lv_at hl 6 rfl) ?_
  refine lv_iconst (v := 1) hx hb dL_law_1224 (by decide) ?_
  refine lv_iadd hx hb dL_law_1225 ?_
  refine la_x F E hS h1 dL_law_1226 ?_
  refine lv_aload_n hx hb dL_law_1227 rfl (lv_at hl 1 rfl) ?_
  refine lv_iload hx hb dL_law_1228 (lv_at hl 6 rfl) ?_
  refine lv_iconst (v := 2) hx hb dL_law_1230 (by decide) ?_
  refine lv_iadd hx hb dL_law_1231 ?_
  refine la_x F E hS h2 dL_law_1232 ?_
  refine la_W (rest := []) (As := [.int (xs (i + 1).toNatClampNeg), .int (xs (i + 2).toNatClampNeg)]) (G1 := K') F hS E.2.1.2.2.2.1 k_X10_wouldFault mw_1576 hW.2.1 0 11 rfl (wsW_get 0 (by decide)) (q_X10_wouldFault l D Y am E.2.1.2.1 K (xs (i + 1).toNatClampNeg) (xs (i + 2).toNatClampNeg) r2 K' e2) Bw.blind (fun U hU hw => Bw.of F.2 hW.2.1 hU hw) rfl hl.1 ⟨by rw [hR.1]; exact Nat.le_of_ble_eq_true rfl, by rw [hR.2.1]; exact Nat.le_of_ble_eq_true rfl⟩ rfl (Nat.le_of_ble_eq_true rfl) ⟨by omega, by omega⟩ dL_law_1233 ?_
  intro H1 L1 hP hq hS
  have hT := hT.kept (hq _ (at_lt hT) E.2.1.2.2.2.2.2.2.2.2.2.1)
  have hW := hW.upM E.2.1 hP hq
  refine lv_istore (lv' := [(7, .int r2), (6, .int (cod [0, 1, 3] RR)), (0, .ref b), (1, .ref (ad 77)), (2, .ref (am 0)), (3, .ref o), (4, .ref od), (5, .int i)]) hx hb dL_law_1236 hl (by decide) rfl (fun ls hl => ?_)
  refine lv_aload_n hx hb dL_law_1238 rfl (lv_at hl 4 rfl) ?_
  refine rd_V (rest := []) (As := []) F hW.2.1 k_X10_thrown mw_1356 0 11 rfl (wsW_get 0 (by decide)) (q_X10_thrown l D Y am K'  (cod [0, 1, 3] RR) e3) rfl hl.1 ⟨by rw [hR.1]; exact Nat.le_of_ble_eq_true rfl, by rw [hR.2.1]; exact Nat.le_of_ble_eq_true rfl⟩ rfl (Nat.le_of_ble_eq_true rfl) ⟨by omega, by omega⟩ dL_law_1239 ?_
  intro _
  refine lv_iload hx hb dL_law_1242 (lv_at hl 1 rfl) ?_
  refine lv_icmp_eq (tgt := 1249) hx hb dL_law_1244 (by decide) (fun c1 => ?_) (fun c1 => absurd rfl c1)
  refine lv_iload hx hb dL_law_1249 (lv_at hl 1 rfl) ?_
  refine lv_if_ne (tgt := 1266) hx hb dL_law_1251 (by decide) (fun c1 => ?_) (fun c1 => ?_)
  · refine lv_goto (tgt := 2244) hx hb dL_law_1266 (by decide) ?_
    refine W.widen (k := cells + 16) (n := slots + 96) (by omega) (by omega) ?_
    exact kk H1 L1 ls G' K' hrel hW hS (lv_sub hl [2, 3, 4, 5, 6, 7] rfl)
  · obtain ⟨v, hRv⟩ := cod0 (ks := [0, 1, 3]) (by decide) c1
    have hfv := hv v hRv
    have hvr := e5 v hRv
    subst hvr
    refine lv_aload_n hx hb dL_law_1254 rfl (lv_at hl 5 rfl) ?_
    refine lv_iconst (v := 0) hx hb dL_law_1255 (by decide) ?_
    refine va_lald hx hb F.2.1 (at_P hT) 0 4 rfl rfl (by unfold vp_in; decide) dL_law_1256 ?_
    refine lv_iload hx hb dL_law_1257 (lv_at hl 0 rfl) ?_
    refine lv_i2l (v := v.toInt64) hx hb dL_law_1259 rfl ?_
    refine W.lcmp hx hb dL_law_1260 ?_
    refine lv_if_eq (tgt := 1266) hx hb dL_law_1261 (by decide) (fun c2 => ?_) (fun c2 => absurd ?_ c2)
    · refine lv_goto (tgt := 2244) hx hb dL_law_1266 (by decide) ?_
      refine W.widen (k := cells + 16) (n := slots + 96) (by omega) (by omega) ?_
      exact kk H1 L1 ls G' K' hrel hW hS (lv_sub hl [2, 3, 4, 5, 6, 7] rfl)
    · rw [show f (0 : Int32).toNatClampNeg = v.toInt64 from hfv]
      exact lgc_self _
set_option maxRecDepth 100000 in
set_option maxHeartbeats 4000000 in
theorem case_17 {p : Program} {l : Launch} {ev : Env} {R : Room} {s : State} {m : MethodId} {args : Array Value} {below : List Frame} {meth : Method} {c : Code} {H : Heap} {locs : List Loc} {cells slots : Nat} {Q : State → Prop} {ls : Array Slot} {D : va_G} {Y : Nat → ClassId} {ad am : Nat → Nat} {G K : GT} {o od n0 b L : Nat} {xs : Nat → Int32} {Rel : GT → GT → Prop} {i : Int32} (hst : l.stackTraces = false) (F : Fx p c cL_law 9 s m args RL D Y) (E : LEn s ad am o od n0 b L xs) (hW : LWd D Y ad am o od G K H) (hS : va_S (LA n0) s.heap H locs) (hl : lv_has ls 9 [(0, .ref b), (1, .ref (ad 77)), (2, .ref (am 0)), (3, .ref o), (4, .ref od), (5, .int i)]) (hR : R.frames = 2048 ∧ R.locals = 94400 ∧ cells + 16 ≤ R.cells ∧ slots + 96 ≤ R.slots) (hst1 : St_bestHeight Rel) (hr : Rel G K) (h1 : vp_in (i + 1) L) 
    (kk : ∀ (H1 : Heap) (L1 : List Loc) (ls1 : Array Slot) (G' K' : GT), Rel G' K' → LWd D Y ad am o od G' K' H1 → va_S (LA n0) s.heap H1 L1 → lv_has ls1 9 [(0, .ref b), (1, .ref (ad 77)), (2, .ref (am 0)), (3, .ref o), (4, .ref od), (5, .int i)] → W p l ev R s m args below meth c H1 L1 (cells + 16) (slots + 96) Q (F0 m 2244 ls1 [])) : W p l ev R s m args below meth c H locs cells slots Q (F0 m 1269 ls []) := by
  have hx := F.1.1
  have hb := F.1.2.1
  obtain ⟨RR, G', r2, K', e1, e2, e3, hks, e5, hrel⟩ := hst1 G K hr (xs (i + 1).toNatClampNeg)
  refine lv_aload_n hx hb dL_law_1269 rfl (lv_at hl 1 rfl) ?_
  refine lv_aload_n hx hb dL_law_1270 rfl (lv_at hl 0 rfl) ?_
  refine lv_iload hx hb dL_law_1271 (lv_at hl 5 rfl) ?_
  refine lv_iconst (v := 1) hx hb dL_law_1273 (by decide) ?_
  refine lv_iadd hx hb dL_law_1274 ?_
  refine la_x F E hS h1 dL_law_1275 ?_
  refine lv_aload_n hx hb dL_law_1276 rfl (lv_at hl 3 rfl) ?_
  refine la_H (G' := G') F E hW hS kl_bestHeight mw_902 (fun f => ql_bestHeight l hst D Y ad E.2.1.1 G (xs (i + 1).toNatClampNeg) o f RR G' e1 hks) rfl hl.1 ⟨by rw [hR.1]; exact Nat.le_of_ble_eq_true rfl, by rw [hR.2.1]; exact Nat.le_of_ble_eq_true rfl⟩ rfl (Nat.le_of_ble_eq_true rfl) ⟨by omega, by omega⟩ dL_law_1277 ?_
  intro f H1 L1 hT hv hW hS
  refine lv_istore (lv' := [(6, .int (cod [0, 3] RR)), (0, .ref b), (1, .ref (ad 77)), (2, .ref (am 0)), (3, .ref o), (4, .ref od), (5, .int i)]) hx hb dL_law_1280 hl (by decide) rfl (fun ls hl => ?_)
  refine lv_aload_n hx hb dL_law_1282 rfl (lv_at hl 3 rfl) ?_
  refine lv_aload_n hx hb dL_law_1283 rfl (lv_at hl 1 rfl) ?_
  refine lv_iload hx hb dL_law_1284 (lv_at hl 6 rfl) ?_
  refine lv_iconst (v := 1) hx hb dL_law_1286 (by decide) ?_
  refine lv_iadd hx hb dL_law_1287 ?_
  refine la_x F E hS h1 dL_law_1288 ?_
  refine la_W (rest := []) (As := [.int (xs (i + 1).toNatClampNeg)]) (G1 := K') F hS E.2.1.2.2.2.1 k_X10_bestHeight mw_1584 hW.2.1 0 11 rfl (wsW_get 0 (by decide)) (q_X10_bestHeight l D Y am E.2.1.2.1 K (xs (i + 1).toNatClampNeg) r2 K' e2) Bw.blind (fun U hU hw => Bw.of F.2 hW.2.1 hU hw) rfl hl.1 ⟨by rw [hR.1]; exact Nat.le_of_ble_eq_true rfl, by rw [hR.2.1]; exact Nat.le_of_ble_eq_true rfl⟩ rfl (Nat.le_of_ble_eq_true rfl) ⟨by omega, by omega⟩ dL_law_1289 ?_
  intro H1 L1 hP hq hS
  have hT := hT.kept (hq _ (at_lt hT) E.2.1.2.2.2.2.2.2.2.2.2.1)
  have hW := hW.upM E.2.1 hP hq
  refine lv_istore (lv' := [(7, .int r2), (6, .int (cod [0, 3] RR)), (0, .ref b), (1, .ref (ad 77)), (2, .ref (am 0)), (3, .ref o), (4, .ref od), (5, .int i)]) hx hb dL_law_1292 hl (by decide) rfl (fun ls hl => ?_)
  refine lv_aload_n hx hb dL_law_1294 rfl (lv_at hl 4 rfl) ?_
  refine rd_V (rest := []) (As := []) F hW.2.1 k_X10_thrown mw_1356 0 11 rfl (wsW_get 0 (by decide)) (q_X10_thrown l D Y am K'  (cod [0, 3] RR) e3) rfl hl.1 ⟨by rw [hR.1]; exact Nat.le_of_ble_eq_true rfl, by rw [hR.2.1]; exact Nat.le_of_ble_eq_true rfl⟩ rfl (Nat.le_of_ble_eq_true rfl) ⟨by omega, by omega⟩ dL_law_1295 ?_
  intro _
  refine lv_iload hx hb dL_law_1298 (lv_at hl 1 rfl) ?_
  refine lv_icmp_eq (tgt := 1305) hx hb dL_law_1300 (by decide) (fun c1 => ?_) (fun c1 => absurd rfl c1)
  refine lv_iload hx hb dL_law_1305 (lv_at hl 1 rfl) ?_
  refine lv_if_ne (tgt := 1322) hx hb dL_law_1307 (by decide) (fun c1 => ?_) (fun c1 => ?_)
  · refine lv_goto (tgt := 2244) hx hb dL_law_1322 (by decide) ?_
    refine W.widen (k := cells + 16) (n := slots + 96) (by omega) (by omega) ?_
    exact kk H1 L1 ls G' K' hrel hW hS (lv_sub hl [2, 3, 4, 5, 6, 7] rfl)
  · obtain ⟨v, hRv⟩ := cod0 (ks := [0, 3]) (by decide) c1
    have hfv := hv v hRv
    have hvr := e5 v hRv
    subst hvr
    refine lv_aload_n hx hb dL_law_1310 rfl (lv_at hl 5 rfl) ?_
    refine lv_iconst (v := 0) hx hb dL_law_1311 (by decide) ?_
    refine va_lald hx hb F.2.1 (at_P hT) 0 4 rfl rfl (by unfold vp_in; decide) dL_law_1312 ?_
    refine lv_iload hx hb dL_law_1313 (lv_at hl 0 rfl) ?_
    refine lv_i2l (v := v.toInt64) hx hb dL_law_1315 rfl ?_
    refine W.lcmp hx hb dL_law_1316 ?_
    refine lv_if_eq (tgt := 1322) hx hb dL_law_1317 (by decide) (fun c2 => ?_) (fun c2 => absurd ?_ c2)
    · refine lv_goto (tgt := 2244) hx hb dL_law_1322 (by decide) ?_
      refine W.widen (k := cells + 16) (n := slots + 96) (by omega) (by omega) ?_
      exact kk H1 L1 ls G' K' hrel hW hS (lv_sub hl [2, 3, 4, 5, 6, 7] rfl)
    · rw [show f (0 : Int32).toNatClampNeg = v.toInt64 from hfv]
      exact lgc_self _
set_option maxRecDepth 100000 in
set_option maxHeartbeats 4000000 in
theorem case_18 {p : Program} {l : Launch} {ev : Env} {R : Room} {s : State} {m : MethodId} {args : Array Value} {below : List Frame} {meth : Method} {c : Code} {H : Heap} {locs : List Loc} {cells slots : Nat} {Q : State → Prop} {ls : Array Slot} {D : va_G} {Y : Nat → ClassId} {ad am : Nat → Nat} {G K : GT} {o od n0 b L : Nat} {xs : Nat → Int32} {Rel : GT → GT → Prop} {i : Int32} (hst : l.stackTraces = false) (F : Fx p c cL_law 9 s m args RL D Y) (E : LEn s ad am o od n0 b L xs) (hW : LWd D Y ad am o od G K H) (hS : va_S (LA n0) s.heap H locs) (hl : lv_has ls 9 [(0, .ref b), (1, .ref (ad 77)), (2, .ref (am 0)), (3, .ref o), (4, .ref od), (5, .int i)]) (hR : R.frames = 2048 ∧ R.locals = 94400 ∧ cells + 16 ≤ R.cells ∧ slots + 96 ≤ R.slots) (hst1 : St_walk Rel) (hr : Rel G K) (h1 : vp_in (i + 1) L) 
    (kk : ∀ (H1 : Heap) (L1 : List Loc) (ls1 : Array Slot) (G' K' : GT), Rel G' K' → LWd D Y ad am o od G' K' H1 → va_S (LA n0) s.heap H1 L1 → lv_has ls1 9 [(0, .ref b), (1, .ref (ad 77)), (2, .ref (am 0)), (3, .ref o), (4, .ref od), (5, .int i)] → W p l ev R s m args below meth c H1 L1 (cells + 16) (slots + 96) Q (F0 m 2244 ls1 [])) : W p l ev R s m args below meth c H locs cells slots Q (F0 m 1325 ls []) := by
  have hx := F.1.1
  have hb := F.1.2.1
  obtain ⟨r, K', e1, e2, hrel⟩ := hst1 G K hr (xs (i + 1).toNatClampNeg)
  refine lv_aload_n hx hb dL_law_1325 rfl (lv_at hl 1 rfl) ?_
  refine lv_aload_n hx hb dL_law_1326 rfl (lv_at hl 0 rfl) ?_
  refine lv_iload hx hb dL_law_1327 (lv_at hl 5 rfl) ?_
  refine lv_iconst (v := 1) hx hb dL_law_1329 (by decide) ?_
  refine lv_iadd hx hb dL_law_1330 ?_
  refine la_x F E hS h1 dL_law_1331 ?_
  refine la_bool F dL_law_1332 (by decide) dL_law_1335 dL_law_1336 (by decide) dL_law_1339 ?_
  refine rd_V (rest := []) (As := [.int (bz (xs (i + 1).toNatClampNeg))]) F hW.1 k_X9_walk mw_305 77 10 rfl (wsW_get 77 (by decide)) (q_X9_walk l D Y ad G (bz (xs (i + 1).toNatClampNeg)) r e1) rfl hl.1 ⟨by rw [hR.1]; exact Nat.le_of_ble_eq_true rfl, by rw [hR.2.1]; exact Nat.le_of_ble_eq_true rfl⟩ rfl (Nat.le_of_ble_eq_true rfl) ⟨by omega, by omega⟩ dL_law_1340 ?_
  intro _
  refine lv_aload_n hx hb dL_law_1343 rfl (lv_at hl 2 rfl) ?_
  refine lv_aload_n hx hb dL_law_1344 rfl (lv_at hl 0 rfl) ?_
  refine lv_iload hx hb dL_law_1345 (lv_at hl 5 rfl) ?_
  refine lv_iconst (v := 1) hx hb dL_law_1347 (by decide) ?_
  refine lv_iadd hx hb dL_law_1348 ?_
  refine la_x F E hS h1 dL_law_1349 ?_
  refine la_bool F dL_law_1350 (by decide) dL_law_1353 dL_law_1354 (by decide) dL_law_1357 ?_
  refine la_W (rest := [.int r]) (As := [.int (bz (xs (i + 1).toNatClampNeg))]) (G1 := K') F hS E.2.1.2.2.2.1 k_X10_walk mw_1588 hW.2.1 0 11 rfl (wsW_get 0 (by decide)) (q_X10_walk l D Y am E.2.1.2.1 K (bz (xs (i + 1).toNatClampNeg)) r K' e2) Bw.blind (fun U hU hw => Bw.of F.2 hW.2.1 hU hw) rfl hl.1 ⟨by rw [hR.1]; exact Nat.le_of_ble_eq_true rfl, by rw [hR.2.1]; exact Nat.le_of_ble_eq_true rfl⟩ rfl (Nat.le_of_ble_eq_true rfl) ⟨by omega, by omega⟩ dL_law_1358 ?_
  intro H1 L1 hP hq hS
  have hW := hW.upM E.2.1 hP hq
  refine lv_icmp_eq (tgt := 2244) hx hb dL_law_1361 (by decide) (fun c1 => ?_) (fun c1 => absurd rfl c1)
  refine W.widen (k := cells + 16) (n := slots + 96) (by omega) (by omega) ?_
  exact kk H1 L1 ls G K' hrel hW hS (lv_sub hl [0, 1, 2, 3, 4, 5] rfl)
set_option maxRecDepth 100000 in
set_option maxHeartbeats 4000000 in
theorem case_19 {p : Program} {l : Launch} {ev : Env} {R : Room} {s : State} {m : MethodId} {args : Array Value} {below : List Frame} {meth : Method} {c : Code} {H : Heap} {locs : List Loc} {cells slots : Nat} {Q : State → Prop} {ls : Array Slot} {D : va_G} {Y : Nat → ClassId} {ad am : Nat → Nat} {G K : GT} {o od n0 b L : Nat} {xs : Nat → Int32} {Rel : GT → GT → Prop} {i : Int32} (hst : l.stackTraces = false) (F : Fx p c cL_law 9 s m args RL D Y) (E : LEn s ad am o od n0 b L xs) (hW : LWd D Y ad am o od G K H) (hS : va_S (LA n0) s.heap H locs) (hl : lv_has ls 9 [(0, .ref b), (1, .ref (ad 77)), (2, .ref (am 0)), (3, .ref o), (4, .ref od), (5, .int i)]) (hR : R.frames = 2048 ∧ R.locals = 94400 ∧ cells + 16 ≤ R.cells ∧ slots + 96 ≤ R.slots) (hst1 : St_goes Rel) (hr : Rel G K) (h1 : vp_in (i + 1) L) 
    (kk : ∀ (H1 : Heap) (L1 : List Loc) (ls1 : Array Slot) (G' K' : GT), Rel G' K' → LWd D Y ad am o od G' K' H1 → va_S (LA n0) s.heap H1 L1 → lv_has ls1 9 [(0, .ref b), (1, .ref (ad 77)), (2, .ref (am 0)), (3, .ref o), (4, .ref od), (5, .int i)] → W p l ev R s m args below meth c H1 L1 (cells + 16) (slots + 96) Q (F0 m 2244 ls1 [])) : W p l ev R s m args below meth c H locs cells slots Q (F0 m 1366 ls []) := by
  have hx := F.1.1
  have hb := F.1.2.1
  obtain ⟨r, K', e1, e2, hrel⟩ := hst1 G K hr (xs (i + 1).toNatClampNeg)
  refine lv_aload_n hx hb dL_law_1366 rfl (lv_at hl 1 rfl) ?_
  refine lv_aload_n hx hb dL_law_1367 rfl (lv_at hl 0 rfl) ?_
  refine lv_iload hx hb dL_law_1368 (lv_at hl 5 rfl) ?_
  refine lv_iconst (v := 1) hx hb dL_law_1370 (by decide) ?_
  refine lv_iadd hx hb dL_law_1371 ?_
  refine la_x F E hS h1 dL_law_1372 ?_
  refine la_bool F dL_law_1373 (by decide) dL_law_1376 dL_law_1377 (by decide) dL_law_1380 ?_
  refine rd_V (rest := []) (As := [.int (bz (xs (i + 1).toNatClampNeg))]) F hW.1 k_X9_goes mw_330 77 10 rfl (wsW_get 77 (by decide)) (q_X9_goes l D Y ad G (bz (xs (i + 1).toNatClampNeg)) r e1) rfl hl.1 ⟨by rw [hR.1]; exact Nat.le_of_ble_eq_true rfl, by rw [hR.2.1]; exact Nat.le_of_ble_eq_true rfl⟩ rfl (Nat.le_of_ble_eq_true rfl) ⟨by omega, by omega⟩ dL_law_1381 ?_
  intro _
  refine lv_aload_n hx hb dL_law_1384 rfl (lv_at hl 2 rfl) ?_
  refine lv_aload_n hx hb dL_law_1385 rfl (lv_at hl 0 rfl) ?_
  refine lv_iload hx hb dL_law_1386 (lv_at hl 5 rfl) ?_
  refine lv_iconst (v := 1) hx hb dL_law_1388 (by decide) ?_
  refine lv_iadd hx hb dL_law_1389 ?_
  refine la_x F E hS h1 dL_law_1390 ?_
  refine la_bool F dL_law_1391 (by decide) dL_law_1394 dL_law_1395 (by decide) dL_law_1398 ?_
  refine la_W (rest := [.int r]) (As := [.int (bz (xs (i + 1).toNatClampNeg))]) (G1 := K') F hS E.2.1.2.2.2.1 k_X10_goes mw_1592 hW.2.1 0 11 rfl (wsW_get 0 (by decide)) (q_X10_goes l D Y am E.2.1.2.1 K (bz (xs (i + 1).toNatClampNeg)) r K' e2) Bw.blind (fun U hU hw => Bw.of F.2 hW.2.1 hU hw) rfl hl.1 ⟨by rw [hR.1]; exact Nat.le_of_ble_eq_true rfl, by rw [hR.2.1]; exact Nat.le_of_ble_eq_true rfl⟩ rfl (Nat.le_of_ble_eq_true rfl) ⟨by omega, by omega⟩ dL_law_1399 ?_
  intro H1 L1 hP hq hS
  have hW := hW.upM E.2.1 hP hq
  refine lv_icmp_eq (tgt := 2244) hx hb dL_law_1402 (by decide) (fun c1 => ?_) (fun c1 => absurd rfl c1)
  refine W.widen (k := cells + 16) (n := slots + 96) (by omega) (by omega) ?_
  exact kk H1 L1 ls G K' hrel hW hS (lv_sub hl [0, 1, 2, 3, 4, 5] rfl)
set_option maxRecDepth 100000 in
set_option maxHeartbeats 4000000 in
theorem case_20 {p : Program} {l : Launch} {ev : Env} {R : Room} {s : State} {m : MethodId} {args : Array Value} {below : List Frame} {meth : Method} {c : Code} {H : Heap} {locs : List Loc} {cells slots : Nat} {Q : State → Prop} {ls : Array Slot} {D : va_G} {Y : Nat → ClassId} {ad am : Nat → Nat} {G K : GT} {o od n0 b L : Nat} {xs : Nat → Int32} {Rel : GT → GT → Prop} {i : Int32} (hst : l.stackTraces = false) (F : Fx p c cL_law 9 s m args RL D Y) (E : LEn s ad am o od n0 b L xs) (hW : LWd D Y ad am o od G K H) (hS : va_S (LA n0) s.heap H locs) (hl : lv_has ls 9 [(0, .ref b), (1, .ref (ad 77)), (2, .ref (am 0)), (3, .ref o), (4, .ref od), (5, .int i)]) (hR : R.frames = 2048 ∧ R.locals = 94400 ∧ cells + 16 ≤ R.cells ∧ slots + 96 ≤ R.slots) (hst1 : St_span Rel) (hr : Rel G K) 
    (kk : ∀ (H1 : Heap) (L1 : List Loc) (ls1 : Array Slot) (G' K' : GT), Rel G' K' → LWd D Y ad am o od G' K' H1 → va_S (LA n0) s.heap H1 L1 → lv_has ls1 9 [(0, .ref b), (1, .ref (ad 77)), (2, .ref (am 0)), (3, .ref o), (4, .ref od), (5, .int i)] → W p l ev R s m args below meth c H1 L1 (cells + 16) (slots + 96) Q (F0 m 2244 ls1 [])) : W p l ev R s m args below meth c H locs cells slots Q (F0 m 1407 ls []) := by
  have hx := F.1.1
  have hb := F.1.2.1
  obtain ⟨r, K', e1, e2, hrel⟩ := hst1 G K hr 
  refine lv_aload_n hx hb dL_law_1407 rfl (lv_at hl 1 rfl) ?_
  refine rd_V (rest := []) (As := []) F hW.1 k_X9_span mw_338 77 10 rfl (wsW_get 77 (by decide)) (q_X9_span l D Y ad G  r e1) rfl hl.1 ⟨by rw [hR.1]; exact Nat.le_of_ble_eq_true rfl, by rw [hR.2.1]; exact Nat.le_of_ble_eq_true rfl⟩ rfl (Nat.le_of_ble_eq_true rfl) ⟨by omega, by omega⟩ dL_law_1408 ?_
  intro _
  refine lv_aload_n hx hb dL_law_1411 rfl (lv_at hl 2 rfl) ?_
  refine la_W (rest := [.int r]) (As := []) (G1 := K') F hS E.2.1.2.2.2.1 k_X10_span mw_1596 hW.2.1 0 11 rfl (wsW_get 0 (by decide)) (q_X10_span l D Y am E.2.1.2.1 K  r K' e2) Bw.blind (fun U hU hw => Bw.of F.2 hW.2.1 hU hw) rfl hl.1 ⟨by rw [hR.1]; exact Nat.le_of_ble_eq_true rfl, by rw [hR.2.1]; exact Nat.le_of_ble_eq_true rfl⟩ rfl (Nat.le_of_ble_eq_true rfl) ⟨by omega, by omega⟩ dL_law_1412 ?_
  intro H1 L1 hP hq hS
  have hW := hW.upM E.2.1 hP hq
  refine lv_icmp_eq (tgt := 2244) hx hb dL_law_1415 (by decide) (fun c1 => ?_) (fun c1 => absurd rfl c1)
  refine W.widen (k := cells + 16) (n := slots + 96) (by omega) (by omega) ?_
  exact kk H1 L1 ls G K' hrel hW hS (lv_sub hl [0, 1, 2, 3, 4, 5] rfl)
set_option maxRecDepth 100000 in
set_option maxHeartbeats 4000000 in
theorem case_21 {p : Program} {l : Launch} {ev : Env} {R : Room} {s : State} {m : MethodId} {args : Array Value} {below : List Frame} {meth : Method} {c : Code} {H : Heap} {locs : List Loc} {cells slots : Nat} {Q : State → Prop} {ls : Array Slot} {D : va_G} {Y : Nat → ClassId} {ad am : Nat → Nat} {G K : GT} {o od n0 b L : Nat} {xs : Nat → Int32} {Rel : GT → GT → Prop} {i : Int32} (hst : l.stackTraces = false) (F : Fx p c cL_law 9 s m args RL D Y) (E : LEn s ad am o od n0 b L xs) (hW : LWd D Y ad am o od G K H) (hS : va_S (LA n0) s.heap H locs) (hl : lv_has ls 9 [(0, .ref b), (1, .ref (ad 77)), (2, .ref (am 0)), (3, .ref o), (4, .ref od), (5, .int i)]) (hR : R.frames = 2048 ∧ R.locals = 94400 ∧ cells + 16 ≤ R.cells ∧ slots + 96 ≤ R.slots) (hst1 : St_withPitch Rel) (hr : Rel G K) (h1 : vp_in (i + 1) L) 
    (kk : ∀ (H1 : Heap) (L1 : List Loc) (ls1 : Array Slot) (G' K' : GT), Rel G' K' → LWd D Y ad am o od G' K' H1 → va_S (LA n0) s.heap H1 L1 → lv_has ls1 9 [(0, .ref b), (1, .ref (ad 77)), (2, .ref (am 0)), (3, .ref o), (4, .ref od), (5, .int i)] → W p l ev R s m args below meth c H1 L1 (cells + 16) (slots + 96) Q (F0 m 2244 ls1 [])) : W p l ev R s m args below meth c H locs cells slots Q (F0 m 1420 ls []) := by
  have hx := F.1.1
  have hb := F.1.2.1
  obtain ⟨RR, G', r2, K', e1, e2, e3, hks, e5, hrel⟩ := hst1 G K hr (xs (i + 1).toNatClampNeg)
  refine lv_aload_n hx hb dL_law_1420 rfl (lv_at hl 1 rfl) ?_
  refine lv_aload_n hx hb dL_law_1421 rfl (lv_at hl 0 rfl) ?_
  refine lv_iload hx hb dL_law_1422 (lv_at hl 5 rfl) ?_
  refine lv_iconst (v := 1) hx hb dL_law_1424 (by decide) ?_
  refine lv_iadd hx hb dL_law_1425 ?_
  refine la_x F E hS h1 dL_law_1426 ?_
  refine lv_aload_n hx hb dL_law_1427 rfl (lv_at hl 3 rfl) ?_
  refine la_H (G' := G') F E hW hS kl_withPitch mw_909 (fun f => ql_withPitch l hst D Y ad E.2.1.1 G (xs (i + 1).toNatClampNeg) o f RR G' e1 hks) rfl hl.1 ⟨by rw [hR.1]; exact Nat.le_of_ble_eq_true rfl, by rw [hR.2.1]; exact Nat.le_of_ble_eq_true rfl⟩ rfl (Nat.le_of_ble_eq_true rfl) ⟨by omega, by omega⟩ dL_law_1428 ?_
  intro f H1 L1 hT hv hW hS
  refine lv_istore (lv' := [(6, .int (cod [1] RR)), (0, .ref b), (1, .ref (ad 77)), (2, .ref (am 0)), (3, .ref o), (4, .ref od), (5, .int i)]) hx hb dL_law_1431 hl (by decide) rfl (fun ls hl => ?_)
  refine lv_aload_n hx hb dL_law_1433 rfl (lv_at hl 3 rfl) ?_
  refine lv_aload_n hx hb dL_law_1434 rfl (lv_at hl 1 rfl) ?_
  refine lv_iload hx hb dL_law_1435 (lv_at hl 6 rfl) ?_
  refine lv_iconst (v := 1) hx hb dL_law_1437 (by decide) ?_
  refine lv_iadd hx hb dL_law_1438 ?_
  refine la_x F E hS h1 dL_law_1439 ?_
  refine la_W (rest := []) (As := [.int (xs (i + 1).toNatClampNeg)]) (G1 := K') F hS E.2.1.2.2.2.1 k_X10_withPitch mw_1604 hW.2.1 0 11 rfl (wsW_get 0 (by decide)) (q_X10_withPitch l D Y am E.2.1.2.1 K (xs (i + 1).toNatClampNeg) r2 K' e2) Bw.blind (fun U hU hw => Bw.of F.2 hW.2.1 hU hw) rfl hl.1 ⟨by rw [hR.1]; exact Nat.le_of_ble_eq_true rfl, by rw [hR.2.1]; exact Nat.le_of_ble_eq_true rfl⟩ rfl (Nat.le_of_ble_eq_true rfl) ⟨by omega, by omega⟩ dL_law_1440 ?_
  intro H1 L1 hP hq hS
  have hT := hT.kept (hq _ (at_lt hT) E.2.1.2.2.2.2.2.2.2.2.2.1)
  have hW := hW.upM E.2.1 hP hq
  refine lv_istore (lv' := [(7, .int r2), (6, .int (cod [1] RR)), (0, .ref b), (1, .ref (ad 77)), (2, .ref (am 0)), (3, .ref o), (4, .ref od), (5, .int i)]) hx hb dL_law_1443 hl (by decide) rfl (fun ls hl => ?_)
  refine lv_aload_n hx hb dL_law_1445 rfl (lv_at hl 4 rfl) ?_
  refine rd_V (rest := []) (As := []) F hW.2.1 k_X10_thrown mw_1356 0 11 rfl (wsW_get 0 (by decide)) (q_X10_thrown l D Y am K'  (cod [1] RR) e3) rfl hl.1 ⟨by rw [hR.1]; exact Nat.le_of_ble_eq_true rfl, by rw [hR.2.1]; exact Nat.le_of_ble_eq_true rfl⟩ rfl (Nat.le_of_ble_eq_true rfl) ⟨by omega, by omega⟩ dL_law_1446 ?_
  intro _
  refine lv_iload hx hb dL_law_1449 (lv_at hl 1 rfl) ?_
  refine lv_icmp_eq (tgt := 1456) hx hb dL_law_1451 (by decide) (fun c1 => ?_) (fun c1 => absurd rfl c1)
  refine lv_iload hx hb dL_law_1456 (lv_at hl 1 rfl) ?_
  refine lv_if_ne (tgt := 1473) hx hb dL_law_1458 (by decide) (fun c1 => ?_) (fun c1 => ?_)
  · refine lv_goto (tgt := 2244) hx hb dL_law_1473 (by decide) ?_
    refine W.widen (k := cells + 16) (n := slots + 96) (by omega) (by omega) ?_
    exact kk H1 L1 ls G' K' hrel hW hS (lv_sub hl [2, 3, 4, 5, 6, 7] rfl)
  · obtain ⟨v, hRv⟩ := cod0 (ks := [1]) (by decide) c1
    have hfv := hv v hRv
    have hvr := e5 v hRv
    subst hvr
    refine lv_aload_n hx hb dL_law_1461 rfl (lv_at hl 5 rfl) ?_
    refine lv_iconst (v := 0) hx hb dL_law_1462 (by decide) ?_
    refine va_lald hx hb F.2.1 (at_P hT) 0 4 rfl rfl (by unfold vp_in; decide) dL_law_1463 ?_
    refine lv_iload hx hb dL_law_1464 (lv_at hl 0 rfl) ?_
    refine lv_i2l (v := v.toInt64) hx hb dL_law_1466 rfl ?_
    refine W.lcmp hx hb dL_law_1467 ?_
    refine lv_if_eq (tgt := 1473) hx hb dL_law_1468 (by decide) (fun c2 => ?_) (fun c2 => absurd ?_ c2)
    · refine lv_goto (tgt := 2244) hx hb dL_law_1473 (by decide) ?_
      refine W.widen (k := cells + 16) (n := slots + 96) (by omega) (by omega) ?_
      exact kk H1 L1 ls G' K' hrel hW hS (lv_sub hl [2, 3, 4, 5, 6, 7] rfl)
    · rw [show f (0 : Int32).toNatClampNeg = v.toInt64 from hfv]
      exact lgc_self _
set_option maxRecDepth 100000 in
set_option maxHeartbeats 4000000 in
theorem case_22 {p : Program} {l : Launch} {ev : Env} {R : Room} {s : State} {m : MethodId} {args : Array Value} {below : List Frame} {meth : Method} {c : Code} {H : Heap} {locs : List Loc} {cells slots : Nat} {Q : State → Prop} {ls : Array Slot} {D : va_G} {Y : Nat → ClassId} {ad am : Nat → Nat} {G K : GT} {o od n0 b L : Nat} {xs : Nat → Int32} {Rel : GT → GT → Prop} {i : Int32} (hst : l.stackTraces = false) (F : Fx p c cL_law 9 s m args RL D Y) (E : LEn s ad am o od n0 b L xs) (hW : LWd D Y ad am o od G K H) (hS : va_S (LA n0) s.heap H locs) (hl : lv_has ls 9 [(0, .ref b), (1, .ref (ad 77)), (2, .ref (am 0)), (3, .ref o), (4, .ref od), (5, .int i)]) (hR : R.frames = 2048 ∧ R.locals = 94400 ∧ cells + 16 ≤ R.cells ∧ slots + 96 ≤ R.slots) (hst1 : St_loudest Rel) (hr : Rel G K) (h1 : vp_in (i + 1) L) 
    (kk : ∀ (H1 : Heap) (L1 : List Loc) (ls1 : Array Slot) (G' K' : GT), Rel G' K' → LWd D Y ad am o od G' K' H1 → va_S (LA n0) s.heap H1 L1 → lv_has ls1 9 [(0, .ref b), (1, .ref (ad 77)), (2, .ref (am 0)), (3, .ref o), (4, .ref od), (5, .int i)] → W p l ev R s m args below meth c H1 L1 (cells + 16) (slots + 96) Q (F0 m 2244 ls1 [])) : W p l ev R s m args below meth c H locs cells slots Q (F0 m 1476 ls []) := by
  have hx := F.1.1
  have hb := F.1.2.1
  obtain ⟨RR, G', r2, K', e1, e2, e3, hks, e5, hrel⟩ := hst1 G K hr (xs (i + 1).toNatClampNeg)
  refine lv_aload_n hx hb dL_law_1476 rfl (lv_at hl 1 rfl) ?_
  refine lv_aload_n hx hb dL_law_1477 rfl (lv_at hl 0 rfl) ?_
  refine lv_iload hx hb dL_law_1478 (lv_at hl 5 rfl) ?_
  refine lv_iconst (v := 1) hx hb dL_law_1480 (by decide) ?_
  refine lv_iadd hx hb dL_law_1481 ?_
  refine la_x F E hS h1 dL_law_1482 ?_
  refine lv_aload_n hx hb dL_law_1483 rfl (lv_at hl 3 rfl) ?_
  refine la_H (G' := G') F E hW hS kl_loudest mw_920 (fun f => ql_loudest l hst D Y ad E.2.1.1 G (xs (i + 1).toNatClampNeg) o f RR G' e1 hks) rfl hl.1 ⟨by rw [hR.1]; exact Nat.le_of_ble_eq_true rfl, by rw [hR.2.1]; exact Nat.le_of_ble_eq_true rfl⟩ rfl (Nat.le_of_ble_eq_true rfl) ⟨by omega, by omega⟩ dL_law_1484 ?_
  intro f H1 L1 hT hv hW hS
  refine lv_istore (lv' := [(6, .int (cod [3] RR)), (0, .ref b), (1, .ref (ad 77)), (2, .ref (am 0)), (3, .ref o), (4, .ref od), (5, .int i)]) hx hb dL_law_1487 hl (by decide) rfl (fun ls hl => ?_)
  refine lv_aload_n hx hb dL_law_1489 rfl (lv_at hl 3 rfl) ?_
  refine lv_aload_n hx hb dL_law_1490 rfl (lv_at hl 1 rfl) ?_
  refine lv_iload hx hb dL_law_1491 (lv_at hl 6 rfl) ?_
  refine lv_iconst (v := 1) hx hb dL_law_1493 (by decide) ?_
  refine lv_iadd hx hb dL_law_1494 ?_
  refine la_x F E hS h1 dL_law_1495 ?_
  refine la_W (rest := []) (As := [.int (xs (i + 1).toNatClampNeg)]) (G1 := K') F hS E.2.1.2.2.2.1 k_X10_loudest mw_1608 hW.2.1 0 11 rfl (wsW_get 0 (by decide)) (q_X10_loudest l D Y am E.2.1.2.1 K (xs (i + 1).toNatClampNeg) r2 K' e2) Bw.blind (fun U hU hw => Bw.of F.2 hW.2.1 hU hw) rfl hl.1 ⟨by rw [hR.1]; exact Nat.le_of_ble_eq_true rfl, by rw [hR.2.1]; exact Nat.le_of_ble_eq_true rfl⟩ rfl (Nat.le_of_ble_eq_true rfl) ⟨by omega, by omega⟩ dL_law_1496 ?_
  intro H1 L1 hP hq hS
  have hT := hT.kept (hq _ (at_lt hT) E.2.1.2.2.2.2.2.2.2.2.2.1)
  have hW := hW.upM E.2.1 hP hq
  refine lv_istore (lv' := [(7, .int r2), (6, .int (cod [3] RR)), (0, .ref b), (1, .ref (ad 77)), (2, .ref (am 0)), (3, .ref o), (4, .ref od), (5, .int i)]) hx hb dL_law_1499 hl (by decide) rfl (fun ls hl => ?_)
  refine lv_aload_n hx hb dL_law_1501 rfl (lv_at hl 4 rfl) ?_
  refine rd_V (rest := []) (As := []) F hW.2.1 k_X10_thrown mw_1356 0 11 rfl (wsW_get 0 (by decide)) (q_X10_thrown l D Y am K'  (cod [3] RR) e3) rfl hl.1 ⟨by rw [hR.1]; exact Nat.le_of_ble_eq_true rfl, by rw [hR.2.1]; exact Nat.le_of_ble_eq_true rfl⟩ rfl (Nat.le_of_ble_eq_true rfl) ⟨by omega, by omega⟩ dL_law_1502 ?_
  intro _
  refine lv_iload hx hb dL_law_1505 (lv_at hl 1 rfl) ?_
  refine lv_icmp_eq (tgt := 1512) hx hb dL_law_1507 (by decide) (fun c1 => ?_) (fun c1 => absurd rfl c1)
  refine lv_iload hx hb dL_law_1512 (lv_at hl 1 rfl) ?_
  refine lv_if_ne (tgt := 1529) hx hb dL_law_1514 (by decide) (fun c1 => ?_) (fun c1 => ?_)
  · refine lv_goto (tgt := 2244) hx hb dL_law_1529 (by decide) ?_
    refine W.widen (k := cells + 16) (n := slots + 96) (by omega) (by omega) ?_
    exact kk H1 L1 ls G' K' hrel hW hS (lv_sub hl [2, 3, 4, 5, 6, 7] rfl)
  · obtain ⟨v, hRv⟩ := cod0 (ks := [3]) (by decide) c1
    have hfv := hv v hRv
    have hvr := e5 v hRv
    subst hvr
    refine lv_aload_n hx hb dL_law_1517 rfl (lv_at hl 5 rfl) ?_
    refine lv_iconst (v := 0) hx hb dL_law_1518 (by decide) ?_
    refine va_lald hx hb F.2.1 (at_P hT) 0 4 rfl rfl (by unfold vp_in; decide) dL_law_1519 ?_
    refine lv_iload hx hb dL_law_1520 (lv_at hl 0 rfl) ?_
    refine lv_i2l (v := v.toInt64) hx hb dL_law_1522 rfl ?_
    refine W.lcmp hx hb dL_law_1523 ?_
    refine lv_if_eq (tgt := 1529) hx hb dL_law_1524 (by decide) (fun c2 => ?_) (fun c2 => absurd ?_ c2)
    · refine lv_goto (tgt := 2244) hx hb dL_law_1529 (by decide) ?_
      refine W.widen (k := cells + 16) (n := slots + 96) (by omega) (by omega) ?_
      exact kk H1 L1 ls G' K' hrel hW hS (lv_sub hl [2, 3, 4, 5, 6, 7] rfl)
    · rw [show f (0 : Int32).toNatClampNeg = v.toInt64 from hfv]
      exact lgc_self _
set_option maxRecDepth 100000 in
set_option maxHeartbeats 4000000 in
theorem case_23 {p : Program} {l : Launch} {ev : Env} {R : Room} {s : State} {m : MethodId} {args : Array Value} {below : List Frame} {meth : Method} {c : Code} {H : Heap} {locs : List Loc} {cells slots : Nat} {Q : State → Prop} {ls : Array Slot} {D : va_G} {Y : Nat → ClassId} {ad am : Nat → Nat} {G K : GT} {o od n0 b L : Nat} {xs : Nat → Int32} {Rel : GT → GT → Prop} {i : Int32} (hst : l.stackTraces = false) (F : Fx p c cL_law 9 s m args RL D Y) (E : LEn s ad am o od n0 b L xs) (hW : LWd D Y ad am o od G K H) (hS : va_S (LA n0) s.heap H locs) (hl : lv_has ls 9 [(0, .ref b), (1, .ref (ad 77)), (2, .ref (am 0)), (3, .ref o), (4, .ref od), (5, .int i)]) (hR : R.frames = 2048 ∧ R.locals = 94400 ∧ cells + 16 ≤ R.cells ∧ slots + 96 ≤ R.slots) (hst1 : St_highest Rel) (hr : Rel G K) (h1 : vp_in (i + 1) L) 
    (kk : ∀ (H1 : Heap) (L1 : List Loc) (ls1 : Array Slot) (G' K' : GT), Rel G' K' → LWd D Y ad am o od G' K' H1 → va_S (LA n0) s.heap H1 L1 → lv_has ls1 9 [(0, .ref b), (1, .ref (ad 77)), (2, .ref (am 0)), (3, .ref o), (4, .ref od), (5, .int i)] → W p l ev R s m args below meth c H1 L1 (cells + 16) (slots + 96) Q (F0 m 2244 ls1 [])) : W p l ev R s m args below meth c H locs cells slots Q (F0 m 1532 ls []) := by
  have hx := F.1.1
  have hb := F.1.2.1
  obtain ⟨RR, G', r2, K', e1, e2, e3, hks, e5, hrel⟩ := hst1 G K hr (xs (i + 1).toNatClampNeg)
  refine lv_aload_n hx hb dL_law_1532 rfl (lv_at hl 1 rfl) ?_
  refine lv_aload_n hx hb dL_law_1533 rfl (lv_at hl 0 rfl) ?_
  refine lv_iload hx hb dL_law_1534 (lv_at hl 5 rfl) ?_
  refine lv_iconst (v := 1) hx hb dL_law_1536 (by decide) ?_
  refine lv_iadd hx hb dL_law_1537 ?_
  refine la_x F E hS h1 dL_law_1538 ?_
  refine lv_aload_n hx hb dL_law_1539 rfl (lv_at hl 3 rfl) ?_
  refine la_H (G' := G') F E hW hS kl_highest mw_941 (fun f => ql_highest l hst D Y ad E.2.1.1 G (xs (i + 1).toNatClampNeg) o f RR G' e1 hks) rfl hl.1 ⟨by rw [hR.1]; exact Nat.le_of_ble_eq_true rfl, by rw [hR.2.1]; exact Nat.le_of_ble_eq_true rfl⟩ rfl (Nat.le_of_ble_eq_true rfl) ⟨by omega, by omega⟩ dL_law_1540 ?_
  intro f H1 L1 hT hv hW hS
  refine lv_istore (lv' := [(6, .int (cod [3] RR)), (0, .ref b), (1, .ref (ad 77)), (2, .ref (am 0)), (3, .ref o), (4, .ref od), (5, .int i)]) hx hb dL_law_1543 hl (by decide) rfl (fun ls hl => ?_)
  refine lv_aload_n hx hb dL_law_1545 rfl (lv_at hl 3 rfl) ?_
  refine lv_aload_n hx hb dL_law_1546 rfl (lv_at hl 1 rfl) ?_
  refine lv_iload hx hb dL_law_1547 (lv_at hl 6 rfl) ?_
  refine lv_iconst (v := 1) hx hb dL_law_1549 (by decide) ?_
  refine lv_iadd hx hb dL_law_1550 ?_
  refine la_x F E hS h1 dL_law_1551 ?_
  refine la_W (rest := []) (As := [.int (xs (i + 1).toNatClampNeg)]) (G1 := K') F hS E.2.1.2.2.2.1 k_X10_highest mw_1620 hW.2.1 0 11 rfl (wsW_get 0 (by decide)) (q_X10_highest l D Y am E.2.1.2.1 K (xs (i + 1).toNatClampNeg) r2 K' e2) Bw.blind (fun U hU hw => Bw.of F.2 hW.2.1 hU hw) rfl hl.1 ⟨by rw [hR.1]; exact Nat.le_of_ble_eq_true rfl, by rw [hR.2.1]; exact Nat.le_of_ble_eq_true rfl⟩ rfl (Nat.le_of_ble_eq_true rfl) ⟨by omega, by omega⟩ dL_law_1552 ?_
  intro H1 L1 hP hq hS
  have hT := hT.kept (hq _ (at_lt hT) E.2.1.2.2.2.2.2.2.2.2.2.1)
  have hW := hW.upM E.2.1 hP hq
  refine lv_istore (lv' := [(7, .int r2), (6, .int (cod [3] RR)), (0, .ref b), (1, .ref (ad 77)), (2, .ref (am 0)), (3, .ref o), (4, .ref od), (5, .int i)]) hx hb dL_law_1555 hl (by decide) rfl (fun ls hl => ?_)
  refine lv_aload_n hx hb dL_law_1557 rfl (lv_at hl 4 rfl) ?_
  refine rd_V (rest := []) (As := []) F hW.2.1 k_X10_thrown mw_1356 0 11 rfl (wsW_get 0 (by decide)) (q_X10_thrown l D Y am K'  (cod [3] RR) e3) rfl hl.1 ⟨by rw [hR.1]; exact Nat.le_of_ble_eq_true rfl, by rw [hR.2.1]; exact Nat.le_of_ble_eq_true rfl⟩ rfl (Nat.le_of_ble_eq_true rfl) ⟨by omega, by omega⟩ dL_law_1558 ?_
  intro _
  refine lv_iload hx hb dL_law_1561 (lv_at hl 1 rfl) ?_
  refine lv_icmp_eq (tgt := 1568) hx hb dL_law_1563 (by decide) (fun c1 => ?_) (fun c1 => absurd rfl c1)
  refine lv_iload hx hb dL_law_1568 (lv_at hl 1 rfl) ?_
  refine lv_if_ne (tgt := 1585) hx hb dL_law_1570 (by decide) (fun c1 => ?_) (fun c1 => ?_)
  · refine lv_goto (tgt := 2244) hx hb dL_law_1585 (by decide) ?_
    refine W.widen (k := cells + 16) (n := slots + 96) (by omega) (by omega) ?_
    exact kk H1 L1 ls G' K' hrel hW hS (lv_sub hl [2, 3, 4, 5, 6, 7] rfl)
  · obtain ⟨v, hRv⟩ := cod0 (ks := [3]) (by decide) c1
    have hfv := hv v hRv
    have hvr := e5 v hRv
    subst hvr
    refine lv_aload_n hx hb dL_law_1573 rfl (lv_at hl 5 rfl) ?_
    refine lv_iconst (v := 0) hx hb dL_law_1574 (by decide) ?_
    refine va_lald hx hb F.2.1 (at_P hT) 0 4 rfl rfl (by unfold vp_in; decide) dL_law_1575 ?_
    refine lv_iload hx hb dL_law_1576 (lv_at hl 0 rfl) ?_
    refine lv_i2l (v := v.toInt64) hx hb dL_law_1578 rfl ?_
    refine W.lcmp hx hb dL_law_1579 ?_
    refine lv_if_eq (tgt := 1585) hx hb dL_law_1580 (by decide) (fun c2 => ?_) (fun c2 => absurd ?_ c2)
    · refine lv_goto (tgt := 2244) hx hb dL_law_1585 (by decide) ?_
      refine W.widen (k := cells + 16) (n := slots + 96) (by omega) (by omega) ?_
      exact kk H1 L1 ls G' K' hrel hW hS (lv_sub hl [2, 3, 4, 5, 6, 7] rfl)
    · rw [show f (0 : Int32).toNatClampNeg = v.toInt64 from hfv]
      exact lgc_self _
set_option maxRecDepth 100000 in
set_option maxHeartbeats 4000000 in
theorem case_24 {p : Program} {l : Launch} {ev : Env} {R : Room} {s : State} {m : MethodId} {args : Array Value} {below : List Frame} {meth : Method} {c : Code} {H : Heap} {locs : List Loc} {cells slots : Nat} {Q : State → Prop} {ls : Array Slot} {D : va_G} {Y : Nat → ClassId} {ad am : Nat → Nat} {G K : GT} {o od n0 b L : Nat} {xs : Nat → Int32} {Rel : GT → GT → Prop} {i : Int32} (hst : l.stackTraces = false) (F : Fx p c cL_law 9 s m args RL D Y) (E : LEn s ad am o od n0 b L xs) (hW : LWd D Y ad am o od G K H) (hS : va_S (LA n0) s.heap H locs) (hl : lv_has ls 9 [(0, .ref b), (1, .ref (ad 77)), (2, .ref (am 0)), (3, .ref o), (4, .ref od), (5, .int i)]) (hR : R.frames = 2048 ∧ R.locals = 94400 ∧ cells + 16 ≤ R.cells ∧ slots + 96 ≤ R.slots) (hst1 : St_line Rel) (hr : Rel G K) (h1 : vp_in (i + 1) L) 
    (kk : ∀ (H1 : Heap) (L1 : List Loc) (ls1 : Array Slot) (G' K' : GT), Rel G' K' → LWd D Y ad am o od G' K' H1 → va_S (LA n0) s.heap H1 L1 → lv_has ls1 9 [(0, .ref b), (1, .ref (ad 77)), (2, .ref (am 0)), (3, .ref o), (4, .ref od), (5, .int i)] → W p l ev R s m args below meth c H1 L1 (cells + 16) (slots + 96) Q (F0 m 2244 ls1 [])) : W p l ev R s m args below meth c H locs cells slots Q (F0 m 1588 ls []) := by
  have hx := F.1.1
  have hb := F.1.2.1
  obtain ⟨RR, G', r2, K', e1, e2, e3, hks, e5, hrel⟩ := hst1 G K hr (xs (i + 1).toNatClampNeg)
  refine lv_aload_n hx hb dL_law_1588 rfl (lv_at hl 1 rfl) ?_
  refine lv_aload_n hx hb dL_law_1589 rfl (lv_at hl 0 rfl) ?_
  refine lv_iload hx hb dL_law_1590 (lv_at hl 5 rfl) ?_
  refine lv_iconst (v := 1) hx hb dL_law_1592 (by decide) ?_
  refine lv_iadd hx hb dL_law_1593 ?_
  refine la_x F E hS h1 dL_law_1594 ?_
  refine lv_aload_n hx hb dL_law_1595 rfl (lv_at hl 3 rfl) ?_
  refine la_H (G' := G') F E hW hS kl_line mw_964 (fun f => ql_line l hst D Y ad E.2.1.1 G (xs (i + 1).toNatClampNeg) o f RR G' e1 hks) rfl hl.1 ⟨by rw [hR.1]; exact Nat.le_of_ble_eq_true rfl, by rw [hR.2.1]; exact Nat.le_of_ble_eq_true rfl⟩ rfl (Nat.le_of_ble_eq_true rfl) ⟨by omega, by omega⟩ dL_law_1596 ?_
  intro f H1 L1 hT hv hW hS
  refine lv_istore (lv' := [(6, .int (cod [0] RR)), (0, .ref b), (1, .ref (ad 77)), (2, .ref (am 0)), (3, .ref o), (4, .ref od), (5, .int i)]) hx hb dL_law_1599 hl (by decide) rfl (fun ls hl => ?_)
  refine lv_aload_n hx hb dL_law_1601 rfl (lv_at hl 3 rfl) ?_
  refine lv_aload_n hx hb dL_law_1602 rfl (lv_at hl 1 rfl) ?_
  refine lv_iload hx hb dL_law_1603 (lv_at hl 6 rfl) ?_
  refine lv_iconst (v := 1) hx hb dL_law_1605 (by decide) ?_
  refine lv_iadd hx hb dL_law_1606 ?_
  refine la_x F E hS h1 dL_law_1607 ?_
  refine la_W (rest := []) (As := [.int (xs (i + 1).toNatClampNeg)]) (G1 := K') F hS E.2.1.2.2.2.1 k_X10_line mw_1624 hW.2.1 0 11 rfl (wsW_get 0 (by decide)) (q_X10_line l D Y am E.2.1.2.1 K (xs (i + 1).toNatClampNeg) r2 K' e2) Bw.blind (fun U hU hw => Bw.of F.2 hW.2.1 hU hw) rfl hl.1 ⟨by rw [hR.1]; exact Nat.le_of_ble_eq_true rfl, by rw [hR.2.1]; exact Nat.le_of_ble_eq_true rfl⟩ rfl (Nat.le_of_ble_eq_true rfl) ⟨by omega, by omega⟩ dL_law_1608 ?_
  intro H1 L1 hP hq hS
  have hT := hT.kept (hq _ (at_lt hT) E.2.1.2.2.2.2.2.2.2.2.2.1)
  have hW := hW.upM E.2.1 hP hq
  refine lv_istore (lv' := [(7, .int r2), (6, .int (cod [0] RR)), (0, .ref b), (1, .ref (ad 77)), (2, .ref (am 0)), (3, .ref o), (4, .ref od), (5, .int i)]) hx hb dL_law_1611 hl (by decide) rfl (fun ls hl => ?_)
  refine lv_aload_n hx hb dL_law_1613 rfl (lv_at hl 4 rfl) ?_
  refine rd_V (rest := []) (As := []) F hW.2.1 k_X10_thrown mw_1356 0 11 rfl (wsW_get 0 (by decide)) (q_X10_thrown l D Y am K'  (cod [0] RR) e3) rfl hl.1 ⟨by rw [hR.1]; exact Nat.le_of_ble_eq_true rfl, by rw [hR.2.1]; exact Nat.le_of_ble_eq_true rfl⟩ rfl (Nat.le_of_ble_eq_true rfl) ⟨by omega, by omega⟩ dL_law_1614 ?_
  intro _
  refine lv_iload hx hb dL_law_1617 (lv_at hl 1 rfl) ?_
  refine lv_icmp_eq (tgt := 1624) hx hb dL_law_1619 (by decide) (fun c1 => ?_) (fun c1 => absurd rfl c1)
  refine lv_iload hx hb dL_law_1624 (lv_at hl 1 rfl) ?_
  refine lv_if_ne (tgt := 1641) hx hb dL_law_1626 (by decide) (fun c1 => ?_) (fun c1 => ?_)
  · refine lv_goto (tgt := 2244) hx hb dL_law_1641 (by decide) ?_
    refine W.widen (k := cells + 16) (n := slots + 96) (by omega) (by omega) ?_
    exact kk H1 L1 ls G' K' hrel hW hS (lv_sub hl [2, 3, 4, 5, 6, 7] rfl)
  · obtain ⟨v, hRv⟩ := cod0 (ks := [0]) (by decide) c1
    have hfv := hv v hRv
    have hvr := e5 v hRv
    subst hvr
    refine lv_aload_n hx hb dL_law_1629 rfl (lv_at hl 5 rfl) ?_
    refine lv_iconst (v := 0) hx hb dL_law_1630 (by decide) ?_
    refine va_lald hx hb F.2.1 (at_P hT) 0 4 rfl rfl (by unfold vp_in; decide) dL_law_1631 ?_
    refine lv_iload hx hb dL_law_1632 (lv_at hl 0 rfl) ?_
    refine lv_i2l (v := v.toInt64) hx hb dL_law_1634 rfl ?_
    refine W.lcmp hx hb dL_law_1635 ?_
    refine lv_if_eq (tgt := 1641) hx hb dL_law_1636 (by decide) (fun c2 => ?_) (fun c2 => absurd ?_ c2)
    · refine lv_goto (tgt := 2244) hx hb dL_law_1641 (by decide) ?_
      refine W.widen (k := cells + 16) (n := slots + 96) (by omega) (by omega) ?_
      exact kk H1 L1 ls G' K' hrel hW hS (lv_sub hl [2, 3, 4, 5, 6, 7] rfl)
    · rw [show f (0 : Int32).toNatClampNeg = v.toInt64 from hfv]
      exact lgc_self _
set_option maxRecDepth 100000 in
set_option maxHeartbeats 4000000 in
theorem case_25 {p : Program} {l : Launch} {ev : Env} {R : Room} {s : State} {m : MethodId} {args : Array Value} {below : List Frame} {meth : Method} {c : Code} {H : Heap} {locs : List Loc} {cells slots : Nat} {Q : State → Prop} {ls : Array Slot} {D : va_G} {Y : Nat → ClassId} {ad am : Nat → Nat} {G K : GT} {o od n0 b L : Nat} {xs : Nat → Int32} {Rel : GT → GT → Prop} {i : Int32} (hst : l.stackTraces = false) (F : Fx p c cL_law 9 s m args RL D Y) (E : LEn s ad am o od n0 b L xs) (hW : LWd D Y ad am o od G K H) (hS : va_S (LA n0) s.heap H locs) (hl : lv_has ls 9 [(0, .ref b), (1, .ref (ad 77)), (2, .ref (am 0)), (3, .ref o), (4, .ref od), (5, .int i)]) (hR : R.frames = 2048 ∧ R.locals = 94400 ∧ cells + 16 ≤ R.cells ∧ slots + 96 ≤ R.slots) (hst1 : St_tinLine Rel) (hr : Rel G K) (h1 : vp_in (i + 1) L) 
    (kk : ∀ (H1 : Heap) (L1 : List Loc) (ls1 : Array Slot) (G' K' : GT), Rel G' K' → LWd D Y ad am o od G' K' H1 → va_S (LA n0) s.heap H1 L1 → lv_has ls1 9 [(0, .ref b), (1, .ref (ad 77)), (2, .ref (am 0)), (3, .ref o), (4, .ref od), (5, .int i)] → W p l ev R s m args below meth c H1 L1 (cells + 16) (slots + 96) Q (F0 m 2244 ls1 [])) : W p l ev R s m args below meth c H locs cells slots Q (F0 m 1644 ls []) := by
  have hx := F.1.1
  have hb := F.1.2.1
  obtain ⟨RR, G', r2, K', e1, e2, e3, hks, e5, hrel⟩ := hst1 G K hr (xs (i + 1).toNatClampNeg)
  refine lv_aload_n hx hb dL_law_1644 rfl (lv_at hl 1 rfl) ?_
  refine lv_aload_n hx hb dL_law_1645 rfl (lv_at hl 0 rfl) ?_
  refine lv_iload hx hb dL_law_1646 (lv_at hl 5 rfl) ?_
  refine lv_iconst (v := 1) hx hb dL_law_1648 (by decide) ?_
  refine lv_iadd hx hb dL_law_1649 ?_
  refine la_x F E hS h1 dL_law_1650 ?_
  refine lv_aload_n hx hb dL_law_1651 rfl (lv_at hl 3 rfl) ?_
  refine la_H (G' := G') F E hW hS kl_tinLine mw_994 (fun f => ql_tinLine l hst D Y ad E.2.1.1 G (xs (i + 1).toNatClampNeg) o f RR G' e1 hks) rfl hl.1 ⟨by rw [hR.1]; exact Nat.le_of_ble_eq_true rfl, by rw [hR.2.1]; exact Nat.le_of_ble_eq_true rfl⟩ rfl (Nat.le_of_ble_eq_true rfl) ⟨by omega, by omega⟩ dL_law_1652 ?_
  intro f H1 L1 hT hv hW hS
  refine lv_istore (lv' := [(6, .int (cod [0] RR)), (0, .ref b), (1, .ref (ad 77)), (2, .ref (am 0)), (3, .ref o), (4, .ref od), (5, .int i)]) hx hb dL_law_1655 hl (by decide) rfl (fun ls hl => ?_)
  refine lv_aload_n hx hb dL_law_1657 rfl (lv_at hl 3 rfl) ?_
  refine lv_aload_n hx hb dL_law_1658 rfl (lv_at hl 1 rfl) ?_
  refine lv_iload hx hb dL_law_1659 (lv_at hl 6 rfl) ?_
  refine lv_iconst (v := 1) hx hb dL_law_1661 (by decide) ?_
  refine lv_iadd hx hb dL_law_1662 ?_
  refine la_x F E hS h1 dL_law_1663 ?_
  refine la_W (rest := []) (As := [.int (xs (i + 1).toNatClampNeg)]) (G1 := K') F hS E.2.1.2.2.2.1 k_X10_tinLine mw_1636 hW.2.1 0 11 rfl (wsW_get 0 (by decide)) (q_X10_tinLine l D Y am E.2.1.2.1 K (xs (i + 1).toNatClampNeg) r2 K' e2) Bw.blind (fun U hU hw => Bw.of F.2 hW.2.1 hU hw) rfl hl.1 ⟨by rw [hR.1]; exact Nat.le_of_ble_eq_true rfl, by rw [hR.2.1]; exact Nat.le_of_ble_eq_true rfl⟩ rfl (Nat.le_of_ble_eq_true rfl) ⟨by omega, by omega⟩ dL_law_1664 ?_
  intro H1 L1 hP hq hS
  have hT := hT.kept (hq _ (at_lt hT) E.2.1.2.2.2.2.2.2.2.2.2.1)
  have hW := hW.upM E.2.1 hP hq
  refine lv_istore (lv' := [(7, .int r2), (6, .int (cod [0] RR)), (0, .ref b), (1, .ref (ad 77)), (2, .ref (am 0)), (3, .ref o), (4, .ref od), (5, .int i)]) hx hb dL_law_1667 hl (by decide) rfl (fun ls hl => ?_)
  refine lv_aload_n hx hb dL_law_1669 rfl (lv_at hl 4 rfl) ?_
  refine rd_V (rest := []) (As := []) F hW.2.1 k_X10_thrown mw_1356 0 11 rfl (wsW_get 0 (by decide)) (q_X10_thrown l D Y am K'  (cod [0] RR) e3) rfl hl.1 ⟨by rw [hR.1]; exact Nat.le_of_ble_eq_true rfl, by rw [hR.2.1]; exact Nat.le_of_ble_eq_true rfl⟩ rfl (Nat.le_of_ble_eq_true rfl) ⟨by omega, by omega⟩ dL_law_1670 ?_
  intro _
  refine lv_iload hx hb dL_law_1673 (lv_at hl 1 rfl) ?_
  refine lv_icmp_eq (tgt := 1680) hx hb dL_law_1675 (by decide) (fun c1 => ?_) (fun c1 => absurd rfl c1)
  refine lv_iload hx hb dL_law_1680 (lv_at hl 1 rfl) ?_
  refine lv_if_ne (tgt := 1697) hx hb dL_law_1682 (by decide) (fun c1 => ?_) (fun c1 => ?_)
  · refine lv_goto (tgt := 2244) hx hb dL_law_1697 (by decide) ?_
    refine W.widen (k := cells + 16) (n := slots + 96) (by omega) (by omega) ?_
    exact kk H1 L1 ls G' K' hrel hW hS (lv_sub hl [2, 3, 4, 5, 6, 7] rfl)
  · obtain ⟨v, hRv⟩ := cod0 (ks := [0]) (by decide) c1
    have hfv := hv v hRv
    have hvr := e5 v hRv
    subst hvr
    refine lv_aload_n hx hb dL_law_1685 rfl (lv_at hl 5 rfl) ?_
    refine lv_iconst (v := 0) hx hb dL_law_1686 (by decide) ?_
    refine va_lald hx hb F.2.1 (at_P hT) 0 4 rfl rfl (by unfold vp_in; decide) dL_law_1687 ?_
    refine lv_iload hx hb dL_law_1688 (lv_at hl 0 rfl) ?_
    refine lv_i2l (v := v.toInt64) hx hb dL_law_1690 rfl ?_
    refine W.lcmp hx hb dL_law_1691 ?_
    refine lv_if_eq (tgt := 1697) hx hb dL_law_1692 (by decide) (fun c2 => ?_) (fun c2 => absurd ?_ c2)
    · refine lv_goto (tgt := 2244) hx hb dL_law_1697 (by decide) ?_
      refine W.widen (k := cells + 16) (n := slots + 96) (by omega) (by omega) ?_
      exact kk H1 L1 ls G' K' hrel hW hS (lv_sub hl [2, 3, 4, 5, 6, 7] rfl)
    · rw [show f (0 : Int32).toNatClampNeg = v.toInt64 from hfv]
      exact lgc_self _
set_option maxRecDepth 100000 in
set_option maxHeartbeats 4000000 in
theorem case_26 {p : Program} {l : Launch} {ev : Env} {R : Room} {s : State} {m : MethodId} {args : Array Value} {below : List Frame} {meth : Method} {c : Code} {H : Heap} {locs : List Loc} {cells slots : Nat} {Q : State → Prop} {ls : Array Slot} {D : va_G} {Y : Nat → ClassId} {ad am : Nat → Nat} {G K : GT} {o od n0 b L : Nat} {xs : Nat → Int32} {Rel : GT → GT → Prop} {i : Int32} (hst : l.stackTraces = false) (F : Fx p c cL_law 9 s m args RL D Y) (E : LEn s ad am o od n0 b L xs) (hW : LWd D Y ad am o od G K H) (hS : va_S (LA n0) s.heap H locs) (hl : lv_has ls 9 [(0, .ref b), (1, .ref (ad 77)), (2, .ref (am 0)), (3, .ref o), (4, .ref od), (5, .int i)]) (hR : R.frames = 2048 ∧ R.locals = 94400 ∧ cells + 16 ≤ R.cells ∧ slots + 96 ≤ R.slots) (hst1 : St_character Rel) (hr : Rel G K) (h1 : vp_in (i + 1) L) 
    (kk : ∀ (H1 : Heap) (L1 : List Loc) (ls1 : Array Slot) (G' K' : GT), Rel G' K' → LWd D Y ad am o od G' K' H1 → va_S (LA n0) s.heap H1 L1 → lv_has ls1 9 [(0, .ref b), (1, .ref (ad 77)), (2, .ref (am 0)), (3, .ref o), (4, .ref od), (5, .int i)] → W p l ev R s m args below meth c H1 L1 (cells + 16) (slots + 96) Q (F0 m 2244 ls1 [])) : W p l ev R s m args below meth c H locs cells slots Q (F0 m 1700 ls []) := by
  have hx := F.1.1
  have hb := F.1.2.1
  obtain ⟨RR, G', r2, K', e1, e2, e3, hks, e5, hrel⟩ := hst1 G K hr (xs (i + 1).toNatClampNeg)
  refine lv_aload_n hx hb dL_law_1700 rfl (lv_at hl 1 rfl) ?_
  refine lv_aload_n hx hb dL_law_1701 rfl (lv_at hl 0 rfl) ?_
  refine lv_iload hx hb dL_law_1702 (lv_at hl 5 rfl) ?_
  refine lv_iconst (v := 1) hx hb dL_law_1704 (by decide) ?_
  refine lv_iadd hx hb dL_law_1705 ?_
  refine la_x F E hS h1 dL_law_1706 ?_
  refine lv_aload_n hx hb dL_law_1707 rfl (lv_at hl 3 rfl) ?_
  refine la_H (G' := G') F E hW hS kl_character mw_1007 (fun f => ql_character l hst D Y ad E.2.1.1 G (xs (i + 1).toNatClampNeg) o f RR G' e1 hks) rfl hl.1 ⟨by rw [hR.1]; exact Nat.le_of_ble_eq_true rfl, by rw [hR.2.1]; exact Nat.le_of_ble_eq_true rfl⟩ rfl (Nat.le_of_ble_eq_true rfl) ⟨by omega, by omega⟩ dL_law_1708 ?_
  intro f H1 L1 hT hv hW hS
  refine lv_istore (lv' := [(6, .int (cod [0] RR)), (0, .ref b), (1, .ref (ad 77)), (2, .ref (am 0)), (3, .ref o), (4, .ref od), (5, .int i)]) hx hb dL_law_1711 hl (by decide) rfl (fun ls hl => ?_)
  refine lv_aload_n hx hb dL_law_1713 rfl (lv_at hl 3 rfl) ?_
  refine lv_aload_n hx hb dL_law_1714 rfl (lv_at hl 1 rfl) ?_
  refine lv_iload hx hb dL_law_1715 (lv_at hl 6 rfl) ?_
  refine lv_iconst (v := 1) hx hb dL_law_1717 (by decide) ?_
  refine lv_iadd hx hb dL_law_1718 ?_
  refine la_x F E hS h1 dL_law_1719 ?_
  refine la_W (rest := []) (As := [.int (xs (i + 1).toNatClampNeg)]) (G1 := K') F hS E.2.1.2.2.2.1 k_X10_character mw_1640 hW.2.1 0 11 rfl (wsW_get 0 (by decide)) (q_X10_character l D Y am E.2.1.2.1 K (xs (i + 1).toNatClampNeg) r2 K' e2) Bw.blind (fun U hU hw => Bw.of F.2 hW.2.1 hU hw) rfl hl.1 ⟨by rw [hR.1]; exact Nat.le_of_ble_eq_true rfl, by rw [hR.2.1]; exact Nat.le_of_ble_eq_true rfl⟩ rfl (Nat.le_of_ble_eq_true rfl) ⟨by omega, by omega⟩ dL_law_1720 ?_
  intro H1 L1 hP hq hS
  have hT := hT.kept (hq _ (at_lt hT) E.2.1.2.2.2.2.2.2.2.2.2.1)
  have hW := hW.upM E.2.1 hP hq
  refine lv_istore (lv' := [(7, .int r2), (6, .int (cod [0] RR)), (0, .ref b), (1, .ref (ad 77)), (2, .ref (am 0)), (3, .ref o), (4, .ref od), (5, .int i)]) hx hb dL_law_1723 hl (by decide) rfl (fun ls hl => ?_)
  refine lv_aload_n hx hb dL_law_1725 rfl (lv_at hl 4 rfl) ?_
  refine rd_V (rest := []) (As := []) F hW.2.1 k_X10_thrown mw_1356 0 11 rfl (wsW_get 0 (by decide)) (q_X10_thrown l D Y am K'  (cod [0] RR) e3) rfl hl.1 ⟨by rw [hR.1]; exact Nat.le_of_ble_eq_true rfl, by rw [hR.2.1]; exact Nat.le_of_ble_eq_true rfl⟩ rfl (Nat.le_of_ble_eq_true rfl) ⟨by omega, by omega⟩ dL_law_1726 ?_
  intro _
  refine lv_iload hx hb dL_law_1729 (lv_at hl 1 rfl) ?_
  refine lv_icmp_eq (tgt := 1736) hx hb dL_law_1731 (by decide) (fun c1 => ?_) (fun c1 => absurd rfl c1)
  refine lv_iload hx hb dL_law_1736 (lv_at hl 1 rfl) ?_
  refine lv_if_ne (tgt := 1753) hx hb dL_law_1738 (by decide) (fun c1 => ?_) (fun c1 => ?_)
  · refine lv_goto (tgt := 2244) hx hb dL_law_1753 (by decide) ?_
    refine W.widen (k := cells + 16) (n := slots + 96) (by omega) (by omega) ?_
    exact kk H1 L1 ls G' K' hrel hW hS (lv_sub hl [2, 3, 4, 5, 6, 7] rfl)
  · obtain ⟨v, hRv⟩ := cod0 (ks := [0]) (by decide) c1
    have hfv := hv v hRv
    have hvr := e5 v hRv
    subst hvr
    refine lv_aload_n hx hb dL_law_1741 rfl (lv_at hl 5 rfl) ?_
    refine lv_iconst (v := 0) hx hb dL_law_1742 (by decide) ?_
    refine va_lald hx hb F.2.1 (at_P hT) 0 4 rfl rfl (by unfold vp_in; decide) dL_law_1743 ?_
    refine lv_iload hx hb dL_law_1744 (lv_at hl 0 rfl) ?_
    refine lv_i2l (v := v.toInt64) hx hb dL_law_1746 rfl ?_
    refine W.lcmp hx hb dL_law_1747 ?_
    refine lv_if_eq (tgt := 1753) hx hb dL_law_1748 (by decide) (fun c2 => ?_) (fun c2 => absurd ?_ c2)
    · refine lv_goto (tgt := 2244) hx hb dL_law_1753 (by decide) ?_
      refine W.widen (k := cells + 16) (n := slots + 96) (by omega) (by omega) ?_
      exact kk H1 L1 ls G' K' hrel hW hS (lv_sub hl [2, 3, 4, 5, 6, 7] rfl)
    · rw [show f (0 : Int32).toNatClampNeg = v.toInt64 from hfv]
      exact lgc_self _
set_option maxRecDepth 100000 in
set_option maxHeartbeats 4000000 in
theorem case_27 {p : Program} {l : Launch} {ev : Env} {R : Room} {s : State} {m : MethodId} {args : Array Value} {below : List Frame} {meth : Method} {c : Code} {H : Heap} {locs : List Loc} {cells slots : Nat} {Q : State → Prop} {ls : Array Slot} {D : va_G} {Y : Nat → ClassId} {ad am : Nat → Nat} {G K : GT} {o od n0 b L : Nat} {xs : Nat → Int32} {Rel : GT → GT → Prop} {i : Int32} (hst : l.stackTraces = false) (F : Fx p c cL_law 9 s m args RL D Y) (E : LEn s ad am o od n0 b L xs) (hW : LWd D Y ad am o od G K H) (hS : va_S (LA n0) s.heap H locs) (hl : lv_has ls 9 [(0, .ref b), (1, .ref (ad 77)), (2, .ref (am 0)), (3, .ref o), (4, .ref od), (5, .int i)]) (hR : R.frames = 2048 ∧ R.locals = 94400 ∧ cells + 16 ≤ R.cells ∧ slots + 96 ≤ R.slots) (hst1 : St_append Rel) (hr : Rel G K) (h1 : vp_in (i + 1) L) 
    (kk : ∀ (H1 : Heap) (L1 : List Loc) (ls1 : Array Slot) (G' K' : GT), Rel G' K' → LWd D Y ad am o od G' K' H1 → va_S (LA n0) s.heap H1 L1 → lv_has ls1 9 [(0, .ref b), (1, .ref (ad 77)), (2, .ref (am 0)), (3, .ref o), (4, .ref od), (5, .int i)] → W p l ev R s m args below meth c H1 L1 (cells + 16) (slots + 96) Q (F0 m 2244 ls1 [])) : W p l ev R s m args below meth c H locs cells slots Q (F0 m 1756 ls []) := by
  have hx := F.1.1
  have hb := F.1.2.1
  obtain ⟨RR, G', r2, K', e1, e2, e3, hks, e5, hrel⟩ := hst1 G K hr (xs (i + 1).toNatClampNeg)
  refine lv_aload_n hx hb dL_law_1756 rfl (lv_at hl 1 rfl) ?_
  refine lv_aload_n hx hb dL_law_1757 rfl (lv_at hl 0 rfl) ?_
  refine lv_iload hx hb dL_law_1758 (lv_at hl 5 rfl) ?_
  refine lv_iconst (v := 1) hx hb dL_law_1760 (by decide) ?_
  refine lv_iadd hx hb dL_law_1761 ?_
  refine la_x F E hS h1 dL_law_1762 ?_
  refine lv_i2c (v := chr (xs (i + 1).toNatClampNeg)) hx hb dL_law_1763 rfl ?_
  refine lv_aload_n hx hb dL_law_1764 rfl (lv_at hl 3 rfl) ?_
  refine la_H (G' := G') F E hW hS kl_append mw_1023 (fun f => ql_append l hst D Y ad E.2.1.1 G (chr (xs (i + 1).toNatClampNeg)) o f RR G' e1 hks) rfl hl.1 ⟨by rw [hR.1]; exact Nat.le_of_ble_eq_true rfl, by rw [hR.2.1]; exact Nat.le_of_ble_eq_true rfl⟩ rfl (Nat.le_of_ble_eq_true rfl) ⟨by omega, by omega⟩ dL_law_1765 ?_
  intro f H1 L1 hT hv hW hS
  refine lv_istore (lv' := [(6, .int (cod [4] RR)), (0, .ref b), (1, .ref (ad 77)), (2, .ref (am 0)), (3, .ref o), (4, .ref od), (5, .int i)]) hx hb dL_law_1768 hl (by decide) rfl (fun ls hl => ?_)
  refine lv_aload_n hx hb dL_law_1770 rfl (lv_at hl 3 rfl) ?_
  refine lv_aload_n hx hb dL_law_1771 rfl (lv_at hl 1 rfl) ?_
  refine lv_iload hx hb dL_law_1772 (lv_at hl 6 rfl) ?_
  refine lv_iconst (v := 1) hx hb dL_law_1774 (by decide) ?_
  refine lv_iadd hx hb dL_law_1775 ?_
  refine la_x F E hS h1 dL_law_1776 ?_
  refine lv_i2c (v := chr (xs (i + 1).toNatClampNeg)) hx hb dL_law_1777 rfl ?_
  refine la_W (rest := []) (As := [.int (chr (xs (i + 1).toNatClampNeg))]) (G1 := K') F hS E.2.1.2.2.2.1 k_X10_append mw_1644 hW.2.1 0 11 rfl (wsW_get 0 (by decide)) (q_X10_append l D Y am E.2.1.2.1 K (chr (xs (i + 1).toNatClampNeg)) r2 K' e2) Bw.blind (fun U hU hw => Bw.of F.2 hW.2.1 hU hw) rfl hl.1 ⟨by rw [hR.1]; exact Nat.le_of_ble_eq_true rfl, by rw [hR.2.1]; exact Nat.le_of_ble_eq_true rfl⟩ rfl (Nat.le_of_ble_eq_true rfl) ⟨by omega, by omega⟩ dL_law_1778 ?_
  intro H1 L1 hP hq hS
  have hT := hT.kept (hq _ (at_lt hT) E.2.1.2.2.2.2.2.2.2.2.2.1)
  have hW := hW.upM E.2.1 hP hq
  refine lv_istore (lv' := [(7, .int r2), (6, .int (cod [4] RR)), (0, .ref b), (1, .ref (ad 77)), (2, .ref (am 0)), (3, .ref o), (4, .ref od), (5, .int i)]) hx hb dL_law_1781 hl (by decide) rfl (fun ls hl => ?_)
  refine lv_aload_n hx hb dL_law_1783 rfl (lv_at hl 4 rfl) ?_
  refine rd_V (rest := []) (As := []) F hW.2.1 k_X10_thrown mw_1356 0 11 rfl (wsW_get 0 (by decide)) (q_X10_thrown l D Y am K'  (cod [4] RR) e3) rfl hl.1 ⟨by rw [hR.1]; exact Nat.le_of_ble_eq_true rfl, by rw [hR.2.1]; exact Nat.le_of_ble_eq_true rfl⟩ rfl (Nat.le_of_ble_eq_true rfl) ⟨by omega, by omega⟩ dL_law_1784 ?_
  intro _
  refine lv_iload hx hb dL_law_1787 (lv_at hl 1 rfl) ?_
  refine lv_icmp_eq (tgt := 1794) hx hb dL_law_1789 (by decide) (fun c1 => ?_) (fun c1 => absurd rfl c1)
  refine lv_iload hx hb dL_law_1794 (lv_at hl 1 rfl) ?_
  refine lv_if_ne (tgt := 1811) hx hb dL_law_1796 (by decide) (fun c1 => ?_) (fun c1 => ?_)
  · refine lv_goto (tgt := 2244) hx hb dL_law_1811 (by decide) ?_
    refine W.widen (k := cells + 16) (n := slots + 96) (by omega) (by omega) ?_
    exact kk H1 L1 ls G' K' hrel hW hS (lv_sub hl [2, 3, 4, 5, 6, 7] rfl)
  · obtain ⟨v, hRv⟩ := cod0 (ks := [4]) (by decide) c1
    have hfv := hv v hRv
    have hvr := e5 v hRv
    subst hvr
    refine lv_aload_n hx hb dL_law_1799 rfl (lv_at hl 5 rfl) ?_
    refine lv_iconst (v := 0) hx hb dL_law_1800 (by decide) ?_
    refine va_lald hx hb F.2.1 (at_P hT) 0 4 rfl rfl (by unfold vp_in; decide) dL_law_1801 ?_
    refine lv_iload hx hb dL_law_1802 (lv_at hl 0 rfl) ?_
    refine lv_i2l (v := v.toInt64) hx hb dL_law_1804 rfl ?_
    refine W.lcmp hx hb dL_law_1805 ?_
    refine lv_if_eq (tgt := 1811) hx hb dL_law_1806 (by decide) (fun c2 => ?_) (fun c2 => absurd ?_ c2)
    · refine lv_goto (tgt := 2244) hx hb dL_law_1811 (by decide) ?_
      refine W.widen (k := cells + 16) (n := slots + 96) (by omega) (by omega) ?_
      exact kk H1 L1 ls G' K' hrel hW hS (lv_sub hl [2, 3, 4, 5, 6, 7] rfl)
    · rw [show f (0 : Int32).toNatClampNeg = v.toInt64 from hfv]
      exact lgc_self _
set_option maxRecDepth 100000 in
set_option maxHeartbeats 4000000 in
theorem case_28 {p : Program} {l : Launch} {ev : Env} {R : Room} {s : State} {m : MethodId} {args : Array Value} {below : List Frame} {meth : Method} {c : Code} {H : Heap} {locs : List Loc} {cells slots : Nat} {Q : State → Prop} {ls : Array Slot} {D : va_G} {Y : Nat → ClassId} {ad am : Nat → Nat} {G K : GT} {o od n0 b L : Nat} {xs : Nat → Int32} {Rel : GT → GT → Prop} {i : Int32} (hst : l.stackTraces = false) (F : Fx p c cL_law 9 s m args RL D Y) (E : LEn s ad am o od n0 b L xs) (hW : LWd D Y ad am o od G K H) (hS : va_S (LA n0) s.heap H locs) (hl : lv_has ls 9 [(0, .ref b), (1, .ref (ad 77)), (2, .ref (am 0)), (3, .ref o), (4, .ref od), (5, .int i)]) (hR : R.frames = 2048 ∧ R.locals = 94400 ∧ cells + 16 ≤ R.cells ∧ slots + 96 ≤ R.slots) (hst1 : St_run Rel) (hr : Rel G K) 
    (kk : ∀ (H1 : Heap) (L1 : List Loc) (ls1 : Array Slot) (G' K' : GT), Rel G' K' → LWd D Y ad am o od G' K' H1 → va_S (LA n0) s.heap H1 L1 → lv_has ls1 9 [(0, .ref b), (1, .ref (ad 77)), (2, .ref (am 0)), (3, .ref o), (4, .ref od), (5, .int i)] → W p l ev R s m args below meth c H1 L1 (cells + 16) (slots + 96) Q (F0 m 2244 ls1 [])) : W p l ev R s m args below meth c H locs cells slots Q (F0 m 1814 ls []) := by
  have hx := F.1.1
  have hb := F.1.2.1
  obtain ⟨RR, G', r2, K', e1, e2, e3, hks, e5, hrel⟩ := hst1 G K hr 
  refine lv_aload_n hx hb dL_law_1814 rfl (lv_at hl 1 rfl) ?_
  refine lv_aload_n hx hb dL_law_1815 rfl (lv_at hl 3 rfl) ?_
  refine la_H (G' := G') F E hW hS kl_run mw_1058 (fun f => ql_run l hst D Y ad E.2.1.1 G  o f RR G' e1 hks) rfl hl.1 ⟨by rw [hR.1]; exact Nat.le_of_ble_eq_true rfl, by rw [hR.2.1]; exact Nat.le_of_ble_eq_true rfl⟩ rfl (Nat.le_of_ble_eq_true rfl) ⟨by omega, by omega⟩ dL_law_1816 ?_
  intro f H1 L1 hT hv hW hS
  refine lv_istore (lv' := [(6, .int (cod [1, 2] RR)), (0, .ref b), (1, .ref (ad 77)), (2, .ref (am 0)), (3, .ref o), (4, .ref od), (5, .int i)]) hx hb dL_law_1819 hl (by decide) rfl (fun ls hl => ?_)
  refine lv_aload_n hx hb dL_law_1821 rfl (lv_at hl 3 rfl) ?_
  refine la_W (rest := []) (As := []) (G1 := K') F hS E.2.1.2.2.2.1 k_X10_run mw_1648 hW.2.1 0 11 rfl (wsW_get 0 (by decide)) (q_X10_run l D Y am ad E.2.1.2.1 K  r2 K' e2) BK.blind (fun U hU hw => BK_law F.2 E.1 E.2.2.1 E.2.1.2.2.2.1 hW.2.1 hS hU hw) rfl hl.1 ⟨by rw [hR.1]; exact Nat.le_of_ble_eq_true rfl, by rw [hR.2.1]; exact Nat.le_of_ble_eq_true rfl⟩ rfl (Nat.le_of_ble_eq_true rfl) ⟨by omega, by omega⟩ dL_law_1822 ?_
  intro H1 L1 hP hq hS
  have hT := hT.kept (hq _ (at_lt hT) E.2.1.2.2.2.2.2.2.2.2.2.1)
  have hW := hW.upM E.2.1 hP hq
  refine lv_istore (lv' := [(7, .int r2), (6, .int (cod [1, 2] RR)), (0, .ref b), (1, .ref (ad 77)), (2, .ref (am 0)), (3, .ref o), (4, .ref od), (5, .int i)]) hx hb dL_law_1825 hl (by decide) rfl (fun ls hl => ?_)
  refine lv_aload_n hx hb dL_law_1827 rfl (lv_at hl 4 rfl) ?_
  refine rd_V (rest := []) (As := []) F hW.2.1 k_X10_thrown mw_1356 0 11 rfl (wsW_get 0 (by decide)) (q_X10_thrown l D Y am K'  (cod [1, 2] RR) e3) rfl hl.1 ⟨by rw [hR.1]; exact Nat.le_of_ble_eq_true rfl, by rw [hR.2.1]; exact Nat.le_of_ble_eq_true rfl⟩ rfl (Nat.le_of_ble_eq_true rfl) ⟨by omega, by omega⟩ dL_law_1828 ?_
  intro _
  refine lv_iload hx hb dL_law_1831 (lv_at hl 1 rfl) ?_
  refine lv_icmp_eq (tgt := 1838) hx hb dL_law_1833 (by decide) (fun c1 => ?_) (fun c1 => absurd rfl c1)
  refine lv_iload hx hb dL_law_1838 (lv_at hl 1 rfl) ?_
  refine lv_if_ne (tgt := 1855) hx hb dL_law_1840 (by decide) (fun c1 => ?_) (fun c1 => ?_)
  · refine lv_goto (tgt := 2244) hx hb dL_law_1855 (by decide) ?_
    refine W.widen (k := cells + 16) (n := slots + 96) (by omega) (by omega) ?_
    exact kk H1 L1 ls G' K' hrel hW hS (lv_sub hl [2, 3, 4, 5, 6, 7] rfl)
  · obtain ⟨v, hRv⟩ := cod0 (ks := [1, 2]) (by decide) c1
    have hfv := hv v hRv
    have hvr := e5 v hRv
    subst hvr
    refine lv_aload_n hx hb dL_law_1843 rfl (lv_at hl 5 rfl) ?_
    refine lv_iconst (v := 0) hx hb dL_law_1844 (by decide) ?_
    refine va_lald hx hb F.2.1 (at_P hT) 0 4 rfl rfl (by unfold vp_in; decide) dL_law_1845 ?_
    refine lv_iload hx hb dL_law_1846 (lv_at hl 0 rfl) ?_
    refine lv_i2l (v := v.toInt64) hx hb dL_law_1848 rfl ?_
    refine W.lcmp hx hb dL_law_1849 ?_
    refine lv_if_eq (tgt := 1855) hx hb dL_law_1850 (by decide) (fun c2 => ?_) (fun c2 => absurd ?_ c2)
    · refine lv_goto (tgt := 2244) hx hb dL_law_1855 (by decide) ?_
      refine W.widen (k := cells + 16) (n := slots + 96) (by omega) (by omega) ?_
      exact kk H1 L1 ls G' K' hrel hW hS (lv_sub hl [2, 3, 4, 5, 6, 7] rfl)
    · rw [show f (0 : Int32).toNatClampNeg = v.toInt64 from hfv]
      exact lgc_self _
set_option maxRecDepth 100000 in
set_option maxHeartbeats 4000000 in
theorem case_29 {p : Program} {l : Launch} {ev : Env} {R : Room} {s : State} {m : MethodId} {args : Array Value} {below : List Frame} {meth : Method} {c : Code} {H : Heap} {locs : List Loc} {cells slots : Nat} {Q : State → Prop} {ls : Array Slot} {D : va_G} {Y : Nat → ClassId} {ad am : Nat → Nat} {G K : GT} {o od n0 b L : Nat} {xs : Nat → Int32} {Rel : GT → GT → Prop} {i : Int32} (hst : l.stackTraces = false) (F : Fx p c cL_law 9 s m args RL D Y) (E : LEn s ad am o od n0 b L xs) (hW : LWd D Y ad am o od G K H) (hS : va_S (LA n0) s.heap H locs) (hl : lv_has ls 9 [(0, .ref b), (1, .ref (ad 77)), (2, .ref (am 0)), (3, .ref o), (4, .ref od), (5, .int i)]) (hR : R.frames = 2048 ∧ R.locals = 94400 ∧ cells + 16 ≤ R.cells ∧ slots + 96 ≤ R.slots) (hst1 : St_errorPosition Rel) (hr : Rel G K) 
    (kk : ∀ (H1 : Heap) (L1 : List Loc) (ls1 : Array Slot) (G' K' : GT), Rel G' K' → LWd D Y ad am o od G' K' H1 → va_S (LA n0) s.heap H1 L1 → lv_has ls1 9 [(0, .ref b), (1, .ref (ad 77)), (2, .ref (am 0)), (3, .ref o), (4, .ref od), (5, .int i)] → W p l ev R s m args below meth c H1 L1 (cells + 16) (slots + 96) Q (F0 m 2244 ls1 [])) : W p l ev R s m args below meth c H locs cells slots Q (F0 m 1858 ls []) := by
  have hx := F.1.1
  have hb := F.1.2.1
  obtain ⟨r, K', e1, e2, hrel⟩ := hst1 G K hr 
  refine lv_aload_n hx hb dL_law_1858 rfl (lv_at hl 1 rfl) ?_
  refine rd_V (rest := []) (As := []) F hW.1 k_X9_errorPosition mw_352 77 10 rfl (wsW_get 77 (by decide)) (q_X9_errorPosition l D Y ad G  r e1) rfl hl.1 ⟨by rw [hR.1]; exact Nat.le_of_ble_eq_true rfl, by rw [hR.2.1]; exact Nat.le_of_ble_eq_true rfl⟩ rfl (Nat.le_of_ble_eq_true rfl) ⟨by omega, by omega⟩ dL_law_1859 ?_
  intro _
  refine lv_aload_n hx hb dL_law_1862 rfl (lv_at hl 2 rfl) ?_
  refine la_W (rest := [.int r]) (As := []) (G1 := K') F hS E.2.1.2.2.2.1 k_X10_errorPosition mw_1691 hW.2.1 0 11 rfl (wsW_get 0 (by decide)) (q_X10_errorPosition l D Y am E.2.1.2.1 K  r K' e2) Bw.blind (fun U hU hw => Bw.of F.2 hW.2.1 hU hw) rfl hl.1 ⟨by rw [hR.1]; exact Nat.le_of_ble_eq_true rfl, by rw [hR.2.1]; exact Nat.le_of_ble_eq_true rfl⟩ rfl (Nat.le_of_ble_eq_true rfl) ⟨by omega, by omega⟩ dL_law_1863 ?_
  intro H1 L1 hP hq hS
  have hW := hW.upM E.2.1 hP hq
  refine lv_icmp_eq (tgt := 2244) hx hb dL_law_1866 (by decide) (fun c1 => ?_) (fun c1 => absurd rfl c1)
  refine W.widen (k := cells + 16) (n := slots + 96) (by omega) (by omega) ?_
  exact kk H1 L1 ls G K' hrel hW hS (lv_sub hl [0, 1, 2, 3, 4, 5] rfl)
set_option maxRecDepth 100000 in
set_option maxHeartbeats 4000000 in
theorem case_30 {p : Program} {l : Launch} {ev : Env} {R : Room} {s : State} {m : MethodId} {args : Array Value} {below : List Frame} {meth : Method} {c : Code} {H : Heap} {locs : List Loc} {cells slots : Nat} {Q : State → Prop} {ls : Array Slot} {D : va_G} {Y : Nat → ClassId} {ad am : Nat → Nat} {G K : GT} {o od n0 b L : Nat} {xs : Nat → Int32} {Rel : GT → GT → Prop} {i : Int32} (hst : l.stackTraces = false) (F : Fx p c cL_law 9 s m args RL D Y) (E : LEn s ad am o od n0 b L xs) (hW : LWd D Y ad am o od G K H) (hS : va_S (LA n0) s.heap H locs) (hl : lv_has ls 9 [(0, .ref b), (1, .ref (ad 77)), (2, .ref (am 0)), (3, .ref o), (4, .ref od), (5, .int i)]) (hR : R.frames = 2048 ∧ R.locals = 94400 ∧ cells + 16 ≤ R.cells ∧ slots + 96 ≤ R.slots) (hst1 : St_refusal Rel) (hr : Rel G K) (h1 : vp_in (i + 1) L) 
    (kk : ∀ (H1 : Heap) (L1 : List Loc) (ls1 : Array Slot) (G' K' : GT), Rel G' K' → LWd D Y ad am o od G' K' H1 → va_S (LA n0) s.heap H1 L1 → lv_has ls1 9 [(0, .ref b), (1, .ref (ad 77)), (2, .ref (am 0)), (3, .ref o), (4, .ref od), (5, .int i)] → W p l ev R s m args below meth c H1 L1 (cells + 16) (slots + 96) Q (F0 m 2244 ls1 [])) : W p l ev R s m args below meth c H locs cells slots Q (F0 m 1871 ls []) := by
  have hx := F.1.1
  have hb := F.1.2.1
  obtain ⟨RR, G', r2, K', e1, e2, e3, hks, e5, hrel⟩ := hst1 G K hr (xs (i + 1).toNatClampNeg)
  refine lv_aload_n hx hb dL_law_1871 rfl (lv_at hl 1 rfl) ?_
  refine lv_aload_n hx hb dL_law_1872 rfl (lv_at hl 0 rfl) ?_
  refine lv_iload hx hb dL_law_1873 (lv_at hl 5 rfl) ?_
  refine lv_iconst (v := 1) hx hb dL_law_1875 (by decide) ?_
  refine lv_iadd hx hb dL_law_1876 ?_
  refine la_x F E hS h1 dL_law_1877 ?_
  refine la_bool F dL_law_1878 (by decide) dL_law_1881 dL_law_1882 (by decide) dL_law_1885 ?_
  refine lv_aload_n hx hb dL_law_1886 rfl (lv_at hl 3 rfl) ?_
  refine la_H (G' := G') F E hW hS kl_refusal mw_1171 (fun f => ql_refusal l hst D Y ad E.2.1.1 G (bz (xs (i + 1).toNatClampNeg)) o f RR G' e1 hks) rfl hl.1 ⟨by rw [hR.1]; exact Nat.le_of_ble_eq_true rfl, by rw [hR.2.1]; exact Nat.le_of_ble_eq_true rfl⟩ rfl (Nat.le_of_ble_eq_true rfl) ⟨by omega, by omega⟩ dL_law_1887 ?_
  intro f H1 L1 hT hv hW hS
  refine lv_istore (lv' := [(6, .int (cod [3] RR)), (0, .ref b), (1, .ref (ad 77)), (2, .ref (am 0)), (3, .ref o), (4, .ref od), (5, .int i)]) hx hb dL_law_1890 hl (by decide) rfl (fun ls hl => ?_)
  refine lv_aload_n hx hb dL_law_1892 rfl (lv_at hl 3 rfl) ?_
  refine lv_aload_n hx hb dL_law_1893 rfl (lv_at hl 1 rfl) ?_
  refine lv_iload hx hb dL_law_1894 (lv_at hl 6 rfl) ?_
  refine lv_iconst (v := 1) hx hb dL_law_1896 (by decide) ?_
  refine lv_iadd hx hb dL_law_1897 ?_
  refine la_x F E hS h1 dL_law_1898 ?_
  refine la_bool F dL_law_1899 (by decide) dL_law_1902 dL_law_1903 (by decide) dL_law_1906 ?_
  refine la_W (rest := []) (As := [.int (bz (xs (i + 1).toNatClampNeg))]) (G1 := K') F hS E.2.1.2.2.2.1 k_X10_refusal mw_1360 hW.2.1 0 11 rfl (wsW_get 0 (by decide)) (q_X10_refusal l D Y am E.2.1.2.1 K (bz (xs (i + 1).toNatClampNeg)) r2 K' e2) Bw.blind (fun U hU hw => Bw.of F.2 hW.2.1 hU hw) rfl hl.1 ⟨by rw [hR.1]; exact Nat.le_of_ble_eq_true rfl, by rw [hR.2.1]; exact Nat.le_of_ble_eq_true rfl⟩ rfl (Nat.le_of_ble_eq_true rfl) ⟨by omega, by omega⟩ dL_law_1907 ?_
  intro H1 L1 hP hq hS
  have hT := hT.kept (hq _ (at_lt hT) E.2.1.2.2.2.2.2.2.2.2.2.1)
  have hW := hW.upM E.2.1 hP hq
  refine lv_istore (lv' := [(7, .int r2), (6, .int (cod [3] RR)), (0, .ref b), (1, .ref (ad 77)), (2, .ref (am 0)), (3, .ref o), (4, .ref od), (5, .int i)]) hx hb dL_law_1910 hl (by decide) rfl (fun ls hl => ?_)
  refine lv_aload_n hx hb dL_law_1912 rfl (lv_at hl 4 rfl) ?_
  refine rd_V (rest := []) (As := []) F hW.2.1 k_X10_thrown mw_1356 0 11 rfl (wsW_get 0 (by decide)) (q_X10_thrown l D Y am K'  (cod [3] RR) e3) rfl hl.1 ⟨by rw [hR.1]; exact Nat.le_of_ble_eq_true rfl, by rw [hR.2.1]; exact Nat.le_of_ble_eq_true rfl⟩ rfl (Nat.le_of_ble_eq_true rfl) ⟨by omega, by omega⟩ dL_law_1913 ?_
  intro _
  refine lv_iload hx hb dL_law_1916 (lv_at hl 1 rfl) ?_
  refine lv_icmp_eq (tgt := 1923) hx hb dL_law_1918 (by decide) (fun c1 => ?_) (fun c1 => absurd rfl c1)
  refine lv_iload hx hb dL_law_1923 (lv_at hl 1 rfl) ?_
  refine lv_if_ne (tgt := 1940) hx hb dL_law_1925 (by decide) (fun c1 => ?_) (fun c1 => ?_)
  · refine lv_goto (tgt := 2244) hx hb dL_law_1940 (by decide) ?_
    refine W.widen (k := cells + 16) (n := slots + 96) (by omega) (by omega) ?_
    exact kk H1 L1 ls G' K' hrel hW hS (lv_sub hl [2, 3, 4, 5, 6, 7] rfl)
  · obtain ⟨v, hRv⟩ := cod0 (ks := [3]) (by decide) c1
    have hfv := hv v hRv
    have hvr := e5 v hRv
    subst hvr
    refine lv_aload_n hx hb dL_law_1928 rfl (lv_at hl 5 rfl) ?_
    refine lv_iconst (v := 0) hx hb dL_law_1929 (by decide) ?_
    refine va_lald hx hb F.2.1 (at_P hT) 0 4 rfl rfl (by unfold vp_in; decide) dL_law_1930 ?_
    refine lv_iload hx hb dL_law_1931 (lv_at hl 0 rfl) ?_
    refine lv_i2l (v := v.toInt64) hx hb dL_law_1933 rfl ?_
    refine W.lcmp hx hb dL_law_1934 ?_
    refine lv_if_eq (tgt := 1940) hx hb dL_law_1935 (by decide) (fun c2 => ?_) (fun c2 => absurd ?_ c2)
    · refine lv_goto (tgt := 2244) hx hb dL_law_1940 (by decide) ?_
      refine W.widen (k := cells + 16) (n := slots + 96) (by omega) (by omega) ?_
      exact kk H1 L1 ls G' K' hrel hW hS (lv_sub hl [2, 3, 4, 5, 6, 7] rfl)
    · rw [show f (0 : Int32).toNatClampNeg = v.toInt64 from hfv]
      exact lgc_self _
set_option maxRecDepth 100000 in
set_option maxHeartbeats 4000000 in
theorem case_31 {p : Program} {l : Launch} {ev : Env} {R : Room} {s : State} {m : MethodId} {args : Array Value} {below : List Frame} {meth : Method} {c : Code} {H : Heap} {locs : List Loc} {cells slots : Nat} {Q : State → Prop} {ls : Array Slot} {D : va_G} {Y : Nat → ClassId} {ad am : Nat → Nat} {G K : GT} {o od n0 b L : Nat} {xs : Nat → Int32} {Rel : GT → GT → Prop} {i : Int32} (hst : l.stackTraces = false) (F : Fx p c cL_law 9 s m args RL D Y) (E : LEn s ad am o od n0 b L xs) (hW : LWd D Y ad am o od G K H) (hS : va_S (LA n0) s.heap H locs) (hl : lv_has ls 9 [(0, .ref b), (1, .ref (ad 77)), (2, .ref (am 0)), (3, .ref o), (4, .ref od), (5, .int i)]) (hR : R.frames = 2048 ∧ R.locals = 94400 ∧ cells + 16 ≤ R.cells ∧ slots + 96 ≤ R.slots) (hst1 : St_account Rel) (hr : Rel G K) (h1 : vp_in (i + 1) L) 
    (kk : ∀ (H1 : Heap) (L1 : List Loc) (ls1 : Array Slot) (G' K' : GT), Rel G' K' → LWd D Y ad am o od G' K' H1 → va_S (LA n0) s.heap H1 L1 → lv_has ls1 9 [(0, .ref b), (1, .ref (ad 77)), (2, .ref (am 0)), (3, .ref o), (4, .ref od), (5, .int i)] → W p l ev R s m args below meth c H1 L1 (cells + 16) (slots + 96) Q (F0 m 2244 ls1 [])) : W p l ev R s m args below meth c H locs cells slots Q (F0 m 1943 ls []) := by
  have hx := F.1.1
  have hb := F.1.2.1
  obtain ⟨RR, G', r2, K', e1, e2, e3, hks, e5, hrel⟩ := hst1 G K hr (xs (i + 1).toNatClampNeg)
  refine lv_aload_n hx hb dL_law_1943 rfl (lv_at hl 1 rfl) ?_
  refine lv_aload_n hx hb dL_law_1944 rfl (lv_at hl 0 rfl) ?_
  refine lv_iload hx hb dL_law_1945 (lv_at hl 5 rfl) ?_
  refine lv_iconst (v := 1) hx hb dL_law_1947 (by decide) ?_
  refine lv_iadd hx hb dL_law_1948 ?_
  refine la_x F E hS h1 dL_law_1949 ?_
  refine lv_aload_n hx hb dL_law_1950 rfl (lv_at hl 3 rfl) ?_
  refine la_H (G' := G') F E hW hS kl_account mw_1190 (fun f => ql_account l hst D Y ad E.2.1.1 G (xs (i + 1).toNatClampNeg) o f RR G' e1 hks) rfl hl.1 ⟨by rw [hR.1]; exact Nat.le_of_ble_eq_true rfl, by rw [hR.2.1]; exact Nat.le_of_ble_eq_true rfl⟩ rfl (Nat.le_of_ble_eq_true rfl) ⟨by omega, by omega⟩ dL_law_1951 ?_
  intro f H1 L1 hT hv hW hS
  refine lv_istore (lv' := [(6, .int (cod [1] RR)), (0, .ref b), (1, .ref (ad 77)), (2, .ref (am 0)), (3, .ref o), (4, .ref od), (5, .int i)]) hx hb dL_law_1954 hl (by decide) rfl (fun ls hl => ?_)
  refine lv_aload_n hx hb dL_law_1956 rfl (lv_at hl 3 rfl) ?_
  refine lv_aload_n hx hb dL_law_1957 rfl (lv_at hl 1 rfl) ?_
  refine lv_iload hx hb dL_law_1958 (lv_at hl 6 rfl) ?_
  refine lv_iconst (v := 1) hx hb dL_law_1960 (by decide) ?_
  refine lv_iadd hx hb dL_law_1961 ?_
  refine la_x F E hS h1 dL_law_1962 ?_
  refine la_W (rest := []) (As := [.int (xs (i + 1).toNatClampNeg)]) (G1 := K') F hS E.2.1.2.2.2.1 k_X10_account mw_1695 hW.2.1 0 11 rfl (wsW_get 0 (by decide)) (q_X10_account l D Y am E.2.1.2.1 K (xs (i + 1).toNatClampNeg) r2 K' e2) Bw.blind (fun U hU hw => Bw.of F.2 hW.2.1 hU hw) rfl hl.1 ⟨by rw [hR.1]; exact Nat.le_of_ble_eq_true rfl, by rw [hR.2.1]; exact Nat.le_of_ble_eq_true rfl⟩ rfl (Nat.le_of_ble_eq_true rfl) ⟨by omega, by omega⟩ dL_law_1963 ?_
  intro H1 L1 hP hq hS
  have hT := hT.kept (hq _ (at_lt hT) E.2.1.2.2.2.2.2.2.2.2.2.1)
  have hW := hW.upM E.2.1 hP hq
  refine lv_istore (lv' := [(7, .int r2), (6, .int (cod [1] RR)), (0, .ref b), (1, .ref (ad 77)), (2, .ref (am 0)), (3, .ref o), (4, .ref od), (5, .int i)]) hx hb dL_law_1966 hl (by decide) rfl (fun ls hl => ?_)
  refine lv_aload_n hx hb dL_law_1968 rfl (lv_at hl 4 rfl) ?_
  refine rd_V (rest := []) (As := []) F hW.2.1 k_X10_thrown mw_1356 0 11 rfl (wsW_get 0 (by decide)) (q_X10_thrown l D Y am K'  (cod [1] RR) e3) rfl hl.1 ⟨by rw [hR.1]; exact Nat.le_of_ble_eq_true rfl, by rw [hR.2.1]; exact Nat.le_of_ble_eq_true rfl⟩ rfl (Nat.le_of_ble_eq_true rfl) ⟨by omega, by omega⟩ dL_law_1969 ?_
  intro _
  refine lv_iload hx hb dL_law_1972 (lv_at hl 1 rfl) ?_
  refine lv_icmp_eq (tgt := 1979) hx hb dL_law_1974 (by decide) (fun c1 => ?_) (fun c1 => absurd rfl c1)
  refine lv_iload hx hb dL_law_1979 (lv_at hl 1 rfl) ?_
  refine lv_if_ne (tgt := 1996) hx hb dL_law_1981 (by decide) (fun c1 => ?_) (fun c1 => ?_)
  · refine lv_goto (tgt := 2244) hx hb dL_law_1996 (by decide) ?_
    refine W.widen (k := cells + 16) (n := slots + 96) (by omega) (by omega) ?_
    exact kk H1 L1 ls G' K' hrel hW hS (lv_sub hl [2, 3, 4, 5, 6, 7] rfl)
  · obtain ⟨v, hRv⟩ := cod0 (ks := [1]) (by decide) c1
    have hfv := hv v hRv
    have hvr := e5 v hRv
    subst hvr
    refine lv_aload_n hx hb dL_law_1984 rfl (lv_at hl 5 rfl) ?_
    refine lv_iconst (v := 0) hx hb dL_law_1985 (by decide) ?_
    refine va_lald hx hb F.2.1 (at_P hT) 0 4 rfl rfl (by unfold vp_in; decide) dL_law_1986 ?_
    refine lv_iload hx hb dL_law_1987 (lv_at hl 0 rfl) ?_
    refine lv_i2l (v := v.toInt64) hx hb dL_law_1989 rfl ?_
    refine W.lcmp hx hb dL_law_1990 ?_
    refine lv_if_eq (tgt := 1996) hx hb dL_law_1991 (by decide) (fun c2 => ?_) (fun c2 => absurd ?_ c2)
    · refine lv_goto (tgt := 2244) hx hb dL_law_1996 (by decide) ?_
      refine W.widen (k := cells + 16) (n := slots + 96) (by omega) (by omega) ?_
      exact kk H1 L1 ls G' K' hrel hW hS (lv_sub hl [2, 3, 4, 5, 6, 7] rfl)
    · rw [show f (0 : Int32).toNatClampNeg = v.toInt64 from hfv]
      exact lgc_self _
set_option maxRecDepth 100000 in
set_option maxHeartbeats 4000000 in
theorem case_32 {p : Program} {l : Launch} {ev : Env} {R : Room} {s : State} {m : MethodId} {args : Array Value} {below : List Frame} {meth : Method} {c : Code} {H : Heap} {locs : List Loc} {cells slots : Nat} {Q : State → Prop} {ls : Array Slot} {D : va_G} {Y : Nat → ClassId} {ad am : Nat → Nat} {G K : GT} {o od n0 b L : Nat} {xs : Nat → Int32} {Rel : GT → GT → Prop} {i : Int32} (hst : l.stackTraces = false) (F : Fx p c cL_law 9 s m args RL D Y) (E : LEn s ad am o od n0 b L xs) (hW : LWd D Y ad am o od G K H) (hS : va_S (LA n0) s.heap H locs) (hl : lv_has ls 9 [(0, .ref b), (1, .ref (ad 77)), (2, .ref (am 0)), (3, .ref o), (4, .ref od), (5, .int i)]) (hR : R.frames = 2048 ∧ R.locals = 94400 ∧ cells + 16 ≤ R.cells ∧ slots + 96 ≤ R.slots) (hst1 : St_isWell Rel) (hr : Rel G K) 
    (kk : ∀ (H1 : Heap) (L1 : List Loc) (ls1 : Array Slot) (G' K' : GT), Rel G' K' → LWd D Y ad am o od G' K' H1 → va_S (LA n0) s.heap H1 L1 → lv_has ls1 9 [(0, .ref b), (1, .ref (ad 77)), (2, .ref (am 0)), (3, .ref o), (4, .ref od), (5, .int i)] → W p l ev R s m args below meth c H1 L1 (cells + 16) (slots + 96) Q (F0 m 2244 ls1 [])) : W p l ev R s m args below meth c H locs cells slots Q (F0 m 1999 ls []) := by
  have hx := F.1.1
  have hb := F.1.2.1
  obtain ⟨r, K', e1, e2, hrel⟩ := hst1 G K hr 
  refine lv_aload_n hx hb dL_law_1999 rfl (lv_at hl 1 rfl) ?_
  refine rd_V (rest := []) (As := []) F hW.1 k_X9_isWell mw_360 77 10 rfl (wsW_get 77 (by decide)) (q_X9_isWell l D Y ad G  r e1) rfl hl.1 ⟨by rw [hR.1]; exact Nat.le_of_ble_eq_true rfl, by rw [hR.2.1]; exact Nat.le_of_ble_eq_true rfl⟩ rfl (Nat.le_of_ble_eq_true rfl) ⟨by omega, by omega⟩ dL_law_2000 ?_
  intro _
  refine lv_aload_n hx hb dL_law_2003 rfl (lv_at hl 2 rfl) ?_
  refine la_W (rest := [.int r]) (As := []) (G1 := K') F hS E.2.1.2.2.2.1 k_X10_isWell mw_1703 hW.2.1 0 11 rfl (wsW_get 0 (by decide)) (q_X10_isWell l D Y am E.2.1.2.1 K  r K' e2) Bw.blind (fun U hU hw => Bw.of F.2 hW.2.1 hU hw) rfl hl.1 ⟨by rw [hR.1]; exact Nat.le_of_ble_eq_true rfl, by rw [hR.2.1]; exact Nat.le_of_ble_eq_true rfl⟩ rfl (Nat.le_of_ble_eq_true rfl) ⟨by omega, by omega⟩ dL_law_2004 ?_
  intro H1 L1 hP hq hS
  have hW := hW.upM E.2.1 hP hq
  refine lv_icmp_eq (tgt := 2244) hx hb dL_law_2007 (by decide) (fun c1 => ?_) (fun c1 => absurd rfl c1)
  refine W.widen (k := cells + 16) (n := slots + 96) (by omega) (by omega) ?_
  exact kk H1 L1 ls G K' hrel hW hS (lv_sub hl [0, 1, 2, 3, 4, 5] rfl)
set_option maxRecDepth 100000 in
set_option maxHeartbeats 4000000 in
theorem case_33 {p : Program} {l : Launch} {ev : Env} {R : Room} {s : State} {m : MethodId} {args : Array Value} {below : List Frame} {meth : Method} {c : Code} {H : Heap} {locs : List Loc} {cells slots : Nat} {Q : State → Prop} {ls : Array Slot} {D : va_G} {Y : Nat → ClassId} {ad am : Nat → Nat} {G K : GT} {o od n0 b L : Nat} {xs : Nat → Int32} {Rel : GT → GT → Prop} {i : Int32} (hst : l.stackTraces = false) (F : Fx p c cL_law 9 s m args RL D Y) (E : LEn s ad am o od n0 b L xs) (hW : LWd D Y ad am o od G K H) (hS : va_S (LA n0) s.heap H locs) (hl : lv_has ls 9 [(0, .ref b), (1, .ref (ad 77)), (2, .ref (am 0)), (3, .ref o), (4, .ref od), (5, .int i)]) (hR : R.frames = 2048 ∧ R.locals = 94400 ∧ cells + 16 ≤ R.cells ∧ slots + 96 ≤ R.slots) (hst1 : St_meanPitch Rel) (hr : Rel G K) 
    (kk : ∀ (H1 : Heap) (L1 : List Loc) (ls1 : Array Slot) (G' K' : GT), Rel G' K' → LWd D Y ad am o od G' K' H1 → va_S (LA n0) s.heap H1 L1 → lv_has ls1 9 [(0, .ref b), (1, .ref (ad 77)), (2, .ref (am 0)), (3, .ref o), (4, .ref od), (5, .int i)] → W p l ev R s m args below meth c H1 L1 (cells + 16) (slots + 96) Q (F0 m 2244 ls1 [])) : W p l ev R s m args below meth c H locs cells slots Q (F0 m 2012 ls []) := by
  have hx := F.1.1
  have hb := F.1.2.1
  obtain ⟨RR, G', r2, K', e1, e2, e3, hks, e5, hrel⟩ := hst1 G K hr 
  refine lv_aload_n hx hb dL_law_2012 rfl (lv_at hl 1 rfl) ?_
  refine lv_aload hx hb dL_law_2013 (lv_at hl 4 rfl) ?_
  refine la_Hd (G' := G') F E hW hS kl_meanPitch mw_1229 (fun f => ql_meanPitch l hst D Y ad E.2.1.1 G  od f RR G' e1 hks) rfl hl.1 ⟨by rw [hR.1]; exact Nat.le_of_ble_eq_true rfl, by rw [hR.2.1]; exact Nat.le_of_ble_eq_true rfl⟩ rfl (Nat.le_of_ble_eq_true rfl) ⟨by omega, by omega⟩ dL_law_2015 ?_
  intro f H1 L1 hT hv hW hS
  refine lv_istore (lv' := [(6, .int (cod [5] RR)), (0, .ref b), (1, .ref (ad 77)), (2, .ref (am 0)), (3, .ref o), (4, .ref od), (5, .int i)]) hx hb dL_law_2018 hl (by decide) rfl (fun ls hl => ?_)
  refine lv_aload_n hx hb dL_law_2020 rfl (lv_at hl 3 rfl) ?_
  refine la_Wd (rest := []) (As := []) (G1 := K') F hS E.2.1.2.2.2.1 k_X10_meanPitch mw_1707 hW.2.1 0 11 rfl (wsW_get 0 (by decide)) (q_X10_meanPitch l D Y am E.2.1.2.1 K  r2 K' e2) Bw.blind (fun U hU hw => Bw.of F.2 hW.2.1 hU hw) rfl hl.1 ⟨by rw [hR.1]; exact Nat.le_of_ble_eq_true rfl, by rw [hR.2.1]; exact Nat.le_of_ble_eq_true rfl⟩ rfl (Nat.le_of_ble_eq_true rfl) ⟨by omega, by omega⟩ dL_law_2021 ?_
  intro H1 L1 hP hq hS
  have hT := hT.kept (hq _ (at_lt hT) E.2.1.2.2.2.2.2.2.2.2.2.2.1)
  have hW := hW.upM E.2.1 hP hq
  refine lv_dstore (lv' := [(7, .double r2), (6, .int (cod [5] RR)), (0, .ref b), (1, .ref (ad 77)), (2, .ref (am 0)), (3, .ref o), (4, .ref od), (5, .int i)]) hx hb dL_law_2024 hl (by decide) rfl (fun ls hl => ?_)
  refine lv_aload_n hx hb dL_law_2026 rfl (lv_at hl 4 rfl) ?_
  refine rd_V (rest := []) (As := []) F hW.2.1 k_X10_thrown mw_1356 0 11 rfl (wsW_get 0 (by decide)) (q_X10_thrown l D Y am K'  (cod [5] RR) e3) rfl hl.1 ⟨by rw [hR.1]; exact Nat.le_of_ble_eq_true rfl, by rw [hR.2.1]; exact Nat.le_of_ble_eq_true rfl⟩ rfl (Nat.le_of_ble_eq_true rfl) ⟨by omega, by omega⟩ dL_law_2027 ?_
  intro _
  refine lv_iload hx hb dL_law_2030 (lv_at hl 1 rfl) ?_
  refine lv_icmp_eq (tgt := 2037) hx hb dL_law_2032 (by decide) (fun c1 => ?_) (fun c1 => absurd rfl c1)
  refine lv_iload hx hb dL_law_2037 (lv_at hl 1 rfl) ?_
  refine lv_if_ne (tgt := 2074) hx hb dL_law_2039 (by decide) (fun c1 => ?_) (fun c1 => ?_)
  · refine lv_goto (tgt := 2244) hx hb dL_law_2074 (by decide) ?_
    refine W.widen (k := cells + 16) (n := slots + 96) (by omega) (by omega) ?_
    exact kk H1 L1 ls G' K' hrel hW hS (lv_sub hl [2, 3, 4, 5, 6, 7] rfl)
  · obtain ⟨v, hRv⟩ := cod0 (ks := [5]) (by decide) c1
    have hfv := hv v hRv
    have hvr := e5 v hRv
    have hvf : v = f 0 := hfv.symm
    subst hvf
    subst hvr
    refine lv_aload hx hb dL_law_2042 (lv_at hl 6 rfl) ?_
    refine lv_iconst (v := 0) hx hb dL_law_2044 (by decide) ?_
    refine va_dald hx hb F.2.1 (at_P hT) 0 5 rfl rfl (by unfold vp_in; decide) dL_law_2045 ?_
    refine lv_dload hx hb dL_law_2046 (lv_at hl 0 rfl) ?_
    refine lv_dcmp hx hb dL_law_2048 ?_
    refine lv_if_eq (tgt := 2074) hx hb dL_law_2049 (by decide) (fun c2 => ?_) (fun c2 => ?_)
    · refine lv_goto (tgt := 2244) hx hb dL_law_2074 (by decide) ?_
      refine W.widen (k := cells + 16) (n := slots + 96) (by omega) (by omega) ?_
      exact kk H1 L1 ls G' K' hrel hW hS (lv_sub hl [2, 3, 4, 5, 6, 7] rfl)
    · refine lv_aload hx hb dL_law_2052 (lv_at hl 6 rfl) ?_
      refine lv_iconst (v := 0) hx hb dL_law_2054 (by decide) ?_
      refine va_dald hx hb F.2.1 (at_P hT) 0 5 rfl rfl (by unfold vp_in; decide) dL_law_2055 ?_
      refine lv_aload hx hb dL_law_2056 (lv_at hl 6 rfl) ?_
      refine lv_iconst (v := 0) hx hb dL_law_2058 (by decide) ?_
      refine va_dald hx hb F.2.1 (at_P hT) 0 5 rfl rfl (by unfold vp_in; decide) dL_law_2059 ?_
      refine lv_dcmp hx hb dL_law_2060 ?_
      refine lv_if_eq (tgt := 2072) hx hb dL_law_2061 (by decide) (fun c3 => absurd c3 c2) (fun c3 => ?_)
      refine lv_dload hx hb dL_law_2064 (lv_at hl 0 rfl) ?_
      refine lv_dload hx hb dL_law_2066 (lv_at hl 0 rfl) ?_
      refine lv_dcmp hx hb dL_law_2068 ?_
      refine lv_if_ne (tgt := 2074) hx hb dL_law_2069 (by decide) (fun c4 => ?_) (fun c4 => absurd c4 c2)
      refine lv_goto (tgt := 2244) hx hb dL_law_2074 (by decide) ?_
      refine W.widen (k := cells + 16) (n := slots + 96) (by omega) (by omega) ?_
      exact kk H1 L1 ls G' K' hrel hW hS (lv_sub hl [2, 3, 4, 5, 6, 7] rfl)
set_option maxRecDepth 100000 in
set_option maxHeartbeats 4000000 in
theorem case_34 {p : Program} {l : Launch} {ev : Env} {R : Room} {s : State} {m : MethodId} {args : Array Value} {below : List Frame} {meth : Method} {c : Code} {H : Heap} {locs : List Loc} {cells slots : Nat} {Q : State → Prop} {ls : Array Slot} {D : va_G} {Y : Nat → ClassId} {ad am : Nat → Nat} {G K : GT} {o od n0 b L : Nat} {xs : Nat → Int32} {Rel : GT → GT → Prop} {i : Int32} (hst : l.stackTraces = false) (F : Fx p c cL_law 9 s m args RL D Y) (E : LEn s ad am o od n0 b L xs) (hW : LWd D Y ad am o od G K H) (hS : va_S (LA n0) s.heap H locs) (hl : lv_has ls 9 [(0, .ref b), (1, .ref (ad 77)), (2, .ref (am 0)), (3, .ref o), (4, .ref od), (5, .int i)]) (hR : R.frames = 2048 ∧ R.locals = 94400 ∧ cells + 16 ≤ R.cells ∧ slots + 96 ≤ R.slots) (hst1 : St_filledShare Rel) (hr : Rel G K) 
    (kk : ∀ (H1 : Heap) (L1 : List Loc) (ls1 : Array Slot) (G' K' : GT), Rel G' K' → LWd D Y ad am o od G' K' H1 → va_S (LA n0) s.heap H1 L1 → lv_has ls1 9 [(0, .ref b), (1, .ref (ad 77)), (2, .ref (am 0)), (3, .ref o), (4, .ref od), (5, .int i)] → W p l ev R s m args below meth c H1 L1 (cells + 16) (slots + 96) Q (F0 m 2244 ls1 [])) : W p l ev R s m args below meth c H locs cells slots Q (F0 m 2077 ls []) := by
  have hx := F.1.1
  have hb := F.1.2.1
  obtain ⟨RR, G', r2, K', e1, e2, e3, hks, e5, hrel, hf0⟩ := hst1 G K hr 
  have hf : ∀ v, RR = .inr v → vf_n64 (FP.f2d v) := fun v hv => (hf0 v hv).1
  refine lv_aload_n hx hb dL_law_2077 rfl (lv_at hl 1 rfl) ?_
  refine lv_aload hx hb dL_law_2078 (lv_at hl 4 rfl) ?_
  refine la_Hd (G' := G') F E hW hS kl_filledShare mw_1262 (fun f => ql_filledShare l hst D Y ad E.2.1.1 G  od f RR G' e1 hf hks) rfl hl.1 ⟨by rw [hR.1]; exact Nat.le_of_ble_eq_true rfl, by rw [hR.2.1]; exact Nat.le_of_ble_eq_true rfl⟩ rfl (Nat.le_of_ble_eq_true rfl) ⟨by omega, by omega⟩ dL_law_2080 ?_
  intro f H1 L1 hT hv hW hS
  refine lv_istore (lv' := [(6, .int (cod [5] RR)), (0, .ref b), (1, .ref (ad 77)), (2, .ref (am 0)), (3, .ref o), (4, .ref od), (5, .int i)]) hx hb dL_law_2083 hl (by decide) rfl (fun ls hl => ?_)
  refine lv_aload_n hx hb dL_law_2085 rfl (lv_at hl 3 rfl) ?_
  refine la_Wf (rest := []) (As := []) (G1 := K') F hS E.2.1.2.2.2.1 k_X10_filledShare mw_1711 hW.2.1 0 11 rfl (wsW_get 0 (by decide)) (q_X10_filledShare l D Y am E.2.1.2.1 K  r2 K' e2) Bw.blind (fun U hU hw => Bw.of F.2 hW.2.1 hU hw) rfl hl.1 ⟨by rw [hR.1]; exact Nat.le_of_ble_eq_true rfl, by rw [hR.2.1]; exact Nat.le_of_ble_eq_true rfl⟩ rfl (Nat.le_of_ble_eq_true rfl) ⟨by omega, by omega⟩ dL_law_2086 ?_
  intro H1 L1 hP hq hS
  have hT := hT.kept (hq _ (at_lt hT) E.2.1.2.2.2.2.2.2.2.2.2.2.1)
  have hW := hW.upM E.2.1 hP hq
  refine lv_fstore (lv' := [(7, .float r2), (6, .int (cod [5] RR)), (0, .ref b), (1, .ref (ad 77)), (2, .ref (am 0)), (3, .ref o), (4, .ref od), (5, .int i)]) hx hb dL_law_2089 hl (by decide) rfl (fun ls hl => ?_)
  refine lv_aload_n hx hb dL_law_2091 rfl (lv_at hl 4 rfl) ?_
  refine rd_V (rest := []) (As := []) F hW.2.1 k_X10_thrown mw_1356 0 11 rfl (wsW_get 0 (by decide)) (q_X10_thrown l D Y am K'  (cod [5] RR) e3) rfl hl.1 ⟨by rw [hR.1]; exact Nat.le_of_ble_eq_true rfl, by rw [hR.2.1]; exact Nat.le_of_ble_eq_true rfl⟩ rfl (Nat.le_of_ble_eq_true rfl) ⟨by omega, by omega⟩ dL_law_2092 ?_
  intro _
  refine lv_iload hx hb dL_law_2095 (lv_at hl 1 rfl) ?_
  refine lv_icmp_eq (tgt := 2102) hx hb dL_law_2097 (by decide) (fun c1 => ?_) (fun c1 => absurd rfl c1)
  refine lv_iload hx hb dL_law_2102 (lv_at hl 1 rfl) ?_
  refine lv_if_ne (tgt := 2140) hx hb dL_law_2104 (by decide) (fun c1 => ?_) (fun c1 => ?_)
  · refine lv_goto (tgt := 2244) hx hb dL_law_2140 (by decide) ?_
    refine W.widen (k := cells + 16) (n := slots + 96) (by omega) (by omega) ?_
    exact kk H1 L1 ls G' K' hrel hW hS (lv_sub hl [2, 3, 4, 5, 6, 7] rfl)
  · obtain ⟨v, hRv⟩ := cod0 (ks := [5]) (by decide) c1
    have hfv := hv v hRv
    have hvr := e5 v hRv
    subst hvr
    refine lv_aload hx hb dL_law_2107 (lv_at hl 6 rfl) ?_
    refine lv_iconst (v := 0) hx hb dL_law_2109 (by decide) ?_
    refine va_dald hx hb F.2.1 (at_P hT) 0 5 rfl rfl (by unfold vp_in; decide) dL_law_2110 ?_
    refine lv_fload hx hb dL_law_2111 (lv_at hl 0 rfl) ?_
    refine lv_f2d hx hb dL_law_2113 (hf v hRv) ?_
    refine lv_dcmp hx hb dL_law_2114 ?_
    refine lv_if_eq (tgt := 2140) hx hb dL_law_2115 (by decide) (fun c2 => ?_) (fun c2 => absurd ?_ c2)
    · refine lv_goto (tgt := 2244) hx hb dL_law_2140 (by decide) ?_
      refine W.widen (k := cells + 16) (n := slots + 96) (by omega) (by omega) ?_
      exact kk H1 L1 ls G' K' hrel hW hS (lv_sub hl [2, 3, 4, 5, 6, 7] rfl)
    · rw [show f (0 : Int32).toNatClampNeg = FP.f2d v from hfv, (hf0 v hRv).2]
      rfl
set_option maxRecDepth 100000 in
set_option maxHeartbeats 4000000 in
theorem case_35 {p : Program} {l : Launch} {ev : Env} {R : Room} {s : State} {m : MethodId} {args : Array Value} {below : List Frame} {meth : Method} {c : Code} {H : Heap} {locs : List Loc} {cells slots : Nat} {Q : State → Prop} {ls : Array Slot} {D : va_G} {Y : Nat → ClassId} {ad am : Nat → Nat} {G K : GT} {o od n0 b L : Nat} {xs : Nat → Int32} {Rel : GT → GT → Prop} {i : Int32} (hst : l.stackTraces = false) (F : Fx p c cL_law 9 s m args RL D Y) (E : LEn s ad am o od n0 b L xs) (hW : LWd D Y ad am o od G K H) (hS : va_S (LA n0) s.heap H locs) (hl : lv_has ls 9 [(0, .ref b), (1, .ref (ad 77)), (2, .ref (am 0)), (3, .ref o), (4, .ref od), (5, .int i)]) (hR : R.frames = 2048 ∧ R.locals = 94400 ∧ cells + 16 ≤ R.cells ∧ slots + 96 ≤ R.slots) (hst1 : St_undo Rel) (hr : Rel G K) 
    (kk : ∀ (H1 : Heap) (L1 : List Loc) (ls1 : Array Slot) (G' K' : GT), Rel G' K' → LWd D Y ad am o od G' K' H1 → va_S (LA n0) s.heap H1 L1 → lv_has ls1 9 [(0, .ref b), (1, .ref (ad 77)), (2, .ref (am 0)), (3, .ref o), (4, .ref od), (5, .int i)] → W p l ev R s m args below meth c H1 L1 (cells + 16) (slots + 96) Q (F0 m 2244 ls1 [])) : W p l ev R s m args below meth c H locs cells slots Q (F0 m 2143 ls []) := by
  have hx := F.1.1
  have hb := F.1.2.1
  obtain ⟨RR, G', r2, K', e1, e2, e3, hks, e5, hrel⟩ := hst1 G K hr 
  refine lv_aload_n hx hb dL_law_2143 rfl (lv_at hl 1 rfl) ?_
  refine lv_aload_n hx hb dL_law_2144 rfl (lv_at hl 3 rfl) ?_
  refine la_H (G' := G') F E hW hS kl_undo mw_1270 (fun f => ql_undo l hst D Y ad E.2.1.1 G  o f RR G' e1 hks) rfl hl.1 ⟨by rw [hR.1]; exact Nat.le_of_ble_eq_true rfl, by rw [hR.2.1]; exact Nat.le_of_ble_eq_true rfl⟩ rfl (Nat.le_of_ble_eq_true rfl) ⟨by omega, by omega⟩ dL_law_2145 ?_
  intro f H1 L1 hT hv hW hS
  refine lv_istore (lv' := [(6, .int (cod [4] RR)), (0, .ref b), (1, .ref (ad 77)), (2, .ref (am 0)), (3, .ref o), (4, .ref od), (5, .int i)]) hx hb dL_law_2148 hl (by decide) rfl (fun ls hl => ?_)
  refine lv_aload_n hx hb dL_law_2150 rfl (lv_at hl 3 rfl) ?_
  refine la_W (rest := []) (As := []) (G1 := K') F hS E.2.1.2.2.2.1 k_X10_undo mw_1715 hW.2.1 0 11 rfl (wsW_get 0 (by decide)) (q_X10_undo l D Y am E.2.1.2.1 K  r2 K' e2) Bw.blind (fun U hU hw => Bw.of F.2 hW.2.1 hU hw) rfl hl.1 ⟨by rw [hR.1]; exact Nat.le_of_ble_eq_true rfl, by rw [hR.2.1]; exact Nat.le_of_ble_eq_true rfl⟩ rfl (Nat.le_of_ble_eq_true rfl) ⟨by omega, by omega⟩ dL_law_2151 ?_
  intro H1 L1 hP hq hS
  have hT := hT.kept (hq _ (at_lt hT) E.2.1.2.2.2.2.2.2.2.2.2.1)
  have hW := hW.upM E.2.1 hP hq
  refine lv_istore (lv' := [(7, .int r2), (6, .int (cod [4] RR)), (0, .ref b), (1, .ref (ad 77)), (2, .ref (am 0)), (3, .ref o), (4, .ref od), (5, .int i)]) hx hb dL_law_2154 hl (by decide) rfl (fun ls hl => ?_)
  refine lv_aload_n hx hb dL_law_2156 rfl (lv_at hl 4 rfl) ?_
  refine rd_V (rest := []) (As := []) F hW.2.1 k_X10_thrown mw_1356 0 11 rfl (wsW_get 0 (by decide)) (q_X10_thrown l D Y am K'  (cod [4] RR) e3) rfl hl.1 ⟨by rw [hR.1]; exact Nat.le_of_ble_eq_true rfl, by rw [hR.2.1]; exact Nat.le_of_ble_eq_true rfl⟩ rfl (Nat.le_of_ble_eq_true rfl) ⟨by omega, by omega⟩ dL_law_2157 ?_
  intro _
  refine lv_iload hx hb dL_law_2160 (lv_at hl 1 rfl) ?_
  refine lv_icmp_eq (tgt := 2167) hx hb dL_law_2162 (by decide) (fun c1 => ?_) (fun c1 => absurd rfl c1)
  refine lv_iload hx hb dL_law_2167 (lv_at hl 1 rfl) ?_
  refine lv_if_ne (tgt := 2184) hx hb dL_law_2169 (by decide) (fun c1 => ?_) (fun c1 => ?_)
  · refine lv_goto (tgt := 2244) hx hb dL_law_2184 (by decide) ?_
    refine W.widen (k := cells + 16) (n := slots + 96) (by omega) (by omega) ?_
    exact kk H1 L1 ls G' K' hrel hW hS (lv_sub hl [2, 3, 4, 5, 6, 7] rfl)
  · obtain ⟨v, hRv⟩ := cod0 (ks := [4]) (by decide) c1
    have hfv := hv v hRv
    have hvr := e5 v hRv
    subst hvr
    refine lv_aload_n hx hb dL_law_2172 rfl (lv_at hl 5 rfl) ?_
    refine lv_iconst (v := 0) hx hb dL_law_2173 (by decide) ?_
    refine va_lald hx hb F.2.1 (at_P hT) 0 4 rfl rfl (by unfold vp_in; decide) dL_law_2174 ?_
    refine lv_iload hx hb dL_law_2175 (lv_at hl 0 rfl) ?_
    refine lv_i2l (v := v.toInt64) hx hb dL_law_2177 rfl ?_
    refine W.lcmp hx hb dL_law_2178 ?_
    refine lv_if_eq (tgt := 2184) hx hb dL_law_2179 (by decide) (fun c2 => ?_) (fun c2 => absurd ?_ c2)
    · refine lv_goto (tgt := 2244) hx hb dL_law_2184 (by decide) ?_
      refine W.widen (k := cells + 16) (n := slots + 96) (by omega) (by omega) ?_
      exact kk H1 L1 ls G' K' hrel hW hS (lv_sub hl [2, 3, 4, 5, 6, 7] rfl)
    · rw [show f (0 : Int32).toNatClampNeg = v.toInt64 from hfv]
      exact lgc_self _
set_option maxRecDepth 100000 in
set_option maxHeartbeats 4000000 in
theorem case_36 {p : Program} {l : Launch} {ev : Env} {R : Room} {s : State} {m : MethodId} {args : Array Value} {below : List Frame} {meth : Method} {c : Code} {H : Heap} {locs : List Loc} {cells slots : Nat} {Q : State → Prop} {ls : Array Slot} {D : va_G} {Y : Nat → ClassId} {ad am : Nat → Nat} {G K : GT} {o od n0 b L : Nat} {xs : Nat → Int32} {Rel : GT → GT → Prop} {i : Int32} (hst : l.stackTraces = false) (F : Fx p c cL_law 9 s m args RL D Y) (E : LEn s ad am o od n0 b L xs) (hW : LWd D Y ad am o od G K H) (hS : va_S (LA n0) s.heap H locs) (hl : lv_has ls 9 [(0, .ref b), (1, .ref (ad 77)), (2, .ref (am 0)), (3, .ref o), (4, .ref od), (5, .int i)]) (hR : R.frames = 2048 ∧ R.locals = 94400 ∧ cells + 16 ≤ R.cells ∧ slots + 96 ≤ R.slots) (hst1 : St_save Rel) (hr : Rel G K) 
    (kk : ∀ (H1 : Heap) (L1 : List Loc) (ls1 : Array Slot) (G' K' : GT), Rel G' K' → LWd D Y ad am o od G' K' H1 → va_S (LA n0) s.heap H1 L1 → lv_has ls1 9 [(0, .ref b), (1, .ref (ad 77)), (2, .ref (am 0)), (3, .ref o), (4, .ref od), (5, .int i)] → W p l ev R s m args below meth c H1 L1 (cells + 16) (slots + 96) Q (F0 m 2244 ls1 [])) : W p l ev R s m args below meth c H locs cells slots Q (F0 m 2187 ls []) := by
  have hx := F.1.1
  have hb := F.1.2.1
  obtain ⟨r, G', K', e1, e2, hrel⟩ := hst1 G K hr 
  refine lv_aload_n hx hb dL_law_2187 rfl (lv_at hl 1 rfl) ?_
  refine la_W (rest := []) (As := []) (G1 := G') F hS E.2.1.2.2.1 k_X9_save mw_404 hW.1 77 10 rfl (wsW_get 77 (by decide)) (q_X9_save l D Y ad E.2.1.1 G  r G' e1) BK.blind (fun U hU hw => BK_law F.2 E.1 E.2.2.1 E.2.1.2.2.1 hW.1 hS hU hw) rfl hl.1 ⟨by rw [hR.1]; exact Nat.le_of_ble_eq_true rfl, by rw [hR.2.1]; exact Nat.le_of_ble_eq_true rfl⟩ rfl (Nat.le_of_ble_eq_true rfl) ⟨by omega, by omega⟩ dL_law_2188 ?_
  intro H1 L1 hP hq hS
  have hW := hW.upC E.2.1 hP hq
  refine lv_aload_n hx hb dL_law_2191 rfl (lv_at hl 2 rfl) ?_
  refine la_W (rest := [.int r]) (As := []) (G1 := K') F hS E.2.1.2.2.2.1 k_X10_save mw_1719 hW.2.1 0 11 rfl (wsW_get 0 (by decide)) (q_X10_save l D Y am E.2.1.2.1 K  r K' e2) Bw.blind (fun U hU hw => Bw.of F.2 hW.2.1 hU hw) rfl hl.1 ⟨by rw [hR.1]; exact Nat.le_of_ble_eq_true rfl, by rw [hR.2.1]; exact Nat.le_of_ble_eq_true rfl⟩ rfl (Nat.le_of_ble_eq_true rfl) ⟨by omega, by omega⟩ dL_law_2192 ?_
  intro H1 L1 hP hq hS
  have hW := hW.upM E.2.1 hP hq
  refine lv_icmp_eq (tgt := 2244) hx hb dL_law_2195 (by decide) (fun c1 => ?_) (fun c1 => absurd rfl c1)
  refine W.widen (k := cells + 16) (n := slots + 96) (by omega) (by omega) ?_
  exact kk H1 L1 ls G' K' hrel hW hS (lv_sub hl [0, 1, 2, 3, 4, 5] rfl)
set_option maxRecDepth 100000 in
set_option maxHeartbeats 4000000 in
theorem case_37 {p : Program} {l : Launch} {ev : Env} {R : Room} {s : State} {m : MethodId} {args : Array Value} {below : List Frame} {meth : Method} {c : Code} {H : Heap} {locs : List Loc} {cells slots : Nat} {Q : State → Prop} {ls : Array Slot} {D : va_G} {Y : Nat → ClassId} {ad am : Nat → Nat} {G K : GT} {o od n0 b L : Nat} {xs : Nat → Int32} {Rel : GT → GT → Prop} {i : Int32} (hst : l.stackTraces = false) (F : Fx p c cL_law 9 s m args RL D Y) (E : LEn s ad am o od n0 b L xs) (hW : LWd D Y ad am o od G K H) (hS : va_S (LA n0) s.heap H locs) (hl : lv_has ls 9 [(0, .ref b), (1, .ref (ad 77)), (2, .ref (am 0)), (3, .ref o), (4, .ref od), (5, .int i)]) (hR : R.frames = 2048 ∧ R.locals = 94400 ∧ cells + 16 ≤ R.cells ∧ slots + 96 ≤ R.slots) (hst1 : St_restore Rel) (hr : Rel G K) 
    (kk : ∀ (H1 : Heap) (L1 : List Loc) (ls1 : Array Slot) (G' K' : GT), Rel G' K' → LWd D Y ad am o od G' K' H1 → va_S (LA n0) s.heap H1 L1 → lv_has ls1 9 [(0, .ref b), (1, .ref (ad 77)), (2, .ref (am 0)), (3, .ref o), (4, .ref od), (5, .int i)] → W p l ev R s m args below meth c H1 L1 (cells + 16) (slots + 96) Q (F0 m 2244 ls1 [])) : W p l ev R s m args below meth c H locs cells slots Q (F0 m 2200 ls []) := by
  have hx := F.1.1
  have hb := F.1.2.1
  obtain ⟨RR, G', r2, K', e1, e2, e3, hks, e5, hrel⟩ := hst1 G K hr 
  refine lv_aload_n hx hb dL_law_2200 rfl (lv_at hl 1 rfl) ?_
  refine lv_aload_n hx hb dL_law_2201 rfl (lv_at hl 3 rfl) ?_
  refine la_H (G' := G') F E hW hS kl_restore mw_1281 (fun f => ql_restore l hst D Y ad E.2.1.1 G  o f RR G' e1 hks) rfl hl.1 ⟨by rw [hR.1]; exact Nat.le_of_ble_eq_true rfl, by rw [hR.2.1]; exact Nat.le_of_ble_eq_true rfl⟩ rfl (Nat.le_of_ble_eq_true rfl) ⟨by omega, by omega⟩ dL_law_2202 ?_
  intro f H1 L1 hT hv hW hS
  refine lv_istore (lv' := [(6, .int (cod [4] RR)), (0, .ref b), (1, .ref (ad 77)), (2, .ref (am 0)), (3, .ref o), (4, .ref od), (5, .int i)]) hx hb dL_law_2205 hl (by decide) rfl (fun ls hl => ?_)
  refine lv_aload_n hx hb dL_law_2207 rfl (lv_at hl 3 rfl) ?_
  refine la_W (rest := []) (As := []) (G1 := K') F hS E.2.1.2.2.2.1 k_X10_restore mw_1723 hW.2.1 0 11 rfl (wsW_get 0 (by decide)) (q_X10_restore l D Y am E.2.1.2.1 K  r2 K' e2) Bw.blind (fun U hU hw => Bw.of F.2 hW.2.1 hU hw) rfl hl.1 ⟨by rw [hR.1]; exact Nat.le_of_ble_eq_true rfl, by rw [hR.2.1]; exact Nat.le_of_ble_eq_true rfl⟩ rfl (Nat.le_of_ble_eq_true rfl) ⟨by omega, by omega⟩ dL_law_2208 ?_
  intro H1 L1 hP hq hS
  have hT := hT.kept (hq _ (at_lt hT) E.2.1.2.2.2.2.2.2.2.2.2.1)
  have hW := hW.upM E.2.1 hP hq
  refine lv_istore (lv' := [(7, .int r2), (6, .int (cod [4] RR)), (0, .ref b), (1, .ref (ad 77)), (2, .ref (am 0)), (3, .ref o), (4, .ref od), (5, .int i)]) hx hb dL_law_2211 hl (by decide) rfl (fun ls hl => ?_)
  refine lv_aload_n hx hb dL_law_2213 rfl (lv_at hl 4 rfl) ?_
  refine rd_V (rest := []) (As := []) F hW.2.1 k_X10_thrown mw_1356 0 11 rfl (wsW_get 0 (by decide)) (q_X10_thrown l D Y am K'  (cod [4] RR) e3) rfl hl.1 ⟨by rw [hR.1]; exact Nat.le_of_ble_eq_true rfl, by rw [hR.2.1]; exact Nat.le_of_ble_eq_true rfl⟩ rfl (Nat.le_of_ble_eq_true rfl) ⟨by omega, by omega⟩ dL_law_2214 ?_
  intro _
  refine lv_iload hx hb dL_law_2217 (lv_at hl 1 rfl) ?_
  refine lv_icmp_eq (tgt := 2224) hx hb dL_law_2219 (by decide) (fun c1 => ?_) (fun c1 => absurd rfl c1)
  refine lv_iload hx hb dL_law_2224 (lv_at hl 1 rfl) ?_
  refine lv_if_ne (tgt := 2241) hx hb dL_law_2226 (by decide) (fun c1 => ?_) (fun c1 => ?_)
  · refine lv_goto (tgt := 2244) hx hb dL_law_2241 (by decide) ?_
    refine W.widen (k := cells + 16) (n := slots + 96) (by omega) (by omega) ?_
    exact kk H1 L1 ls G' K' hrel hW hS (lv_sub hl [2, 3, 4, 5, 6, 7] rfl)
  · obtain ⟨v, hRv⟩ := cod0 (ks := [4]) (by decide) c1
    have hfv := hv v hRv
    have hvr := e5 v hRv
    subst hvr
    refine lv_aload_n hx hb dL_law_2229 rfl (lv_at hl 5 rfl) ?_
    refine lv_iconst (v := 0) hx hb dL_law_2230 (by decide) ?_
    refine va_lald hx hb F.2.1 (at_P hT) 0 4 rfl rfl (by unfold vp_in; decide) dL_law_2231 ?_
    refine lv_iload hx hb dL_law_2232 (lv_at hl 0 rfl) ?_
    refine lv_i2l (v := v.toInt64) hx hb dL_law_2234 rfl ?_
    refine W.lcmp hx hb dL_law_2235 ?_
    refine lv_if_eq (tgt := 2241) hx hb dL_law_2236 (by decide) (fun c2 => ?_) (fun c2 => absurd ?_ c2)
    · refine lv_goto (tgt := 2244) hx hb dL_law_2241 (by decide) ?_
      refine W.widen (k := cells + 16) (n := slots + 96) (by omega) (by omega) ?_
      exact kk H1 L1 ls G' K' hrel hW hS (lv_sub hl [2, 3, 4, 5, 6, 7] rfl)
    · rw [show f (0 : Int32).toNatClampNeg = v.toInt64 from hfv]
      exact lgc_self _
