/-! the law's methods that give arrays back, or a long -/
def bind3 {α β γ δ : Type} (x : Option (α × β × γ)) (f : α → β → γ → Option δ) : Option δ := x.bind fun q => f q.1 q.2.1 q.2.2
theorem bsome3 {α β γ δ : Type} {x : Option (α × β × γ)} {f : α → β → γ → Option δ} {r : δ} (h : bind3 x f = some r) : ∃ a b c, x = some (a, b, c) ∧ f a b c = some r := by
  obtain ⟨⟨a, b, c⟩, h1, h2⟩ := bsome h
  exact ⟨a, b, c, h1, h2⟩
section LWS
variable {p : Program} {l : Launch} {ev : Env} {R : Room} {s : State} {m : MethodId} {args : Array Value} {below : List Frame} {meth : Method} {c : Code} {H : Heap} {locs : List Loc} {cells slots mc B B' : Nat} {Q : State → Prop}
variable {cc : ByteArray} {pc nL idx dd : Nat} {ls : Array Slot} {rest st0 : List Value} {own : String} {D : va_G} {Y : Nat → ClassId} {ad : Nat → Nat} {G G' : GT} {q n : Nat} {f : Nat → Int32} {S : Nat → Nat → Int32} {rr : Nat → Nat}
theorem lm_v {Φ : State → Prop} {y : MethodName} {b : ByteArray} {n ar d m' N : Nat} {W0 : Nat → Int32} {ret : Option FieldType} {As : List Value} (F : Fx p c cc nL s m args own D Y) (hP : va_P D vwCl (wsC Y ad G) H) (hK : Ks ad (AW 90 ad) s s.heap) (hE : Le s) (hS : va_S (AW 90 ad) s.heap H locs) (hB : Bg mc cells slots B) (hΦ : PhB Φ) (hpre : ∀ U : State, U.heap = H → s.WarmedH U.vm → Φ U) (k : CKS y b n ret ar) (hl : Cond.methodLink own idx y ∈ LW)
    (hM : LM l y b n ret d m' D Y ad G Φ As (PA N W0 D Y ad G')) (hn : As.length = ar) (hsz : ls.size = nL) (hR : d + 1 ≤ dd ∧ 8 + (n + 11) + 40 * d ≤ 40 * dd) (hst : st0 = As.reverse ++ rest) (hcat : (rest.map fun v => v.category).sum ≤ 8) (hb : m' + B' ≤ B) (hdg : decode cc pc = .ok (.invokestatic idx, 3))
    (kk : ∀ (q : Nat) (H1 : Heap) (locs1 : List Loc) (cells1 slots1 : Nat), AI Y ad q N W0 H1 → s.heap.size ≤ q → (∀ z, z < H.size → z ≠ q) → va_P D vwCl (wsC Y ad G') H1 → va_S (AW 90 ad) s.heap H1 locs1 → Kp ad H H1 → Bg mc cells1 slots1 B' → W p l ev (rmD dd mc (16 * mc)) s m args below meth c H1 locs1 cells1 slots1 Q (F0 m (pc + 3) ls (.ref q :: rest))) : W p l ev (rmD dd mc (16 * mc)) s m args below meth c H locs cells slots Q (F0 m pc ls st0) := by
  refine lm_S F hP hK hE hS hB hΦ hpre k hl hM hn hsz hR hst hcat hb hdg (fun v st t H1 L1 c1 s1 e0 e hp hk hS1 hB1 => ?_)
  obtain ⟨q, rfl, hA, hq, hP1⟩ := hp
  rw [e0] at hq
  exact kk q H1 L1 c1 s1 (by rw [← e]; exact hA) (Nat.le_trans hS.1 hq) (fun z hz => by omega) (by rw [← e]; exact hP1) hS1 hk hB1
theorem lm_m {Φ : State → Prop} {y : MethodName} {b : ByteArray} {n ar d m' N : Nat} {S0 : Nat → Nat → Int32} {ret : Option FieldType} {As : List Value} (F : Fx p c cc nL s m args own D Y) (hP : va_P D vwCl (wsC Y ad G) H) (hK : Ks ad (AW 90 ad) s s.heap) (hE : Le s) (hS : va_S (AW 90 ad) s.heap H locs) (hB : Bg mc cells slots B) (hΦ : PhB Φ) (hpre : ∀ U : State, U.heap = H → s.WarmedH U.vm → Φ U) (k : CKS y b n ret ar) (hl : Cond.methodLink own idx y ∈ LW)
    (hM : LM l y b n ret d m' D Y ad G Φ As (PM N S0 D Y ad G')) (hn : As.length = ar) (hsz : ls.size = nL) (hR : d + 1 ≤ dd ∧ 8 + (n + 11) + 40 * d ≤ 40 * dd) (hst : st0 = As.reverse ++ rest) (hcat : (rest.map fun v => v.category).sum ≤ 8) (hb : m' + B' ≤ B) (hdg : decode cc pc = .ok (.invokestatic idx, 3))
    (kk : ∀ (q : Nat) (rr : Nat → Nat) (H1 : Heap) (locs1 : List Loc) (cells1 slots1 : Nat), MX Y ad q N rr S0 H1 → (s.heap.size ≤ q ∧ ∀ i, i < N → s.heap.size ≤ rr i) → (∀ z, z < H.size → z ≠ q) → (∀ i, i < N → ∀ z, z < H.size → z ≠ rr i) → va_P D vwCl (wsC Y ad G') H1 → va_S (AW 90 ad) s.heap H1 locs1 → Kp ad H H1 → Bg mc cells1 slots1 B' → W p l ev (rmD dd mc (16 * mc)) s m args below meth c H1 locs1 cells1 slots1 Q (F0 m (pc + 3) ls (.ref q :: rest))) : W p l ev (rmD dd mc (16 * mc)) s m args below meth c H locs cells slots Q (F0 m pc ls st0) := by
  refine lm_S F hP hK hE hS hB hΦ hpre k hl hM hn hsz hR hst hcat hb hdg (fun v st t H1 L1 c1 s1 e0 e hp hk hS1 hB1 => ?_)
  obtain ⟨q, rr, rfl, hA, hq, hr, hP1⟩ := hp
  rw [e0] at hq hr
  exact kk q rr H1 L1 c1 s1 (by rw [← e]; exact hA) ⟨Nat.le_trans hS.1 hq, fun i hi => Nat.le_trans hS.1 (hr i hi)⟩ (fun z hz => by omega) (fun i hi z hz => by have := hr i hi; omega) (by rw [← e]; exact hP1) hS1 hk hB1
theorem lm_l {Φ : State → Prop} {y : MethodName} {b : ByteArray} {n ar d m' : Nat} {r : Int64} {ret : Option FieldType} {As : List Value} (F : Fx p c cc nL s m args own D Y) (hP : va_P D vwCl (wsC Y ad G) H) (hK : Ks ad (AW 90 ad) s s.heap) (hE : Le s) (hS : va_S (AW 90 ad) s.heap H locs) (hB : Bg mc cells slots B) (hΦ : PhB Φ) (hpre : ∀ U : State, U.heap = H → s.WarmedH U.vm → Φ U) (k : CKS y b n ret ar) (hl : Cond.methodLink own idx y ∈ LW)
    (hM : LM l y b n ret d m' D Y ad G Φ As (PL r D Y ad G')) (hn : As.length = ar) (hsz : ls.size = nL) (hR : d + 1 ≤ dd ∧ 8 + (n + 11) + 40 * d ≤ 40 * dd) (hst : st0 = As.reverse ++ rest) (hcat : (rest.map fun v => v.category).sum ≤ 8) (hb : m' + B' ≤ B) (hdg : decode cc pc = .ok (.invokestatic idx, 3))
    (kk : ∀ (H1 : Heap) (locs1 : List Loc) (cells1 slots1 : Nat), va_P D vwCl (wsC Y ad G') H1 → va_S (AW 90 ad) s.heap H1 locs1 → Kp ad H H1 → Bg mc cells1 slots1 B' → W p l ev (rmD dd mc (16 * mc)) s m args below meth c H1 locs1 cells1 slots1 Q (F0 m (pc + 3) ls (.long r :: rest))) : W p l ev (rmD dd mc (16 * mc)) s m args below meth c H locs cells slots Q (F0 m pc ls st0) := by
  refine lm_S F hP hK hE hS hB hΦ hpre k hl hM hn hsz hR hst hcat hb hdg (fun v st t H1 L1 c1 s1 e0 e hp hk hS1 hB1 => ?_)
  obtain ⟨rfl, hP1⟩ := hp
  exact kk H1 L1 c1 s1 (by rw [← e]; exact hP1) hS1 hk hB1
theorem lm_enda {N : Nat} {W0 W1 : Nat → Int32} (F : Fx p c cc nL s m args own D Y) (hP : va_P D vwCl (wsC Y ad G) H) (hS : va_S (AW 90 ad) s.heap H locs) (hB : Bg mc cells slots B) (hr : meth.sig.returnType = some (.array .int)) (hk : meth.locks = false) (hA : AI Y ad q N W0 H) (hq : s.heap.size ≤ q) (h : some (W0, G) = some (W1, G')) (hdg : decode cc pc = .ok (.areturn, 1)) : W p l ev (rmD dd mc (16 * mc)) s m args below meth c H locs cells slots (MQ below (LQ (PA N W1 D Y ad G') (AW 90 ad)) args s mc (16 * mc) (AW 90 ad)) (F0 m pc ls [.ref q]) := by
  cases h
  refine W.widen (k := mc) (n := 16 * mc) (hB.hc (d := dd)).1 (hB.hc (d := dd)).2 ?_
  exact W.aret F.1.1 F.1.2.1 hr (Or.inr ⟨_, rfl⟩) (Or.inr ⟨_, rfl⟩) (fun t ht _ => ⟨_, rfl, ⟨q, rfl, by rw [ht]; exact hA, hq, by rw [ht]; exact hP⟩, hS.F ht⟩) hS.2.2 hdg hk
theorem lm_endm {N N1 : Nat} {S0 S1 : Nat → Nat → Int32} (F : Fx p c cc nL s m args own D Y) (hP : va_P D vwCl (wsC Y ad G) H) (hS : va_S (AW 90 ad) s.heap H locs) (hB : Bg mc cells slots B) (hr : meth.sig.returnType = some (.array (.array .int))) (hk : meth.locks = false) (hA : MX Y ad q N rr S0 H) (hq : s.heap.size ≤ q) (hf : ∀ i, i < N → s.heap.size ≤ rr i) (h : some (N, S0, G) = some (N1, S1, G')) (hdg : decode cc pc = .ok (.areturn, 1)) : W p l ev (rmD dd mc (16 * mc)) s m args below meth c H locs cells slots (MQ below (LQ (PM N1 S1 D Y ad G') (AW 90 ad)) args s mc (16 * mc) (AW 90 ad)) (F0 m pc ls [.ref q]) := by
  cases h
  refine W.widen (k := mc) (n := 16 * mc) (hB.hc (d := dd)).1 (hB.hc (d := dd)).2 ?_
  exact W.aret F.1.1 F.1.2.1 hr (Or.inr ⟨_, rfl⟩) (Or.inr ⟨_, rfl⟩) (fun t ht _ => ⟨_, rfl, ⟨q, rr, rfl, by rw [ht]; exact hA, hq, hf, by rw [ht]; exact hP⟩, hS.F ht⟩) hS.2.2 hdg hk
theorem lm_endl {v r : Int64} (F : Fx p c cc nL s m args own D Y) (hP : va_P D vwCl (wsC Y ad G) H) (hS : va_S (AW 90 ad) s.heap H locs) (hB : Bg mc cells slots B) (hr : meth.sig.returnType = some .long) (hk : meth.locks = false) (h : some (v, G) = some (r, G')) (hdg : decode cc pc = .ok (.lreturn, 1)) : W p l ev (rmD dd mc (16 * mc)) s m args below meth c H locs cells slots (MQ below (LQ (PL r D Y ad G') (AW 90 ad)) args s mc (16 * mc) (AW 90 ad)) (F0 m pc ls [.long v]) := by
  cases h
  refine W.widen (k := mc) (n := 16 * mc) (hB.hc (d := dd)).1 (hB.hc (d := dd)).2 ?_
  exact W.lret F.1.1 F.1.2.1 hr (fun t ht _ => ⟨_, rfl, ⟨rfl, by rw [ht]; exact hP⟩, hS.F ht⟩) hS.2.2 hdg hk
/-- rows of six -/
theorem nw_m {N : Nat} (F : Fx p c cc nL s m args own D Y) (hE : Le s) (hP : va_P D vwCl (wsC Y ad G) H) (hS : va_S (AW 90 ad) s.heap H locs) (hB : Bg mc cells slots B) {n : Int32} (hn : inb n 17) (hN : some n.toNatClampNeg = some N) (hb : 17 + B' ≤ B) (hclink : Cond.classLink own idx "[[I" ∈ LW) (harr : Cond.arrayClass .int ∈ LW) (hdg : decode cc pc = .ok (.multianewarray idx 2, 4))
    (kk : ∀ (q : Nat) (rr : Nat → Nat) (H1 : Heap) (cells1 slots1 : Nat), MX Y ad q N rr (fun _ _ => 0) H1 → s.heap.size ≤ q → (∀ i, i < N → s.heap.size ≤ rr i) → va_P D vwCl (wsC Y ad G) H1 → va_S (AW 90 ad) s.heap H1 locs → Kp ad H H1 → Bg mc cells1 slots1 B' → W p l ev (rmD dd mc (16 * mc)) s m args below meth c H1 locs cells1 slots1 Q (F0 m (pc + 4) ls (.ref q :: rest))) : W p l ev (rmD dd mc (16 * mc)) s m args below meth c H locs cells slots Q (F0 m pc ls (.int 6 :: .int n :: rest)) := by
  have hN := Option.some.inj hN
  have hn0 : ¬ n < 0 := Int32.not_lt.mpr hn.1
  have hN16 : N ≤ 16 := by
    have h1 := inbV hn (by decide)
    have h2 : n.toNatClampNeg < 17 := Nat.not_le.mp fun q => h1 (Or.inr q)
    omega
  intro T hT Xs
  have hB0 := hB
  unfold Bg at hB0
  obtain ⟨vm₁, cA, comp, fA, fC, X', step⟩ := mx_new Xs F.1.1 F.1.2.2.2.1 (F.1.2.2.2.2 _ hclink) hE.2.2 (F.1.2.2.2.2 _ harr) (g := F0 m pc ls (.int 6 :: .int n :: rest)) rfl (by rw [F.1.2.1]; exact hdg) rfl hn0 hN hN16 (by show cells + (1 + N) ≤ mc; omega) (by show slots + (N + 6 * N) ≤ 16 * mc; omega)
  have eA : Y 5 = cA := Option.some.inj ((F.2.1.2 5 _ rfl).2.symm.trans fA)
  have eC : Y 0 = comp := Option.some.inj ((F.2.1.2 0 _ rfl).2.symm.trans fC)
  subst eA
  subst eC
  have hTh : (T.setVm vm₁).heap = H := hT
  obtain ⟨f1, f2, -, -, hold, hrow⟩ := rwS_f (T.setVm vm₁) (Y 5) (Y 0) N N
  rw [hTh] at f1 f2 hold hrow
  generalize rwS (T.setVm vm₁) (Y 5) (Y 0) N N = F1 at X' step f1 f2 hold hrow
  have hq : ∀ k : Nat, H.size ≤ k → ¬ AW 90 ad k := fun k hk => notAW hP hk
  obtain ⟨t, a1, b1⟩ := kk H.size (fun i => H.size + 1 + i) F1.heap (cells + 1 + N) (slots + N + 6 * N) ⟨hq _ (Nat.le_refl _), f2, fun i hi => ⟨by show H.size + 1 + i ≠ H.size; omega, hq _ (by show H.size ≤ H.size + 1 + i; omega), hrow i hi⟩, fun i j _ _ e => by have e : H.size + 1 + i = H.size + 1 + j := e; omega, hN16⟩
    hS.1 (fun i hi => by have := hS.1; show s.heap.size ≤ H.size + 1 + i; omega) (ext_P hP hold) (kpS hS (by rw [f1]; omega) hold) ⟨by rw [f1]; omega, fun x hx _ => hold x hx⟩ (by unfold Bg; omega) F1 rfl X'
  refine ⟨t, step t ?_, b1⟩
  have e : T.heap.size = H.size := by rw [hT]
  rw [e]
  exact a1
def upN (f : Nat → Nat) (i v : Nat) : Nat → Nat := fun k => if k = i then v else f k
/-- a row of six is laid into the rows -/
theorem mx_ast {v : Nat} {W0 : Nat → Int32} (F : Fx p c cc nL s m args own D Y) (hE : Le s) (h : MX Y ad q n rr S H) (hv : AI Y ad v 6 W0 H) (hne : q ≠ v ∧ ∀ i, i < n → rr i ≠ v) (hq : s.heap.size ≤ q) {i : Int32} (hi0 : inb i n) (hdg : decode cc pc = .ok (.aastore, 1))
    (kk : ∀ H1 : Heap, MX Y ad q n (upN rr i.toNatClampNeg v) (upS S i.toNatClampNeg W0) H1 → Sk q H H1 → W p l ev R s m args below meth c H1 locs cells slots Q (F0 m (pc + 1) ls rest)) : W p l ev R s m args below meth c H locs cells slots Q (F0 m pc ls (.ref v :: .int i :: .ref q :: rest)) := by
  have hi : vp_in i n := inbV hi0 (by have := h.2.2.2.2; omega)
  have hlt : i.toNatClampNeg < n := Nat.not_le.mp fun q => hi (Or.inr q)
  have h0 : ¬ i < 0 := fun q => hi (Or.inl q)
  obtain ⟨comp, c5, k5, g1, g2, g3, g4, g5⟩ := arrayOverA_spec (AOI.use (A := #[]) hE.2.2)
  have e5 : c5 = Y 5 := Option.some.inj (g5.symm.trans (F.2.1.2 5 _ rfl).2)
  have e0 : comp = Y 0 := Option.some.inj (g1.symm.trans (F.2.1.2 0 _ rfl).2)
  subst e5
  subst e0
  obtain ⟨k0, hk0, -⟩ := Vm.findClass_spec g1
  refine W.aast (comp := Y 0) (t := .array .int) (k := k5) (kv := k0) (kcomp := k0) F.1.1 F.1.2.1 h.2.1 (fun q h => by cases h) (fun h => by cases h) g3 g4 rfl hk0 ⟨h0, by show _ < (arrV _ _ _).slots.size; rw [arrV_size]; exact hlt⟩ hv.2 (fun q h => by cases h) hk0 (by show s.vm.assignableAux (255 + 1) (Y 0) (Y 0) = true; rw [Vm.assignableAux]; simp only [beq_self_eq_true, Bool.true_or]) rfl rfl hdg fun H1 e z oq => ?_
  have hsk : Sk q H H1 := ⟨z, oq⟩
  refine drop1 hq (kk H1 ⟨h.1, ?_, fun j hj => ?_, fun a b ha hb hab => ?_, h.2.2.2.2⟩ hsk)
  · rw [e]
    rw [vp_cell_q, vp_cell_q, arrV_store]
    congr 2
    funext j
    by_cases hj : j = i.toNatClampNeg
    · subst hj
      simp [updV, rwR, upN, hlt, va_rf]
    · simp [updV, rwR, upN, hj]
  · by_cases e : j = i.toNatClampNeg
    · subst e
      simp only [upN, upS, if_pos]
      exact ⟨Ne.symm hne.1, hv.sk hsk (Ne.symm hne.1)⟩
    · simp only [upN, upS, if_neg e]
      exact ⟨(h.2.2.1 j hj).1, (h.2.2.1 j hj).2.sk hsk (h.2.2.1 j hj).1⟩
  · unfold upN at hab
    by_cases e1 : a = i.toNatClampNeg
    · by_cases e2 : b = i.toNatClampNeg
      · omega
      · rw [if_pos e1, if_neg e2] at hab
        exact absurd hab.symm (hne.2 b hb)
    · by_cases e2 : b = i.toNatClampNeg
      · rw [if_neg e1, if_pos e2] at hab
        exact absurd hab (hne.2 a ha)
      · rw [if_neg e1, if_neg e2] at hab
        exact h.2.2.2.1 a b ha hb hab
theorem upN_f {A : Nat → Prop} {f : Nat → Nat} {i v : Nat} (h : ∀ j, j < n → A (f j)) (hv : A v) : ∀ j, j < n → A (upN f i v j) := fun j hj => by
  unfold upN
  by_cases e : j = i
  · rw [if_pos e]; exact hv
  · rw [if_neg e]; exact h j hj
end LWS
/-! the script -/
def PhX (ad : Nat → Nat) (b L : Nat) (xs : Nat → Int32) : State → Prop := fun U => va_X b L xs U U.heap ∧ b < U.heap.size ∧ ¬ AW 90 ad b ∧ L ≤ 260
theorem phX_b {ad : Nat → Nat} {b L : Nat} {xs : Nat → Int32} : PhB (PhX ad b L xs) := fun U g mk a h => ⟨va_X.moved (u := U) (U := U.calling g mk a) (Vm.Alike.refl U.vm) h.1, h.2⟩
theorem phX_o {ad : Nat → Nat} {b L : Nat} {xs : Nat → Int32} {s : State} {H : Heap} {locs : List Loc} (h : PhX ad b L xs s) (hS : va_S (AW 90 ad) s.heap H locs) : ∀ U : State, U.heap = H → s.WarmedH U.vm → PhX ad b L xs U := fun U hU hW => by
  unfold PhX
  rw [hU]
  exact ⟨va_X.moved hW.alike (h.1.kept (hS.2.1 b h.2.1 h.2.2.1)), Nat.lt_of_lt_of_le h.2.1 hS.1, h.2.2⟩
