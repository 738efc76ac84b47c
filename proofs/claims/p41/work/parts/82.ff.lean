/-! another height, as rows -/
section FF
variable {G : GT} {s : Nat → Int32}
def rh (s : Nat → Int32) (k : Nat) (h : Int) : Nat → Int32 := upd s (20 + 3 * k) (iI h)
def npc (s : Nat → Int32) (k : Nat) (h : Int) : Int := if ht s k < 0 then -1 else (ky s (tn s k).toNat + h) % 12
def SK (s : Nat → Int32) (k : Nat) (h : Int) : Nat → Nat → Int32 := upS (SS s (ns s)) k (upd (SS s (ns s) k) 3 (iI (npc s k h)))
theorem upS_upS (S : Nat → Nat → Int32) (i : Nat) (f g : Nat → Int32) : upS (upS S i f) i g = upS S i g := by
  funext k
  unfold upS
  by_cases h : k = i
  · rw [if_pos h, if_pos h]
  · rw [if_neg h, if_neg h, if_neg h]
theorem upS_at (S : Nat → Nat → Int32) (i : Nat) (f : Nat → Int32) : upS S i f i = f := if_pos rfl
theorem upS_ne (S : Nat → Nat → Int32) {i j : Nat} (f : Nat → Int32) (h : j ≠ i) : upS S i f j = S j := if_neg h
theorem upS_self (S : Nat → Nat → Int32) (i : Nat) : upS S i (S i) = S := by
  funext k
  unfold upS
  by_cases h : k = i
  · rw [if_pos h, h]
  · rw [if_neg h]
theorem SK_set (s : Nat → Int32) (k : Nat) (h h2 : Int) : upS (SK s k h) k (upd (SK s k h k) 3 (iI (npc s k h2))) = SK s k h2 := by
  unfold SK
  rw [upS_at, upS_upS, upd_upd]
theorem SK_back {k : Nat} (hk : k < ns s) (h : Int) : upS (SK s k h) k (upd (SK s k h k) 3 (iI (pc s k))) = SS s (ns s) := by
  unfold SK
  rw [upS_at, upS_upS, upd_upd, ← (RW_SS s (ns s) k hk).2.2.1, upd_self, upS_self]
theorem SK_0 {k : Nat} (hk : k < ns s) (h : Int) : SK s k h k 0 = iI (tn s k) := by
  unfold SK
  rw [upS_at, upd_ne _ _ (by decide), (RW_SS s (ns s) k hk).1]
theorem rh_f {k : Nat} (hI : Inv s) (hk : k < ns s) (h : Int) : ns (rh s k h) = ns s ∧ nb (rh s k h) = nb s ∧ lm (rh s k h) = lm s ∧ (∀ i, i < 6 → sz (rh s k h) i = sz s i) ∧ (∀ t, t < 4 → ky (rh s k h) t = ky s t) ∧ (∀ j, tn (rh s k h) j = tn s j) ∧ (∀ j, ln (rh s k h) j = ln s j) ∧ (∀ j, j ≠ k → ht (rh s k h) j = ht s j) := by
  unfold rh
  refine ⟨?_, ?_, ?_, fun i hi => row_sz (upd_ne _ _ (by omega)), fun t ht => row_ky (upd_ne _ _ (by omega)), fun j => row_tn (upd_ne _ _ (by omega)), fun j => row_ln (upd_ne _ _ (by omega)), fun j hj => row_ht (upd_ne _ _ (by omega))⟩
  · unfold ns; rw [upd_ne _ _ (by omega)]
  · unfold nb; rw [upd_ne _ _ (by omega)]
  · exact row_lm (upd_ne _ _ (by omega))
theorem rh_ht (s : Nat → Int32) (k : Nat) {h : Int} (hh : 0 ≤ h ∧ h ≤ 9) : ht (rh s k h) k = h := ht_at (upd_at _ _ _) (by unfold R32; omega)
theorem Vr_h (hI : Inv s) {k : Nat} (hk : k < ns s) (hd : 0 ≤ ht s k) {h : Int} (hh : 0 ≤ h ∧ h ≤ 9) : Vr s (rh s k h) (SK s k h) := by
  obtain ⟨f1, f2, f3, f4, f5, f6, f7, f8⟩ := rh_f hI hk h
  have h6 := hI.nb6
  have eS : ∀ j, bS (rh s k h) j = bS s j := fun j => sm_ext fun i _ => f7 i
  have eB : ∀ b, b ≤ 6 → bB (rh s k h) b = bB s b := fun b hb => sm_ext fun i hi => f4 i (by omega)
  have eo : ∀ j b, b < 6 → ov (rh s k h) j b = ov s j b := fun j b hb => by
    unfold ov
    rw [eS, eS, eB b (by omega), eB (b + 1) (by omega)]
  have ej : ∀ j, pj (rh s k h) j = pj s j := fun j => by
    unfold pj
    rw [f2]
    exact sm_ext fun b hb => by rw [eo j b (by omega)]
  refine ⟨Inv7n hI hk hh, f1, f2, f3, fun i hi => f4 i (by omega), fun j hj => ?_⟩
  rw [f1] at hj
  obtain ⟨w0, w2, w3, w4, w5⟩ := RW_SS s (ns s) j hj
  have hdj := hI.sd hj
  rw [f6, f7, eS, ej]
  by_cases hjk : j = k
  · subst hjk
    have ep : pc (rh s j h) j = npc s j h := by
      unfold pc npc pt
      rw [rh_ht s j hh, f6, f5 _ (by omega), if_neg (by omega), if_neg (by omega)]
    rw [ep]
    unfold SK
    rw [upS_at]
    exact ⟨(upd_ne _ _ (by decide)).trans w0, (upd_ne _ _ (by decide)).trans w2, upd_at _ _ _, (upd_ne _ _ (by decide)).trans w4, (upd_ne _ _ (by decide)).trans w5⟩
  · have ep : pc (rh s k h) j = pc s j := by
      unfold pc pt
      rw [f8 j hjk, f6, f5 _ (by omega)]
    rw [ep]
    unfold SK
    rw [upS_ne _ _ hjk]
    exact ⟨w0, w2, w3, w4, w5⟩
theorem Vr_r (hI : Inv s) {k : Nat} (hk : k < ns s) (hd : ht s k < 0) (h : Int) : Vr s s (SK s k h) := by
  have e : SK s k h = SS s (ns s) := by
    have e1 : npc s k h = pc s k := by unfold npc pc; rw [if_pos hd, if_pos hd]
    unfold SK
    rw [e1, ← (RW_SS s (ns s) k hk).2.2.1, upd_self, upS_self]
  rw [e]
  exact Vr_0 hI
/-- the faults with another height of a sound: of a rest, the faults -/
def mw (s : Nat → Int32) (k : Nat) (h : Int) : Int := if ht s k < 0 then ft s else wf s k h
theorem L_many (hP : Pr G 0 s) (hI : Inv s) {k : Nat} (hk : k < ns s) {h : Int} (hh : 0 ≤ h ∧ h ≤ 9) : f_L_allFaults G (ns s) (SK s k h) = some (iI (mw s k h), G) := by
  unfold mw
  by_cases hd : ht s k < 0
  · rw [if_pos hd]
    exact L_allF hP hI (Vr_r hI hk hd h)
  · rw [if_neg hd]
    have hV := Vr_h hI hk (by omega) hh
    have e := L_allF hP hI hV
    rw [hV.2.1] at e
    exact e
theorem mw_r (hI : Inv s) {k : Nat} (hk : k < ns s) {h : Int} (hh : 0 ≤ h ∧ h ≤ 9) : 0 ≤ mw s k h ∧ mw s k h ≤ 64 := by
  unfold mw
  by_cases hd : ht s k < 0
  · rw [if_pos hd]; exact ft_r hI
  · rw [if_neg hd]; exact wf_r hI hk hh
/-- the best of the first heights, of any count -/
def bm (f : Int → Int) : Nat → Int
  | 0 => 0
  | n + 1 => if f ((n + 1 : Nat) : Int) < f (bm f n) then ((n + 1 : Nat) : Int) else bm f n
theorem bm_r (f : Int → Int) : ∀ n, 0 ≤ bm f n ∧ bm f n ≤ n := by
  intro n
  induction n with
  | zero => exact ⟨Int.le_refl 0, Int.le_refl 0⟩
  | succ n ih =>
    have e : bm f (n + 1) = if f ((n + 1 : Nat) : Int) < f (bm f n) then ((n + 1 : Nat) : Int) else bm f n := rfl
    rw [e]
    by_cases h1 : f ((n + 1 : Nat) : Int) < f (bm f n)
    · rw [if_pos h1]; omega
    · rw [if_neg h1]; omega
theorem bm_bh {k : Nat} (hd : 0 ≤ ht s k) : ∀ n, bm (mw s k) n = bh s k n := by
  have e0 : ∀ h, mw s k h = wf s k h := fun h => if_neg (by omega)
  intro n
  induction n with
  | zero => rfl
  | succ n ih =>
    have e : bm (mw s k) (n + 1) = if mw s k ((n + 1 : Nat) : Int) < mw s k (bm (mw s k) n) then ((n + 1 : Nat) : Int) else bm (mw s k) n := rfl
    have e2 : bh s k (n + 1) = if wf s k ((n + 1 : Nat) : Int) < wf s k (bh s k n) then ((n + 1 : Nat) : Int) else bh s k n := rfl
    rw [e, e2, ih, e0, e0]
/-! the first fault -/
def flt (s : Nat → Int32) (q N : Nat) : Nat → Int
  | 0 => -13
  | t + 1 => if vv s q (N - 1 - t) = 1 then ((N - 1 - t : Nat) : Int) else flt s q N t
theorem flt_r (s : Nat → Int32) (q N : Nat) : ∀ t, t ≤ N → (flt s q N t = -13 ∧ ∀ i, N - t ≤ i → i < N → vv s q i ≠ 1) ∨ ∃ i, N - t ≤ i ∧ i < N ∧ flt s q N t = i ∧ vv s q i = 1 ∧ ∀ k, N - t ≤ k → k < i → vv s q k ≠ 1 := by
  intro t
  induction t with
  | zero => intro _; exact Or.inl ⟨rfl, fun i h1 h2 => by omega⟩
  | succ t ih =>
    intro ht
    have e : flt s q N (t + 1) = if vv s q (N - 1 - t) = 1 then ((N - 1 - t : Nat) : Int) else flt s q N t := rfl
    rw [e]
    by_cases h1 : vv s q (N - 1 - t) = 1
    · rw [if_pos h1]
      exact Or.inr ⟨N - 1 - t, by omega, by omega, rfl, h1, fun k h2 h3 => by omega⟩
    · rw [if_neg h1]
      rcases ih (by omega) with ⟨h2, h3⟩ | ⟨i, h2, h3, h4, h5, h6⟩
      · refine Or.inl ⟨h2, fun i h4 h5 => ?_⟩
        by_cases h6 : i = N - 1 - t
        · rw [h6]; exact h1
        · exact h3 i (by omega) h5
      · refine Or.inr ⟨i, by omega, h3, h4, h5, fun k h7 h8 => ?_⟩
        by_cases h9 : k = N - 1 - t
        · rw [h9]; exact h1
        · exact h6 k (by omega) h8
theorem flt_fs (s : Nat → Int32) (q : Nat) : flt s q (pl s q) (pl s q) = if fs s q < 0 then -13 else fs s q := by
  unfold fs
  rcases flt_r s q (pl s q) (pl s q) (Nat.le_refl _) with ⟨h2, h3⟩ | ⟨i, h2, h3, h4, h5, h6⟩
  · obtain ⟨g1, g2, g3⟩ := ff_r (fun j => vv s q j = 1) (pl s q)
    have : ¬ ff (fun j => vv s q j = 1) (pl s q) < pl s q := fun h => h3 _ (by omega) h (g3 h)
    rw [if_neg this, h2]
    rfl
  · have e : ff (fun j => vv s q j = 1) (pl s q) = i := ff_eq h3 h5 (fun k hk => h6 k (by omega) hk)
    rw [e, if_pos h3, if_neg (by omega), h4]
end FF
