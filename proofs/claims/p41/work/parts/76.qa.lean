/-! the orders of a text carried out -/
section QA
variable {G K : GT}
theorem bz2 {α : Type} (r : Int32) (X : GT) (f : Int32 → GT → Option α) : bind2 (some (r, X)) f = f r X := rfl
theorem cot_s (f : Nat) (G : GT) (x : Int32) : f_X9_carryOutText_2 (f + 1) G x = ((f_X8_countOfOrders G ).bind fun r1 => (if r1 ≤ x then some ((0 : Int32), G) else (bind2 (f_X8_orderAt G x) fun r3 G3 => (ncase r3 (((f_X8_numberAt G3 x (0 : Int32)).bind fun r6 => ((f_X8_numberAt G3 x (1 : Int32)).bind fun r7 => ((f_X8_numberAt G3 x (2 : Int32)).bind fun r8 => none)))) fun k4 => (if k4 < 8 then ((f_X8_numberAt G3 x (0 : Int32)).bind fun r9 => ((f_X8_numberAt G3 x (1 : Int32)).bind fun r10 => ((f_X8_numberAt G3 x (2 : Int32)).bind fun r11 => (bind2 (f_X1_verdict G3 k4 r9 r10 r11) fun r12 G12 => (if r12 = 0 then (bind2 (f_X1_carryOut G12 k4 r9 r10 r11) fun r14 G14 => f_X9_carryOutText_2 f G14 (x + 1)) else some (r12, G12)))))) else none))))) := rfl
/-- what holds while a text is carried out -/
def MF (Gs Ks Gc Km : GT) : Prop := (∀ j, 7 ≤ j → j ≠ 78 → Gc j = Gs j) ∧ Rj Gc Km ∧ (∀ j, j ≠ 6 → j ≠ 7 → j ≠ 8 → j ≠ 9 → Km 0 j = Ks 0 j) ∧ (∀ i, 2 ≤ i → Km i = Ks i)
def MI (Gs Ks Gc Km : GT) : Prop := Pr Gc 0 (Km 1) ∧ Inv (Km 1) ∧ Km 0 6 = iI 0 ∧ MF Gs Ks Gc Km
/-- a text read: what is there after it -/
def rdg (X : GT) (s : Int32) : GT := upR X 84 (upd (upd (X 84) 6 s) 3 (iI 0))
theorem c_read28 (X : GT) {r : Int32} (s : Int32) (hr : okB r) : f_X8_read_28 X r s = some (r, rdg X s) := by
  unfold f_X8_read_28 rdg
  rw [Option.bind_some, Option.bind_some, upR_upR, upR_at, if_pos hr]
  rfl
theorem c_read0 (G : GT) : f_X8_read G = (bind2 (f_X8_readOrders_2 4096 (tc G 0 0 (G 86) (G 87)) (0 : Int32)) fun r6 G6 => (if r6 = 0 then f_X8_read_28 G6 r6 (G6 84 4) else f_X8_read_28 G6 r6 (-1 : Int32))) := by
  have e : upR (upR G 84 (upd (G 84) 4 0)) 84 (upd (upR G 84 (upd (G 84) 4 0) 84) 5 0) = tc G 0 0 (G 86) (G 87) := by
    refine tc_eq (X := G 86) (Y := G 86) ?_ ?_ ?_ fun i h1 h2 h3 => ?_
    · rw [upR_at, upR_at]; rfl
    · rw [upR_ne _ _ (by decide), upR_ne _ _ (by decide)]
    · rw [upR_ne _ _ (by decide), upR_ne _ _ (by decide)]
    · rw [upR_ne _ _ h1, upR_ne _ _ h1]
  unfold f_X8_read f_X8_readOrders
  rw [Option.bind_some, Option.bind_some, e]
/-- the relation after a text is read -/
theorem Rel_text (hR : Rel G K) {G' K' : GT} (g : ∀ i, i ≠ 84 → i ≠ 86 → i ≠ 87 → G' i = G i) (g3 : G' 84 3 = iI 0) (g6 : G' 84 6 = K' 0 16) (z0 : ∀ j, j ≠ 6 → j ≠ 13 → j ≠ 14 → j ≠ 15 → j ≠ 16 → j ≠ 18 → K' 0 j = K 0 j) (z13 : K' 0 13 = iI 0) (z1 : ∀ i, i ≠ 0 → i ≠ 7 → K' i = K i) : Rel G' K' := by
  obtain ⟨⟨hP, hI⟩, a2, a3, a4, a5, a6⟩ := hR
  exact ⟨⟨by rw [z1 1 (by decide) (by decide)]; exact Pr_frame (fun i h1 h2 => g i (by omega) (by omega) (by omega)) hP, by rw [z1 1 (by decide) (by decide)]; exact hI⟩, Rv_frame a2 (fun i h1 h2 => g i (by omega) (by omega) (by omega)) (g 77 (by decide) (by decide) (by decide)) (z0 3 (by decide) (by decide) (by decide) (by decide) (by decide) (by decide)) (z1 3 (by decide) (by decide)), Rj_frame a3 (g 78 (by decide) (by decide) (by decide)) (z0 7 (by decide) (by decide) (by decide) (by decide) (by decide) (by decide)) (z0 8 (by decide) (by decide) (by decide) (by decide) (by decide) (by decide)), Rl_frame a4 (g 82 (by decide) (by decide) (by decide)) (g 83 (by decide) (by decide) (by decide)) (z0 11 (by decide) (by decide) (by decide) (by decide) (by decide) (by decide)) (z1 5 (by decide) (by decide)), ⟨g6, 0, by omega, g3, z13, fun j hj => by omega⟩, Hs_frame a6 (fun i h1 h2 => g i (by omega) (by omega) (by omega)) (g 88 (by decide) (by decide) (by decide)) (z0 5 (by decide) (by decide) (by decide) (by decide) (by decide) (by decide)) (z1 4 (by decide) (by decide))⟩
/-- the reference's state behind the reading -/
def r90 (X : GT) (s : Int32) : GT := upR X 0 (upd (upd (X 0) 16 s) 13 (iI 0))
theorem i00 : iI ((0 : Nat) : Int) = (0 : Int32) := rfl
theorem c_41 (X : GT) {v : Int} (hv : v = 1 ∨ v = 2 ∨ v = 3) : f_X9_run_41 X (iI v) = some (.inl (if v = 3 then 2 else 1), X) := by
  obtain rfl | rfl | rfl := hv <;> rfl
end QA
