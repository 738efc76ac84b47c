/-! a whole text -/
def Gd (m : Nat) (O N Om : Nat → Int32) : Prop := ∀ i, i < m → ∃ o, o < 8 ∧ O i = iI ((o + 1 : Nat) : Int) ∧ Om (4 * i) = iI (kmO o) ∧ ∀ r, r < (dgL o).length → N (3 * i + r) = Om (4 * i + 1 + r)
section PZ
variable {G K : GT} {n p c m : Nat} {O N : Nat → Int32}
theorem rds_s (f : Nat) (G : GT) (x : Int32) : f_X8_readOrders_2 (f + 1) G x = (if (12 : Int32) ≤ x then some ((0 : Int32), G) else (bind2 (f_X8_readOrder G) fun r2 G2 => (if r2 = 0 then some ((0 : Int32), G2) else (if (G2 84 4) = (G2 84 3) then some ((1 : Int32), G2) else (bind2 (f_X8_take G2 (59 : Int32)) fun r5 G5 => (if r5 = 0 then some ((0 : Int32), G5) else f_X8_readOrders_2 f G5 (x + 1))))))) := rfl
theorem Gd_1 {Om O' N' Om' : Nat → Int32} {o : Nat} (h : Gd m O N Om) (ho : o < 8) (e : O' = upd O m (iI ((o + 1 : Nat) : Int))) (h1 : Om' (4 * m) = iI (kmO o)) (h2 : ∀ k, k < 3 * m → N' k = N k) (h3 : ∀ k, k < 4 * m → Om' k = Om k) (h4 : ∀ r, r < (dgL o).length → N' (3 * m + r) = Om' (4 * m + 1 + r)) : Gd (m + 1) O' N' Om' := by
  intro i hi
  by_cases hm : i = m
  · subst hm
    exact ⟨o, ho, by rw [e, upd_at], h1, h4⟩
  · obtain ⟨q, q1, q2, q3, q4⟩ := h i (by omega)
    have hq := (wd_d q q1).2.1
    refine ⟨q, q1, by rw [e, upd_ne _ _ hm, q2], by rw [h3 _ (by omega), q3], fun r hr => ?_⟩
    rw [h2 _ (by omega), h3 _ (by omega)]
    exact q4 r hr
/-! append -/
end PZ
