/-! what class and reference have alike between two calls -/
def pg (K : GT) (i : Nat) : Nat → Int32 := fun j => K 4 (67 * i + j)
def Rp (G K : GT) : Prop := Pr G 0 (K 1) ∧ Inv (K 1)
def Rv (G K : GT) : Prop := G 77 10 = K 0 3 ∧ (K 0 3 = iI 0 ∨ (K 0 3 = iI 1 ∧ Pr G 7 (K 3) ∧ Inv (K 3)))
def Rj (G K : GT) : Prop := G 78 1 = K 0 7 ∧ G 78 2 = K 0 8
def Rl (G K : GT) : Prop := ∃ n : Nat, n ≤ 32 ∧ G 82 2 = iI n ∧ K 0 11 = iI n ∧ ∀ j, j < n → G 83 j = K 5 j ∧ okC (K 5 j)
def Rt (G K : GT) : Prop := G 84 6 = K 0 16 ∧ ∃ n : Nat, n ≤ 60 ∧ G 84 3 = iI n ∧ K 0 13 = iI n ∧ ∀ j, j < n → G 85 j = K 6 j ∧ okC (K 6 j)
def Hs (G K : GT) : Prop := ∃ nx c : Nat, nx < 8 ∧ c ≤ 8 ∧ G 88 1 = iI nx ∧ G 88 2 = iI c ∧ K 0 5 = iI c ∧ ∀ i, i < c → Pr G (7 * (3 + (nx + 8 - c + i) % 8)) (pg K i) ∧ Inv (pg K i)
def Rel (G K : GT) : Prop := Rp G K ∧ Rv G K ∧ Rj G K ∧ Rl G K ∧ Rt G K ∧ Hs G K
section PL
variable {G G' K K' : GT}
theorem Rv_frame (h : Rv G K) (h1 : ∀ i, 7 ≤ i → i < 14 → G' i = G i) (h2 : G' 77 = G 77) (h3 : K' 0 3 = K 0 3) (h4 : K' 3 = K 3) : Rv G' K' := by
  unfold Rv at *
  rw [h2, h3, h4]
  refine ⟨h.1, h.2.imp id fun h5 => ⟨h5.1, Pr_frame (fun i a b => h1 i (by omega) (by omega)) h5.2.1, h5.2.2⟩⟩
theorem Rj_frame (h : Rj G K) (h1 : G' 78 = G 78) (h2 : K' 0 7 = K 0 7) (h3 : K' 0 8 = K 0 8) : Rj G' K' := by
  unfold Rj at *
  rw [h1, h2, h3]; exact h
theorem Rl_frame (h : Rl G K) (h1 : G' 82 = G 82) (h2 : G' 83 = G 83) (h3 : K' 0 11 = K 0 11) (h4 : K' 5 = K 5) : Rl G' K' := by
  unfold Rl at *
  rw [h1, h2, h3, h4]; exact h
theorem Rt_frame (h : Rt G K) (h1 : G' 84 3 = G 84 3) (h5 : G' 84 6 = G 84 6) (h2 : G' 85 = G 85) (h3 : K' 0 13 = K 0 13) (h6 : K' 0 16 = K 0 16) (h4 : K' 6 = K 6) : Rt G' K' := by
  unfold Rt at *
  rw [h1, h5, h2, h3, h4, h6]; exact h
theorem Hs_frame (h : Hs G K) (h1 : ∀ i, 21 ≤ i → i < 77 → G' i = G i) (h2 : G' 88 = G 88) (h3 : K' 0 5 = K 0 5) (h4 : K' 4 = K 4) : Hs G' K' := by
  unfold Hs pg at *
  rw [h2, h3, h4]
  obtain ⟨nx, c, a1, a2, a3, a4, a5, a6⟩ := h
  exact ⟨nx, c, a1, a2, a3, a4, a5, fun i hi => ⟨Pr_frame (fun q b1 b2 => h1 q (by omega) (by omega)) (a6 i hi).1, (a6 i hi).2⟩⟩
theorem Rel_th (h : Rel G K) (x : Int32) : Rel G (th K x) := h
/-- a call that is refused, or fails: the reference's rows come back -/
theorem Rel_fail (h : Rel G K) (hG : G' = G ∨ ∃ x : Nat → Int32, G' = upR G 78 x ∧ x 1 = K' 0 7 ∧ x 2 = K' 0 8) (hJ : G' = G → K' 0 7 = K 0 7 ∧ K' 0 8 = K 0 8) (h3 : K' 0 3 = K 0 3) (h5 : K' 0 5 = K 0 5) (h11 : K' 0 11 = K 0 11) (h13 : K' 0 13 = K 0 13) (h16 : K' 0 16 = K 0 16) (h1 : ∀ j, j < 67 → K' 1 j = K 1 j) (hK : ∀ i, 3 ≤ i → i < 7 → K' i = K i) : Rel G' K' := by
  obtain ⟨a1, a2, a3, a4, a5, a6⟩ := h
  have g : ∀ i, i ≠ 78 → G' i = G i := by
    rcases hG with rfl | ⟨x, rfl, -⟩
    · intro i _; rfl
    · intro i hi; exact upR_ne _ _ hi
  refine ⟨⟨Pr_ext (fun i hi => (h1 i hi).symm) (Pr_frame (fun i _ _ => g i (by omega)) a1.1), Inv_ext (fun i hi => (h1 i hi).symm) a1.2⟩, Rv_frame a2 (fun i _ _ => g i (by omega)) (g _ (by decide)) h3 (hK 3 (by omega) (by omega)), ?_, Rl_frame a4 (g _ (by decide)) (g _ (by decide)) h11 (hK 5 (by omega) (by omega)), Rt_frame a5 (by rw [g 84 (by decide)]) (by rw [g 84 (by decide)]) (g _ (by decide)) h13 h16 (hK 6 (by omega) (by omega)), Hs_frame a6 (fun i _ _ => g i (by omega)) (g _ (by decide)) h5 (hK 4 (by omega) (by omega))⟩
  by_cases e : G' = G
  · rw [e]
    exact Rj_frame a3 rfl (hJ e).1 (hJ e).2
  · rcases hG with h6 | ⟨x, rfl, h6, h7⟩
    · exact absurd h6 e
    · exact ⟨by rw [upR_at]; exact h6, by rw [upR_at]; exact h7⟩
/-- the history, when the class keeps a page and the reference a row -/
theorem Hs_keep {nx c : Nat} {s : Nat → Int32} (a1 : nx < 8) (a2 : c ≤ 8) (a6 : ∀ i, i < c → Pr G (7 * (3 + (nx + 8 - c + i) % 8)) (pg K i) ∧ Inv (pg K i)) (g1 : Pr G' (7 * (3 + nx)) s) (g0 : Inv s) (g2 : ∀ i, 21 ≤ i → i < 77 → (i < 7 * (3 + nx) ∨ 7 * (3 + nx) + 7 ≤ i) → G' i = G i) (g3 : G' 88 1 = iI (((nx + 1) % 8 : Nat) : Int)) (g4 : G' 88 2 = iI ((min (c + 1) 8 : Nat) : Int)) (k1 : K' 0 5 = iI ((min (c + 1) 8 : Nat) : Int)) (k2 : c < 8 → ∀ k, k < 67 * c → K' 4 k = K 4 k) (k3 : c = 8 → ∀ k, k < 469 → K' 4 k = K 4 (67 + k)) (k4 : ∀ k, k < 67 → K' 4 (67 * min c 7 + k) = s k) : Hs G' K' := by
  refine ⟨(nx + 1) % 8, min (c + 1) 8, by omega, by omega, g3, g4, k1, fun i hi => ?_⟩
  by_cases hl : i = min c 7
  · have e : ((nx + 1) % 8 + 8 - min (c + 1) 8 + i) % 8 = nx := by omega
    have e2 : ∀ k, k < 67 → s k = pg K' i k := fun k hk => by rw [← k4 k hk, hl]; rfl
    rw [e]
    exact ⟨Pr_ext e2 g1, Inv_ext e2 g0⟩
  · by_cases h8 : c < 8
    · have e : ((nx + 1) % 8 + 8 - min (c + 1) 8 + i) % 8 = (nx + 8 - c + i) % 8 := by omega
      have e2 : ∀ k, k < 67 → pg K i k = pg K' i k := fun k hk => (k2 h8 (67 * i + k) (by omega)).symm
      have h := a6 i (by omega)
      rw [e]
      exact ⟨Pr_ext e2 (Pr_frame (fun q b1 b2 => g2 q (by omega) (by omega) (by omega)) h.1), Inv_ext e2 h.2⟩
    · have hc : c = 8 := by omega
      have e : ((nx + 1) % 8 + 8 - min (c + 1) 8 + i) % 8 = (nx + 8 - c + (i + 1)) % 8 := by omega
      have e2 : ∀ k, k < 67 → pg K (i + 1) k = pg K' i k := fun k hk => by
        have := k3 hc (67 * i + k) (by omega)
        unfold pg
        rw [this]
        congr 1
        omega
      have h := a6 (i + 1) (by omega)
      rw [e]
      exact ⟨Pr_ext e2 (Pr_frame (fun q b1 b2 => g2 q (by omega) (by omega) (by omega)) h.1), Inv_ext e2 h.2⟩
end PL
