/-! a whole text -/
def Gd (m : Nat) (O N Om : Nat → Int32) : Prop := ∀ i, i < m → ∃ o, o < 8 ∧ O i = iI ((o + 1 : Nat) : Int) ∧ Om (4 * i) = iI (kmO o) ∧ ∀ r, r < (dgL o).length → N (3 * i + r) = Om (4 * i + 1 + r)
section PZ
variable {G K : GT} {n p c m : Nat} {O N : Nat → Int32}
theorem rds_s (f : Nat) (G : GT) (x : Int32) : f_X8_readOrders_2 (f + 1) G x = (if (12 : Int32) ≤ x then some ((0 : Int32), G) else (bind2 (f_X8_readOrder G) fun r2 G2 => (if r2 = 0 then some ((0 : Int32), G2) else (if (G2 84 4) = (G2 84 3) then some ((1 : Int32), G2) else (bind2 (f_X8_take G2 (59 : Int32)) fun r5 G5 => (if r5 = 0 then some ((0 : Int32), G5) else f_X8_readOrders_2 f G5 (x + 1))))))) := rfl
theorem run_s (f : Nat) (G : GT) : f_X10_run_19 (f + 1) G = ((f_X10_isHere G (59 : Int32) (59 : Int32)).bind fun r17 => (if r17 = 0 then (if (G 0 15) = 0 then (if (G 0 13) ≤ (G 0 14) then f_X10_run_71 G (0 : Int32) else f_X10_run_66 G) else f_X10_run_66 G) else ((some (upR G 0 (upd (G 0) 14 ((G 0 14) + (1 : Int32))))).bind fun G21 => ((f_X10_readOrder G21).bind fun G22 => f_X10_run_19 f G22)))) := rfl
theorem Gd_1 {Om O' N' Om' : Nat → Int32} {o : Nat} (h : Gd m O N Om) (ho : o < 8) (e : O' = upd O m (iI ((o + 1 : Nat) : Int))) (h1 : Om' (4 * m) = iI (kmO o)) (h2 : ∀ k, k < 3 * m → N' k = N k) (h3 : ∀ k, k < 4 * m → Om' k = Om k) (h4 : ∀ r, r < (dgL o).length → N' (3 * m + r) = Om' (4 * m + 1 + r)) : Gd (m + 1) O' N' Om' := by
  intro i hi
  by_cases hm : i = m
  · subst hm
    exact ⟨o, ho, by rw [e, upd_at], h1, h4⟩
  · obtain ⟨q, q1, q2, q3, q4⟩ := h i (by omega)
    have hq := (wd_d q q1).2.1
    refine ⟨q, q1, by rw [e, upd_ne _ _ hm, q2], by rw [h3 _ (by omega), q3], fun r hr => ?_⟩
    rw [h2 _ (by omega), h3 _ (by omega)]
    exact q4 r hr
theorem m_wrong (f : Nat) (Om : Nat → Int32) : f_X10_run_19 (f + 1) (tm K p 1 m Om) = f_X10_run_90 (tm K p 1 m Om) (iI p) := by
  rw [run_s, m_here1, Option.bind_some, if_pos (show iI 0 = (0 : Int32) from rfl), tm_15, if_neg ne10]
  unfold f_X10_run_66 f_X10_run_71
  rw [if_pos (Or.inr rfl), Option.bind_some, tm_wr1, tm_15, if_neg ne10, tm_14]
theorem text_both (T : Tx G K n) : ∀ (j m p f1 f2 : Nat) (O N Om : Nat → Int32), m + j = 12 → 5 * m ≤ p → p ≤ n → j < f1 → j + 1 < f2 → Gd m O N Om → (∃ e O' N' c' m' Om', e ≤ n ∧ f_X8_readOrders_2 f1 (tc G p m O N) (iI m) = some (iI 0, tc G e c' O' N') ∧ ((f_X10_readOrder (tm K p 0 m Om)).bind fun G22 => f_X10_run_19 f2 G22) = f_X10_run_90 (tm K e 1 m' Om') (iI e)) ∨ (∃ M O' N' Om', M ≤ 12 ∧ f_X8_readOrders_2 f1 (tc G p m O N) (iI m) = some (iI 1, tc G n M O' N') ∧ ((f_X10_readOrder (tm K p 0 m Om)).bind fun G22 => f_X10_run_19 f2 G22) = f_X10_run_90 (tm K n 0 M Om') (iI (-1)) ∧ Gd M O' N' Om') := by
  have h60 := T.1
  intro j
  induction j with
  | zero =>
    intro m p f1 f2 O N Om h1 h2 h3 h4 h5 _
    obtain ⟨g1, rfl⟩ : ∃ g, f1 = g + 1 := ⟨f1 - 1, by omega⟩
    obtain ⟨g2, rfl⟩ : ∃ g, f2 = g + 1 := ⟨f2 - 1, by omega⟩
    obtain rfl : m = 12 := by omega
    have hx : ∀ k, xb K n (p + k) = 0 := fun k => if_neg (by omega)
    have hk : (kk fun k => xb K n (p + k)) = 5 := by
      have h0 : (fun k => xb K n (p + k)) 0 = 0 := hx 0
      unfold kk
      rw [h0, if_neg (by decide), if_neg (by decide), if_neg (by decide), if_neg (by decide), if_neg (by decide), if_neg (by decide)]
    have hm5 : mtl (Wd 5) (fun k => xb K n (p + k)) = 0 := by
      refine if_neg ?_
      show ¬ xb K n (p + 0) = 108
      rw [hx]
      decide
    obtain ⟨O', hb⟩ := m_bad (m := 12) (O := Om) T h3 (by omega) (by rw [hk, hm5]; decide)
    rw [hk, hm5, Nat.add_zero] at hb
    refine Or.inl ⟨p, O, N, 12, 12 + 1, O', h3, ?_, ?_⟩
    · rw [rds_s, if_pos (by decide)]
      rfl
    · rw [hb, Option.bind_some, m_wrong]
  | succ j ih =>
    intro m p f1 f2 O N Om h1 h2 h3 h4 h5 h6
    obtain ⟨g1, rfl⟩ : ∃ g, f1 = g + 1 := ⟨f1 - 1, by omega⟩
    obtain ⟨g2, rfl⟩ : ∃ g, f2 = g + 1 := ⟨f2 - 1, by omega⟩
    have hlt : ¬ (12 : Int32) ≤ iI (m : Int) := by
      rw [pl12, iI_le (by omega) (by omega) (by omega) (by omega)]; omega
    have e1 : iI (m : Int) + 1 = iI ((m + 1 : Nat) : Int) := by rw [pl1, iI_add]; rfl
    rcases ord_both (O := O) (N := N) T h3 (show m < 12 by omega) Om with ⟨e, O', N', c', Om', a1, a2, a3, a4⟩ | ⟨o, p', N', Om', a1, a2, a3, a4, a5, a6, a7, a8, a9⟩
    · refine Or.inl ⟨e, O', N', c', m + 1, Om', a2, ?_, ?_⟩
      · rw [rds_s, if_neg hlt, a3, b2s, if_pos (show iI 0 = (0 : Int32) from rfl)]
        rfl
      · rw [a4, Option.bind_some, m_wrong]
    · have hG := Gd_1 h6 a1 (rfl : upd O m (iI ((o + 1 : Nat) : Int)) = _) a6 a7 a8 a9
      have r0 := xb_r T p'
      have e2 : iI (p' : Int) + 1 = iI ((p' + 1 : Nat) : Int) := by rw [pl1, iI_add]; rfl
      have hh := m_here (m := m + 1) (O := Om') T (p := p') (a := 59) (b := 59) a3 (by omega) (by omega)
      have hh : f_X10_isHere (tm K p' 0 (m + 1) Om') (59 : Int32) (59 : Int32) = _ := hh
      rw [rds_s, if_neg hlt, a4, b2s, if_neg ne10, tc_4, tc_3, T.2.1, a5, Option.bind_some, run_s, hh, Option.bind_some]
      by_cases h7 : p' = n
      · subst h7
        have e0 : xb K p' p' = 0 := if_neg (Nat.lt_irrefl _)
        refine Or.inr ⟨m + 1, upd O m (iI ((o + 1 : Nat) : Int)), N', Om', by omega, ?_, ?_, hG⟩
        · rw [if_pos rfl]
          rfl
        · rw [if_neg (show ¬ (59 ≤ xb K p' p' ∧ xb K p' p' ≤ 59) by omega), if_pos (show iI 0 = (0 : Int32) from rfl), tm_15, if_pos (show iI 0 = (0 : Int32) from rfl), tm_13, tm_14, T.2.2.1, if_pos (by rw [iI_le (by omega) (by omega) (by omega) (by omega)]; omega)]
          unfold f_X10_run_71
          rw [if_pos (Or.inl rfl), Option.bind_some, tm_wr0, tm_15, if_pos (show iI 0 = (0 : Int32) from rfl)]
          rfl
      · have ht := c_take (c := m + 1) (O := upd O m (iI ((o + 1 : Nat) : Int))) (N := N') T (p := p') (ch := 59) (by omega) (by omega)
        have ht : f_X8_take (tc G p' (m + 1) (upd O m (iI ((o + 1 : Nat) : Int))) N') (59 : Int32) = _ := ht
        rw [if_neg (by rw [iI_eq (by omega) (by omega) (by omega) (by omega)]; omega), ht]
        by_cases h8 : xb K n p' = 59
        · have h9 : p' < n := xb_in (K := K) (by omega)
          rw [if_pos h8, b2s, if_neg ne10, e1, if_pos (show 59 ≤ xb K n p' ∧ xb K n p' ≤ 59 by omega), if_neg ne10, tm_14, e2, tm_pos, Option.bind_some]
          exact ih (m + 1) (p' + 1) g1 g2 _ N' Om' (by omega) (by omega) (by omega) (by omega) (by omega) hG
        · refine Or.inl ⟨p', upd O m (iI ((o + 1 : Nat) : Int)), N', m + 1, m + 1, Om', a3, ?_, ?_⟩
          · rw [if_neg h8, b2s, if_pos (show iI 0 = (0 : Int32) from rfl)]
            rfl
          · rw [if_neg (show ¬ (59 ≤ xb K n p' ∧ xb K n p' ≤ 59) by omega), if_pos (show iI 0 = (0 : Int32) from rfl), tm_15, if_pos (show iI 0 = (0 : Int32) from rfl), tm_13, tm_14, T.2.2.1, if_neg (by rw [iI_le (by omega) (by omega) (by omega) (by omega)]; omega)]
            unfold f_X10_run_66 f_X10_run_71
            rw [if_pos (Or.inr rfl), Option.bind_some, tm_wr1, tm_15, if_neg ne10, tm_14]
/-! append -/
theorem t_append : St_append Rel := by
  intro G K hR p1
  obtain ⟨⟨hP, hI⟩, a2, a3, a4, ⟨e6, n, h60, e1, e2, e3⟩, a6⟩ := id hR
  generalize chr p1 = ch
  by_cases h : n = 60
  · subst h
    refine rd_no hR [4] (k := 4) (p := iI 1) (w := iI 0) (by decide) rfl ?_ ?_
    · unfold f_X9_append f_X8_isFull
      rw [e1]
      rfl
    · unfold f_X10_append
      rw [e2]
      rfl
  · have c1 : f_X8_isFull G = some (iI 0) := by
      unfold f_X8_isFull
      rw [e1, if_pos (by rw [lit_nI, iI_lt (by omega) (by omega) (by omega) (by omega)]; omega)]
      rfl
    have ea : iI (n : Int) + 1 = iI ((n + 1 : Nat) : Int) := by rw [pl1, iI_add]; rfl
    have hin : inb (iI (n : Int)) 60 := by
      rw [iI_inb (by omega) (by omega) (by omega)]; omega
    have hcx : f_X9_append G ch = some (.inr (iI ((n + 1 : Nat) : Int)), upR (upR G 85 (upd (G 85) n (vp_nar .char ch))) 84 (upd (G 84) 3 (iI ((n + 1 : Nat) : Int)))) := by
      unfold f_X9_append
      rw [c1, Option.bind_some, if_pos (show iI 0 = (0 : Int32) from rfl)]
      unfold f_X9_append_15 f_X8_add f_X8_add_39
      rw [if_neg (by decide), e1, if_neg (by rw [pl0, iI_lt (by omega) (by omega) (by omega) (by omega)]; omega), if_neg (by rw [lit_nI, iI_le (by omega) (by omega) (by omega) (by omega)]; omega), if_pos hin, cln (by omega), Option.bind_some, Option.bind_some, upR_ne _ _ (show 84 ≠ 85 by decide), e1, ea, b2s, upR_at, upd_at]
    have hml : f_X10_append K ch = some (iI ((n + 1 : Nat) : Int), upR (upR (th K (iI 0)) 6 (upd (K 6) n (vp_nar .char ch))) 0 (upd (th K (iI 0) 0) 13 (iI ((n + 1 : Nat) : Int)))) := by
      have k13 : th K 0 0 13 = iI n := e2
      unfold f_X10_append
      rw [e2, if_neg (by rw [show (60 : Int32) = iI 60 from rfl, iI_eq (by omega) (by omega) (by omega) (by omega)]; omega)]
      unfold f_X10_append_15
      rw [Option.bind_some, th_d, th06, if_pos (by decide), k13, if_pos hin, cln (by omega), Option.bind_some, Option.bind_some, upR_ne _ _ (show 0 ≠ 6 by decide), k13, ea, upR_at, upd_at]
      rfl
    refine ⟨_, _, _, _, hcx, hml, rfl, fun k hk => (nomatch hk), fun v hv => by cases hv; rfl, ?_⟩
    have g : ∀ i, i ≠ 84 → i ≠ 85 → upR (upR G 85 (upd (G 85) n (vp_nar .char ch))) 84 (upd (G 84) 3 (iI ((n + 1 : Nat) : Int))) i = G i := fun i h1 h2 => by rw [upR_ne _ _ h1, upR_ne _ _ h2]
    have g84 : upR (upR G 85 (upd (G 85) n (vp_nar .char ch))) 84 (upd (G 84) 3 (iI ((n + 1 : Nat) : Int))) 84 = upd (G 84) 3 (iI ((n + 1 : Nat) : Int)) := upR_at _ _ _
    have g85 : upR (upR G 85 (upd (G 85) n (vp_nar .char ch))) 84 (upd (G 84) 3 (iI ((n + 1 : Nat) : Int))) 85 = upd (G 85) n (vp_nar .char ch) := by rw [upR_ne _ _ (by decide), upR_at]
    have z1 : ∀ i, i ≠ 0 → i ≠ 6 → upR (upR (th K (iI 0)) 6 (upd (K 6) n (vp_nar .char ch))) 0 (upd (th K (iI 0) 0) 13 (iI ((n + 1 : Nat) : Int))) i = K i := fun i h1 h2 => by
      rw [upR_ne _ _ h1, upR_ne _ _ h2]
      exact upR_ne _ _ h1
    have z0 : ∀ j, j ≠ 6 → j ≠ 13 → upR (upR (th K (iI 0)) 6 (upd (K 6) n (vp_nar .char ch))) 0 (upd (th K (iI 0) 0) 13 (iI ((n + 1 : Nat) : Int))) 0 j = K 0 j := fun j h1 h2 => by
      rw [upR_at, upd_ne _ _ h2]
      unfold th
      rw [upR_at, upd_ne _ _ h1]
    have z13 : upR (upR (th K (iI 0)) 6 (upd (K 6) n (vp_nar .char ch))) 0 (upd (th K (iI 0) 0) 13 (iI ((n + 1 : Nat) : Int))) 0 13 = iI ((n + 1 : Nat) : Int) := by rw [upR_at, upd_at]
    have z6 : upR (upR (th K (iI 0)) 6 (upd (K 6) n (vp_nar .char ch))) 0 (upd (th K (iI 0) 0) 13 (iI ((n + 1 : Nat) : Int))) 6 = upd (K 6) n (vp_nar .char ch) := by rw [upR_ne _ _ (by decide), upR_at]
    refine ⟨⟨by rw [z1 1 (by decide) (by decide)]; exact Pr_frame (fun i h1 h2 => g i (by omega) (by omega)) hP, by rw [z1 1 (by decide) (by decide)]; exact hI⟩, Rv_frame a2 (fun i h1 h2 => g i (by omega) (by omega)) (g 77 (by decide) (by decide)) (z0 3 (by decide) (by decide)) (z1 3 (by decide) (by decide)), Rj_frame a3 (g 78 (by decide) (by decide)) (z0 7 (by decide) (by decide)) (z0 8 (by decide) (by decide)), Rl_frame a4 (g 82 (by decide) (by decide)) (g 83 (by decide) (by decide)) (z0 11 (by decide) (by decide)) (z1 5 (by decide) (by decide)), ⟨?_, n + 1, by omega, ?_, z13, fun j hj => ?_⟩, Hs_frame a6 (fun i h1 h2 => g i (by omega) (by omega)) (g 88 (by decide) (by decide)) (z0 5 (by decide) (by decide)) (z1 4 (by decide) (by decide))⟩
    · rw [g84, upd_ne _ _ (by decide), z0 16 (by decide) (by decide)]; exact e6
    · rw [g84, upd_at]
    · rw [g85, z6]
      by_cases hjn : j = n
      · rw [hjn, upd_at, upd_at]
        exact ⟨rfl, nar_ok _⟩
      · rw [upd_ne _ _ hjn, upd_ne _ _ hjn]
        exact e3 j (by omega)
end PZ
