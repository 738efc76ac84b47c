/-! append and run: what they leave -/
section FO
variable {G K : GT} {s : Nat → Int32} {L : List (Nat → Int32)} {n p c m : Nat} {O N : Nat → Int32}
/-- the numbers of an order, or not -/
theorem o_nums (T : Tx G K n) {o : Nat} (ho : o < 8) (hc : c < 12) : ∀ (j i f p : Nat) (N : Nat → Int32), i + j = (dgL o).length → p ≤ n → j < f → (∃ p' N', f_X8_readOrder_32 o f (tc G p c O N) (iI i) = some (iI 0, tc G p' c O N') ∧ p' ≤ n) ∨ ∃ p' N', f_X8_readOrder_32 o f (tc G p c O N) (iI i) = some (iI 1, tc G p' (c + 1) (upd O c (iI ((o + 1 : Nat) : Int))) N') ∧ p' ≤ n := by
  intro j
  induction j with
  | zero =>
    intro i f p N h1 h2 h3
    obtain ⟨f, rfl⟩ : ∃ g, f = g + 1 := ⟨f - 1, by omega⟩
    obtain rfl : i = (dgL o).length := by omega
    exact Or.inr ⟨p, N, c_fin ho hc, h2⟩
  | succ j ih =>
    intro i f p N h1 h2 h3
    obtain ⟨f, rfl⟩ : ∃ g, f = g + 1 := ⟨f - 1, by omega⟩
    obtain ⟨a1, a2⟩ := c_step (O := O) (N := N) (f := f) (i := i) T ho h2 hc (by omega)
    by_cases hk : nok K n p
    · have h4 := np_r (d := (dgL o).getD i 0) hk
      rw [a1 hk]
      exact ih (i + 1) f _ _ (by omega) h4.2 (by omega)
    · have h4 := ne_r (K := K) h2
      exact Or.inl ⟨_, _, a2 hk, h4.2⟩
theorem fw_len {x : Nat → Int} (h : fw x < 8) : mtl (Wd (fw x)) x = (Wd (fw x)).length := by
  obtain ⟨g1, g2, g3⟩ := ff_r (fun o => mtl (Wd o) x = (Wd o).length) 8
  exact g3 h
theorem o_order (T : Tx G K n) (hp : p ≤ n) (hc : c < 12) : (∃ p' c' O' N', f_X8_readOrder (tc G p c O N) = some (iI 0, tc G p' c' O' N')) ∨ ∃ o p' N', o < 8 ∧ f_X8_readOrder (tc G p c O N) = some (iI 1, tc G p' (c + 1) (upd O c (iI ((o + 1 : Nat) : Int))) N') ∧ p' ≤ n := by
  have hw := c_word (c := c) (O := O) (N := N) T hp
  unfold f_X8_readOrder
  by_cases h : fw (fun k => xb K n (p + k)) < 8
  · rw [if_pos h] at hw
    have hl := fw_len h
    have hn := mtl_n (K := K) (n := n) (L := Wd (fw (fun k => xb K n (p + k)))) hp (fun i hi => by
      have h3 := (wd_c _ h).2.2.2 i hi
      exact h3.2.1)
    rw [hl] at hn
    generalize fw (fun k => xb K n (p + k)) = o at h hw hn hl
    rw [hw, b2s]
    show (∃ p' c' O' N', (if o < 8 then _ else none) = _) ∨ (∃ o2 p' N', o2 < 8 ∧ (if o < 8 then _ else none) = _ ∧ _)
    rw [if_pos h, tc_5, if_neg (by rw [pl0, iI_lt (by omega) (by omega) (by omega) (by omega)]; omega), if_pos (by rw [lit_nI, iI_lt (by omega) (by omega) (by omega) (by omega)]; omega)]
    have hd := (wd_d o h).2.1
    rcases o_nums (O := O) T h hc (dgL o).length 0 4096 (p + (Wd o).length) N (by omega) hn (by omega) with ⟨p', N', b1, b2⟩ | ⟨p', N', b1, b2⟩
    · exact Or.inl ⟨p', c, O, N', b1⟩
    · exact Or.inr ⟨o, p', N', h, b1, b2⟩
  · rw [if_neg h] at hw
    refine Or.inl ⟨p + mxw (fun k => xb K n (p + k)) 8, c, O, N, ?_⟩
    rw [hw, b2s]
    rfl
/-- orders known by their numbers -/
def Go (m : Nat) (O : Nat → Int32) : Prop := ∀ i, i < m → ∃ o, o < 8 ∧ O i = iI ((o + 1 : Nat) : Int)
theorem o_text (T : Tx G K n) : ∀ (j m p f : Nat) (O N : Nat → Int32), m + j = 12 → p ≤ n → j < f → Go m O → (∃ e O' N' c', f_X8_readOrders_2 f (tc G p m O N) (iI m) = some (iI 0, tc G e c' O' N')) ∨ ∃ e M O' N', M ≤ 12 ∧ f_X8_readOrders_2 f (tc G p m O N) (iI m) = some (iI 1, tc G e M O' N') ∧ Go M O' := by
  intro j
  induction j with
  | zero =>
    intro m p f O N h1 h2 h3 _
    obtain ⟨f, rfl⟩ : ∃ g, f = g + 1 := ⟨f - 1, by omega⟩
    refine Or.inl ⟨p, O, N, m, ?_⟩
    rw [rds_s, if_pos (by rw [pl12, iI_le (by omega) (by omega) (by omega) (by omega)]; omega)]
    rfl
  | succ j ih =>
    intro m p f O N h1 h2 h3 h4
    obtain ⟨f, rfl⟩ : ∃ g, f = g + 1 := ⟨f - 1, by omega⟩
    have h60 := T.1
    have hlt : ¬ (12 : Int32) ≤ iI (m : Int) := by
      rw [pl12, iI_le (by omega) (by omega) (by omega) (by omega)]; omega
    have e1 : iI (m : Int) + 1 = iI ((m + 1 : Nat) : Int) := by rw [pl1, iI_add]; rfl
    rcases o_order (O := O) (N := N) T h2 (show m < 12 by omega) with ⟨p', c', O', N', a1⟩ | ⟨o, p', N', ho, a1, a2⟩
    · refine Or.inl ⟨p', O', N', c', ?_⟩
      rw [rds_s, if_neg hlt, a1, b2s, if_pos p00]
      rfl
    · have hG : Go (m + 1) (upd O m (iI ((o + 1 : Nat) : Int))) := fun i hi => by
        by_cases hm : i = m
        · exact ⟨o, ho, by rw [hm, upd_at]⟩
        · obtain ⟨q, q1, q2⟩ := h4 i (by omega)
          exact ⟨q, q1, by rw [upd_ne _ _ hm, q2]⟩
      rw [rds_s, if_neg hlt, a1, b2s, if_neg ne10, tc_4, tc_3, T.2.1]
      by_cases h7 : p' = n
      · refine Or.inr ⟨p', m + 1, upd O m (iI ((o + 1 : Nat) : Int)), N', by omega, ?_, hG⟩
        rw [if_pos (by rw [h7])]
        rfl
      · have ht := c_take (c := m + 1) (O := upd O m (iI ((o + 1 : Nat) : Int))) (N := N') T (p := p') (ch := 59) (by omega) (by omega)
        have ht : f_X8_take (tc G p' (m + 1) (upd O m (iI ((o + 1 : Nat) : Int))) N') (59 : Int32) = _ := ht
        rw [if_neg (by rw [iI_eq (by omega) (by omega) (by omega) (by omega)]; omega), ht]
        by_cases h8 : xb K n p' = 59
        · have h9 : p' < n := xb_in (K := K) (by omega)
          rw [if_pos h8, b2s, if_neg ne10, e1]
          exact ih (m + 1) (p' + 1) f _ N' (by omega) (by omega) (by omega) hG
        · refine Or.inl ⟨p', upd O m (iI ((o + 1 : Nat) : Int)), N', m + 1, ?_⟩
          rw [if_neg h8, b2s, if_pos p00]
          rfl
theorem o_read (hC : Cs G s L) : (∃ G', f_X8_read G = some (iI 0, G') ∧ Cs G' s L) ∨ ∃ (G' : GT) (M : Nat), f_X8_read G = some (iI 1, G') ∧ Cs G' s L ∧ M ≤ 12 ∧ G' 84 5 = iI M ∧ Go M (G' 86) := by
  obtain ⟨hP, hI, hH, k, k1, k2, k3⟩ := hC
  have T : Tx G (upR (upR G 6 (G 85)) 0 (upd (G 0) 13 (iI k))) k := ⟨k1, k2, by rw [upR_at, upd_at], fun j hj => by
    rw [upR_ne _ _ (by decide), upR_at]
    exact ⟨rfl, k3 j hj⟩⟩
  have hread := c_read0 G
  have hCr : ∀ (e c' : Nat) (O' N' : Nat → Int32) (v : Int32), Cs (rdg (tc G e c' O' N') v) s L := fun e c' O' N' v => by
    have hi : ∀ i, i ≠ 84 → i ≠ 86 → i ≠ 87 → rdg (tc G e c' O' N') v i = G i := fun i h1 h2 h3 => by
      unfold rdg
      rw [upR_ne _ _ h1, tc_i h1 h2 h3]
    refine ⟨Pr_frame (fun i h1 h2 => hi i (by omega) (by omega) (by omega)) hP, hI, Hg_frame hH (fun i h1 h2 => hi i (by omega) (by omega) (by omega)) (hi 88 (by decide) (by decide) (by decide)), 0, by omega, ?_, fun j hj => by omega⟩
    unfold rdg
    rw [upR_at, upd_at]
    rfl
  rcases o_text T 12 0 0 4096 (G 86) (G 87) (by omega) (by omega) (by omega) (fun i hi => by omega) with ⟨e, O', N', c', b2⟩ | ⟨e, M, O', N', b0, b2, b4⟩
  · rw [i00] at b2
    refine Or.inl ⟨rdg (tc G e c' O' N') (iI e), ?_, hCr _ _ _ _ _⟩
    rw [hread, b2, b2s, if_pos p00, tc_4, c_read28 (r := iI 0) _ _ (Or.inl rfl)]
  · rw [i00] at b2
    refine Or.inr ⟨rdg (tc G e M O' N') (-1), M, ?_, hCr _ _ _ _ _, b0, rfl, b4⟩
    rw [hread, b2, b2s, if_neg ne10, c_read28 (r := iI 1) _ _ (Or.inr rfl)]
/-- the orders carried out -/
theorem o_carry {Gs : GT} {M : Nat} (hM : M ≤ 12) (hg5 : Gs 84 5 = iI M) (hgd : Go M (Gs 86)) : ∀ (j i f : Nat) (Gc : GT) (s : Nat → Int32), i + j = M → j < f → Pr Gc 0 s → Inv s → (∀ q, 7 ≤ q → q ≠ 78 → Gc q = Gs q) → (∃ (v : Int) (G' : GT), (v = 1 ∨ v = 2 ∨ v = 3) ∧ f_X9_carryOutText_2 f Gc (iI i) = some (iI v, G') ∧ (∀ q, 7 ≤ q → q ≠ 78 → G' q = Gs q)) ∨ ∃ (G' : GT) (s' : Nat → Int32), f_X9_carryOutText_2 f Gc (iI i) = some (iI 0, G') ∧ Pr G' 0 s' ∧ Inv s' ∧ (∀ q, 7 ≤ q → q ≠ 78 → G' q = Gs q) := by
  intro j
  induction j with
  | zero =>
    intro i f Gc s h1 h2 hP hI m1
    obtain ⟨f, rfl⟩ : ∃ g, f = g + 1 := ⟨f - 1, by omega⟩
    obtain rfl : i = M := by omega
    have c5 : f_X8_countOfOrders Gc = some (iI i) := by
      unfold f_X8_countOfOrders
      rw [m1 84 (by omega) (by omega), hg5]
    refine Or.inr ⟨Gc, s, ?_, hP, hI, m1⟩
    rw [cot_s, c5, Option.bind_some, if_pos (Int32.le_refl _)]
    rfl
  | succ j ih =>
    intro i f Gc s h1 h2 hP hI m1
    obtain ⟨f, rfl⟩ : ∃ g, f = g + 1 := ⟨f - 1, by omega⟩
    obtain ⟨o, ho, q1⟩ := hgd i (by omega)
    have c5 : f_X8_countOfOrders Gc = some (iI M) := by
      unfold f_X8_countOfOrders
      rw [m1 84 (by omega) (by omega), hg5]
    have hnl : ¬ iI (M : Int) ≤ iI (i : Int) := by
      rw [iI_le (by omega) (by omega) (by omega) (by omega)]; omega
    have e1 : iI (i : Int) + 1 = iI ((i + 1 : Nat) : Int) := by rw [pl1, iI_add]; rfl
    have hor : f_X8_orderAt Gc (iI i) = some (o + 1, Gc) := by
      unfold f_X8_orderAt
      rw [if_neg (by rw [pl0, iI_lt (by omega) (by omega) (by omega) (by omega)]; omega), if_neg (by rw [lit_nI, iI_le (by omega) (by omega) (by omega) (by omega)]; omega), if_pos (by rw [iI_inb (by omega) (by omega) (by omega)]; omega), cln (by omega), m1 86 (by omega) (by omega), q1, cln (by omega)]
    have hnu : ∀ q : Nat, q < 3 → f_X8_numberAt Gc (iI i) (iI q) = some (Gs 87 (3 * i + q)) := fun q hq => by
      have ex : ((i : Int) * 3 + q).toNat = 3 * i + q := by omega
      unfold f_X8_numberAt
      rw [pl3, iI_mul, iI_add, iI_cell (by omega) (by omega) (by omega), ex, m1 87 (by omega) (by omega)]
    obtain ⟨a, ea, ha⟩ := exI (Gs 87 (3 * i))
    obtain ⟨b, eb, hb⟩ := exI (Gs 87 (3 * i + 1))
    obtain ⟨c, ec, hc⟩ := exI (Gs 87 (3 * i + 2))
    have n0 : f_X8_numberAt Gc (iI i) 0 = some (iI a) := (hnu 0 (by omega)).trans (congrArg some ea)
    have n1 : f_X8_numberAt Gc (iI i) 1 = some (iI b) := (hnu 1 (by omega)).trans (congrArg some eb)
    have n2 : f_X8_numberAt Gc (iI i) 2 = some (iI c) := (hnu 2 (by omega)).trans (congrArg some ec)
    have hcx : f_X9_carryOutText_2 (f + 1) Gc (iI i) = bind2 (f_X1_verdict Gc o (iI a) (iI b) (iI c)) fun r12 G12 => (if r12 = 0 then (bind2 (f_X1_carryOut G12 o (iI a) (iI b) (iI c)) fun r14 G14 => f_X9_carryOutText_2 f G14 (iI ((i + 1 : Nat) : Int))) else some (r12, G12)) := by
      rw [cot_s, c5, Option.bind_some, if_neg hnl, hor, b2s]
      show (if o < 8 then _ else none) = _
      rw [if_pos ho, n0, Option.bind_some, n1, Option.bind_some, n2, Option.bind_some, e1]
    obtain ⟨v, x, y, hv, hal⟩ := vd_al s ho a b c
    have hcl := C_vd hP hI ho ha hb hc
    rw [hv] at hcl
    rw [hcx]
    have hv4 : v = 0 ∨ v = 1 ∨ v = 2 ∨ v = 3 := by unfold alw at hal; omega
    obtain rfl | rfl | rfl | rfl := hv4
    · rw [vd2_0] at hcl
      obtain ⟨G3, d1, d2, d3⟩ := C_do hP hI ho (a := a) (b := b) (c := c) (by rw [hv])
      rw [hcl, b2s, if_pos p00, d1, b2s]
      exact ih (i + 1) f G3 _ (by omega) (by omega) d2 (Inv_nw hI ho (by rw [hv])) fun q h1 h2 => by rw [d3 q h1, m1 q h1 h2]
    · rw [vd2_1] at hcl
      exact Or.inl ⟨1, Gc, by omega, by rw [hcl, b2s, if_neg (by decide)], m1⟩
    · rw [vd2_2] at hcl
      exact Or.inl ⟨2, Gc, by omega, by rw [hcl, b2s, if_neg (by decide)], m1⟩
    · rw [vd2_3] at hcl
      refine Or.inl ⟨3, jd Gc x y, by omega, by rw [hcl, b2s, if_neg (by decide)], fun q h1 h2 => ?_⟩
      unfold jd
      rw [upR_ne _ _ h2, m1 q h1 h2]
/-- what a helper of a change answers, and leaves -/
def Ch (G : GT) (s : Nat → Int32) (L : List (Nat → Int32)) (x : Option (Int32 × GT)) : Prop := ∃ (v : Int32) (G' : GT), x = some (v, G') ∧ ((¬ v < 0 ∧ ∃ s', Cs G' s' ((s :: L).take 8)) ∨ (v < 0 ∧ Cs G' s L))
theorem L_runs (hC : Cs G s L) : Ch G s L (fw_runs G) := by
  rcases o_read hC with ⟨Gr, a1, a2⟩ | ⟨Gr, M, a1, a2, a3, a4, a5⟩
  · refine ⟨-1, Gr, ?_, Or.inr ⟨by decide, a2⟩⟩
    unfold fw_runs f_X9_run
    rw [a1, b2s, if_pos p00]
    rfl
  · obtain ⟨hP, hI, ⟨nx, cc, c1, c2, c3, c4, c5, c6⟩, hT⟩ := a2
    obtain ⟨Gs, d1, d2, d3⟩ := become_ok Gr (u0 := 2) (u1 := 0) (by decide)
    have hPs : Pr Gs 14 s := d2 _ hP
    have hP0 : Pr Gs 0 s := Pr_frame (fun i h1 h2 => d3 i (by omega)) hP
    have hcx : ∀ (r : Int32) (X : GT), f_X9_carryOutText Gs = some (r, X) → f_X9_run G = (if r = 0 then f_X9_run_41 X r else (f_X5_become X 0 2).bind fun G12 => f_X9_run_41 G12 r) := by
      intro r X h
      unfold f_X9_run
      rw [a1, b2s, if_neg ne10, d1, Option.bind_some, h, b2s]
    rcases o_carry a3 (Gs := Gs) (by rw [d3 84 (by omega)]; exact a4) (by rw [d3 86 (by omega)]; exact a5) M 0 4096 Gs s (by omega) (by omega) hP0 hI (fun _ _ _ => rfl) with ⟨v, G', hv, q1, m1⟩ | ⟨G', s', q1, q2, q3, m1⟩
    · obtain ⟨G12, g1, g2, g3⟩ := become_ok G' (u0 := 0) (u1 := 2) (by decide)
      have hP14 : Pr G' (7 * 2) s := Pr_frame (fun i h1 h2 => m1 i (by omega) (by omega)) hPs
      have hr := hcx (iI v) G' q1
      rw [if_neg (by rw [pl0, iI_eq (by omega) (by omega) (by omega) (by omega)]; omega), g1, Option.bind_some, c_41 G12 hv] at hr
      have hCs : Cs G12 s L := by
        have hg : ∀ q, 7 ≤ q → q ≠ 78 → (q < 14 ∨ 21 ≤ q) → G12 q = Gr q := fun q h1 h2 h3 => by rw [g3 q (by omega), m1 q h1 h2, d3 q (by omega)]
        refine ⟨g2 _ hP14, hI, Hg_frame ⟨nx, cc, c1, c2, c3, c4, c5, c6⟩ (fun i h1 h2 => hg i (by omega) (by omega) (by omega)) (hg 88 (by omega) (by omega) (by omega)), Tg_frame hT (hg 84 (by omega) (by omega) (by omega)) (hg 85 (by omega) (by omega) (by omega))⟩
      unfold Ch fw_runs
      rw [hr]
      by_cases h3 : v = 3
      · rw [if_pos h3]
        exact ⟨-2, G12, rfl, Or.inr ⟨by decide, hCs⟩⟩
      · rw [if_neg h3]
        exact ⟨-1, G12, rfl, Or.inr ⟨by decide, hCs⟩⟩
    · have hr := hcx (iI 0) G' q1
      have hg : ∀ q, 7 ≤ q → q ≠ 78 → (q < 14 ∨ 21 ≤ q) → G' q = Gr q := fun q h1 h2 h3 => by rw [m1 q h1 h2, d3 q (by omega)]
      obtain ⟨G2, k1, k2, k3, k4, k5⟩ := keep_ok G' (nx := nx) (c := cc) (u1 := 2) (by rw [hg 88 (by omega) (by omega) (by omega)]; exact c3) (by rw [hg 88 (by omega) (by omega) (by omega)]; exact c4) c1 c2 (by omega)
      have h84 : G2 84 = Gr 84 := by rw [k3 84 (by omega) (by omega), hg 84 (by omega) (by omega) (by omega)]
      have h85 : G2 85 = Gr 85 := by rw [k3 85 (by omega) (by omega), hg 85 (by omega) (by omega) (by omega)]
      have e5 : f_X8_countOfOrders G2 = some (iI M) := by
        unfold f_X8_countOfOrders
        rw [h84, a4]
      have e : f_X9_run G = some (.inr (iI M), G2) := by
        rw [hr, if_pos p00]
        unfold f_X9_run_41 f_X9_run_51 f_X9_run_63
        rw [if_neg (by decide), if_neg (by decide), if_pos p00, if_neg (by decide), k1, Option.bind_some, e5]
        rfl
      refine ⟨iI M, G2, by unfold fw_runs; rw [e]; rfl, Or.inl ⟨by rw [pl0, iI_lt (by omega) (by omega) (by omega) (by omega)]; omega, s', ?_⟩⟩
      refine ⟨Pr_frame (fun i h1 h2 => k3 i (by omega) (by omega)) q2, q3, ?_, Tg_frame hT h84 h85⟩
      exact Hg_keep (G := Gr) c1 c2 c5 c6 hI (k2 s (Pr_frame (fun i h1 h2 => m1 i (by omega) (by omega)) hPs)) (fun i h1 h2 h3 => by rw [k3 i (by omega) h3, hg i (by omega) (by omega) (by omega)]) k4 k5 (fun _ _ => rfl)
end FO
