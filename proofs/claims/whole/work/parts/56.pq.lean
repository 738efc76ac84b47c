/-! the eight changes -/
section PQ
variable {G K : GT} {s : Nat → Int32}
def alw (o : Nat) (v : Int) : Prop := v = 0 ∨ v = 3 ∨ (v = 1 ∧ (o = 1 ∨ o = 2 ∨ o = 3 ∨ o = 4 ∨ o = 7)) ∨ (v = 2 ∧ (o = 0 ∨ o = 1 ∨ o = 2 ∨ o = 3 ∨ o = 6 ∨ o = 7))
theorem rm_al (s : Nat → Int32) (c : Int) : ∃ v x y : Int, rm s c = (v, x, y) ∧ (v = 0 ∨ v = 3) := by
  by_cases h1 : ns s < 16
  · by_cases h2 : c ≤ fre s
    · exact ⟨_, _, _, rm_0 h1 h2, Or.inl rfl⟩
    · exact ⟨_, _, _, rm_f h1 h2, Or.inr rfl⟩
  · exact ⟨_, _, _, rm_n h1, Or.inr rfl⟩
theorem vt_al (a b w m : Int) : ∃ v x y : Int, vt a b w m = (v, x, y) ∧ (v = 0 ∨ v = 3 ∨ v = 1 ∨ v = 2) := by
  by_cases h1 : 0 ≤ a ∧ a ≤ 3
  · by_cases h2 : 0 ≤ b ∧ b ≤ m
    · by_cases h3 : b = w
      · exact ⟨_, _, _, vt_3 h1 h2 h3, by omega⟩
      · exact ⟨_, _, _, vt_0 h1 h2 h3, by omega⟩
    · exact ⟨_, _, _, vt_2 h1 (by omega), by omega⟩
  · exact ⟨_, _, _, vt_1 (by omega), by omega⟩
theorem vd_al (s : Nat → Int32) {o : Nat} (ho : o < 8) (a b c : Int) : ∃ v x y : Int, vd s o a b c = (v, x, y) ∧ alw o v := by
  unfold alw
  obtain rfl | rfl | rfl | rfl | rfl | rfl | rfl | rfl : o = 0 ∨ o = 1 ∨ o = 2 ∨ o = 3 ∨ o = 4 ∨ o = 5 ∨ o = 6 ∨ o = 7 := by omega
  · have e : vd s 0 a b c = if 2 ≤ a ∧ a ≤ 8 then (if nb s < 6 then (0, 0, 0) else (3, 1, 6)) else (2, 0, 0) := rfl
    rw [e]
    by_cases h1 : 2 ≤ a ∧ a ≤ 8
    · rw [if_pos h1]
      by_cases h2 : nb s < 6
      · rw [if_pos h2]; exact ⟨_, _, _, rfl, by omega⟩
      · rw [if_neg h2]; exact ⟨_, _, _, rfl, by omega⟩
    · rw [if_neg h1]; exact ⟨_, _, _, rfl, by omega⟩
  · have e : vd s 1 a b c = vt a b (ky s a.toNat) 11 := rfl
    obtain ⟨v, x, y, h1, h2⟩ := vt_al a b (ky s a.toNat) 11
    exact ⟨v, x, y, e.trans h1, by omega⟩
  · have e : vd s 2 a b c = vt a b (lk s a.toNat) 3 := rfl
    obtain ⟨v, x, y, h1, h2⟩ := vt_al a b (lk s a.toNat) 3
    exact ⟨v, x, y, e.trans h1, by omega⟩
  · have e : vd s 3 a b c = if 0 ≤ a ∧ a ≤ 3 then (if (0 ≤ b ∧ b ≤ 9) ∧ 1 ≤ c ∧ c ≤ 8 then rm s c else (2, 0, 0)) else (1, 0, 0) := rfl
    rw [e]
    by_cases h1 : 0 ≤ a ∧ a ≤ 3
    · rw [if_pos h1]
      by_cases h2 : (0 ≤ b ∧ b ≤ 9) ∧ 1 ≤ c ∧ c ≤ 8
      · rw [if_pos h2]
        obtain ⟨v, x, y, h3, h4⟩ := rm_al s c
        exact ⟨v, x, y, h3, by omega⟩
      · rw [if_neg h2]; exact ⟨_, _, _, rfl, by omega⟩
    · rw [if_neg h1]; exact ⟨_, _, _, rfl, by omega⟩
  · rw [C_e4]
    by_cases h1 : 0 ≤ a ∧ a ≤ 3
    · rw [if_pos h1]
      by_cases h2 : lk s a.toNat = 0
      · rw [if_pos h2]; exact ⟨_, _, _, rfl, by omega⟩
      · rw [if_neg h2]
        obtain ⟨v, x, y, h3, h4⟩ := rm_al s (lk s a.toNat)
        exact ⟨v, x, y, h3, by omega⟩
    · rw [if_neg h1]; exact ⟨_, _, _, rfl, by omega⟩
  · have e : vd s 5 a b c = if 0 < ns s then (0, 0, 0) else (3, 5, (nb s : Int)) := rfl
    rw [e]
    by_cases h1 : 0 < ns s
    · rw [if_pos h1]; exact ⟨_, _, _, rfl, by omega⟩
    · rw [if_neg h1]; exact ⟨_, _, _, rfl, by omega⟩
  · have e : vd s 6 a b c = if 1 ≤ a ∧ a ≤ 11 then (if a = lm s then (3, 2, a) else (0, 0, 0)) else (2, 0, 0) := rfl
    rw [e]
    by_cases h1 : 1 ≤ a ∧ a ≤ 11
    · rw [if_pos h1]
      by_cases h2 : a = lm s
      · rw [if_pos h2]; exact ⟨_, _, _, rfl, by omega⟩
      · rw [if_neg h2]; exact ⟨_, _, _, rfl, by omega⟩
    · rw [if_neg h1]; exact ⟨_, _, _, rfl, by omega⟩
  · have e : vd s 7 a b c = if 0 ≤ a ∧ a < ns s then (if 0 ≤ b ∧ b ≤ 9 then (if ht s a.toNat < 0 then (3, 6, ln s a.toNat) else if b = ht s a.toNat then (3, 2, b) else (0, 0, 0)) else (2, 0, 0)) else (1, 0, 0) := rfl
    rw [e]
    by_cases h1 : 0 ≤ a ∧ a < ns s
    · rw [if_pos h1]
      by_cases h2 : 0 ≤ b ∧ b ≤ 9
      · rw [if_pos h2]
        by_cases h3 : ht s a.toNat < 0
        · rw [if_pos h3]; exact ⟨_, _, _, rfl, by omega⟩
        · rw [if_neg h3]
          by_cases h4 : b = ht s a.toNat
          · rw [if_pos h4]; exact ⟨_, _, _, rfl, by omega⟩
          · rw [if_neg h4]; exact ⟨_, _, _, rfl, by omega⟩
      · rw [if_neg h2]; exact ⟨_, _, _, rfl, by omega⟩
    · rw [if_neg h1]; exact ⟨_, _, _, rfl, by omega⟩
theorem pk_r {o : Nat} {v : Int} (ho : o < 8) (h : alw o v) (h0 : v ≠ 0) : 0 < pk o v ∧ pk o v < 10 := by
  unfold alw at h
  unfold pk
  by_cases h1 : o = 0
  · rw [if_pos h1]; omega
  · rw [if_neg h1]
    by_cases h2 : o = 4
    · rw [if_pos h2]
      by_cases h3 : v = 1
      · rw [if_pos h3]; omega
      · rw [if_neg h3]; omega
    · rw [if_neg h2]
      by_cases h4 : o = 5
      · rw [if_pos h4]; omega
      · rw [if_neg h4]
        by_cases h5 : o = 6
        · rw [if_pos h5]; omega
        · rw [if_neg h5]; omega
/-- a change, as the reference makes it -/
def f_op (K : GT) (o : Nat) (a b c : Int32) : Option (Int32 × GT) := bind2 (f_do (kp K) o a b c) fun r2 G2 => bind2 (f_X10_ends G2 r2) fun r3 G3 => some (r3, G3)
theorem c_fail1 (G : GT) {o : Nat} {a b c : Int32} {G8 : GT} (h : f_X1_verdict G o a b c = some (iI 1, G8)) : f_X9_change G o a b c = some (.inl 0, G8) := by
  unfold f_X9_change
  rw [h]
  rfl
theorem c_fail2 (G : GT) {o : Nat} {a b c : Int32} {G8 : GT} (h : f_X1_verdict G o a b c = some (iI 2, G8)) : f_X9_change G o a b c = some (.inl 1, G8) := by
  unfold f_X9_change
  rw [h]
  rfl
theorem c_fail3 (G : GT) {o : Nat} {a b c : Int32} {G8 : GT} (h : f_X1_verdict G o a b c = some (iI 3, G8)) : f_X9_change G o a b c = some (.inl 2, G8) := by
  unfold f_X9_change
  rw [h]
  rfl
theorem c_fine (G : GT) {o : Nat} {a b c : Int32} {G8 : GT} (h : f_X1_verdict G o a b c = some (iI 0, G8)) : f_X9_change G o a b c = (f_X0_keep G8 0).bind fun G2 => bind2 (f_X1_carryOut G2 o a b c) fun r3 G3 => some (.inr r3, G3) := by
  unfold f_X9_change
  rw [h]
  rfl
theorem kp_1 (K : GT) : kp K 1 = K 1 := rfl
theorem kp_0 (K : GT) : kp K 0 = th K 0 0 := rfl
theorem kp_i (K : GT) {i : Nat} (h : 3 ≤ i) : kp K i = K i := by
  unfold kp th
  rw [upR_ne _ _ (by omega), upR_ne _ _ (by omega)]
theorem kp_j (K : GT) {j : Nat} (h : j ≠ 6) : kp K 0 j = K 0 j := by
  rw [kp_0]
  unfold th
  rw [upR_at, upd_ne _ _ h]
theorem op_ok (hR : Rel G K) {o : Nat} {a b c : Int} (ho : o < 8) (ha : R32 a) (hb : R32 b) (hc : R32 c) : ∃ (v : Int) (RR : Nat ⊕ Int32) (G' : GT) (r : Int32) (K' : GT), alw o v ∧ f_X9_change G o (iI a) (iI b) (iI c) = some (RR, G') ∧ f_op K o (iI a) (iI b) (iI c) = some (r, K') ∧ Rel G' K' ∧ ((v = 0 ∧ RR = .inr r ∧ K' 0 6 = iI 0) ∨ (v ≠ 0 ∧ RR = .inl (v - 1).toNat ∧ K' 0 6 = iI (pk o v))) := by
  obtain ⟨⟨hP, hI⟩, a2, a3, a4, a5, a6⟩ := id hR
  obtain ⟨v, x, y, hv, hal⟩ := vd_al (K 1) ho a b c
  have hcl := C_vd hP hI ho ha hb hc
  have hmd := M_do (K := kp K) (kp_1 K) hI ho ha hb hc
  rw [hv] at hcl hmd
  have hpk := pk_r ho hal
  refine ⟨v, ?_⟩
  have hfail : v ≠ 0 → ∀ (X : GT), X 0 6 = iI (pk o v) → (∀ i, 1 ≤ i → X i = kp K i) → (∀ j, j ≠ 6 → j ≠ 7 → j ≠ 8 → j ≠ 9 → X 0 j = K 0 j) → ∃ K', (bind2 (f_X10_ends X (iI 0)) fun r3 G3 => some (r3, G3)) = some (iI 0, K') ∧ K' 0 6 = iI (pk o v) ∧ K' 0 7 = X 0 7 ∧ K' 0 8 = X 0 8 ∧ (∀ G', (G' = G ∨ ∃ z : Nat → Int32, G' = upR G 78 z ∧ z 1 = X 0 7 ∧ z 2 = X 0 8) → (G' = G → X 0 7 = K 0 7 ∧ X 0 8 = K 0 8) → Rel G' K') := by
    intro h0 X hX hX1 hX0
    have he := ends_fail X (iI 0) hX (hpk h0)
    refine ⟨upR X 1 (va_cpy (X 2) (X 1) 0 0 67), by rw [he]; rfl, ?_, ?_, ?_, fun G' h1 h2 => ?_⟩
    · rw [upR_ne _ _ (by decide), hX]
    · rw [upR_ne _ _ (by decide)]
    · rw [upR_ne _ _ (by decide)]
    · have z : upR X 1 (va_cpy (X 2) (X 1) 0 0 67) 0 = X 0 := upR_ne _ _ (by decide)
      refine Rel_fail hR (K' := upR X 1 (va_cpy (X 2) (X 1) 0 0 67)) (by rw [z]; exact h1) (by rw [z]; exact h2) (by rw [z]; exact hX0 3 (by decide) (by decide) (by decide) (by decide)) (by rw [z]; exact hX0 5 (by decide) (by decide) (by decide) (by decide)) (by rw [z]; exact hX0 11 (by decide) (by decide) (by decide) (by decide)) (by rw [z]; exact hX0 13 (by decide) (by decide) (by decide) (by decide)) (by rw [z]; exact hX0 16 (by decide) (by decide) (by decide) (by decide)) (fun j hj => ?_) (fun i h3 h4 => ?_)
      · rw [upR_at, cpy_in (by omega) (by omega), Nat.zero_add, Nat.sub_zero, hX1 2 (by omega), kp_2 K hj]
      · rw [upR_ne _ _ (by omega), hX1 i (by omega), kp_i K h3]
  have hth : ∀ (x : Int32) i, 1 ≤ i → th (kp K) x i = kp K i := fun x i hi => upR_ne _ _ (by omega)
  have hth0 : ∀ (x : Int32) j, j ≠ 6 → th (kp K) x 0 j = K 0 j := fun x j hj => by
    unfold th
    rw [upR_at, upd_ne _ _ hj, kp_j K hj]
  have hal2 := hal
  unfold alw at hal2
  rcases hal2 with h0 | h0 | ⟨h0, -⟩ | ⟨h0, -⟩
  · subst h0
    rw [vd2_0] at hcl
    rw [dr2_0] at hmd
    obtain ⟨nx, n, b1, b2, b3, b4, b5, b6⟩ := a6
    obtain ⟨G2, d1, d2, d3, d4, d5⟩ := keep_ok G b3 b4 b1 b2 (u1 := 0) (by omega)
    have hP2 : Pr G2 0 (K 1) := Pr_frame (fun i h1 h2 => d3 i (by omega) (by omega)) hP
    obtain ⟨G3, e1, e2, e3⟩ := C_do hP2 hI ho (a := a) (b := b) (c := c) (by rw [hv])
    obtain ⟨K', k1, k2, k3, k4, k5, k6, k7⟩ := ends_fine (upR (kp K) 1 (nw (K 1) o a b c)) (iI (an (K 1) o a)) (c := n) (by rw [upR_ne _ _ (by decide)]; rfl) (by rw [upR_ne _ _ (by decide), kp_j K (by decide)]; exact b5) b2
    have z0 : ∀ j, j ≠ 5 → j ≠ 6 → K' 0 j = K 0 j := fun j h1 h2 => by rw [k3 j h1, upR_ne _ _ (by decide), kp_j K h2]
    have zi : ∀ i, 3 ≤ i → i ≠ 4 → K' i = K i := fun i h1 h2 => by rw [k4 i (by omega) h2, upR_ne _ _ (by omega), kp_i K h1]
    have g : ∀ i, 7 ≤ i → i ≠ 88 → (i < 7 * (3 + nx) ∨ 7 * (3 + nx) + 7 ≤ i) → G3 i = G i := fun i h1 h2 h3 => by rw [e3 i h1, d3 i h2 h3]
    refine ⟨.inr (iI (an (K 1) o a)), G3, iI (an (K 1) o a), K', hal, ?_, ?_, ?_, Or.inl ⟨rfl, rfl, ?_⟩⟩
    · rw [c_fine G hcl, d1, Option.bind_some, e1]; rfl
    · unfold f_op
      rw [hmd, b2s, k1]; rfl
    · have r1 : K' 1 = nw (K 1) o a b c := by rw [k4 1 (by decide) (by decide), upR_at]
      refine ⟨⟨by rw [r1]; exact e2, by rw [r1]; exact Inv_nw hI ho (by rw [hv])⟩, Rv_frame a2 (fun i h1 h2 => g i h1 (by omega) (by omega)) (g 77 (by omega) (by omega) (by omega)) (z0 3 (by decide) (by decide)) (zi 3 (by decide) (by decide)), Rj_frame a3 (g 78 (by omega) (by omega) (by omega)) (z0 7 (by decide) (by decide)) (z0 8 (by decide) (by decide)), Rl_frame a4 (g 82 (by omega) (by omega) (by omega)) (g 83 (by omega) (by omega) (by omega)) (z0 11 (by decide) (by decide)) (zi 5 (by decide) (by decide)), Rt_frame a5 (by rw [g 84 (by omega) (by omega) (by omega)]) (by rw [g 84 (by omega) (by omega) (by omega)]) (g 85 (by omega) (by omega) (by omega)) (z0 13 (by decide) (by decide)) (z0 16 (by decide) (by decide)) (zi 6 (by decide) (by decide)), ?_⟩
      refine Hs_keep b1 b2 b6 (s := K 1) (Pr_frame (fun i h1 h2 => e3 i (by omega)) (d2 _ hP)) hI (fun i h1 h2 h3 => g i (by omega) (by omega) h3) (by rw [e3 88 (by omega)]; exact d4) (by rw [e3 88 (by omega)]; exact d5) k2 (fun h k hk => ?_) (fun h k hk => ?_) (fun k hk => ?_)
      · rw [k5 h k hk, upR_ne _ _ (by decide), kp_i K (by decide)]
      · rw [k6 h k hk, upR_ne _ _ (by decide), kp_i K (by decide)]
      · rw [k7 k hk, upR_ne _ _ (by decide), kp_2 K hk]
    · rw [k3 6 (by decide), upR_ne _ _ (by decide)]; rfl
  · subst h0
    rw [vd2_3] at hcl
    rw [dr2_3] at hmd
    obtain ⟨K', k1, k2, k3, k4, k5⟩ := hfail (by decide) (rf (kp K) (pk o 3) x y) rfl (fun i hi => upR_ne _ _ (by omega)) (fun j h6 h7 h8 h9 => by
      unfold rf
      rw [upR_at, upd_ne _ _ h8, upd_ne _ _ h7, upd_ne _ _ h9, upd_ne _ _ h6, kp_j K h6])
    refine ⟨.inl 2, jd G x y, iI 0, K', hal, c_fail3 G hcl, ?_, ?_, Or.inr ⟨by decide, rfl, k2⟩⟩
    · unfold f_op
      rw [hmd, b2s, k1]
    · have q1 : rf (kp K) (pk o 3) x y 0 7 = iI x := rfl
      have q2 : rf (kp K) (pk o 3) x y 0 8 = iI y := rfl
      refine k5 (jd G x y) (Or.inr ⟨upd (upd (G 78) 1 (iI x)) 2 (iI y), rfl, ?_, ?_⟩) fun h => ?_
      · rw [q1, upd_ne _ _ (by decide), upd_at]
      · rw [q2, upd_at]
      · have p1 : jd G x y 78 1 = iI x := rfl
        have p2 : jd G x y 78 2 = iI y := rfl
        rw [h] at p1 p2
        rw [q1, q2, ← p1, ← p2]
        exact a3
  · subst h0
    rw [vd2_1] at hcl
    rw [dr2_1] at hmd
    obtain ⟨K', k1, k2, k3, k4, k5⟩ := hfail (by decide) (th (kp K) (iI (pk o 1))) rfl (hth _) (fun j h6 _ _ _ => hth0 _ j h6)
    refine ⟨.inl 0, G, iI 0, K', hal, c_fail1 G hcl, ?_, ?_, Or.inr ⟨by decide, rfl, k2⟩⟩
    · unfold f_op
      rw [hmd, b2s, k1]
    · exact k5 G (Or.inl rfl) fun _ => ⟨hth0 _ 7 (by decide), hth0 _ 8 (by decide)⟩
  · subst h0
    rw [vd2_2] at hcl
    rw [dr2_2] at hmd
    obtain ⟨K', k1, k2, k3, k4, k5⟩ := hfail (by decide) (th (kp K) (iI (pk o 2))) rfl (hth _) (fun j h6 _ _ _ => hth0 _ j h6)
    refine ⟨.inl 1, G, iI 0, K', hal, c_fail2 G hcl, ?_, ?_, Or.inr ⟨by decide, rfl, k2⟩⟩
    · unfold f_op
      rw [hmd, b2s, k1]
    · exact k5 G (Or.inl rfl) fun _ => ⟨hth0 _ 7 (by decide), hth0 _ 8 (by decide)⟩
theorem exI (p : Int32) : ∃ a : Int, p = iI a ∧ R32 a := ⟨p.toInt, (toInt_iI p).symm, toInt_rg p⟩
theorem bXid {α : Type} (x : Option ((Nat ⊕ α) × GT)) : (bindX x fun r G => some (.inr r, G)) = x := by
  cases x with
  | none => rfl
  | some q =>
    obtain ⟨r, G⟩ := q
    cases r with
    | inl k => rfl
    | inr r => rfl
/-- what a case of the law wants of a change -/
theorem op_St (ks : List Nat) {o : Nat} (hks : ∀ v, alw o v → v ≠ 0 → (v - 1).toNat ∈ ks ∧ iI (pk o v) = nI (1 + ks.idxOf (v - 1).toNat)) {v : Int} {RR : Nat ⊕ Int32} {r : Int32} {K' : GT} (hal : alw o v) (h : (v = 0 ∧ RR = .inr r ∧ K' 0 6 = iI 0) ∨ (v ≠ 0 ∧ RR = .inl (v - 1).toNat ∧ K' 0 6 = iI (pk o v))) : f_X10_thrown K' = some (cod ks RR) ∧ (∀ k, RR = .inl k → k ∈ ks) ∧ (∀ v, RR = .inr v → v = r) := by
  rcases h with ⟨h0, rfl, h1⟩ | ⟨h0, rfl, h1⟩
  · exact ⟨congrArg some h1, fun k hk => (nomatch hk), fun v hv => by cases hv; rfl⟩
  · obtain ⟨g1, g2⟩ := hks v hal h0
    refine ⟨congrArg some (h1.trans g2), fun k hk => by cases hk; exact g1, fun v hv => (nomatch hv)⟩
theorem t_bar : St_bar Rel := by
  intro G K hR p1
  obtain ⟨a, rfl, ha⟩ := exI p1
  obtain ⟨v, RR, G', r, K', hal, h1, h2, h3, h4⟩ := op_ok hR (o := 0) (b := 0) (c := 0) (by decide) ha (R32_k (by decide)) (R32_k (by decide))
  obtain ⟨q1, q2, q3⟩ := op_St [1, 2] (fun v hv h0 => by
    unfold alw at hv
    obtain rfl | rfl : v = 2 ∨ v = 3 := by omega
    · exact ⟨by decide, rfl⟩
    · exact ⟨by decide, rfl⟩) hal h4
  refine ⟨RR, G', r, K', ?_, ?_, q1, q2, q3, h3⟩
  · unfold f_X9_bar
    rw [bXid]; exact h1
  · unfold f_X10_bar
    unfold f_op at h2
    rw [fdo0] at h2
    rw [m_keep, Option.bind_some]; exact h2
theorem t_key : St_key Rel := by
  intro G K hR p1 p2
  obtain ⟨a, rfl, ha⟩ := exI p1
  obtain ⟨b, rfl, hb⟩ := exI p2
  obtain ⟨v, RR, G', r, K', hal, h1, h2, h3, h4⟩ := op_ok hR (o := 1) (c := 0) (by decide) ha hb (R32_k (by decide))
  obtain ⟨q1, q2, q3⟩ := op_St [0, 1, 2] (fun v hv h0 => by
    unfold alw at hv
    obtain rfl | rfl | rfl : v = 1 ∨ v = 2 ∨ v = 3 := by omega
    · exact ⟨by decide, rfl⟩
    · exact ⟨by decide, rfl⟩
    · exact ⟨by decide, rfl⟩) hal h4
  refine ⟨RR, G', r, K', ?_, ?_, q1, q2, q3, h3⟩
  · unfold f_X9_key
    rw [bXid]; exact h1
  · unfold f_X10_key
    unfold f_op at h2
    rw [fdo1] at h2
    rw [m_keep, Option.bind_some]; exact h2
theorem t_leak : St_leak Rel := by
  intro G K hR p1 p2
  obtain ⟨a, rfl, ha⟩ := exI p1
  obtain ⟨b, rfl, hb⟩ := exI p2
  obtain ⟨v, RR, G', r, K', hal, h1, h2, h3, h4⟩ := op_ok hR (o := 2) (c := 0) (by decide) ha hb (R32_k (by decide))
  obtain ⟨q1, q2, q3⟩ := op_St [0, 1, 2] (fun v hv h0 => by
    unfold alw at hv
    obtain rfl | rfl | rfl : v = 1 ∨ v = 2 ∨ v = 3 := by omega
    · exact ⟨by decide, rfl⟩
    · exact ⟨by decide, rfl⟩
    · exact ⟨by decide, rfl⟩) hal h4
  refine ⟨RR, G', r, K', ?_, ?_, q1, q2, q3, h3⟩
  · unfold f_X9_leak
    rw [bXid]; exact h1
  · unfold f_X10_leak
    unfold f_op at h2
    rw [fdo2] at h2
    rw [m_keep, Option.bind_some]; exact h2
theorem t_drop : St_drop Rel := by
  intro G K hR p1 p2 p3
  obtain ⟨a, rfl, ha⟩ := exI p1
  obtain ⟨b, rfl, hb⟩ := exI p2
  obtain ⟨c, rfl, hc⟩ := exI p3
  obtain ⟨v, RR, G', r, K', hal, h1, h2, h3, h4⟩ := op_ok hR (o := 3) (by decide) ha hb hc
  obtain ⟨q1, q2, q3⟩ := op_St [0, 1, 2] (fun v hv h0 => by
    unfold alw at hv
    obtain rfl | rfl | rfl : v = 1 ∨ v = 2 ∨ v = 3 := by omega
    · exact ⟨by decide, rfl⟩
    · exact ⟨by decide, rfl⟩
    · exact ⟨by decide, rfl⟩) hal h4
  refine ⟨RR, G', r, K', ?_, ?_, q1, q2, q3, h3⟩
  · unfold f_X9_drop
    rw [bXid]; exact h1
  · unfold f_X10_drop
    unfold f_op at h2
    rw [fdo3] at h2
    rw [m_keep, Option.bind_some]; exact h2
theorem t_rest : St_rest Rel := by
  intro G K hR p1
  obtain ⟨a, rfl, ha⟩ := exI p1
  obtain ⟨v, RR, G', r, K', hal, h1, h2, h3, h4⟩ := op_ok hR (o := 4) (b := 0) (c := 0) (by decide) ha (R32_k (by decide)) (R32_k (by decide))
  obtain ⟨q1, q2, q3⟩ := op_St [0, 2] (fun v hv h0 => by
    unfold alw at hv
    obtain rfl | rfl : v = 1 ∨ v = 3 := by omega
    · exact ⟨by decide, rfl⟩
    · exact ⟨by decide, rfl⟩) hal h4
  refine ⟨RR, G', r, K', ?_, ?_, q1, q2, q3, h3⟩
  · unfold f_X9_rest
    rw [bXid]; exact h1
  · unfold f_X10_rest
    unfold f_op at h2
    rw [fdo4] at h2
    rw [m_keep, Option.bind_some]; exact h2
theorem t_lift : St_lift Rel := by
  intro G K hR
  obtain ⟨v, RR, G', r, K', hal, h1, h2, h3, h4⟩ := op_ok hR (o := 5) (a := 0) (b := 0) (c := 0) (by decide) (R32_k (by decide)) (R32_k (by decide)) (R32_k (by decide))
  obtain ⟨q1, q2, q3⟩ := op_St [2] (fun v hv h0 => by
    unfold alw at hv
    obtain rfl : v = 3 := by omega
    exact ⟨by decide, rfl⟩) hal h4
  refine ⟨RR, G', r, K', ?_, ?_, q1, q2, q3, h3⟩
  · unfold f_X9_lift
    rw [bXid]; exact h1
  · unfold f_X10_lift
    unfold f_op at h2
    rw [fdo5] at h2
    rw [m_keep, Option.bind_some]; exact h2
theorem t_limit : St_limit Rel := by
  intro G K hR p1
  obtain ⟨a, rfl, ha⟩ := exI p1
  obtain ⟨v, RR, G', r, K', hal, h1, h2, h3, h4⟩ := op_ok hR (o := 6) (b := 0) (c := 0) (by decide) ha (R32_k (by decide)) (R32_k (by decide))
  obtain ⟨q1, q2, q3⟩ := op_St [1, 2] (fun v hv h0 => by
    unfold alw at hv
    obtain rfl | rfl : v = 2 ∨ v = 3 := by omega
    · exact ⟨by decide, rfl⟩
    · exact ⟨by decide, rfl⟩) hal h4
  refine ⟨RR, G', r, K', ?_, ?_, q1, q2, q3, h3⟩
  · unfold f_X9_limit
    rw [bXid]; exact h1
  · unfold f_X10_limit
    unfold f_op at h2
    rw [fdo6] at h2
    rw [m_keep, Option.bind_some]; exact h2
theorem t_tune : St_tune Rel := by
  intro G K hR p1 p2
  obtain ⟨a, rfl, ha⟩ := exI p1
  obtain ⟨b, rfl, hb⟩ := exI p2
  obtain ⟨v, RR, G', r, K', hal, h1, h2, h3, h4⟩ := op_ok hR (o := 7) (c := 0) (by decide) ha hb (R32_k (by decide))
  obtain ⟨q1, q2, q3⟩ := op_St [0, 1, 2] (fun v hv h0 => by
    unfold alw at hv
    obtain rfl | rfl | rfl : v = 1 ∨ v = 2 ∨ v = 3 := by omega
    · exact ⟨by decide, rfl⟩
    · exact ⟨by decide, rfl⟩
    · exact ⟨by decide, rfl⟩) hal h4
  refine ⟨RR, G', r, K', ?_, ?_, q1, q2, q3, h3⟩
  · unfold f_X9_tune
    rw [bXid]; exact h1
  · unfold f_X10_tune
    unfold f_op at h2
    rw [fdo7] at h2
    rw [m_keep, Option.bind_some]; exact h2
end PQ
