/-! the eight changes -/
section PQ
variable {G K : GT} {s : Nat → Int32}
def alw (o : Nat) (v : Int) : Prop := v = 0 ∨ v = 3 ∨ (v = 1 ∧ (o = 1 ∨ o = 2 ∨ o = 3 ∨ o = 4 ∨ o = 7)) ∨ (v = 2 ∧ (o = 0 ∨ o = 1 ∨ o = 2 ∨ o = 3 ∨ o = 6 ∨ o = 7))
theorem rm_al (s : Nat → Int32) (c : Int) : ∃ v x y : Int, rm s c = (v, x, y) ∧ (v = 0 ∨ v = 3) := by
  by_cases h1 : ns s < 16
  · by_cases h2 : c ≤ fre s
    · exact ⟨_, _, _, rm_0 h1 h2, Or.inl rfl⟩
    · exact ⟨_, _, _, rm_f h1 h2, Or.inr rfl⟩
  · exact ⟨_, _, _, rm_n h1, Or.inr rfl⟩
theorem vt_al (a b w m : Int) : ∃ v x y : Int, vt a b w m = (v, x, y) ∧ (v = 0 ∨ v = 3 ∨ v = 1 ∨ v = 2) := by
  by_cases h1 : 0 ≤ a ∧ a ≤ 3
  · by_cases h2 : 0 ≤ b ∧ b ≤ m
    · by_cases h3 : b = w
      · exact ⟨_, _, _, vt_3 h1 h2 h3, by omega⟩
      · exact ⟨_, _, _, vt_0 h1 h2 h3, by omega⟩
    · exact ⟨_, _, _, vt_2 h1 (by omega), by omega⟩
  · exact ⟨_, _, _, vt_1 (by omega), by omega⟩
theorem vd_al (s : Nat → Int32) {o : Nat} (ho : o < 8) (a b c : Int) : ∃ v x y : Int, vd s o a b c = (v, x, y) ∧ alw o v := by
  unfold alw
  obtain rfl | rfl | rfl | rfl | rfl | rfl | rfl | rfl : o = 0 ∨ o = 1 ∨ o = 2 ∨ o = 3 ∨ o = 4 ∨ o = 5 ∨ o = 6 ∨ o = 7 := by omega
  · have e : vd s 0 a b c = if 2 ≤ a ∧ a ≤ 8 then (if nb s < 6 then (0, 0, 0) else (3, 1, 6)) else (2, 0, 0) := rfl
    rw [e]
    by_cases h1 : 2 ≤ a ∧ a ≤ 8
    · rw [if_pos h1]
      by_cases h2 : nb s < 6
      · rw [if_pos h2]; exact ⟨_, _, _, rfl, by omega⟩
      · rw [if_neg h2]; exact ⟨_, _, _, rfl, by omega⟩
    · rw [if_neg h1]; exact ⟨_, _, _, rfl, by omega⟩
  · have e : vd s 1 a b c = vt a b (ky s a.toNat) 11 := rfl
    obtain ⟨v, x, y, h1, h2⟩ := vt_al a b (ky s a.toNat) 11
    exact ⟨v, x, y, e.trans h1, by omega⟩
  · have e : vd s 2 a b c = vt a b (lk s a.toNat) 3 := rfl
    obtain ⟨v, x, y, h1, h2⟩ := vt_al a b (lk s a.toNat) 3
    exact ⟨v, x, y, e.trans h1, by omega⟩
  · have e : vd s 3 a b c = if 0 ≤ a ∧ a ≤ 3 then (if (0 ≤ b ∧ b ≤ 9) ∧ 1 ≤ c ∧ c ≤ 8 then rm s c else (2, 0, 0)) else (1, 0, 0) := rfl
    rw [e]
    by_cases h1 : 0 ≤ a ∧ a ≤ 3
    · rw [if_pos h1]
      by_cases h2 : (0 ≤ b ∧ b ≤ 9) ∧ 1 ≤ c ∧ c ≤ 8
      · rw [if_pos h2]
        obtain ⟨v, x, y, h3, h4⟩ := rm_al s c
        exact ⟨v, x, y, h3, by omega⟩
      · rw [if_neg h2]; exact ⟨_, _, _, rfl, by omega⟩
    · rw [if_neg h1]; exact ⟨_, _, _, rfl, by omega⟩
  · rw [C_e4]
    by_cases h1 : 0 ≤ a ∧ a ≤ 3
    · rw [if_pos h1]
      by_cases h2 : lk s a.toNat = 0
      · rw [if_pos h2]; exact ⟨_, _, _, rfl, by omega⟩
      · rw [if_neg h2]
        obtain ⟨v, x, y, h3, h4⟩ := rm_al s (lk s a.toNat)
        exact ⟨v, x, y, h3, by omega⟩
    · rw [if_neg h1]; exact ⟨_, _, _, rfl, by omega⟩
  · have e : vd s 5 a b c = if 0 < ns s then (0, 0, 0) else (3, 5, (nb s : Int)) := rfl
    rw [e]
    by_cases h1 : 0 < ns s
    · rw [if_pos h1]; exact ⟨_, _, _, rfl, by omega⟩
    · rw [if_neg h1]; exact ⟨_, _, _, rfl, by omega⟩
  · have e : vd s 6 a b c = if 1 ≤ a ∧ a ≤ 11 then (if a = lm s then (3, 2, a) else (0, 0, 0)) else (2, 0, 0) := rfl
    rw [e]
    by_cases h1 : 1 ≤ a ∧ a ≤ 11
    · rw [if_pos h1]
      by_cases h2 : a = lm s
      · rw [if_pos h2]; exact ⟨_, _, _, rfl, by omega⟩
      · rw [if_neg h2]; exact ⟨_, _, _, rfl, by omega⟩
    · rw [if_neg h1]; exact ⟨_, _, _, rfl, by omega⟩
  · have e : vd s 7 a b c = if 0 ≤ a ∧ a < ns s then (if 0 ≤ b ∧ b ≤ 9 then (if ht s a.toNat < 0 then (3, 6, ln s a.toNat) else if b = ht s a.toNat then (3, 2, b) else (0, 0, 0)) else (2, 0, 0)) else (1, 0, 0) := rfl
    rw [e]
    by_cases h1 : 0 ≤ a ∧ a < ns s
    · rw [if_pos h1]
      by_cases h2 : 0 ≤ b ∧ b ≤ 9
      · rw [if_pos h2]
        by_cases h3 : ht s a.toNat < 0
        · rw [if_pos h3]; exact ⟨_, _, _, rfl, by omega⟩
        · rw [if_neg h3]
          by_cases h4 : b = ht s a.toNat
          · rw [if_pos h4]; exact ⟨_, _, _, rfl, by omega⟩
          · rw [if_neg h4]; exact ⟨_, _, _, rfl, by omega⟩
      · rw [if_neg h2]; exact ⟨_, _, _, rfl, by omega⟩
    · rw [if_neg h1]; exact ⟨_, _, _, rfl, by omega⟩
theorem pk_r {o : Nat} {v : Int} (ho : o < 8) (h : alw o v) (h0 : v ≠ 0) : 0 < pk o v ∧ pk o v < 10 := by
  unfold alw at h
  unfold pk
  by_cases h1 : o = 0
  · rw [if_pos h1]; omega
  · rw [if_neg h1]
    by_cases h2 : o = 4
    · rw [if_pos h2]
      by_cases h3 : v = 1
      · rw [if_pos h3]; omega
      · rw [if_neg h3]; omega
    · rw [if_neg h2]
      by_cases h4 : o = 5
      · rw [if_pos h4]; omega
      · rw [if_neg h4]
        by_cases h5 : o = 6
        · rw [if_pos h5]; omega
        · rw [if_neg h5]; omega
theorem c_fail1 (G : GT) {o : Nat} {a b c : Int32} {G8 : GT} (h : f_X1_verdict G o a b c = some (iI 1, G8)) : f_X9_change G o a b c = some (.inl 0, G8) := by
  unfold f_X9_change
  rw [h]
  rfl
theorem c_fail2 (G : GT) {o : Nat} {a b c : Int32} {G8 : GT} (h : f_X1_verdict G o a b c = some (iI 2, G8)) : f_X9_change G o a b c = some (.inl 1, G8) := by
  unfold f_X9_change
  rw [h]
  rfl
theorem c_fail3 (G : GT) {o : Nat} {a b c : Int32} {G8 : GT} (h : f_X1_verdict G o a b c = some (iI 3, G8)) : f_X9_change G o a b c = some (.inl 2, G8) := by
  unfold f_X9_change
  rw [h]
  rfl
theorem c_fine (G : GT) {o : Nat} {a b c : Int32} {G8 : GT} (h : f_X1_verdict G o a b c = some (iI 0, G8)) : f_X9_change G o a b c = (f_X0_keep G8 0).bind fun G2 => bind2 (f_X1_carryOut G2 o a b c) fun r3 G3 => some (.inr r3, G3) := by
  unfold f_X9_change
  rw [h]
  rfl
theorem kp_1 (K : GT) : kp K 1 = K 1 := rfl
theorem kp_0 (K : GT) : kp K 0 = th K 0 0 := rfl
theorem kp_i (K : GT) {i : Nat} (h : 3 ≤ i) : kp K i = K i := by
  unfold kp th
  rw [upR_ne _ _ (by omega), upR_ne _ _ (by omega)]
theorem kp_j (K : GT) {j : Nat} (h : j ≠ 6) : kp K 0 j = K 0 j := by
  rw [kp_0]
  unfold th
  rw [upR_at, upd_ne _ _ h]
theorem exI (p : Int32) : ∃ a : Int, p = iI a ∧ R32 a := ⟨p.toInt, (toInt_iI p).symm, toInt_rg p⟩
theorem bXid {α : Type} (x : Option ((Nat ⊕ α) × GT)) : (bindX x fun r G => some (.inr r, G)) = x := by
  cases x with
  | none => rfl
  | some q =>
    obtain ⟨r, G⟩ := q
    cases r with
    | inl k => rfl
    | inr r => rfl
end PQ
