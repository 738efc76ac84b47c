/-! words -/
def mtl : List Int → (Nat → Int) → Nat
  | [], _ => 0
  | c :: cs, x => if x 0 = c then mtl cs (fun k => x (k + 1)) + 1 else 0
def Wd (o : Nat) : List Int := [[98, 97, 114], [107, 101, 121], [108, 101, 97, 107], [100, 114, 111, 112], [114, 101, 115, 116], [108, 105, 102, 116], [108, 105, 109, 105, 116], [116, 117, 110, 101]].getD o []
def kmO (o : Nat) : Int := [98, 107, 108, 100, 114, 76, 109, 116].getD o 0
theorem wd_c : ∀ o, o < 8 → (stB (woO o)).length = (Wd o).length ∧ (Wd o).length ≤ 5 ∧ 3 ≤ (Wd o).length ∧ ∀ q, q < (Wd o).length → chB (stB (woO o)) (iI ((0 + q : Nat) : Int)) = iI ((Wd o).getD q 0) ∧ 0 < (Wd o).getD q 0 ∧ (Wd o).getD q 0 ≤ 65535 := by decide +kernel
section PX
variable {G K : GT} {n p c m : Nat} {O N : Nat → Int32}
theorem mtl_le (L : List Int) : ∀ x, mtl L x ≤ L.length := by
  induction L with
  | nil => intro x; exact Nat.le_refl 0
  | cons a L ih =>
    intro x
    have h := ih (fun k => x (k + 1))
    have e : mtl (a :: L) x = if x 0 = a then mtl L (fun k => x (k + 1)) + 1 else 0 := rfl
    rw [e, List.length_cons]
    by_cases h1 : x 0 = a
    · rw [if_pos h1]; omega
    · rw [if_neg h1]; omega
theorem mtl_n {L : List Int} : ∀ {q : Nat}, q ≤ n → (∀ i, i < L.length → 0 < L.getD i 0) → q + mtl L (fun k => xb K n (q + k)) ≤ n := by
  induction L with
  | nil => intro q hq _; exact hq
  | cons a L ih =>
    intro q hq h
    have e : mtl (a :: L) (fun k => xb K n (q + k)) = if xb K n (q + 0) = a then mtl L (fun k => xb K n (q + (k + 1))) + 1 else 0 := rfl
    rw [e]
    by_cases h1 : xb K n (q + 0) = a
    · have h0 : 0 < a := h 0 (by simp)
      have h2 : q + 0 < n := xb_in (K := K) (by omega)
      have h3 := ih (q := q + 1) (by omega) (fun i hi => h (i + 1) (by rw [List.length_cons]; omega))
      have e2 : (fun k => xb K n (q + (k + 1))) = fun k => xb K n (q + 1 + k) := by
        funext k
        congr 1
        omega
      rw [if_pos h1, e2]
      omega
    · rw [if_neg h1]; omega
theorem let_s (i f : Nat) (G : GT) (x : Int32) : f_X8_lettersOf_2 i (f + 1) G x = (if nI (stB i).length ≤ x then some (nI (stB i).length, G) else (if inb x (stB i).length then ((f_X8_isSign G ((G 84 4) + x) (chB (stB i) x)).bind fun r3 => (if r3 = 0 then some (x, G) else f_X8_lettersOf_2 i f G (x + 1))) else none)) := rfl
theorem c_let (T : Tx G K n) (i : Nat) : ∀ (L : List Int) (j fuel : Nat), (stB i).length = j + L.length → j + L.length < 100 → p ≤ 1000 → L.length < fuel → (∀ q, q < L.length → chB (stB i) (iI ((j + q : Nat) : Int)) = iI (L.getD q 0) ∧ 0 < L.getD q 0 ∧ L.getD q 0 ≤ 65535) → f_X8_lettersOf_2 i fuel (tc G p c O N) (iI j) = some (iI ((j + mtl L (fun k => xb K n (p + j + k)) : Nat) : Int), tc G p c O N) := by
  intro L
  induction L with
  | nil =>
    intro j fuel h1 h2 hp h3 _
    obtain ⟨f, rfl⟩ : ∃ f, fuel = f + 1 := ⟨fuel - 1, by omega⟩
    have e1 : (stB i).length = j := h1
    have hle : nI (stB i).length ≤ iI j := by
      rw [e1, lit_nI, iI_le (by omega) (by omega) (by omega) (by omega)]; omega
    rw [let_s, if_pos hle, e1, lit_nI]
    rfl
  | cons a L ih =>
    intro j fuel h1 h2 hp h3 h4
    obtain ⟨f, rfl⟩ : ∃ f, fuel = f + 1 := ⟨fuel - 1, by omega⟩
    rw [List.length_cons] at h1 h2 h3
    obtain ⟨g1, g2⟩ := h4 0 (by simp)
    have g1 : chB (stB i) (iI (j : Int)) = iI a := g1
    have g2 : 0 < a ∧ a ≤ 65535 := g2
    have e : mtl (a :: L) (fun k => xb K n (p + j + k)) = if xb K n (p + j) = a then mtl L (fun k => xb K n (p + j + (k + 1))) + 1 else 0 := rfl
    have epj : iI (p : Int) + iI (j : Int) = iI ((p + j : Nat) : Int) := by rw [iI_add]; rfl
    have h5 := ih (j + 1) f (by omega) (by omega) hp (by omega) (fun q hq => by
      have := h4 (q + 1) (by rw [List.length_cons]; omega)
      rw [show j + (q + 1) = j + 1 + q by omega] at this
      exact this)
    have hle : ¬ nI (stB i).length ≤ iI j := by
      rw [h1, lit_nI, iI_le (by omega) (by omega) (by omega) (by omega)]; omega
    have hin : inb (iI j) (stB i).length := by
      rw [h1, iI_inb (by omega) (by omega) (by omega)]; omega
    rw [let_s, if_neg hle, if_pos hin, g1, tc_4, epj, c_isSign T (by omega) g2, Option.bind_some, e]
    by_cases h6 : xb K n (p + j) = a
    · rw [if_pos h6, if_neg ne10, if_pos h6]
      have e1 : iI (j : Int) + 1 = iI ((j + 1 : Nat) : Int) := by rw [pl1, iI_add]; rfl
      have e2 : (fun k => xb K n (p + j + (k + 1))) = fun k => xb K n (p + (j + 1) + k) := by
        funext k
        congr 1
        omega
      have e3 : j + (mtl L (fun k => xb K n (p + (j + 1) + k)) + 1) = j + 1 + mtl L (fun k => xb K n (p + (j + 1) + k)) := by omega
      rw [e1, e2, e3]
      exact h5
    · rw [if_neg h6, if_pos (show iI 0 = (0 : Int32) from rfl), if_neg h6]
      rfl
theorem c_letters (T : Tx G K n) (hp : p ≤ 1000) {o : Nat} (ho : o < 8) : f_X8_lettersOf (tc G p c O N) (woO o) = some (iI (mtl (Wd o) (fun k => xb K n (p + k))), tc G p c O N) := by
  obtain ⟨h1, h2, h3, h4⟩ := wd_c o ho
  have := c_let (p := p) (c := c) (O := O) (N := N) T (woO o) (Wd o) 0 4096 (by omega) (by omega) hp (by omega) h4
  rw [Nat.zero_add] at this
  exact this
/-! which word stands there -/
def kk (x : Nat → Int) : Nat := if x 0 = 98 then 0 else if x 0 = 107 then 1 else if x 0 = 100 then 3 else if x 0 = 114 then 4 else if x 0 = 116 then 7 else if x 0 = 108 then (if x 1 = 101 then 2 else if x 2 = 109 then 6 else 5) else 5
def mxw (x : Nat → Int) : Nat → Nat
  | 0 => 0
  | k + 1 => max (mxw x k) (mtl (Wd k) x)
def fw (x : Nat → Int) : Nat := ff (fun o => mtl (Wd o) x = (Wd o).length) 8
theorem kk_lt (x : Nat → Int) : kk x < 8 := by
  unfold kk
  by_cases h1 : x 0 = 98
  · rw [if_pos h1]; omega
  · rw [if_neg h1]
    by_cases h2 : x 0 = 107
    · rw [if_pos h2]; omega
    · rw [if_neg h2]
      by_cases h3 : x 0 = 100
      · rw [if_pos h3]; omega
      · rw [if_neg h3]
        by_cases h4 : x 0 = 114
        · rw [if_pos h4]; omega
        · rw [if_neg h4]
          by_cases h5 : x 0 = 116
          · rw [if_pos h5]; omega
          · rw [if_neg h5]
            by_cases h6 : x 0 = 108
            · rw [if_pos h6]
              by_cases h7 : x 1 = 101
              · rw [if_pos h7]; omega
              · rw [if_neg h7]
                by_cases h8 : x 2 = 109
                · rw [if_pos h8]; omega
                · rw [if_neg h8]; omega
            · rw [if_neg h6]; omega
theorem fw_none {x : Nat → Int} (h : ∀ o, o < 8 → mtl (Wd o) x ≠ (Wd o).length) : fw x = 8 := by
  obtain ⟨g1, g2, g3⟩ := ff_r (fun o => mtl (Wd o) x = (Wd o).length) 8
  unfold fw
  by_cases h1 : ff (fun o => mtl (Wd o) x = (Wd o).length) 8 < 8
  · exact absurd (g3 h1) (h _ h1)
  · omega
theorem fw_one {x : Nat → Int} {k : Nat} (hk : k < 8) (h : mtl (Wd k) x = (Wd k).length) (h2 : ∀ o, o < 8 → o ≠ k → mtl (Wd o) x ≠ (Wd o).length) : fw x = k := ff_eq hk h (fun o ho => h2 o (by omega) (by omega))
theorem all8 {P : Nat → Prop} (h0 : P 0) (h1 : P 1) (h2 : P 2) (h3 : P 3) (h4 : P 4) (h5 : P 5) (h6 : P 6) (h7 : P 7) : ∀ o, o < 8 → P o := by
  intro o ho
  obtain rfl | rfl | rfl | rfl | rfl | rfl | rfl | rfl : o = 0 ∨ o = 1 ∨ o = 2 ∨ o = 3 ∨ o = 4 ∨ o = 5 ∨ o = 6 ∨ o = 7 := by omega
  all_goals assumption
/-- of words of which at the most one stands there whole, with the longest beginning at k -/
theorem word_of {x : Nat → Int} {k : Nat} (hk : k < 8) (h : ∀ o, o < 8 → o ≠ k → mtl (Wd o) x < (Wd o).length ∧ mtl (Wd o) x ≤ mtl (Wd k) x) : (mtl (Wd k) x = (Wd k).length → fw x = k) ∧ (mtl (Wd k) x ≠ (Wd k).length → fw x = 8 ∧ mxw x 8 = mtl (Wd k) x) := by
  refine ⟨fun h1 => fw_one hk h1 fun o ho hne => by have := h o ho hne; omega, fun h1 => ⟨fw_none fun o ho => ?_, ?_⟩⟩
  · by_cases e : o = k
    · rw [e]; exact h1
    · have := h o ho e; omega
  · have e : mxw x 8 = max (max (max (max (max (max (max (max 0 (mtl (Wd 0) x)) (mtl (Wd 1) x)) (mtl (Wd 2) x)) (mtl (Wd 3) x)) (mtl (Wd 4) x)) (mtl (Wd 5) x)) (mtl (Wd 6) x)) (mtl (Wd 7) x) := rfl
    have q : ∀ o, o < 8 → mtl (Wd o) x ≤ mtl (Wd k) x := fun o ho => by
      by_cases e : o = k
      · rw [e]; exact Nat.le_refl _
      · exact (h o ho e).2
    have q0 := q 0 (by omega)
    have q1 := q 1 (by omega)
    have q2 := q 2 (by omega)
    have q3 := q 3 (by omega)
    have q4 := q 4 (by omega)
    have q5 := q 5 (by omega)
    have q6 := q 6 (by omega)
    have q7 := q 7 (by omega)
    rw [e]
    obtain rfl | rfl | rfl | rfl | rfl | rfl | rfl | rfl : k = 0 ∨ k = 1 ∨ k = 2 ∨ k = 3 ∨ k = 4 ∨ k = 5 ∨ k = 6 ∨ k = 7 := by omega
    all_goals omega
theorem word_c (x : Nat → Int) : (mtl (Wd (kk x)) x = (Wd (kk x)).length → fw x = kk x) ∧ (mtl (Wd (kk x)) x ≠ (Wd (kk x)).length → fw x = 8 ∧ mxw x 8 = mtl (Wd (kk x)) x) := by
  have L0 : (Wd 0).length = 3 := rfl
  have L1 : (Wd 1).length = 3 := rfl
  have L2 : (Wd 2).length = 4 := rfl
  have L3 : (Wd 3).length = 4 := rfl
  have L4 : (Wd 4).length = 4 := rfl
  have L5 : (Wd 5).length = 4 := rfl
  have L6 : (Wd 6).length = 5 := rfl
  have L7 : (Wd 7).length = 4 := rfl
  have z0 : x 0 ≠ 98 → mtl (Wd 0) x = 0 := fun h => if_neg h
  have z1 : x 0 ≠ 107 → mtl (Wd 1) x = 0 := fun h => if_neg h
  have z2 : x 0 ≠ 108 → mtl (Wd 2) x = 0 := fun h => if_neg h
  have z3 : x 0 ≠ 100 → mtl (Wd 3) x = 0 := fun h => if_neg h
  have z4 : x 0 ≠ 114 → mtl (Wd 4) x = 0 := fun h => if_neg h
  have z5 : x 0 ≠ 108 → mtl (Wd 5) x = 0 := fun h => if_neg h
  have z6 : x 0 ≠ 108 → mtl (Wd 6) x = 0 := fun h => if_neg h
  have z7 : x 0 ≠ 116 → mtl (Wd 7) x = 0 := fun h => if_neg h
  by_cases h1 : x 0 = 98
  · have e : kk x = 0 := if_pos h1
    rw [e]
    exact word_of (by omega) (all8 (fun h => absurd rfl h) (fun _ => by omega) (fun _ => by omega) (fun _ => by omega) (fun _ => by omega) (fun _ => by omega) (fun _ => by omega) (fun _ => by omega))
  · by_cases h2 : x 0 = 107
    · have e : kk x = 1 := (if_neg h1).trans (if_pos h2)
      rw [e]
      exact word_of (by omega) (all8 (fun _ => by omega) (fun h => absurd rfl h) (fun _ => by omega) (fun _ => by omega) (fun _ => by omega) (fun _ => by omega) (fun _ => by omega) (fun _ => by omega))
    · by_cases h3 : x 0 = 100
      · have e : kk x = 3 := (if_neg h1).trans ((if_neg h2).trans (if_pos h3))
        rw [e]
        exact word_of (by omega) (all8 (fun _ => by omega) (fun _ => by omega) (fun _ => by omega) (fun h => absurd rfl h) (fun _ => by omega) (fun _ => by omega) (fun _ => by omega) (fun _ => by omega))
      · by_cases h4 : x 0 = 114
        · have e : kk x = 4 := (if_neg h1).trans ((if_neg h2).trans ((if_neg h3).trans (if_pos h4)))
          rw [e]
          exact word_of (by omega) (all8 (fun _ => by omega) (fun _ => by omega) (fun _ => by omega) (fun _ => by omega) (fun h => absurd rfl h) (fun _ => by omega) (fun _ => by omega) (fun _ => by omega))
        · by_cases h5 : x 0 = 116
          · have e : kk x = 7 := (if_neg h1).trans ((if_neg h2).trans ((if_neg h3).trans ((if_neg h4).trans (if_pos h5))))
            rw [e]
            exact word_of (by omega) (all8 (fun _ => by omega) (fun _ => by omega) (fun _ => by omega) (fun _ => by omega) (fun _ => by omega) (fun _ => by omega) (fun _ => by omega) (fun h => absurd rfl h))
          · by_cases h6 : x 0 = 108
            · have e2 : mtl (Wd 2) x = if x 0 = 108 then (if x 1 = 101 then (if x 2 = 97 then (if x 3 = 107 then 0 + 1 else 0) + 1 else 0) + 1 else 0) + 1 else 0 := rfl
              have e5 : mtl (Wd 5) x = if x 0 = 108 then (if x 1 = 105 then (if x 2 = 102 then (if x 3 = 116 then 0 + 1 else 0) + 1 else 0) + 1 else 0) + 1 else 0 := rfl
              have e6 : mtl (Wd 6) x = if x 0 = 108 then (if x 1 = 105 then (if x 2 = 109 then (if x 3 = 105 then (if x 4 = 116 then 0 + 1 else 0) + 1 else 0) + 1 else 0) + 1 else 0) + 1 else 0 := rfl
              rw [if_pos h6] at e2 e5 e6
              by_cases h7 : x 1 = 101
              · have e : kk x = 2 := (if_neg h1).trans ((if_neg h2).trans ((if_neg h3).trans ((if_neg h4).trans ((if_neg h5).trans ((if_pos h6).trans (if_pos h7))))))
                rw [if_pos h7] at e2
                rw [if_neg (by omega)] at e5 e6
                rw [e]
                exact word_of (by omega) (all8 (fun _ => by omega) (fun _ => by omega) (fun h => absurd rfl h) (fun _ => by omega) (fun _ => by omega) (fun _ => by omega) (fun _ => by omega) (fun _ => by omega))
              · rw [if_neg h7] at e2
                by_cases h8 : x 2 = 109
                · have e : kk x = 6 := (if_neg h1).trans ((if_neg h2).trans ((if_neg h3).trans ((if_neg h4).trans ((if_neg h5).trans ((if_pos h6).trans ((if_neg h7).trans (if_pos h8)))))))
                  rw [e]
                  by_cases h9 : x 1 = 105
                  · rw [if_pos h9, if_pos h8] at e6
                    rw [if_pos h9, if_neg (by omega)] at e5
                    exact word_of (by omega) (all8 (fun _ => by omega) (fun _ => by omega) (fun _ => by omega) (fun _ => by omega) (fun _ => by omega) (fun _ => by omega) (fun h => absurd rfl h) (fun _ => by omega))
                  · rw [if_neg h9] at e5 e6
                    exact word_of (by omega) (all8 (fun _ => by omega) (fun _ => by omega) (fun _ => by omega) (fun _ => by omega) (fun _ => by omega) (fun _ => by omega) (fun h => absurd rfl h) (fun _ => by omega))
                · have e : kk x = 5 := (if_neg h1).trans ((if_neg h2).trans ((if_neg h3).trans ((if_neg h4).trans ((if_neg h5).trans ((if_pos h6).trans ((if_neg h7).trans (if_neg h8)))))))
                  rw [e]
                  by_cases h9 : x 1 = 105
                  · rw [if_pos h9, if_neg h8] at e6
                    rw [if_pos h9] at e5
                    exact word_of (by omega) (all8 (fun _ => by omega) (fun _ => by omega) (fun _ => by omega) (fun _ => by omega) (fun _ => by omega) (fun h => absurd rfl h) (fun _ => by omega) (fun _ => by omega))
                  · rw [if_neg h9] at e5 e6
                    exact word_of (by omega) (all8 (fun _ => by omega) (fun _ => by omega) (fun _ => by omega) (fun _ => by omega) (fun _ => by omega) (fun h => absurd rfl h) (fun _ => by omega) (fun _ => by omega))
            · have e : kk x = 5 := (if_neg h1).trans ((if_neg h2).trans ((if_neg h3).trans ((if_neg h4).trans ((if_neg h5).trans (if_neg h6)))))
              rw [e]
              exact word_of (by omega) (all8 (fun _ => by omega) (fun _ => by omega) (fun _ => by omega) (fun _ => by omega) (fun _ => by omega) (fun h => absurd rfl h) (fun _ => by omega) (fun _ => by omega))
theorem mxw_r (x : Nat → Int) : ∀ k, k ≤ 8 → mxw x k ≤ 5 := by
  intro k
  induction k with
  | zero => intro _; exact Nat.zero_le _
  | succ k ih =>
    intro hk
    have h1 := ih (by omega)
    have h2 := mtl_le (Wd k) x
    have h3 := wd_c k (by omega)
    show max (mxw x k) (mtl (Wd k) x) ≤ 5
    omega
/-- the class reads a word -/
theorem c_word (T : Tx G K n) (hp : p ≤ n) : f_X8_readWord (tc G p c O N) = (if fw (fun k => xb K n (p + k)) < 8 then some (fw (fun k => xb K n (p + k)) + 1, tc G (p + (Wd (fw (fun k => xb K n (p + k)))).length) c O N) else some (0, tc G (p + mxw (fun k => xb K n (p + k)) 8) c O N)) := by
  have h60 := T.1
  obtain ⟨g1, g2, g3⟩ := ff_r (fun o => mtl (Wd o) (fun k => xb K n (p + k)) = (Wd o).length) 8
  have hl := fun o (ho : o < 8) => c_letters (c := c) (O := O) (N := N) T (show p ≤ 1000 by omega) ho
  have hm := mxw_r (fun k => xb K n (p + k))
  have hme := fun o => mtl_le (Wd o) (fun k => xb K n (p + k))
  unfold fw
  generalize ff (fun o => mtl (Wd o) (fun k => xb K n (p + k)) = (Wd o).length) 8 = F at g1 g2 g3 ⊢
  have hms : ∀ j, mxw (fun k => xb K n (p + k)) (j + 1) = max (mxw (fun k => xb K n (p + k)) j) (mtl (Wd j) (fun k => xb K n (p + k))) := fun j => rfl
  have g2 : ∀ j, j < F → ¬ mtl (Wd j) (fun k => xb K n (p + k)) = (Wd j).length := g2
  have g3 : F < 8 → mtl (Wd F) (fun k => xb K n (p + k)) = (Wd F).length := g3
  generalize (fun k => xb K n (p + k)) = x at g2 g3 hl hm hme hms ⊢
  unfold f_X8_readWord f_X8_readWord_4
  refine lq3_fr (X1 := fun _ => tc G p c O N) (X2 := fun j => iI (mxw x j)) (X3 := fun j => iI j) F _ rfl rfl rfl (fun k j hj => ?_) (fun k => ?_) (by omega)
  · have h1 := wd_c j (by omega)
    have h2 := hm j (by omega)
    have h3 := hme j
    have h4 := g2 j hj
    rw [if_neg (by rw [lit_nI, iI_le (by omega) (by omega) (by omega) (by omega)]; omega), if_pos (by rw [iI_inb (by omega) (by omega) (by omega)]; omega), cln (by omega), hl j (by omega), b2s, h1.1, if_neg (by rw [lit_nI, iI_eq (by omega) (by omega) (by omega) (by omega)]; omega), iI_max (by omega) (by omega) (by omega) (by omega), hms, pl1, iI_add]
    congr 1
    congr 1
    omega
  · by_cases h : F < 8
    · have h1 := wd_c F (by omega)
      have h2 := hm F (by omega)
      have h4 := g3 h
      have e : iI (p : Int) + iI (mtl (Wd F) x : Int) = iI ((p + (Wd F).length : Nat) : Int) := by rw [iI_add, h4]; rfl
      rw [if_neg (by rw [lit_nI, iI_le (by omega) (by omega) (by omega) (by omega)]; omega), if_pos (by rw [iI_inb (by omega) (by omega) (by omega)]; omega), cln (by omega), hl F (by omega), b2s, h1.1, if_pos (by rw [lit_nI, h4]), tc_4, e, tc_pos, if_pos h]
      rfl
    · obtain rfl : F = 8 := by omega
      have e : iI (p : Int) + iI (mxw x 8 : Int) = iI ((p + mxw x 8 : Nat) : Int) := by rw [iI_add]; rfl
      rw [if_pos (by decide), tc_4, e, tc_pos, if_neg h]
      rfl
end PX
