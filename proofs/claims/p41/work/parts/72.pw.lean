/-! the text: what its readers do -/
def Tx (G K : GT) (n : Nat) : Prop := n ≤ 60 ∧ G 84 3 = iI n ∧ K 0 13 = iI n ∧ ∀ j, j < n → G 85 j = K 6 j ∧ okC (K 6 j)
/-- the sign at a place, 0 behind the end -/
def xb (K : GT) (n q : Nat) : Int := if q < n then (K 6 q).toInt else 0
def tc (G : GT) (p c : Nat) (O N : Nat → Int32) : GT := upR (upR (upR G 84 (upd (upd (G 84) 4 (iI p)) 5 (iI c))) 86 O) 87 N
def tm (K : GT) (p : Nat) (w : Int) (m : Nat) (O : Nat → Int32) : GT := upR (upR K 0 (upd (upd (upd (K 0) 14 (iI p)) 15 (iI w)) 18 (iI m))) 7 O
section PW
variable {G K : GT} {n p c m : Nat} {O N : Nat → Int32}
theorem tc_3 : tc G p c O N 84 3 = G 84 3 := rfl
theorem tc_4 : tc G p c O N 84 4 = iI p := rfl
theorem tc_5 : tc G p c O N 84 5 = iI c := rfl
theorem tc_6 : tc G p c O N 84 6 = G 84 6 := rfl
theorem tc_85 : tc G p c O N 85 = G 85 := rfl
theorem tc_86 : tc G p c O N 86 = O := rfl
theorem tc_87 : tc G p c O N 87 = N := rfl
theorem tc_i {i : Nat} (h1 : i ≠ 84) (h2 : i ≠ 86) (h3 : i ≠ 87) : tc G p c O N i = G i := by
  unfold tc
  rw [upR_ne _ _ h3, upR_ne _ _ h2, upR_ne _ _ h1]
theorem tc_eq {X Y : Nat → Int32} {G1 : GT} (h84 : G1 84 = upd (upd (G 84) 4 (iI p)) 5 (iI c)) (h86 : G1 86 = O) (h87 : G1 87 = N) (h : ∀ i, i ≠ 84 → i ≠ 86 → i ≠ 87 → G1 i = G i) : G1 = tc G p c O N := by
  funext i
  by_cases e1 : i = 84
  · rw [e1, h84]; rfl
  · by_cases e2 : i = 86
    · rw [e2, h86]; rfl
    · by_cases e3 : i = 87
      · rw [e3, h87]; rfl
      · rw [h i e1 e2 e3, tc_i e1 e2 e3]
theorem tc_pos (q : Nat) : upR (tc G p c O N) 84 (upd (tc G p c O N 84) 4 (iI q)) = tc G q c O N := by
  refine tc_eq (X := O) (Y := O) ?_ rfl rfl fun i h1 h2 h3 => ?_
  · rw [upR_at]
    have e : tc G p c O N 84 = upd (upd (G 84) 4 (iI p)) 5 (iI c) := rfl
    rw [e]
    funext j
    by_cases j4 : j = 4
    · rw [j4, upd_at]; rfl
    · rw [upd_ne _ _ j4]
      by_cases j5 : j = 5
      · rw [j5, upd_at, upd_at]
      · rw [upd_ne _ _ j5, upd_ne _ _ j4, upd_ne _ _ j5, upd_ne _ _ j4]
  · rw [upR_ne _ _ h1, tc_i h1 h2 h3]
theorem tc_cnt (q : Nat) : upR (tc G p c O N) 84 (upd (tc G p c O N 84) 5 (iI q)) = tc G p q O N := by
  refine tc_eq (X := O) (Y := O) ?_ rfl rfl fun i h1 h2 h3 => ?_
  · rw [upR_at]
    have e : tc G p c O N 84 = upd (upd (G 84) 4 (iI p)) 5 (iI c) := rfl
    rw [e, upd_upd]
  · rw [upR_ne _ _ h1, tc_i h1 h2 h3]
theorem tc_ord (X : Nat → Int32) : upR (tc G p c O N) 86 X = tc G p c X N := by
  refine tc_eq (X := O) (Y := O) ?_ ?_ ?_ fun i h1 h2 h3 => ?_
  · rw [upR_ne _ _ (by decide)]; rfl
  · rw [upR_at]
  · rw [upR_ne _ _ (by decide)]; rfl
  · rw [upR_ne _ _ h2, tc_i h1 h2 h3]
theorem tc_num (X : Nat → Int32) : upR (tc G p c O N) 87 X = tc G p c O X := by
  unfold tc
  rw [upR_upR]
theorem tm_13 {w : Int} : tm K p w m O 0 13 = K 0 13 := rfl
theorem tm_14 {w : Int} : tm K p w m O 0 14 = iI p := rfl
theorem tm_15 {w : Int} : tm K p w m O 0 15 = iI w := rfl
theorem tm_18 {w : Int} : tm K p w m O 0 18 = iI m := rfl
theorem tm_6 {w : Int} : tm K p w m O 6 = K 6 := rfl
theorem tm_7 {w : Int} : tm K p w m O 7 = O := rfl
theorem tm_i {w : Int} {i : Nat} (h1 : i ≠ 0) (h2 : i ≠ 7) : tm K p w m O i = K i := by
  unfold tm
  rw [upR_ne _ _ h2, upR_ne _ _ h1]
theorem tm_j {w : Int} {j : Nat} (h1 : j ≠ 14) (h2 : j ≠ 15) (h3 : j ≠ 18) : tm K p w m O 0 j = K 0 j := by
  unfold tm
  rw [upR_ne _ _ (by decide), upR_at, upd_ne _ _ h3, upd_ne _ _ h2, upd_ne _ _ h1]
theorem tm_0 {w : Int} : tm K p w m O 0 = upd (upd (upd (K 0) 14 (iI p)) 15 (iI w)) 18 (iI m) := rfl
theorem tm_eq {w : Int} {K1 : GT} (h0 : K1 0 = upd (upd (upd (K 0) 14 (iI p)) 15 (iI w)) 18 (iI m)) (h7 : K1 7 = O) (h : ∀ i, i ≠ 0 → i ≠ 7 → K1 i = K i) : K1 = tm K p w m O := by
  funext i
  by_cases e1 : i = 0
  · rw [e1, h0]; rfl
  · by_cases e2 : i = 7
    · rw [e2, h7]; rfl
    · rw [h i e1 e2, tm_i e1 e2]
theorem tm_pos {w : Int} (q : Nat) : upR (tm K p w m O) 0 (upd (tm K p w m O 0) 14 (iI q)) = tm K q w m O := by
  refine tm_eq ?_ rfl fun i h1 h2 => ?_
  · rw [upR_at, tm_0]
    funext j
    by_cases j4 : j = 14
    · rw [j4, upd_at]; rfl
    · rw [upd_ne _ _ j4]
      by_cases j5 : j = 18
      · rw [j5, upd_at, upd_at]
      · rw [upd_ne _ _ j5, upd_ne _ _ j5]
        by_cases j6 : j = 15
        · rw [j6, upd_at, upd_at]
        · rw [upd_ne _ _ j6, upd_ne _ _ j4, upd_ne _ _ j6, upd_ne _ _ j4]
  · rw [upR_ne _ _ h1, tm_i h1 h2]
theorem tm_wr {w : Int} (q : Int) : upR (tm K p w m O) 0 (upd (tm K p w m O 0) 15 (iI q)) = tm K p q m O := by
  refine tm_eq ?_ rfl fun i h1 h2 => ?_
  · rw [upR_at, tm_0]
    funext j
    by_cases j6 : j = 15
    · rw [j6, upd_at]; rfl
    · rw [upd_ne _ _ j6]
      by_cases j5 : j = 18
      · rw [j5, upd_at, upd_at]
      · rw [upd_ne _ _ j5, upd_ne _ _ j6, upd_ne _ _ j5, upd_ne _ _ j6]
  · rw [upR_ne _ _ h1, tm_i h1 h2]
theorem tm_wr0 {w : Int} : upR (tm K p w m O) 0 (upd (tm K p w m O 0) 15 0) = tm K p 0 m O := tm_wr 0
theorem tm_wr1 {w : Int} : upR (tm K p w m O) 0 (upd (tm K p w m O 0) 15 1) = tm K p 1 m O := tm_wr 1
theorem tm_cnt {w : Int} (q : Nat) : upR (tm K p w m O) 0 (upd (tm K p w m O 0) 18 (iI q)) = tm K p w q O := by
  refine tm_eq ?_ rfl fun i h1 h2 => ?_
  · rw [upR_at, tm_0, upd_upd]
  · rw [upR_ne _ _ h1, tm_i h1 h2]
theorem tm_ord {w : Int} (X : Nat → Int32) : upR (tm K p w m O) 7 X = tm K p w m X := by
  unfold tm
  rw [upR_upR]
theorem xb_r (T : Tx G K n) (q : Nat) : 0 ≤ xb K n q ∧ xb K n q ≤ 65535 := by
  unfold xb
  by_cases h : q < n
  · obtain ⟨-, h1, h2⟩ := T.2.2.2 q h
    rw [if_pos h]
    rw [Int32.le_iff_toInt_le] at h1
    rw [Int32.lt_iff_toInt_lt, nI_toInt (by omega)] at h2
    have e : (0 : Int32).toInt = 0 := by decide
    omega
  · rw [if_neg h]; omega
theorem xb_in {q : Nat} (h : xb K n q ≠ 0) : q < n := by
  unfold xb at h
  by_cases h1 : q < n
  · exact h1
  · rw [if_neg h1] at h; exact absurd rfl h
theorem xb_K {q : Nat} (h : q < n) : K 6 q = iI (xb K n q) := by
  unfold xb
  rw [if_pos h, toInt_iI]
theorem xb_G (T : Tx G K n) {q : Nat} (h : q < n) : G 85 q = iI (xb K n q) := (T.2.2.2 q h).1.trans (xb_K h)
theorem cln {q : Nat} (h : q ≤ 100000) : (iI (q : Int)).toNatClampNeg = q := by rw [iI_clamp (by omega) (by omega), Int.toNat_natCast]
theorem c_isSign (T : Tx G K n) {q : Nat} {ch : Int} (hq : q ≤ 4000) (hc : 0 < ch ∧ ch ≤ 65535) : f_X8_isSign (tc G p c O N) (iI q) (iI ch) = some (iI (if xb K n q = ch then 1 else 0)) := by
  have h60 := T.1
  have hr := xb_r T q
  unfold f_X8_isSign
  rw [tc_3, tc_85, T.2.1, if_neg (by rw [pl0, iI_lt (by omega) (by omega) (by omega) (by omega)]; omega)]
  by_cases h : q < n
  · rw [if_neg (by rw [iI_le (by omega) (by omega) (by omega) (by omega)]; omega), if_neg (by rw [lit_nI, iI_le (by omega) (by omega) (by omega) (by omega)]; omega), if_pos (by rw [iI_inb (by omega) (by omega) (by omega)]; omega), cln (by omega), xb_G T h]
    by_cases h2 : xb K n q = ch
    · rw [if_pos (by rw [h2]), if_pos h2]; rfl
    · rw [if_neg (by rw [iI_eq (by omega) (by omega) (by omega) (by omega)]; exact h2), if_neg h2]; rfl
  · rw [if_pos (by rw [iI_le (by omega) (by omega) (by omega) (by omega)]; omega)]
    have e : xb K n q = 0 := if_neg h
    rw [if_neg (by omega)]
    rfl
theorem c_take (T : Tx G K n) {ch : Int} (hp : p ≤ 4000) (hc : 0 < ch ∧ ch ≤ 65535) : f_X8_take (tc G p c O N) (iI ch) = if xb K n p = ch then some (iI 1, tc G (p + 1) c O N) else some (iI 0, tc G p c O N) := by
  unfold f_X8_take
  rw [tc_4, c_isSign T hp hc, Option.bind_some]
  by_cases h : xb K n p = ch
  · rw [if_pos h, if_pos h, if_neg ne10, Option.bind_some]
    have e : iI (p : Int) + 1 = iI ((p + 1 : Nat) : Int) := by rw [pl1, iI_add]; rfl
    rw [e, tc_pos]
    rfl
  · rw [if_neg h, if_neg h, if_pos (show iI 0 = (0 : Int32) from rfl)]
    rfl
abbrev isd (x : Int) : Prop := 48 ≤ x ∧ x ≤ 57
theorem c_digit (T : Tx G K n) (hp : p ≤ 4000) : f_X8_readDigit (tc G p c O N) = if isd (xb K n p) then some (iI (xb K n p - 48), tc G (p + 1) c O N) else some (iI (-1), tc G p c O N) := by
  have h60 := T.1
  have hr := xb_r T p
  unfold f_X8_readDigit f_X9_isWithin
  rw [tc_3, tc_4, tc_85, T.2.1, if_neg (by rw [pl0, iI_lt (by omega) (by omega) (by omega) (by omega)]; omega)]
  by_cases h : p < n
  · rw [if_neg (by rw [iI_le (by omega) (by omega) (by omega) (by omega)]; omega), if_pos (by rw [lit_nI, iI_lt (by omega) (by omega) (by omega) (by omega)]; omega), if_pos (by rw [iI_inb (by omega) (by omega) (by omega)]; omega), cln (by omega), xb_G T h, show (48 : Int32) = iI 48 from rfl, iI_sub, pl0, pl9]
    have e : iI (p : Int) + 1 = iI ((p + 1 : Nat) : Int) := by rw [pl1, iI_add]; rfl
    by_cases h1 : xb K n p < 48
    · rw [if_pos (by rw [iI_lt (by omega) (by omega) (by omega) (by omega)]; omega), Option.bind_some, if_pos rfl, if_neg (by omega)]
      rfl
    · rw [if_neg (by rw [iI_lt (by omega) (by omega) (by omega) (by omega)]; omega)]
      by_cases h2 : 57 < xb K n p
      · rw [if_pos (by rw [iI_lt (by omega) (by omega) (by omega) (by omega)]; omega), Option.bind_some, if_pos rfl, if_neg (by omega)]
        rfl
      · rw [if_neg (by rw [iI_lt (by omega) (by omega) (by omega) (by omega)]; omega), Option.bind_some, if_neg (by decide), Option.bind_some, if_pos (by omega), e, tc_pos]
  · rw [if_pos (by rw [iI_le (by omega) (by omega) (by omega) (by omega)]; omega)]
    have e : xb K n p = 0 := if_neg h
    rw [if_neg (by omega)]
    rfl
theorem ddr {x : Int} (h : isd x) : 0 ≤ x - 48 ∧ x - 48 ≤ 9 := by unfold isd at h; omega
theorem c_number (T : Tx G K n) (hp : p ≤ 3000) {d : Int} (hd : d = 1 ∨ d = 2) : f_X8_readNumber (tc G p c O N) (iI d) = if isd (xb K n p) then (if d = 2 ∧ isd (xb K n (p + 1)) then some (iI (10 * (xb K n p - 48) + (xb K n (p + 1) - 48)), tc G (p + 1 + 1) c O N) else some (iI (xb K n p - 48), tc G (p + 1) c O N)) else some (iI (-1), tc G p c O N) := by
  have hr := xb_r T (p + 1)
  unfold f_X8_readNumber
  rw [c_digit T (by omega)]
  by_cases h1 : isd (xb K n p)
  · have h5 := ddr h1
    have hne : ¬ iI (xb K n p - 48) = -1 := by
      rw [show (-1 : Int32) = iI (-1) from rfl, iI_eq (by omega) (by omega) (by omega) (by omega)]; omega
    rw [if_pos h1, if_pos h1, b2s, if_neg hne]
    by_cases h2 : d = 2
    · rw [if_pos (by rw [h2]; decide), c_digit T (by omega)]
      by_cases h3 : isd (xb K n (p + 1))
      · have h6 := ddr h3
        have hne2 : ¬ iI (xb K n (p + 1) - 48) = -1 := by
          rw [show (-1 : Int32) = iI (-1) from rfl, iI_eq (by omega) (by omega) (by omega) (by omega)]; omega
        rw [if_pos h3, b2s, if_neg hne2, if_pos ⟨h2, h3⟩, pl10, iI_mul, iI_add]
      · rw [if_neg h3, b2s, if_pos (by decide), if_neg fun h => h3 h.2]
    · have e1 : d = 1 := by omega
      rw [if_neg (by rw [e1]; decide), if_neg fun h => h2 h.1]
  · rw [if_neg h1, if_neg h1, b2s, if_pos (by decide)]
/-! the reference's readers -/
end PW
