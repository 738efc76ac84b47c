/-! one order -/
def dgL (o : Nat) : List Int := [[1], [1, 2], [1, 1], [1, 1, 1], [1], [], [2], [2, 1]].getD o []
theorem wd_d : ∀ o, o < 8 → (stB (diO o)).length = (dgL o).length ∧ (dgL o).length ≤ 3 ∧ ∀ i, i < (dgL o).length → chB (stB (diO o)) (iI (i : Int)) - 48 = iI ((dgL o).getD i 0) ∧ ((dgL o).getD i 0 = 1 ∨ (dgL o).getD i 0 = 2) := by decide +kernel
theorem wd_4 : ∀ o, o < 8 → 4 ≤ (Wd o).length + 2 * (dgL o).length := by decide +kernel
def nok (K : GT) (n p : Nat) : Prop := xb K n p = 32 ∧ isd (xb K n (p + 1))
def nv (K : GT) (n p : Nat) (d : Int) : Int := if d = 2 ∧ isd (xb K n (p + 1 + 1)) then 10 * (xb K n (p + 1) - 48) + (xb K n (p + 1 + 1) - 48) else xb K n (p + 1) - 48
def np (K : GT) (n p : Nat) (d : Int) : Nat := if d = 2 ∧ isd (xb K n (p + 1 + 1)) then p + 1 + 1 + 1 else p + 1 + 1
def ne (K : GT) (n p : Nat) : Nat := if xb K n p = 32 then p + 1 else p
/-- the reference's numbers of an order -/
def mnum : List Int → Nat → GT → Option GT
  | [], _, G => some G
  | d :: ds, s2, G => bind2 (f_X10_number G (iI (d - 1))) fun r G1 => if inb (iI (s2 : Int)) 240 then mnum ds (s2 + 1) (upR G1 7 (upd (G1 7) (iI (s2 : Int)).toNatClampNeg r)) else none
section PY
variable {G K : GT} {n p c m : Nat} {O N : Nat → Int32}
theorem nv_r {d : Int} (h : nok K n p) : 0 ≤ nv K n p d ∧ nv K n p d ≤ 99 := by
  have h1 := ddr h.2
  unfold nv
  by_cases h2 : d = 2 ∧ isd (xb K n (p + 1 + 1))
  · have h3 := ddr h2.2
    rw [if_pos h2]; omega
  · rw [if_neg h2]; omega
theorem np_r {d : Int} (h : nok K n p) : p + 2 ≤ np K n p d ∧ np K n p d ≤ n := by
  have h1 := ddr h.2
  have h4 : p + 1 < n := xb_in (K := K) (by omega)
  unfold np
  by_cases h2 : d = 2 ∧ isd (xb K n (p + 1 + 1))
  · have h3 := ddr h2.2
    have h5 : p + 1 + 1 < n := xb_in (K := K) (by omega)
    rw [if_pos h2]; omega
  · rw [if_neg h2]; omega
theorem ne_r (h : p ≤ n) : p ≤ ne K n p ∧ ne K n p ≤ n := by
  unfold ne
  by_cases h2 : xb K n p = 32
  · have h5 : p < n := xb_in (K := K) (by omega)
    rw [if_pos h2]; omega
  · rw [if_neg h2]; omega
theorem ord_s (o f : Nat) (G : GT) (x : Int32) : f_X8_readOrder_32 o (f + 1) G x = (if nI (stB (diO o)).length ≤ x then (if inb (G 84 5) 12 then ((some (upR G 86 (upd (G 86) (G 84 5).toNatClampNeg (nI (o + 1))))).bind fun G5 => ((some (upR G5 84 (upd (G5 84) 5 ((G5 84 5) + (1 : Int32))))).bind fun G6 => some ((1 : Int32), G6))) else none) else (bind2 (f_X8_take G (32 : Int32)) fun r7 G7 => (if r7 = 0 then f_X8_readOrder_71 G7 (f_X8_readOrder_32 o f) o x (-1 : Int32) else (if inb x (stB (diO o)).length then (bind2 (f_X8_readNumber G7 ((chB (stB (diO o)) x) - (48 : Int32))) fun r10 G10 => f_X8_readOrder_71 G10 (f_X8_readOrder_32 o f) o x r10) else none)))) := rfl
theorem c_fin {o f : Nat} (ho : o < 8) (hc : c < 12) : f_X8_readOrder_32 o (f + 1) (tc G p c O N) (iI ((dgL o).length : Int)) = some (iI 1, tc G p (c + 1) (upd O c (iI ((o + 1 : Nat) : Int))) N) := by
  obtain ⟨h1, h2, -⟩ := wd_d o ho
  have hle : nI (stB (diO o)).length ≤ iI ((dgL o).length : Int) := by
    rw [h1, lit_nI, iI_le (by omega) (by omega) (by omega) (by omega)]; omega
  have hin : inb (iI (c : Int)) 12 := by
    rw [iI_inb (by omega) (by omega) (by omega)]; omega
  have e1 : iI (c : Int) + 1 = iI ((c + 1 : Nat) : Int) := by rw [pl1, iI_add]; rfl
  rw [ord_s, if_pos hle, tc_5, if_pos hin, cln (by omega), tc_86, lit_nI, tc_ord, Option.bind_some, tc_5, e1, tc_cnt, Option.bind_some]
  rfl
theorem c_step {o f i : Nat} (T : Tx G K n) (ho : o < 8) (hp : p ≤ n) (hc : c < 12) (hi : i < (dgL o).length) : (nok K n p → f_X8_readOrder_32 o (f + 1) (tc G p c O N) (iI i) = f_X8_readOrder_32 o f (tc G (np K n p ((dgL o).getD i 0)) c O (upd N (3 * c + i) (iI (nv K n p ((dgL o).getD i 0))))) (iI ((i + 1 : Nat) : Int))) ∧ (¬ nok K n p → f_X8_readOrder_32 o (f + 1) (tc G p c O N) (iI i) = some (iI 0, tc G (ne K n p) c O N)) := by
  have h60 := T.1
  obtain ⟨h1, h2, h3⟩ := wd_d o ho
  obtain ⟨h4, h5⟩ := h3 i hi
  generalize (dgL o).getD i 0 = d at h4 h5 ⊢
  have hle : ¬ nI (stB (diO o)).length ≤ iI (i : Int) := by
    rw [h1, lit_nI, iI_le (by omega) (by omega) (by omega) (by omega)]; omega
  have hin : inb (iI (i : Int)) (stB (diO o)).length := by
    rw [h1, iI_inb (by omega) (by omega) (by omega)]; omega
  have e1 : iI (i : Int) + 1 = iI ((i + 1 : Nat) : Int) := by rw [pl1, iI_add]; rfl
  have ht := c_take (c := c) (O := O) (N := N) T (p := p) (ch := 32) (by omega) (by omega)
  have ht : f_X8_take (tc G p c O N) (32 : Int32) = _ := ht
  have ei : iI (c : Int) * 3 + iI (i : Int) = iI ((c : Int) * 3 + i) := by rw [pl3, iI_mul, iI_add]
  have ei2 : ((c : Int) * 3 + i).toNat = 3 * c + i := by omega
  have h71 : ∀ (q : Nat) (v : Int), 0 ≤ v → v ≤ 1000 → f_X8_readOrder_71 (tc G q c O N) (f_X8_readOrder_32 o f) o (iI (i : Int)) (iI v) = f_X8_readOrder_32 o f (tc G q c O (upd N (3 * c + i) (iI v))) (iI ((i + 1 : Nat) : Int)) := by
    intro q v h6 h7
    unfold f_X8_readOrder_71
    rw [if_neg (by rw [show (-1 : Int32) = iI (-1) from rfl, iI_eq (by omega) (by omega) (by omega) (by omega)]; omega), tc_5, tc_87, ei, iI_put (by omega) (by omega) (by omega), ei2, tc_num, Option.bind_some, e1]
  have h71n : ∀ q : Nat, f_X8_readOrder_71 (tc G q c O N) (f_X8_readOrder_32 o f) o (iI (i : Int)) (-1) = some (iI 0, tc G q c O N) := by
    intro q
    unfold f_X8_readOrder_71
    rw [if_pos rfl]
    rfl
  rw [ord_s, if_neg hle, ht]
  by_cases h6 : xb K n p = 32
  · have h7 : p < n := xb_in (K := K) (by omega)
    rw [if_pos h6, b2s, if_neg ne10, if_pos hin, h4, c_number T (by omega) h5]
    by_cases h8 : isd (xb K n (p + 1))
    · refine ⟨fun hn => ?_, fun hn => absurd ⟨h6, h8⟩ hn⟩
      have h9 := nv_r (d := d) hn
      have h10 := h71 (np K n p d) (nv K n p d) h9.1 (by omega)
      rw [if_pos h8]
      rw [← h10]
      unfold nv np
      by_cases h11 : d = 2 ∧ isd (xb K n (p + 1 + 1))
      · rw [if_pos h11, if_pos h11, if_pos h11, b2s]
      · rw [if_neg h11, if_neg h11, if_neg h11, b2s]
    · refine ⟨fun hn => absurd hn.2 h8, fun _ => ?_⟩
      rw [if_neg h8, b2s, show iI (-1) = (-1 : Int32) from rfl, h71n]
      unfold ne
      rw [if_pos h6]
  · refine ⟨fun hn => absurd hn.1 h6, fun _ => ?_⟩
    rw [if_neg h6, b2s, if_pos (show iI 0 = (0 : Int32) from rfl), h71n]
    unfold ne
    rw [if_neg h6]
theorem m_numok (T : Tx G K n) (hp : p ≤ n) {d : Int} (hd : d = 1 ∨ d = 2) (h : nok K n p) : f_X10_number (tm K p 0 m O) (iI (d - 1)) = some (iI (nv K n p d), tm K (np K n p d) 0 m O) := by
  rw [m_number T hp hd, if_pos h.1, if_pos h.2]
  unfold nv np
  by_cases h11 : d = 2 ∧ isd (xb K n (p + 1 + 1))
  · rw [if_pos h11, if_pos h11, if_pos h11]
  · rw [if_neg h11, if_neg h11, if_neg h11]
theorem m_numbad (T : Tx G K n) (hp : p ≤ n) {d : Int} (hd : d = 1 ∨ d = 2) (h : ¬ nok K n p) : f_X10_number (tm K p 0 m O) (iI (d - 1)) = some (iI 0, tm K (ne K n p) 1 m O) := by
  rw [m_number T hp hd]
  unfold ne
  by_cases h6 : xb K n p = 32
  · have h8 : ¬ isd (xb K n (p + 1)) := fun h8 => h ⟨h6, h8⟩
    rw [if_pos h6, if_neg h8, if_pos h6]
  · rw [if_neg h6, if_neg h6]
theorem mnum_w : ∀ (ds : List Int) (s2 : Nat) (O : Nat → Int32), s2 + ds.length < 240 → ∃ O', mnum ds s2 (tm K p 1 m O) = some (tm K p 1 m O') := by
  intro ds
  induction ds with
  | nil => intro s2 O _; exact ⟨O, rfl⟩
  | cons d ds ih =>
    intro s2 O h
    rw [List.length_cons] at h
    obtain ⟨r, hr⟩ := m_number1 (K := K) (p := p) (m := m) (O := O) (iI (d - 1))
    obtain ⟨O', h1⟩ := ih (s2 + 1) (upd O s2 r) (by omega)
    refine ⟨O', ?_⟩
    unfold mnum
    rw [hr, b2s, if_pos (by rw [iI_inb (by omega) (by omega) (by omega)]; omega), cln (by omega), tm_7, tm_ord]
    exact h1
/-- both read an order's numbers -/
theorem num_both (T : Tx G K n) {o : Nat} (ho : o < 8) (hc : c < 12) : ∀ (ds : List Int) (i f q : Nat) (N Om : Nat → Int32), i + ds.length = (dgL o).length → (∀ r, r < ds.length → ds.getD r 0 = (dgL o).getD (i + r) 0) → q ≤ n → ds.length < f → (∃ e N' Om', q ≤ e ∧ e ≤ n ∧ f_X8_readOrder_32 o f (tc G q c O N) (iI i) = some (iI 0, tc G e c O N') ∧ mnum ds (4 * c + 1 + i) (tm K q 0 m Om) = some (tm K e 1 m Om')) ∨ (∃ p' N' Om', q + 2 * ds.length ≤ p' ∧ p' ≤ n ∧ f_X8_readOrder_32 o f (tc G q c O N) (iI i) = some (iI 1, tc G p' (c + 1) (upd O c (iI ((o + 1 : Nat) : Int))) N') ∧ mnum ds (4 * c + 1 + i) (tm K q 0 m Om) = some (tm K p' 0 m Om') ∧ (∀ k, k < 3 * c + i → N' k = N k) ∧ (∀ k, k < 4 * c + 1 + i → Om' k = Om k) ∧ ∀ r, r < ds.length → N' (3 * c + i + r) = Om' (4 * c + 1 + i + r)) := by
  intro ds
  induction ds with
  | nil =>
    intro i f q N Om h1 _ hq hf
    obtain ⟨g, rfl⟩ : ∃ g, f = g + 1 := ⟨f - 1, by omega⟩
    have e : i = (dgL o).length := h1
    refine Or.inr ⟨q, N, Om, Nat.le_refl q, hq, ?_, rfl, fun k _ => rfl, fun k _ => rfl, fun r hr => absurd hr (Nat.not_lt_zero _)⟩
    rw [e]
    exact c_fin ho hc
  | cons d ds ih =>
    intro i f q N Om h1 h2 hq hf
    obtain ⟨g, rfl⟩ : ∃ g, f = g + 1 := ⟨f - 1, by omega⟩
    rw [List.length_cons] at h1 hf
    have hi : i < (dgL o).length := by omega
    obtain ⟨-, h3, h4⟩ := wd_d o ho
    obtain ⟨-, h5⟩ := h4 i hi
    have ed : d = (dgL o).getD i 0 := h2 0 (by simp)
    rw [← ed] at h5
    obtain ⟨s1, s2⟩ := c_step (f := g) (O := O) (N := N) T ho hq hc hi
    rw [← ed] at s1
    have hidx : inb (iI ((4 * c + 1 + i : Nat) : Int)) 240 := by
      rw [iI_inb (by omega) (by omega) (by omega)]; omega
    by_cases hk : nok K n q
    · have hnp := np_r (d := d) hk
      have hm := m_numok (m := m) (O := Om) T hq h5 hk
      have hrec := ih (i + 1) g (np K n q d) (upd N (3 * c + i) (iI (nv K n q d))) (upd Om (4 * c + 1 + i) (iI (nv K n q d))) (by omega) (fun r hr => by
        have := h2 (r + 1) (by rw [List.length_cons]; omega)
        rw [show i + 1 + r = i + (r + 1) by omega]
        exact this) hnp.2 (by omega)
      have hmn : mnum (d :: ds) (4 * c + 1 + i) (tm K q 0 m Om) = mnum ds (4 * c + 1 + (i + 1)) (tm K (np K n q d) 0 m (upd Om (4 * c + 1 + i) (iI (nv K n q d)))) := by
        show bind2 (f_X10_number (tm K q 0 m Om) (iI (d - 1))) (fun r G1 => if inb (iI ((4 * c + 1 + i : Nat) : Int)) 240 then mnum ds (4 * c + 1 + i + 1) (upR G1 7 (upd (G1 7) (iI ((4 * c + 1 + i : Nat) : Int)).toNatClampNeg r)) else none) = _
        rw [hm, b2s, if_pos hidx, cln (by omega), tm_7, tm_ord]
        rfl
      rw [s1 hk, hmn]
      rcases hrec with ⟨e, N', Om', a1, a2, a3, a4⟩ | ⟨p', N', Om', a1, a2, a3, a4, a5, a6, a7⟩
      · exact Or.inl ⟨e, N', Om', by omega, a2, a3, a4⟩
      · refine Or.inr ⟨p', N', Om', by rw [List.length_cons]; omega, a2, a3, a4, fun k hk2 => ?_, fun k hk2 => ?_, fun r hr => ?_⟩
        · rw [a5 k (by omega), upd_ne _ _ (by omega)]
        · rw [a6 k (by omega), upd_ne _ _ (by omega)]
        · rw [List.length_cons] at hr
          cases r with
          | zero =>
            rw [Nat.add_zero, Nat.add_zero, a5 (3 * c + i) (by omega), upd_at, a6 (4 * c + 1 + i) (by omega), upd_at]
          | succ r =>
            have := a7 r (by omega)
            rw [show 3 * c + i + (r + 1) = 3 * c + (i + 1) + r by omega, show 4 * c + 1 + i + (r + 1) = 4 * c + 1 + (i + 1) + r by omega]
            exact this
    · have hm := m_numbad (m := m) (O := Om) T hq h5 hk
      have hne := ne_r (K := K) hq
      obtain ⟨O', hw⟩ := mnum_w (K := K) (p := ne K n q) (m := m) ds (4 * c + 1 + i + 1) (upd Om (4 * c + 1 + i) (iI 0)) (by omega)
      refine Or.inl ⟨ne K n q, N, O', hne.1, hne.2, s2 hk, ?_⟩
      show bind2 (f_X10_number (tm K q 0 m Om) (iI (d - 1))) (fun r G1 => if inb (iI ((4 * c + 1 + i : Nat) : Int)) 240 then mnum ds (4 * c + 1 + i + 1) (upR G1 7 (upd (G1 7) (iI ((4 * c + 1 + i : Nat) : Int)).toNatClampNeg r)) else none) = _
      rw [hm, b2s, if_pos hidx, cln (by omega), tm_7, tm_ord]
      exact hw
/-! the reference's order -/
theorem m_behind (T : Tx G K n) {q : Nat} (hq : q ≤ 3) (hp : p ≤ n) : f_X10_behind (tm K p 0 m O) (iI q) = some (iI (xb K n (p + q))) := by
  have h60 := T.1
  have e : iI (p : Int) + iI (q : Int) = iI ((p + q : Nat) : Int) := by rw [iI_add]; rfl
  unfold f_X10_behind
  rw [tm_13, tm_14, T.2.2.1, e]
  by_cases h : p + q < n
  · rw [if_neg (by rw [iI_le (by omega) (by omega) (by omega) (by omega)]; omega), if_pos (by rw [iI_inb (by omega) (by omega) (by omega)]; omega), cln (by omega), tm_6, if_pos (T.2.2.2 _ h).2, xb_K (K := K) h]
  · rw [if_pos (by rw [iI_le (by omega) (by omega) (by omega) (by omega)]; omega)]
    have e : xb K n (p + q) = 0 := if_neg h
    rw [e]
    rfl
/-- the sign by which the reference tells an order -/
def knd (x : Nat → Int) : Int := if x 0 = 108 then (if x 1 = 101 then 108 else if x 2 = 109 then 109 else 76) else x 0
theorem m_165 (T : Tx G K n) (x : Nat → Int) (hx : x = fun k => xb K n (p + k)) (hp : p ≤ n) (hm : m ≤ 50) : f_X10_readOrder (tm K p 0 m O) = f_X10_readOrder_165 (tm K p 0 (m + 1) (upd O (4 * m) (iI (knd x)))) (iI ((4 * m : Nat) : Int)) (iI (knd x)) (moO (kk x)) := by
  have h60 := T.1
  have r0 := xb_r T p
  have r1 := xb_r T (p + 1)
  have r2 := xb_r T (p + 2)
  have x0 : x 0 = xb K n p := by rw [hx]; rfl
  have x1 : x 1 = xb K n (p + 1) := by rw [hx]
  have x2 : x 2 = xb K n (p + 2) := by rw [hx]
  have b0 := m_behind (m := m + 1) (O := O) T (q := 0) (by omega) hp
  have b1 := m_behind (m := m + 1) (O := O) T (q := 1) (by omega) hp
  have b2 := m_behind (m := m + 1) (O := O) T (q := 2) (by omega) hp
  have b0 : f_X10_behind (tm K p 0 (m + 1) O) 0 = some (iI (x 0)) := by rw [x0]; exact b0
  have b1 : f_X10_behind (tm K p 0 (m + 1) O) 1 = some (iI (x 1)) := by rw [x1]; exact b1
  have b2 : f_X10_behind (tm K p 0 (m + 1) O) 2 = some (iI (x 2)) := by rw [x2]; exact b2
  rw [← x0] at r0
  rw [← x1] at r1
  rw [← x2] at r2
  have e1 : iI (m : Int) + 1 = iI ((m + 1 : Nat) : Int) := by rw [pl1, iI_add]; rfl
  have e4 : 4 * iI (m : Int) = iI ((4 * m : Nat) : Int) := by
    rw [pl4, iI_mul]
    rfl
  have hin : inb (iI ((4 * m : Nat) : Int)) 240 := by
    rw [iI_inb (by omega) (by omega) (by omega)]; omega
  have q : ∀ (a b : Int), 0 ≤ a → a ≤ 65535 → 0 ≤ b → b ≤ 65535 → ((iI a = iI b) = (a = b)) := fun a b h1 h2 h3 h4 => iI_eq (by omega) (by omega) (by omega) (by omega)
  have h68 : ∀ (y s : Int), 0 ≤ s → s ≤ 65535 → 0 ≤ y → y ≤ 65535 → f_X10_readOrder_68 (tm K p 0 (m + 1) O) (iI ((4 * m : Nat) : Int)) (iI y) (iI s) = f_X10_readOrder_165 (tm K p 0 (m + 1) (upd O (4 * m) (iI s))) (iI ((4 * m : Nat) : Int)) (iI s) (if s = 98 then 7 else if s = 107 then 8 else if s = 100 then 9 else if s = 114 then 10 else if s = 116 then 11 else if s = 108 then 12 else if y = 108 then (if s = 109 then 13 else 14) else 14) := by
    intro y s h1 h2 h3 h4
    unfold f_X10_readOrder_68 f_X10_readOrder_162
    rw [if_pos hin, cln (by omega), tm_7, tm_ord, Option.bind_some]
    by_cases c1 : s = 98
    · rw [if_pos (by rw [c1]; rfl), if_pos c1]
    · rw [if_neg (by rw [show (98 : Int32) = iI 98 from rfl, q s 98 h1 h2 (by omega) (by omega)]; exact c1), if_neg c1]
      by_cases c2 : s = 107
      · rw [if_pos (by rw [c2]; rfl), if_pos c2]
      · rw [if_neg (by rw [show (107 : Int32) = iI 107 from rfl, q s 107 h1 h2 (by omega) (by omega)]; exact c2), if_neg c2]
        by_cases c3 : s = 100
        · rw [if_pos (by rw [c3]; rfl), if_pos c3]
        · rw [if_neg (by rw [show (100 : Int32) = iI 100 from rfl, q s 100 h1 h2 (by omega) (by omega)]; exact c3), if_neg c3]
          by_cases c4 : s = 114
          · rw [if_pos (by rw [c4]; rfl), if_pos c4]
          · rw [if_neg (by rw [show (114 : Int32) = iI 114 from rfl, q s 114 h1 h2 (by omega) (by omega)]; exact c4), if_neg c4]
            by_cases c5 : s = 116
            · rw [if_pos (by rw [c5]; rfl), if_pos c5]
            · rw [if_neg (by rw [show (116 : Int32) = iI 116 from rfl, q s 116 h1 h2 (by omega) (by omega)]; exact c5), if_neg c5]
              by_cases c6 : s = 108
              · rw [if_pos (by rw [c6]; rfl), if_pos c6]
              · rw [if_neg (by rw [show (108 : Int32) = iI 108 from rfl, q s 108 h1 h2 (by omega) (by omega)]; exact c6), if_neg c6]
                by_cases c7 : y = 108
                · rw [if_pos (by rw [c7]; rfl), if_pos c7]
                  by_cases c8 : s = 109
                  · rw [if_pos (by rw [c8]; rfl), if_pos c8]
                  · rw [if_neg (by rw [show (109 : Int32) = iI 109 from rfl, q s 109 h1 h2 (by omega) (by omega)]; exact c8), if_neg c8]
                · rw [if_neg (by rw [show (108 : Int32) = iI 108 from rfl, q y 108 h3 h4 (by omega) (by omega)]; exact c7), if_neg c7]
  unfold f_X10_readOrder f_X10_readOrder_47
  rw [tm_15, if_pos (show iI 0 = (0 : Int32) from rfl), tm_18, e1, tm_cnt, Option.bind_some, b0, Option.bind_some, e4]
  unfold knd kk
  by_cases c0 : x 0 = 108
  · rw [if_pos (by rw [c0]; rfl), b1, Option.bind_some, if_pos c0, if_neg (show ¬ x 0 = 98 by omega), if_neg (show ¬ x 0 = 107 by omega), if_neg (show ¬ x 0 = 100 by omega), if_neg (show ¬ x 0 = 114 by omega), if_neg (show ¬ x 0 = 116 by omega), if_pos c0]
    by_cases c1 : x 1 = 101
    · rw [if_pos (by rw [c1]; rfl), if_pos c1, if_pos c1, h68 _ _ (by omega) (by omega) (by omega) (by omega), c0]
      rfl
    · rw [if_neg (by rw [show (101 : Int32) = iI 101 from rfl, q _ _ r1.1 r1.2 (by omega) (by omega)]; exact c1), if_neg c1, if_neg c1, b2, Option.bind_some]
      by_cases c2 : x 2 = 109
      · rw [if_pos (by rw [c2]; rfl), if_pos c2, if_pos c2, show (109 : Int32) = iI 109 from rfl, h68 _ _ (by omega) (by omega) (by omega) (by omega), c0]
        rfl
      · rw [if_neg (by rw [show (109 : Int32) = iI 109 from rfl, q _ _ r2.1 r2.2 (by omega) (by omega)]; exact c2), if_neg c2, if_neg c2, show (76 : Int32) = iI 76 from rfl, h68 _ _ (by omega) (by omega) (by omega) (by omega), c0]
        rfl
  · rw [if_neg (by rw [show (108 : Int32) = iI 108 from rfl, q _ _ r0.1 r0.2 (by omega) (by omega)]; exact c0), if_neg c0, h68 _ _ r0.1 r0.2 r0.1 r0.2]
    by_cases c1 : x 0 = 98
    · rw [if_pos c1, if_pos c1]; rfl
    · rw [if_neg c1, if_neg c1]
      by_cases c2 : x 0 = 107
      · rw [if_pos c2, if_pos c2]; rfl
      · rw [if_neg c2, if_neg c2]
        by_cases c3 : x 0 = 100
        · rw [if_pos c3, if_pos c3]; rfl
        · rw [if_neg c3, if_neg c3]
          by_cases c4 : x 0 = 114
          · rw [if_pos c4, if_pos c4]; rfl
          · rw [if_neg c4, if_neg c4]
            by_cases c5 : x 0 = 116
            · rw [if_pos c5, if_pos c5]; rfl
            · rw [if_neg c5, if_neg c5, if_neg c0, if_neg c0, if_neg c0]; rfl
theorem m_bad (T : Tx G K n) (hp : p ≤ n) (hm : m ≤ 50) (h : mtl (Wd (kk fun k => xb K n (p + k))) (fun k => xb K n (p + k)) ≠ (Wd (kk fun k => xb K n (p + k))).length) : ∃ O', f_X10_readOrder (tm K p 0 m O) = some (tm K (p + mtl (Wd (kk fun k => xb K n (p + k))) (fun k => xb K n (p + k))) 1 (m + 1) O') := by
  refine ⟨upd O (4 * m) (iI (knd fun k => xb K n (p + k))), ?_⟩
  rw [m_165 T _ rfl hp hm]
  unfold f_X10_readOrder_165
  rw [m_skipo T hp (kk_lt _), if_neg h, Option.bind_some, tm_15, if_neg ne10, ite_self]
/-- the kind of an order that stands there whole -/
theorem knd_ok {x : Nat → Int} (h : mtl (Wd (kk x)) x = (Wd (kk x)).length) : knd x = kmO (kk x) := by
  unfold knd
  by_cases c0 : x 0 = 108
  · have e0 : kk x = if x 1 = 101 then 2 else if x 2 = 109 then 6 else 5 := (if_neg (by omega)).trans ((if_neg (by omega)).trans ((if_neg (by omega)).trans ((if_neg (by omega)).trans ((if_neg (by omega)).trans (if_pos c0)))))
    rw [if_pos c0, e0]
    by_cases c1 : x 1 = 101
    · rw [if_pos c1, if_pos c1]; rfl
    · rw [if_neg c1, if_neg c1]
      by_cases c2 : x 2 = 109
      · rw [if_pos c2, if_pos c2]; rfl
      · rw [if_neg c2, if_neg c2]; rfl
  · rw [if_neg c0]
    by_cases c1 : x 0 = 98
    · have e : kk x = 0 := if_pos c1
      rw [e, c1]; rfl
    · by_cases c2 : x 0 = 107
      · have e : kk x = 1 := (if_neg c1).trans (if_pos c2)
        rw [e, c2]; rfl
      · by_cases c3 : x 0 = 100
        · have e : kk x = 3 := (if_neg c1).trans ((if_neg c2).trans (if_pos c3))
          rw [e, c3]; rfl
        · by_cases c4 : x 0 = 114
          · have e : kk x = 4 := (if_neg c1).trans ((if_neg c2).trans ((if_neg c3).trans (if_pos c4)))
            rw [e, c4]; rfl
          · by_cases c5 : x 0 = 116
            · have e : kk x = 7 := (if_neg c1).trans ((if_neg c2).trans ((if_neg c3).trans ((if_neg c4).trans (if_pos c5))))
              rw [e, c5]; rfl
            · have e : kk x = 5 := (if_neg c1).trans ((if_neg c2).trans ((if_neg c3).trans ((if_neg c4).trans ((if_neg c5).trans (if_neg c0)))))
              rw [e] at h
              have : mtl (Wd 5) x = 0 := if_neg c0
              have h2 : (Wd 5).length = 4 := rfl
              omega
theorem m_tail {o : Nat} (ho : o < 8) (G1 : GT) (hw : G1 0 15 = iI 0) (hm : m ≤ 50) : (if iI (kmO o) = (76 : Int32) then some G1 else (if (G1 0 15) = 0 then (if iI (kmO o) = (109 : Int32) then f_X10_readOrder_202 G1 (iI ((4 * m : Nat) : Int)) (iI (kmO o)) (iI ((4 * m : Nat) : Int) + (1 : Int32)) else (if iI (kmO o) = (116 : Int32) then f_X10_readOrder_202 G1 (iI ((4 * m : Nat) : Int)) (iI (kmO o)) (iI ((4 * m : Nat) : Int) + (1 : Int32)) else f_X10_readOrder_207 G1 (iI ((4 * m : Nat) : Int)) (iI (kmO o)) (0 : Int32) (iI ((4 * m : Nat) : Int) + (1 : Int32)))) else some G1)) = mnum (dgL o) (4 * m + 1) G1 := by
  have e1 : iI ((4 * m : Nat) : Int) + 1 = iI ((4 * m + 1 : Nat) : Int) := by rw [pl1, iI_add]; rfl
  have e2 : iI ((4 * m : Nat) : Int) + 2 = iI ((4 * m + 1 + 1 : Nat) : Int) := by rw [pl2, iI_add]; rfl
  have e3 : iI ((4 * m : Nat) : Int) + 3 = iI ((4 * m + 1 + 1 + 1 : Nat) : Int) := by rw [pl3, iI_add]; rfl
  rw [hw, e1]
  obtain rfl | rfl | rfl | rfl | rfl | rfl | rfl | rfl : o = 0 ∨ o = 1 ∨ o = 2 ∨ o = 3 ∨ o = 4 ∨ o = 5 ∨ o = 6 ∨ o = 7 := by omega
  · rw [if_neg (by decide), if_pos (show iI 0 = (0 : Int32) from rfl), if_neg (by decide), if_neg (by decide)]
    rfl
  · rw [if_neg (by decide), if_pos (show iI 0 = (0 : Int32) from rfl), if_neg (by decide), if_neg (by decide)]
    unfold f_X10_readOrder_207 f_X10_readOrder_235 f_X10_readOrder_254 f_X10_readOrder_258
    rw [e2]
    rfl
  · rw [if_neg (by decide), if_pos (show iI 0 = (0 : Int32) from rfl), if_neg (by decide), if_neg (by decide)]
    unfold f_X10_readOrder_207 f_X10_readOrder_235 f_X10_readOrder_254 f_X10_readOrder_258
    rw [e2]
    rfl
  · rw [if_neg (by decide), if_pos (show iI 0 = (0 : Int32) from rfl), if_neg (by decide), if_neg (by decide)]
    unfold f_X10_readOrder_207 f_X10_readOrder_235 f_X10_readOrder_254 f_X10_readOrder_258
    rw [e2, e3]
    rfl
  · rw [if_neg (by decide), if_pos (show iI 0 = (0 : Int32) from rfl), if_neg (by decide), if_neg (by decide)]
    rfl
  · rw [if_pos (by decide)]
    rfl
  · rw [if_neg (by decide), if_pos (show iI 0 = (0 : Int32) from rfl), if_pos (by decide)]
    rfl
  · rw [if_neg (by decide), if_pos (show iI 0 = (0 : Int32) from rfl), if_neg (by decide), if_pos (by decide)]
    unfold f_X10_readOrder_202 f_X10_readOrder_207 f_X10_readOrder_235 f_X10_readOrder_254 f_X10_readOrder_258
    rw [e2]
    rfl
theorem ord_both (T : Tx G K n) (hp : p ≤ n) (hm : m < 12) (Om : Nat → Int32) : (∃ e O' N' c' Om', p ≤ e ∧ e ≤ n ∧ f_X8_readOrder (tc G p m O N) = some (iI 0, tc G e c' O' N') ∧ f_X10_readOrder (tm K p 0 m Om) = some (tm K e 1 (m + 1) Om')) ∨ (∃ o p' N' Om', o < 8 ∧ p + 4 ≤ p' ∧ p' ≤ n ∧ f_X8_readOrder (tc G p m O N) = some (iI 1, tc G p' (m + 1) (upd O m (iI ((o + 1 : Nat) : Int))) N') ∧ f_X10_readOrder (tm K p 0 m Om) = some (tm K p' 0 (m + 1) Om') ∧ Om' (4 * m) = iI (kmO o) ∧ (∀ k, k < 3 * m → N' k = N k) ∧ (∀ k, k < 4 * m → Om' k = Om k) ∧ ∀ r, r < (dgL o).length → N' (3 * m + r) = Om' (4 * m + 1 + r)) := by
  have h60 := T.1
  have hcw := c_word (c := m) (O := O) (N := N) T hp
  obtain ⟨w1, w2⟩ := word_c (fun k => xb K n (p + k))
  have hko := kk_lt (fun k => xb K n (p + k))
  have hL := wd_c _ hko
  have hD := wd_d _ hko
  have hmt := mtl_n (K := K) (L := Wd (kk fun k => xb K n (p + k))) hp (fun i hi => (hL.2.2.2 i hi).2.1)
  by_cases h : mtl (Wd (kk fun k => xb K n (p + k))) (fun k => xb K n (p + k)) = (Wd (kk fun k => xb K n (p + k))).length
  · rw [w1 h, if_pos hko] at hcw
    have hkd := knd_ok h
    have h165 := m_165 (m := m) (O := Om) T _ rfl hp (by omega)
    have hsk := m_skipo (m := m + 1) (O := upd Om (4 * m) (iI (knd fun k => xb K n (p + k)))) T hp hko
    rw [if_pos h, h] at hsk
    rw [h] at hmt
    generalize (kk fun k => xb K n (p + k)) = o at h hcw hko hL hD hmt hkd h165 hsk
    rw [hkd] at h165 hsk
    have hcl : f_X8_readOrder (tc G p m O N) = f_X8_readOrder_32 o 4096 (tc G (p + (Wd o).length) m O N) (iI 0) := by
      unfold f_X8_readOrder
      rw [hcw, b2s]
      show (if o < 8 then _ else _) = _
      rw [if_pos hko, tc_5, if_neg (by rw [pl0, iI_lt (by omega) (by omega) (by omega) (by omega)]; omega), if_pos (by rw [lit_nI, iI_lt (by omega) (by omega) (by omega) (by omega)]; omega)]
      rfl
    have hml : f_X10_readOrder (tm K p 0 m Om) = mnum (dgL o) (4 * m + 1) (tm K (p + (Wd o).length) 0 (m + 1) (upd Om (4 * m) (iI (kmO o)))) := by
      rw [h165]
      unfold f_X10_readOrder_165
      rw [hsk, Option.bind_some]
      exact m_tail hko _ rfl (by omega)
    rw [hcl, hml]
    have hw5 := wd_4 o hko
    rcases num_both (m := m + 1) (O := O) T hko hm (dgL o) 0 4096 (p + (Wd o).length) N (upd Om (4 * m) (iI (kmO o))) (by omega) (fun r _ => by rw [Nat.zero_add]) hmt (by omega) with ⟨e, N', Om', a1, a2, a3, a4⟩ | ⟨p', N', Om', a1, a2, a3, a4, a5, a6, a7⟩
    · exact Or.inl ⟨e, O, N', m, Om', by omega, a2, a3, a4⟩
    · refine Or.inr ⟨o, p', N', Om', hko, by omega, a2, a3, a4, ?_, fun k hk => a5 k (by omega), fun k hk => ?_, fun r hr => a7 r hr⟩
      · rw [a6 (4 * m) (by omega), upd_at]
      · rw [a6 k (by omega), upd_ne _ _ (by omega)]
  · obtain ⟨w3, w4⟩ := w2 h
    rw [w3, w4, if_neg (by omega)] at hcw
    obtain ⟨O', hb⟩ := m_bad (m := m) (O := Om) T hp (by omega) h
    refine Or.inl ⟨_, O, N, m, O', ?_, hmt, ?_, hb⟩
    · omega
    · unfold f_X8_readOrder
      rw [hcw, b2s]
      rfl
end PY
