/-! one order -/
def dgL (o : Nat) : List Int := [[1], [1, 2], [1, 1], [1, 1, 1], [1], [], [2], [2, 1]].getD o []
theorem wd_d : ∀ o, o < 8 → (stB (diO o)).length = (dgL o).length ∧ (dgL o).length ≤ 3 ∧ ∀ i, i < (dgL o).length → chB (stB (diO o)) (iI (i : Int)) - 48 = iI ((dgL o).getD i 0) ∧ ((dgL o).getD i 0 = 1 ∨ (dgL o).getD i 0 = 2) := by decide +kernel
theorem wd_4 : ∀ o, o < 8 → 4 ≤ (Wd o).length + 2 * (dgL o).length := by decide +kernel
def nok (K : GT) (n p : Nat) : Prop := xb K n p = 32 ∧ isd (xb K n (p + 1))
def nv (K : GT) (n p : Nat) (d : Int) : Int := if d = 2 ∧ isd (xb K n (p + 1 + 1)) then 10 * (xb K n (p + 1) - 48) + (xb K n (p + 1 + 1) - 48) else xb K n (p + 1) - 48
def np (K : GT) (n p : Nat) (d : Int) : Nat := if d = 2 ∧ isd (xb K n (p + 1 + 1)) then p + 1 + 1 + 1 else p + 1 + 1
def ne (K : GT) (n p : Nat) : Nat := if xb K n p = 32 then p + 1 else p
section PY
variable {G K : GT} {n p c m : Nat} {O N : Nat → Int32}
theorem nv_r {d : Int} (h : nok K n p) : 0 ≤ nv K n p d ∧ nv K n p d ≤ 99 := by
  have h1 := ddr h.2
  unfold nv
  by_cases h2 : d = 2 ∧ isd (xb K n (p + 1 + 1))
  · have h3 := ddr h2.2
    rw [if_pos h2]; omega
  · rw [if_neg h2]; omega
theorem np_r {d : Int} (h : nok K n p) : p + 2 ≤ np K n p d ∧ np K n p d ≤ n := by
  have h1 := ddr h.2
  have h4 : p + 1 < n := xb_in (K := K) (by omega)
  unfold np
  by_cases h2 : d = 2 ∧ isd (xb K n (p + 1 + 1))
  · have h3 := ddr h2.2
    have h5 : p + 1 + 1 < n := xb_in (K := K) (by omega)
    rw [if_pos h2]; omega
  · rw [if_neg h2]; omega
theorem ne_r (h : p ≤ n) : p ≤ ne K n p ∧ ne K n p ≤ n := by
  unfold ne
  by_cases h2 : xb K n p = 32
  · have h5 : p < n := xb_in (K := K) (by omega)
    rw [if_pos h2]; omega
  · rw [if_neg h2]; omega
theorem ord_s (o f : Nat) (G : GT) (x : Int32) : f_X8_readOrder_32 o (f + 1) G x = (if nI (stB (diO o)).length ≤ x then (if inb (G 84 5) 12 then ((some (upR G 86 (upd (G 86) (G 84 5).toNatClampNeg (nI (o + 1))))).bind fun G5 => ((some (upR G5 84 (upd (G5 84) 5 ((G5 84 5) + (1 : Int32))))).bind fun G6 => some ((1 : Int32), G6))) else none) else (bind2 (f_X8_take G (32 : Int32)) fun r7 G7 => (if r7 = 0 then f_X8_readOrder_71 G7 (f_X8_readOrder_32 o f) o x (-1 : Int32) else (if inb x (stB (diO o)).length then (bind2 (f_X8_readNumber G7 ((chB (stB (diO o)) x) - (48 : Int32))) fun r10 G10 => f_X8_readOrder_71 G10 (f_X8_readOrder_32 o f) o x r10) else none)))) := rfl
theorem c_fin {o f : Nat} (ho : o < 8) (hc : c < 12) : f_X8_readOrder_32 o (f + 1) (tc G p c O N) (iI ((dgL o).length : Int)) = some (iI 1, tc G p (c + 1) (upd O c (iI ((o + 1 : Nat) : Int))) N) := by
  obtain ⟨h1, h2, -⟩ := wd_d o ho
  have hle : nI (stB (diO o)).length ≤ iI ((dgL o).length : Int) := by
    rw [h1, lit_nI, iI_le (by omega) (by omega) (by omega) (by omega)]; omega
  have hin : inb (iI (c : Int)) 12 := by
    rw [iI_inb (by omega) (by omega) (by omega)]; omega
  have e1 : iI (c : Int) + 1 = iI ((c + 1 : Nat) : Int) := by rw [pl1, iI_add]; rfl
  rw [ord_s, if_pos hle, tc_5, if_pos hin, cln (by omega), tc_86, lit_nI, tc_ord, Option.bind_some, tc_5, e1, tc_cnt, Option.bind_some]
  rfl
theorem c_step {o f i : Nat} (T : Tx G K n) (ho : o < 8) (hp : p ≤ n) (hc : c < 12) (hi : i < (dgL o).length) : (nok K n p → f_X8_readOrder_32 o (f + 1) (tc G p c O N) (iI i) = f_X8_readOrder_32 o f (tc G (np K n p ((dgL o).getD i 0)) c O (upd N (3 * c + i) (iI (nv K n p ((dgL o).getD i 0))))) (iI ((i + 1 : Nat) : Int))) ∧ (¬ nok K n p → f_X8_readOrder_32 o (f + 1) (tc G p c O N) (iI i) = some (iI 0, tc G (ne K n p) c O N)) := by
  have h60 := T.1
  obtain ⟨h1, h2, h3⟩ := wd_d o ho
  obtain ⟨h4, h5⟩ := h3 i hi
  generalize (dgL o).getD i 0 = d at h4 h5 ⊢
  have hle : ¬ nI (stB (diO o)).length ≤ iI (i : Int) := by
    rw [h1, lit_nI, iI_le (by omega) (by omega) (by omega) (by omega)]; omega
  have hin : inb (iI (i : Int)) (stB (diO o)).length := by
    rw [h1, iI_inb (by omega) (by omega) (by omega)]; omega
  have e1 : iI (i : Int) + 1 = iI ((i + 1 : Nat) : Int) := by rw [pl1, iI_add]; rfl
  have ht := c_take (c := c) (O := O) (N := N) T (p := p) (ch := 32) (by omega) (by omega)
  have ht : f_X8_take (tc G p c O N) (32 : Int32) = _ := ht
  have ei : iI (c : Int) * 3 + iI (i : Int) = iI ((c : Int) * 3 + i) := by rw [pl3, iI_mul, iI_add]
  have ei2 : ((c : Int) * 3 + i).toNat = 3 * c + i := by omega
  have h71 : ∀ (q : Nat) (v : Int), 0 ≤ v → v ≤ 1000 → f_X8_readOrder_71 (tc G q c O N) (f_X8_readOrder_32 o f) o (iI (i : Int)) (iI v) = f_X8_readOrder_32 o f (tc G q c O (upd N (3 * c + i) (iI v))) (iI ((i + 1 : Nat) : Int)) := by
    intro q v h6 h7
    unfold f_X8_readOrder_71
    rw [if_neg (by rw [show (-1 : Int32) = iI (-1) from rfl, iI_eq (by omega) (by omega) (by omega) (by omega)]; omega), tc_5, tc_87, ei, iI_put (by omega) (by omega) (by omega), ei2, tc_num, Option.bind_some, e1]
  have h71n : ∀ q : Nat, f_X8_readOrder_71 (tc G q c O N) (f_X8_readOrder_32 o f) o (iI (i : Int)) (-1) = some (iI 0, tc G q c O N) := by
    intro q
    unfold f_X8_readOrder_71
    rw [if_pos rfl]
    rfl
  rw [ord_s, if_neg hle, ht]
  by_cases h6 : xb K n p = 32
  · have h7 : p < n := xb_in (K := K) (by omega)
    rw [if_pos h6, b2s, if_neg ne10, if_pos hin, h4, c_number T (by omega) h5]
    by_cases h8 : isd (xb K n (p + 1))
    · refine ⟨fun hn => ?_, fun hn => absurd ⟨h6, h8⟩ hn⟩
      have h9 := nv_r (d := d) hn
      have h10 := h71 (np K n p d) (nv K n p d) h9.1 (by omega)
      rw [if_pos h8]
      rw [← h10]
      unfold nv np
      by_cases h11 : d = 2 ∧ isd (xb K n (p + 1 + 1))
      · rw [if_pos h11, if_pos h11, if_pos h11, b2s]
      · rw [if_neg h11, if_neg h11, if_neg h11, b2s]
    · refine ⟨fun hn => absurd hn.2 h8, fun _ => ?_⟩
      rw [if_neg h8, b2s, show iI (-1) = (-1 : Int32) from rfl, h71n]
      unfold ne
      rw [if_pos h6]
  · refine ⟨fun hn => absurd hn.1 h6, fun _ => ?_⟩
    rw [if_neg h6, b2s, if_pos (show iI 0 = (0 : Int32) from rfl), h71n]
    unfold ne
    rw [if_neg h6]
/-! the reference's order -/
/-- the sign by which the reference tells an order -/
def knd (x : Nat → Int) : Int := if x 0 = 108 then (if x 1 = 101 then 108 else if x 2 = 109 then 109 else 76) else x 0
/-- the kind of an order that stands there whole -/
theorem knd_ok {x : Nat → Int} (h : mtl (Wd (kk x)) x = (Wd (kk x)).length) : knd x = kmO (kk x) := by
  unfold knd
  by_cases c0 : x 0 = 108
  · have e0 : kk x = if x 1 = 101 then 2 else if x 2 = 109 then 6 else 5 := (if_neg (by omega)).trans ((if_neg (by omega)).trans ((if_neg (by omega)).trans ((if_neg (by omega)).trans ((if_neg (by omega)).trans (if_pos c0)))))
    rw [if_pos c0, e0]
    by_cases c1 : x 1 = 101
    · rw [if_pos c1, if_pos c1]; rfl
    · rw [if_neg c1, if_neg c1]
      by_cases c2 : x 2 = 109
      · rw [if_pos c2, if_pos c2]; rfl
      · rw [if_neg c2, if_neg c2]; rfl
  · rw [if_neg c0]
    by_cases c1 : x 0 = 98
    · have e : kk x = 0 := if_pos c1
      rw [e, c1]; rfl
    · by_cases c2 : x 0 = 107
      · have e : kk x = 1 := (if_neg c1).trans (if_pos c2)
        rw [e, c2]; rfl
      · by_cases c3 : x 0 = 100
        · have e : kk x = 3 := (if_neg c1).trans ((if_neg c2).trans (if_pos c3))
          rw [e, c3]; rfl
        · by_cases c4 : x 0 = 114
          · have e : kk x = 4 := (if_neg c1).trans ((if_neg c2).trans ((if_neg c3).trans (if_pos c4)))
            rw [e, c4]; rfl
          · by_cases c5 : x 0 = 116
            · have e : kk x = 7 := (if_neg c1).trans ((if_neg c2).trans ((if_neg c3).trans ((if_neg c4).trans (if_pos c5))))
              rw [e, c5]; rfl
            · have e : kk x = 5 := (if_neg c1).trans ((if_neg c2).trans ((if_neg c3).trans ((if_neg c4).trans ((if_neg c5).trans (if_neg c0)))))
              rw [e] at h
              have : mtl (Wd 5) x = 0 := if_neg c0
              have h2 : (Wd 5).length = 4 := rfl
              omega
end PY
