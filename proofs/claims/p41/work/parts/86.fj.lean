/-! ranks -/
section FJ
variable {G : GT} {s : Nat → Int32}
theorem wh_spec {q u w : Nat → Int} {n : Nat} {p : Int} (h0 : 0 ≤ p) (h1 : p < cn q n) : ∃ j : Nat, j < n ∧ 0 ≤ q j ∧ rk q u w n j = p ∧ wh q u w n p = j := by
  obtain ⟨j, a1, a2, a3⟩ := rk_sur (u := u) (w := w) h0 h1
  unfold wh
  rcases lst_r (fun j => 0 ≤ q j ∧ rk q u w n j = p) n with ⟨-, h⟩ | ⟨i, b1, b2, b3, -⟩
  · exact absurd ⟨a2, a3⟩ (h j a1)
  · exact ⟨i, b1, b2.1, b2.2, b3⟩
theorem cn_qt : cn qt 4 = 4 := rfl
theorem no_ahead {q u w : Nat → Int} {n a b : Nat} {p : Int} (hb : b < n) (hq : 0 ≤ q b) (ha : rk q u w n a = p) (hb2 : rk q u w n b = p + 1) : ¬ Ah u w b a := fun h => by
  have := rk_lt hb hq h
  omega
theorem cnt_u (F F' : Nat → Int) (a : Nat) (d : Int) (h : ∀ t, F' t = F t + (if t = a then d else 0)) : upd (fun t => iI (F t)) a (iI (F a) + iI d) = fun t => iI (F' t) := by
  funext t
  rw [h t]
  by_cases ht : t = a
  · rw [ht, upd_at, if_pos rfl, iI_add]
  · rw [upd_ne _ _ ht, if_neg ht, Int.add_zero]
theorem L_r330 {S : Nat → Nat → Int32} {n : Nat} (k : GT → Int32 → Int32 → Option (Int32 × GT)) {x5 x6 : Int} {c : Nat} {d v : Int} (hc : c < n) (hn : n ≤ 16) (hS : S c 3 = iI v) (hv : 0 ≤ v ∧ v ≤ 11) (hd : 0 ≤ d ∧ d ≤ 1000) (h0 : d = 0 → x5 ≤ c) (h5 : -1 ≤ x5 ∧ x5 ≤ 16) : f_L_ranks_330 k n S (iI x5) (iI x6) (iI c) (iI d) G = k G (iI c) (iI (x6 + 1)) := by
  have hin : inb (iI (c : Int)) n := by rw [iI_inb (by omega) (by omega) (by omega)]; omega
  have ec : (iI (c : Int)).toNatClampNeg = c := by rw [iI_clamp (by omega) (by omega), Int.toNat_natCast]
  unfold f_L_ranks_330
  rw [if_neg (by rw [pl0, iI_lt (by omega) (by omega) (by omega) (by omega)]; omega), if_pos hin, ec, hS, if_neg (by rw [pl0, iI_lt (by omega) (by omega) (by omega) (by omega)]; omega), if_neg (by rw [pl0, iI_lt (by omega) (by omega) (by omega) (by omega)]; omega)]
  have h365 : f_L_ranks_365 k n S (iI x6) (iI c) G = k G (iI c) (iI (x6 + 1)) := by
    unfold f_L_ranks_365
    rw [pl1, iI_add]
  by_cases h : d = 0
  · rw [if_pos (by rw [h]; rfl), if_pos (by rw [iI_le (by omega) (by omega) (by omega) (by omega)]; exact h0 h)]
    exact h365
  · rw [if_neg (by rw [pl0, iI_eq (by omega) (by omega) (by omega) (by omega)]; exact h)]
    exact h365
def hx (s : Nat → Int32) : Nat → Int
  | 0 => -1
  | p + 1 => wh (ht s) (pt s) (ln s) (ns s) p
theorem L_r265 (hP : Pr G 0 s) (hI : Inv s) : f_L_ranks_265 (ns s) (SS s (ns s)) 17 G (iI (-1)) (iI 0) = some (iI 1, G) := by
  have h16 := hI.ns16
  have hdr := dr_r hI
  have hcn := cn_dr s (ns s)
  unfold f_L_ranks_265
  refine lq3_fr (X1 := fun _ => G) (X2 := fun p => iI (hx s p)) (X3 := fun p => iI p) (dr s (ns s)).toNat _ rfl rfl rfl (fun k p hp => ?_) (fun k => ?_) (by omega)
  · obtain ⟨c, c1, c2, c3, c4⟩ := wh_spec (q := ht s) (u := pt s) (w := ln s) (n := ns s) (p := (p : Int)) (by omega) (by rw [hcn]; omega)
    obtain ⟨w0, w2, w3, w4, w5⟩ := RW_SS s (ns s) c c1
    obtain ⟨hinc, ecc⟩ := inj_ s hI c1
    have hpt := pt_r hI c1
    have hdc := hI.sd c1
    rw [pc_d c2] at w3
    show bindR _ _ = k G (iI (wh (ht s) (pt s) (ln s) (ns s) p)) (iI ((p + 1 : Nat) : Int))
    rw [pl4, r_acc4 hP hI, bR_i, if_neg (by rw [iI_le (by omega) (by omega) (by omega) (by omega)]; omega), r_high hP hI (by omega) (by omega), b2s, c4]
    cases p with
    | zero =>
      have e : hx s 0 = -1 := rfl
      rw [e, if_neg (by decide)]
      unfold f_L_ranks_305
      rw [if_neg (by decide)]
      exact L_r330 k (x5 := -1) (x6 := 0) (d := 1) c1 h16 w3 (by omega) (by omega) (by omega) (by omega)
    | succ p =>
      have e : hx s (p + 1) = wh (ht s) (pt s) (ln s) (ns s) p := rfl
      obtain ⟨a, a1, a2, a3, a4⟩ := wh_spec (q := ht s) (u := pt s) (w := ln s) (n := ns s) (p := (p : Int)) (by omega) (by rw [hcn]; omega)
      obtain ⟨u0, u2, u3, u4, u5⟩ := RW_SS s (ns s) a a1
      obtain ⟨hina, eca⟩ := inj_ s hI a1
      have hpa := pt_r hI a1
      have hda := hI.sd a1
      rw [pc_d a2] at u3
      have hno : ¬ (pt s a < pt s c ∨ (pt s c = pt s a ∧ (ln s a < ln s c ∨ (ln s c = ln s a ∧ c < a)))) := no_ahead c1 c2 a3 (by rw [c3]; omega)
      rw [e, a4, if_pos (by rw [pl0, iI_le (by omega) (by omega) (by omega) (by omega)]; omega), if_pos hina, if_pos hinc, eca, ecc, u3, w3, iI_sub]
      unfold f_L_ranks_305
      by_cases h0 : pt s a - pt s c = 0
      · rw [if_pos (by rw [h0]; rfl), if_pos hina, if_pos hinc, eca, ecc, u2, w2, iI_sub]
        exact L_r330 k c1 h16 w3 (by omega) (by omega) (by omega) (by omega)
      · rw [if_neg (by rw [pl0, iI_eq (by omega) (by omega) (by omega) (by omega)]; exact h0)]
        exact L_r330 k c1 h16 w3 (by omega) (by omega) (by omega) (by omega)
  · have hw1 : wh (ht s) (pt s) (ln s) (ns s) (dr s (ns s)) = -1 := wh_out (Or.inr (by rw [hcn]; omega))
    have hw2 : wh (ht s) (pt s) (ln s) (ns s) (-1) = -1 := wh_out (Or.inl (by omega))
    have hw3 : wh qt (ut s) (ky s) 4 4 = -1 := wh_out (Or.inr (by rw [cn_qt]; omega))
    show bindR _ _ = _
    rw [pl4, r_acc4 hP hI, bR_i, if_pos (by rw [iI_le (by omega) (by omega) (by omega) (by omega)]; omega), r_acc4 hP hI, bR_i, r_highx hP hI (by omega) hw1, b2s, if_pos pm13, pl1, iI_neg, r_highx hP hI (by omega) hw2, b2s, if_pos pm13, r_loudx hP hI (by omega) hw3, b2s, if_pos pm13, pl9, r_tinOfy, b2s, if_pos pm11]
theorem L_r108 (hP : Pr G 0 s) (hI : Inv s) : f_L_ranks_108 (ns s) (SS s (ns s)) (fun t => iI (cd s t (ns s))) (fun t => iI (cr s t (ns s))) (fun t => iI (bt s t (ns s))) 5 G (iI 0) = some (iI 1, G) := by
  have h16 := hI.ns16
  unfold f_L_ranks_108
  refine lq2_fr (X1 := fun _ => G) (X2 := fun t => iI t) 4 _ rfl rfl (fun k t ht => ?_) (fun k => ?_) (by omega)
  · obtain ⟨c, c1, c2, c3, c4⟩ := wh_spec (q := qt) (u := ut s) (w := ky s) (n := 4) (p := (t : Int)) (by omega) (by rw [cn_qt]; omega)
    have hin : inb (iI (t : Int)) 4 := by rw [iI_inb (by omega) (by omega) (by omega)]; omega
    have ec : (iI (t : Int)).toNatClampNeg = t := by rw [iI_clamp (by omega) (by omega), Int.toNat_natCast]
    have hinc : inb (iI (c : Int)) 4 := by rw [iI_inb (by omega) (by omega) (by omega)]; omega
    have ecc : (iI (c : Int)).toNatClampNeg = c := by rw [iI_clamp (by omega) (by omega), Int.toNat_natCast]
    have huc := ut_r hI c
    have hkc := hI.ky c1
    have h253 : f_L_ranks_253 k (ns s) (SS s (ns s)) (fun t => iI (cd s t (ns s))) (fun t => iI (cr s t (ns s))) (fun t => iI (bt s t (ns s))) (iI t) G = k G (iI ((t + 1 : Nat) : Int)) := by
      unfold f_L_ranks_253
      rw [pl1, iI_add]
      rfl
    show (if _ then _ else _) = k G (iI ((t + 1 : Nat) : Int))
    rw [if_neg (by rw [pl4, iI_le (by omega) (by omega) (by omega) (by omega)]; omega), r_loud hP hI (by omega) (by omega), b2s, c4, pl2, r_tinOf2 hP hI ht, b2s, if_pos hin, ec, if_pos rfl, pl3, r_tinOf3 hP hI ht, b2s, if_pos hin, if_pos rfl, pl4, r_tinOf4 hP hI ht, b2s, if_pos hin, if_pos rfl, pl5, r_tinOfx ht, b2s, if_pos pm12]
    cases t with
    | zero =>
      rw [if_pos (by decide)]
      exact h253
    | succ t =>
      obtain ⟨a, a1, a2, a3, a4⟩ := wh_spec (q := qt) (u := ut s) (w := ky s) (n := 4) (p := (t : Int)) (by omega) (by rw [cn_qt]; omega)
      have hina : inb (iI (a : Int)) 4 := by rw [iI_inb (by omega) (by omega) (by omega)]; omega
      have eca : (iI (a : Int)).toNatClampNeg = a := by rw [iI_clamp (by omega) (by omega), Int.toNat_natCast]
      have hua := ut_r hI a
      have hka := hI.ky a1
      have em : ((t + 1 : Nat) : Int) - 1 = t := by omega
      have hno : ¬ (ut s a < ut s c ∨ (ut s c = ut s a ∧ (ky s a < ky s c ∨ (ky s c = ky s a ∧ c < a)))) := no_ahead (q := qt) c1 c2 a3 (by rw [c3]; omega)
      have h232 : ∀ d : Int, 0 ≤ d ∧ d ≤ 1000 → (d = 0 → a ≤ c) → f_L_ranks_232 k (ns s) (SS s (ns s)) (fun t => iI (cd s t (ns s))) (fun t => iI (cr s t (ns s))) (fun t => iI (bt s t (ns s))) (iI ((t + 1 : Nat) : Int)) (iI c) (iI a) (iI d) G = k G (iI ((t + 1 + 1 : Nat) : Int)) := fun d h1 h2 => by
        unfold f_L_ranks_232
        rw [if_neg (by rw [pl0, iI_lt (by omega) (by omega) (by omega) (by omega)]; omega)]
        by_cases h : d = 0
        · rw [if_pos (by rw [h]; rfl), if_pos (by rw [iI_le (by omega) (by omega) (by omega) (by omega)]; have := h2 h; omega)]
          exact h253
        · rw [if_neg (by rw [pl0, iI_eq (by omega) (by omega) (by omega) (by omega)]; exact h)]
          exact h253
      rw [if_neg (by rw [pl0, iI_le (by omega) (by omega) (by omega) (by omega)]; omega), pl1, iI_sub, em, r_loud hP hI (by omega) (by omega), b2s, a4, if_pos hina, if_pos hinc, eca, ecc, iI_sub]
      have hu1 : bt s a (ns s) = ut s a := rfl
      have hu2 : bt s c (ns s) = ut s c := rfl
      rw [hu1, hu2]
      by_cases h0 : ut s a - ut s c = 0
      · rw [if_pos (by rw [h0]; rfl), (show fw_tinOf G (iI (a : Int)) 0 = some (iI (ky s a), G) from r_tinOf0 hP hI a1), b2s, (show fw_tinOf G (iI (c : Int)) 0 = some (iI (ky s c), G) from r_tinOf0 hP hI c1), b2s, iI_sub]
        exact h232 _ (by omega) (by omega)
      · rw [if_neg (by rw [pl0, iI_eq (by omega) (by omega) (by omega) (by omega)]; exact h0)]
        exact h232 _ (by omega) (by omega)
  · show (if _ then _ else _) = _
    rw [if_pos (by decide)]
    exact L_r265 hP hI
theorem L_ranks (hP : Pr G 0 s) (hI : Inv s) : f_L_ranks G = some (iI 1, G) := by
  have h16 := hI.ns16
  unfold f_L_ranks
  rw [L_sounds hP hI, b3s]
  unfold f_L_ranks_29
  refine lq5_fr (X1 := fun _ => G) (X2 := fun j => fun t : Nat => iI (cd s t j)) (X3 := fun j => fun t : Nat => iI (cr s t j)) (X4 := fun j => fun t : Nat => iI (bt s t j)) (X5 := fun j => iI j) (ns s) _ rfl rfl rfl rfl rfl (fun k j hj => ?_) (fun k => ?_) (by omega)
  · obtain ⟨hin, ec⟩ := inj_ s hI hj
    obtain ⟨w0, w2, w3, w4, w5⟩ := RW_SS s (ns s) j hj
    have hd := hI.sd hj
    have hpc := pc_r hI hj
    have hin4 : inb (iI (tn s j)) 4 := by rw [iI_inb (by omega) (by omega) (by omega)]; omega
    have ec4 : (iI (tn s j)).toNatClampNeg = (tn s j).toNat := by rw [iI_clamp (by omega) (by omega)]
    have hpd : (0 ≤ pc s j) = (0 ≤ ht s j) := by
      unfold pc
      have := pt_r hI hj
      by_cases h : ht s j < 0
      · rw [if_pos h]; apply propext; omega
      · rw [if_neg h]; apply propext; omega
    have hB : upd (fun t : Nat => iI (bt s t j)) (tn s j).toNat (iI (bt s (tn s j).toNat j) + iI (ln s j)) = fun t : Nat => iI (bt s t (j + 1)) := cnt_u (fun t => bt s t j) (fun t => bt s t (j + 1)) _ _ fun t => by
      show bt s t j + (if tn s j = t then ln s j else 0) = bt s t j + _
      congr 1
      by_cases h : t = (tn s j).toNat
      · rw [if_pos h, if_pos (by omega)]
      · rw [if_neg h, if_neg (by omega)]
    have hD : ∀ d : Int, (d = if 0 ≤ ht s j then 1 else 0) → upd (fun t : Nat => iI (cd s t j)) (tn s j).toNat (iI (cd s (tn s j).toNat j) + iI d) = fun t : Nat => iI (cd s t (j + 1)) := fun d h0 => cnt_u (fun t => cd s t j) (fun t => cd s t (j + 1)) _ _ fun t => by
      show cd s t j + (if tn s j = t ∧ 0 ≤ ht s j then 1 else 0) = cd s t j + _
      congr 1
      rw [h0]
      by_cases h : t = (tn s j).toNat
      · rw [if_pos h]
        by_cases h2 : 0 ≤ ht s j
        · rw [if_pos h2, if_pos ⟨by omega, h2⟩]
        · rw [if_neg h2, if_neg (fun h3 => h2 h3.2)]
      · rw [if_neg h, if_neg (fun h3 => h (by omega))]
    have hR : ∀ d : Int, (d = if 0 ≤ ht s j then 0 else 1) → upd (fun t : Nat => iI (cr s t j)) (tn s j).toNat (iI (cr s (tn s j).toNat j) + iI d) = fun t : Nat => iI (cr s t (j + 1)) := fun d h0 => cnt_u (fun t => cr s t j) (fun t => cr s t (j + 1)) _ _ fun t => by
      show cr s t j + (if tn s j = t ∧ ht s j < 0 then 1 else 0) = cr s t j + _
      congr 1
      rw [h0]
      by_cases h : t = (tn s j).toNat
      · rw [if_pos h]
        by_cases h2 : 0 ≤ ht s j
        · rw [if_pos h2, if_neg (fun h3 => by omega)]
        · rw [if_neg h2, if_pos ⟨by omega, by omega⟩]
      · rw [if_neg h, if_neg (fun h3 => h (by omega))]
    show (if _ then _ else _) = k G (fun t : Nat => iI (cd s t (j + 1))) (fun t : Nat => iI (cr s t (j + 1))) (fun t : Nat => iI (bt s t (j + 1))) (iI ((j + 1 : Nat) : Int))
    rw [if_neg (by rw [lit_nI, iI_le (by omega) (by omega) (by omega) (by omega)]; omega), if_pos hin, ec, w0, w3, if_pos hin4, ec4]
    have h83 : ∀ d : Int, (d = if 0 ≤ ht s j then 0 else 1) → f_L_ranks_83 k (ns s) (SS s (ns s)) (iI (ns s)) (fun t : Nat => iI (cd s t (j + 1))) (fun t : Nat => iI (cr s t j)) (fun t : Nat => iI (bt s t j)) (iI j) j (iI d) (iI (cr s (tn s j).toNat j)) (iI (tn s j)) G = k G (fun t : Nat => iI (cd s t (j + 1))) (fun t : Nat => iI (cr s t (j + 1))) (fun t : Nat => iI (bt s t (j + 1))) (iI ((j + 1 : Nat) : Int)) := fun d h0 => by
      unfold f_L_ranks_83
      rw [w0, w2, if_pos hin4, ec4, hR d h0, Option.bind_some, if_pos hin4, if_pos hin4, hB, Option.bind_some, pl1, iI_add]
      rfl
    have h62 : ∀ d : Int, (d = if 0 ≤ ht s j then 1 else 0) → f_L_ranks_62 k (ns s) (SS s (ns s)) (iI (ns s)) (fun t : Nat => iI (cd s t j)) (fun t : Nat => iI (cr s t j)) (fun t : Nat => iI (bt s t j)) (iI j) j (iI d) (iI (cd s (tn s j).toNat j)) (iI (tn s j)) G = k G (fun t : Nat => iI (cd s t (j + 1))) (fun t : Nat => iI (cr s t (j + 1))) (fun t : Nat => iI (bt s t (j + 1))) (iI ((j + 1 : Nat) : Int)) := fun d h0 => by
      unfold f_L_ranks_62
      rw [w0, w3, if_pos hin4, ec4, hD d h0, Option.bind_some, if_pos hin4]
      by_cases h2 : 0 ≤ ht s j
      · rw [if_pos (by rw [pl0, iI_le (by omega) (by omega) (by omega) (by omega), hpd]; exact h2)]
        exact h83 0 (by rw [if_pos h2])
      · rw [if_neg (by rw [pl0, iI_le (by omega) (by omega) (by omega) (by omega), hpd]; exact h2)]
        exact h83 1 (by rw [if_neg h2])
    by_cases h2 : 0 ≤ ht s j
    · rw [if_pos (by rw [pl0, iI_le (by omega) (by omega) (by omega) (by omega), hpd]; exact h2)]
      exact h62 1 (by rw [if_pos h2])
    · rw [if_neg (by rw [pl0, iI_le (by omega) (by omega) (by omega) (by omega), hpd]; exact h2)]
      exact h62 0 (by rw [if_neg h2])
  · show (if _ then _ else _) = _
    rw [if_pos (by rw [lit_nI]; exact Int32.le_refl _)]
    exact L_r108 hP hI
end FJ
