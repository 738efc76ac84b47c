/-! orders: what they do, on both sides -/
theorem tN0 : (0 : Int).toNat = 0 := rfl
theorem tN1 : (1 : Int).toNat = 1 := rfl
theorem tN2 : (2 : Int).toNat = 2 := rfl
theorem tN3 : (3 : Int).toNat = 3 := rfl
theorem tN4 : (4 : Int).toNat = 4 := rfl
section PN2
variable {G K : GT} {s : Nat → Int32}
theorem dr2_0 (K : GT) (s : Nat → Int32) (o : Nat) (a b c x y : Int) : dr2 K s o a b c (0, x, y) = some (iI (an s o a), upR K 1 (nw s o a b c)) := rfl
theorem dr2_1 (K : GT) (s : Nat → Int32) (o : Nat) (a b c x y : Int) : dr2 K s o a b c (1, x, y) = some (iI 0, th K (iI (pk o 1))) := rfl
theorem dr2_2 (K : GT) (s : Nat → Int32) (o : Nat) (a b c x y : Int) : dr2 K s o a b c (2, x, y) = some (iI 0, th K (iI (pk o 2))) := rfl
theorem dr2_3 (K : GT) (s : Nat → Int32) (o : Nat) (a b c x y : Int) : dr2 K s o a b c (3, x, y) = some (iI 0, rf K (pk o 3) x y) := rfl
/-- a sound set by the reference -/
def ms (K : GT) (s : Nat → Int32) (t h l p : Int) (w : Int × Int × Int) : Option (Int32 × GT) := if w.1 = 0 then some (iI (ns s), upR K 1 (st1 s t h l)) else some (iI 0, rf K p w.2.1 w.2.2)
theorem ms_0 (K : GT) (s : Nat → Int32) (t h l p x y : Int) : ms K s t h l p (0, x, y) = some (iI (ns s), upR K 1 (st1 s t h l)) := rfl
theorem ms_3 (K : GT) (s : Nat → Int32) (t h l p x y : Int) : ms K s t h l p (3, x, y) = some (iI 0, rf K p x y) := rfl
theorem m_sets (hK : K 1 = s) (hI : Inv s) {t h l p : Int} (hl : R32 l) : f_X10_sets K (iI t) (iI h) (iI l) (iI p) = ms K s t h l p (rm s l) := by
  have h1 := hI.ns16
  have h2 := fre_r hI
  have hb1 : K 1 1 = iI (ns s) := by rw [hK]; exact hI.s1
  have hf : f_X10_free K = some (iI (fre s)) := m_free hK hI
  unfold R32 at hl
  unfold f_X10_sets
  by_cases h3 : ns s < 16
  · by_cases h4 : l ≤ fre s
    · have i0 : ((19 : Int) + 3 * (ns s : Int)).toNat = 19 + 3 * ns s := by omega
      have i1 : ((19 : Int) + 3 * (ns s : Int) + 1).toNat = 20 + 3 * ns s := by omega
      have i2 : ((19 : Int) + 3 * (ns s : Int) + 2).toNat = 21 + 3 * ns s := by omega
      have f1 : upd (upd (upd s (19 + 3 * ns s) (iI t)) (20 + 3 * ns s) (iI h)) (21 + 3 * ns s) (iI l) 1 = iI (ns s) := by
        rw [upd_ne _ _ (by omega), upd_ne _ _ (by omega), upd_ne _ _ (by omega)]; exact hI.s1
      have f3 : ∀ x, upd (upd (upd (upd s (19 + 3 * ns s) (iI t)) (20 + 3 * ns s) (iI h)) (21 + 3 * ns s) (iI l)) 1 x 3 = s 3 := fun x => by
        rw [upd_ne _ _ (by omega), upd_ne _ _ (by omega), upd_ne _ _ (by omega), upd_ne _ _ (by omega)]
      have e5 : iI ((ns s : Int) + 1) = iI ((ns s + 1 : Nat) : Int) := rfl
      rw [rm_0 h3 h4, ms_0, hb1]
      simp (disch := omega) only [pl0, pl1, pl2, pl3, pl4, pl5, pl6, pl7, pl8, pl9, pl10, pl11, pl12, pl16, pl19, lit_nI, iI_add, iI_sub, iI_mul, iI_neg, iI_le, iI_lt, iI_eq, iI_max, iI_min, Option.bind_some, Option.bind_eq_bind, if_true, if_false, hf]
      (repeat (first | rw [if_pos (by omega)] | rw [if_neg (by omega)]))
      simp (disch := omega) only [pl0, pl1, pl2, pl3, pl4, pl5, pl6, pl7, pl8, pl9, pl10, pl11, pl12, pl16, pl19, lit_nI, iI_add, iI_sub, iI_mul, iI_neg, iI_le, iI_lt, iI_eq, iI_max, iI_min, Option.bind_some, Option.bind_eq_bind, if_true, if_false, iI_inb, iI_clamp, i0, i1, i2]
      (repeat (first | rw [if_pos (by omega)] | rw [if_neg (by omega)]))
      simp only [upR_at, upR_upR, hK, tN1, tN3, f1, f3, iI_add, e5]
      rfl
    · rw [rm_f h3 h4, ms_3, hb1]
      (simp (disch := omega) only [pl0, pl1, pl2, pl3, pl4, pl5, pl6, pl7, pl8, pl9, pl10, pl11, pl12, pl16, pl19, lit_nI, iI_add, iI_sub, iI_mul, iI_neg, iI_le, iI_lt, iI_eq, iI_max, iI_min, Option.bind_some, Option.bind_eq_bind, if_true, if_false, hf, b2id, m_refuse]; (repeat (first | rw [if_pos (by omega)] | rw [if_neg (by omega)])); (try simp (disch := omega) only [pl0, pl1, pl2, pl3, pl4, pl5, pl6, pl7, pl8, pl9, pl10, pl11, pl12, pl16, pl19, lit_nI, iI_add, iI_sub, iI_mul, iI_neg, iI_le, iI_lt, iI_eq, iI_max, iI_min, Option.bind_some, Option.bind_eq_bind, if_true, if_false]); (repeat (first | rw [if_pos (by omega)] | rw [if_neg (by omega)])); (try rfl))
  · rw [rm_n h3, ms_3, hb1]
    (simp (disch := omega) only [pl0, pl1, pl2, pl3, pl4, pl5, pl6, pl7, pl8, pl9, pl10, pl11, pl12, pl16, pl19, lit_nI, iI_add, iI_sub, iI_mul, iI_neg, iI_le, iI_lt, iI_eq, iI_max, iI_min, Option.bind_some, Option.bind_eq_bind, if_true, if_false, b2id, m_refuse]; (repeat (first | rw [if_pos (by omega)] | rw [if_neg (by omega)])); (try simp (disch := omega) only [pl0, pl1, pl2, pl3, pl4, pl5, pl6, pl7, pl8, pl9, pl10, pl11, pl12, pl16, pl19, lit_nI, iI_add, iI_sub, iI_mul, iI_neg, iI_le, iI_lt, iI_eq, iI_max, iI_min, Option.bind_some, Option.bind_eq_bind, if_true, if_false]); (repeat (first | rw [if_pos (by omega)] | rw [if_neg (by omega)])); (try rfl))
theorem M_do0 (hK : K 1 = s) (hI : Inv s) {a b c : Int} (ha : R32 a) : f_X10_doBar K (iI a) = dr2 K s 0 a b c (vd s 0 a b c) := by
  have e : vd s 0 a b c = if 2 ≤ a ∧ a ≤ 8 then (if nb s < 6 then (0, 0, 0) else (3, 1, 6)) else (2, 0, 0) := rfl
  have h6 := hI.nb6
  have hb1 : K 1 0 = iI (nb s) := by rw [hK]; exact hI.b0
  have e2 : iI (pk 0 2) = iI 1 := rfl
  have e3 : pk 0 3 = 2 := rfl
  have e4 : an s 0 a = nb s := rfl
  have e5 : nw s 0 a b c = upd (upd s (5 + nb s) (iI a)) 0 (iI ((nb s + 1 : Nat) : Int)) := rfl
  unfold R32 at ha
  rw [e]
  unfold f_X10_doBar f_X10_in
  by_cases h1 : a < 2
  · rw [if_neg (show ¬ (2 ≤ a ∧ a ≤ 8) by omega), dr2_2, e2]
    (simp (disch := omega) only [pl0, pl1, pl2, pl3, pl4, pl5, pl6, pl7, pl8, pl9, pl10, pl11, pl12, pl16, pl19, lit_nI, iI_add, iI_sub, iI_mul, iI_neg, iI_le, iI_lt, iI_eq, iI_max, iI_min, Option.bind_some, Option.bind_eq_bind, if_true, if_false, b2id, m_fails]; (repeat (first | rw [if_pos (by omega)] | rw [if_neg (by omega)])); (try simp (disch := omega) only [pl0, pl1, pl2, pl3, pl4, pl5, pl6, pl7, pl8, pl9, pl10, pl11, pl12, pl16, pl19, lit_nI, iI_add, iI_sub, iI_mul, iI_neg, iI_le, iI_lt, iI_eq, iI_max, iI_min, Option.bind_some, Option.bind_eq_bind, if_true, if_false]); (repeat (first | rw [if_pos (by omega)] | rw [if_neg (by omega)])); (try rfl))
  · by_cases h2 : 8 < a
    · rw [if_neg (show ¬ (2 ≤ a ∧ a ≤ 8) by omega), dr2_2, e2]
      (simp (disch := omega) only [pl0, pl1, pl2, pl3, pl4, pl5, pl6, pl7, pl8, pl9, pl10, pl11, pl12, pl16, pl19, lit_nI, iI_add, iI_sub, iI_mul, iI_neg, iI_le, iI_lt, iI_eq, iI_max, iI_min, Option.bind_some, Option.bind_eq_bind, if_true, if_false, b2id, m_fails]; (repeat (first | rw [if_pos (by omega)] | rw [if_neg (by omega)])); (try simp (disch := omega) only [pl0, pl1, pl2, pl3, pl4, pl5, pl6, pl7, pl8, pl9, pl10, pl11, pl12, pl16, pl19, lit_nI, iI_add, iI_sub, iI_mul, iI_neg, iI_le, iI_lt, iI_eq, iI_max, iI_min, Option.bind_some, Option.bind_eq_bind, if_true, if_false]); (repeat (first | rw [if_pos (by omega)] | rw [if_neg (by omega)])); (try rfl))
    · rw [if_pos (show 2 ≤ a ∧ a ≤ 8 by omega)]
      by_cases h3 : nb s < 6
      · have i0 : ((5 : Int) + (nb s : Int)).toNat = 5 + nb s := by omega
        have f1 : upd s (5 + nb s) (iI a) 0 = iI (nb s) := by rw [upd_ne _ _ (by omega)]; exact hI.b0
        have e6 : iI ((nb s : Int) + 1) = iI ((nb s + 1 : Nat) : Int) := rfl
        rw [if_pos h3, dr2_0, hb1, e4, e5]
        simp (disch := omega) only [pl0, pl1, pl2, pl3, pl4, pl5, pl6, pl7, pl8, pl9, pl10, pl11, pl12, pl16, pl19, lit_nI, iI_add, iI_sub, iI_mul, iI_neg, iI_le, iI_lt, iI_eq, iI_max, iI_min, Option.bind_some, Option.bind_eq_bind, if_true, if_false]
        (repeat (first | rw [if_pos (by omega)] | rw [if_neg (by omega)]))
        simp (disch := omega) only [pl0, pl1, pl2, pl3, pl4, pl5, pl6, pl7, pl8, pl9, pl10, pl11, pl12, pl16, pl19, lit_nI, iI_add, iI_sub, iI_mul, iI_neg, iI_le, iI_lt, iI_eq, iI_max, iI_min, Option.bind_some, Option.bind_eq_bind, if_true, if_false, iI_inb, iI_clamp, i0]
        (repeat (first | rw [if_pos (by omega)] | rw [if_neg (by omega)]))
        simp only [upR_at, upR_upR, hK, tN0, f1, iI_add, e6]
      · rw [if_neg h3, dr2_3, hb1, e3]
        (simp (disch := omega) only [pl0, pl1, pl2, pl3, pl4, pl5, pl6, pl7, pl8, pl9, pl10, pl11, pl12, pl16, pl19, lit_nI, iI_add, iI_sub, iI_mul, iI_neg, iI_le, iI_lt, iI_eq, iI_max, iI_min, Option.bind_some, Option.bind_eq_bind, if_true, if_false, b2id, m_refuse]; (repeat (first | rw [if_pos (by omega)] | rw [if_neg (by omega)])); (try simp (disch := omega) only [pl0, pl1, pl2, pl3, pl4, pl5, pl6, pl7, pl8, pl9, pl10, pl11, pl12, pl16, pl19, lit_nI, iI_add, iI_sub, iI_mul, iI_neg, iI_le, iI_lt, iI_eq, iI_max, iI_min, Option.bind_some, Option.bind_eq_bind, if_true, if_false]); (repeat (first | rw [if_pos (by omega)] | rw [if_neg (by omega)])); (try rfl))
theorem m_tin {a b w m : Int} (x : Nat) (ha : R32 a) (hb : R32 b) (hm : 0 ≤ m ∧ m ≤ 11) (hx : x < 67) (hw : K 1 x = iI w) (hwr : R32 w) (a3 : Int32) : f_X10_doTin_43 K (iI a) (iI b) a3 (iI x) (iI m) (iI 0) (iI b) = if 0 ≤ b ∧ b ≤ m then (if b = w then some (iI 0, rf K 3 2 b) else some (iI w, upR K 1 (upd (K 1) x (iI b)))) else some (iI 0, th K (iI 2)) := by
  have i0 : ((x : Int)).toNat = x := Int.toNat_natCast x
  unfold R32 at ha hb hwr
  unfold f_X10_doTin_43 f_X10_in
  by_cases h3 : b < 0
  · rw [if_neg (show ¬ (0 ≤ b ∧ b ≤ m) by omega)]
    (simp (disch := omega) only [pl0, pl1, pl2, pl3, pl4, pl5, pl6, pl7, pl8, pl9, pl10, pl11, pl12, pl16, pl19, lit_nI, iI_add, iI_sub, iI_mul, iI_neg, iI_le, iI_lt, iI_eq, iI_max, iI_min, Option.bind_some, Option.bind_eq_bind, if_true, if_false, b2id, m_fails]; (repeat (first | rw [if_pos (by omega)] | rw [if_neg (by omega)])); (try simp (disch := omega) only [pl0, pl1, pl2, pl3, pl4, pl5, pl6, pl7, pl8, pl9, pl10, pl11, pl12, pl16, pl19, lit_nI, iI_add, iI_sub, iI_mul, iI_neg, iI_le, iI_lt, iI_eq, iI_max, iI_min, Option.bind_some, Option.bind_eq_bind, if_true, if_false]); (repeat (first | rw [if_pos (by omega)] | rw [if_neg (by omega)])); (try rfl))
  · by_cases h4 : m < b
    · rw [if_neg (show ¬ (0 ≤ b ∧ b ≤ m) by omega)]
      (simp (disch := omega) only [pl0, pl1, pl2, pl3, pl4, pl5, pl6, pl7, pl8, pl9, pl10, pl11, pl12, pl16, pl19, lit_nI, iI_add, iI_sub, iI_mul, iI_neg, iI_le, iI_lt, iI_eq, iI_max, iI_min, Option.bind_some, Option.bind_eq_bind, if_true, if_false, b2id, m_fails]; (repeat (first | rw [if_pos (by omega)] | rw [if_neg (by omega)])); (try simp (disch := omega) only [pl0, pl1, pl2, pl3, pl4, pl5, pl6, pl7, pl8, pl9, pl10, pl11, pl12, pl16, pl19, lit_nI, iI_add, iI_sub, iI_mul, iI_neg, iI_le, iI_lt, iI_eq, iI_max, iI_min, Option.bind_some, Option.bind_eq_bind, if_true, if_false]); (repeat (first | rw [if_pos (by omega)] | rw [if_neg (by omega)])); (try rfl))
    · rw [if_pos (show 0 ≤ b ∧ b ≤ m by omega)]
      by_cases h5 : b = w
      · rw [if_pos h5]
        simp (disch := omega) only [pl0, pl1, pl2, pl3, pl4, pl5, pl6, pl7, pl8, pl9, pl10, pl11, pl12, pl16, pl19, lit_nI, iI_add, iI_sub, iI_mul, iI_neg, iI_le, iI_lt, iI_eq, iI_max, iI_min, Option.bind_some, Option.bind_eq_bind, if_true, if_false]
        (repeat (first | rw [if_pos (by omega)] | rw [if_neg (by omega)]))
        simp (disch := omega) only [pl0, pl1, pl2, pl3, pl4, pl5, pl6, pl7, pl8, pl9, pl10, pl11, pl12, pl16, pl19, lit_nI, iI_add, iI_sub, iI_mul, iI_neg, iI_le, iI_lt, iI_eq, iI_max, iI_min, Option.bind_some, Option.bind_eq_bind, if_true, if_false, iI_inb, iI_clamp, i0, hw]
        (repeat (first | rw [if_pos (by omega)] | rw [if_neg (by omega)]))
        simp (disch := omega) only [pl0, pl1, pl2, pl3, pl4, pl5, pl6, pl7, pl8, pl9, pl10, pl11, pl12, pl16, pl19, lit_nI, iI_add, iI_sub, iI_mul, iI_neg, iI_le, iI_lt, iI_eq, iI_max, iI_min, Option.bind_some, Option.bind_eq_bind, if_true, if_false, b2id, m_refuse]
      · rw [if_neg h5]
        simp (disch := omega) only [pl0, pl1, pl2, pl3, pl4, pl5, pl6, pl7, pl8, pl9, pl10, pl11, pl12, pl16, pl19, lit_nI, iI_add, iI_sub, iI_mul, iI_neg, iI_le, iI_lt, iI_eq, iI_max, iI_min, Option.bind_some, Option.bind_eq_bind, if_true, if_false]
        (repeat (first | rw [if_pos (by omega)] | rw [if_neg (by omega)]))
        simp (disch := omega) only [pl0, pl1, pl2, pl3, pl4, pl5, pl6, pl7, pl8, pl9, pl10, pl11, pl12, pl16, pl19, lit_nI, iI_add, iI_sub, iI_mul, iI_neg, iI_le, iI_lt, iI_eq, iI_max, iI_min, Option.bind_some, Option.bind_eq_bind, if_true, if_false, iI_inb, iI_clamp, i0, hw]
        (repeat (first | rw [if_pos (by omega)] | rw [if_neg (by omega)]))
theorem M_do1 (hK : K 1 = s) (hI : Inv s) {a b c : Int} (ha : R32 a) (hb : R32 b) : f_X10_doTin K (iI a) (iI b) 1 = dr2 K s 1 a b c (vd s 1 a b c) := by
  have e : vd s 1 a b c = vt a b (ky s a.toNat) 11 := rfl
  have e1 : iI (pk 1 1) = iI 1 := rfl
  have e2 : iI (pk 1 2) = iI 2 := rfl
  have e3 : pk 1 3 = 3 := rfl
  have e4 : an s 1 a = ky s a.toNat := rfl
  have e5 : nw s 1 a b c = upd s (11 + 2 * a.toNat) (iI b) := rfl
  have hbr := hb
  have har := ha
  unfold R32 at ha hb
  rw [e]
  unfold f_X10_doTin f_X10_doTin_15 f_X10_isTin f_X10_in
  by_cases h1 : a < 0
  · rw [vt_1 (Or.inl h1), dr2_1, e1]
    (simp (disch := omega) only [pl0, pl1, pl2, pl3, pl4, pl5, pl6, pl7, pl8, pl9, pl10, pl11, pl12, pl16, pl19, lit_nI, iI_add, iI_sub, iI_mul, iI_neg, iI_le, iI_lt, iI_eq, iI_max, iI_min, Option.bind_some, Option.bind_eq_bind, if_true, if_false, b2id, m_fails]; (repeat (first | rw [if_pos (by omega)] | rw [if_neg (by omega)])); (try simp (disch := omega) only [pl0, pl1, pl2, pl3, pl4, pl5, pl6, pl7, pl8, pl9, pl10, pl11, pl12, pl16, pl19, lit_nI, iI_add, iI_sub, iI_mul, iI_neg, iI_le, iI_lt, iI_eq, iI_max, iI_min, Option.bind_some, Option.bind_eq_bind, if_true, if_false]); (repeat (first | rw [if_pos (by omega)] | rw [if_neg (by omega)])); (try rfl))
  · by_cases h2 : 3 < a
    · rw [vt_1 (Or.inr h2), dr2_1, e1]
      (simp (disch := omega) only [pl0, pl1, pl2, pl3, pl4, pl5, pl6, pl7, pl8, pl9, pl10, pl11, pl12, pl16, pl19, lit_nI, iI_add, iI_sub, iI_mul, iI_neg, iI_le, iI_lt, iI_eq, iI_max, iI_min, Option.bind_some, Option.bind_eq_bind, if_true, if_false, b2id, m_fails]; (repeat (first | rw [if_pos (by omega)] | rw [if_neg (by omega)])); (try simp (disch := omega) only [pl0, pl1, pl2, pl3, pl4, pl5, pl6, pl7, pl8, pl9, pl10, pl11, pl12, pl16, pl19, lit_nI, iI_add, iI_sub, iI_mul, iI_neg, iI_le, iI_lt, iI_eq, iI_max, iI_min, Option.bind_some, Option.bind_eq_bind, if_true, if_false]); (repeat (first | rw [if_pos (by omega)] | rw [if_neg (by omega)])); (try rfl))
    · have h : 0 ≤ a ∧ a ≤ 3 := by omega
      have hk := ky_r hI h
      have hx : 11 + 2 * a.toNat < 67 := by omega
      have hw : K 1 (11 + 2 * a.toNat) = iI (ky s a.toNat) := by rw [hK, ky, toInt_iI]
      have ht := m_tin (K := K) (11 + 2 * a.toNat) har hbr (show (0 : Int) ≤ 11 ∧ (11 : Int) ≥ 11 by omega) hx hw (R32_k (by omega)) (iI 1)
      have ex : iI (11 + 2 * a + 0) = iI ((11 + 2 * a.toNat : Nat) : Int) := by congr 1; omega
      simp (disch := omega) only [pl0, pl1, pl2, pl3, pl4, pl5, pl6, pl7, pl8, pl9, pl10, pl11, pl12, pl16, pl19, lit_nI, iI_add, iI_sub, iI_mul, iI_neg, iI_le, iI_lt, iI_eq, iI_max, iI_min, Option.bind_some, Option.bind_eq_bind, if_true, if_false]
      (repeat (first | rw [if_pos (by omega)] | rw [if_neg (by omega)]))
      simp (disch := omega) only [pl0, pl1, pl2, pl3, pl4, pl5, pl6, pl7, pl8, pl9, pl10, pl11, pl12, pl16, pl19, lit_nI, iI_add, iI_sub, iI_mul, iI_neg, iI_le, iI_lt, iI_eq, iI_max, iI_min, Option.bind_some, Option.bind_eq_bind, if_true, if_false, ex, ht]
      (repeat (first | rw [if_pos (by omega)] | rw [if_neg (by omega)]))
      by_cases h3 : 0 ≤ b ∧ b ≤ 11
      · rw [if_pos h3]
        by_cases h5 : b = ky s a.toNat
        · rw [if_pos h5, vt_3 h h3 h5, dr2_3, e3]
        · rw [if_neg h5, vt_0 h h3 h5, dr2_0, e4, e5, hK]
      · rw [if_neg h3, vt_2 h (by omega), dr2_2, e2]
theorem M_do2 (hK : K 1 = s) (hI : Inv s) {a b c : Int} (ha : R32 a) (hb : R32 b) : f_X10_doTin K (iI a) (iI b) 0 = dr2 K s 2 a b c (vd s 2 a b c) := by
  have e : vd s 2 a b c = vt a b (lk s a.toNat) 3 := rfl
  have e1 : iI (pk 2 1) = iI 1 := rfl
  have e2 : iI (pk 2 2) = iI 2 := rfl
  have e3 : pk 2 3 = 3 := rfl
  have e4 : an s 2 a = lk s a.toNat := rfl
  have e5 : nw s 2 a b c = upd s (12 + 2 * a.toNat) (iI b) := rfl
  have hbr := hb
  have har := ha
  unfold R32 at ha hb
  rw [e]
  unfold f_X10_doTin f_X10_doTin_15 f_X10_isTin f_X10_in
  by_cases h1 : a < 0
  · rw [vt_1 (Or.inl h1), dr2_1, e1]
    (simp (disch := omega) only [pl0, pl1, pl2, pl3, pl4, pl5, pl6, pl7, pl8, pl9, pl10, pl11, pl12, pl16, pl19, lit_nI, iI_add, iI_sub, iI_mul, iI_neg, iI_le, iI_lt, iI_eq, iI_max, iI_min, Option.bind_some, Option.bind_eq_bind, if_true, if_false, b2id, m_fails]; (repeat (first | rw [if_pos (by omega)] | rw [if_neg (by omega)])); (try simp (disch := omega) only [pl0, pl1, pl2, pl3, pl4, pl5, pl6, pl7, pl8, pl9, pl10, pl11, pl12, pl16, pl19, lit_nI, iI_add, iI_sub, iI_mul, iI_neg, iI_le, iI_lt, iI_eq, iI_max, iI_min, Option.bind_some, Option.bind_eq_bind, if_true, if_false]); (repeat (first | rw [if_pos (by omega)] | rw [if_neg (by omega)])); (try rfl))
  · by_cases h2 : 3 < a
    · rw [vt_1 (Or.inr h2), dr2_1, e1]
      (simp (disch := omega) only [pl0, pl1, pl2, pl3, pl4, pl5, pl6, pl7, pl8, pl9, pl10, pl11, pl12, pl16, pl19, lit_nI, iI_add, iI_sub, iI_mul, iI_neg, iI_le, iI_lt, iI_eq, iI_max, iI_min, Option.bind_some, Option.bind_eq_bind, if_true, if_false, b2id, m_fails]; (repeat (first | rw [if_pos (by omega)] | rw [if_neg (by omega)])); (try simp (disch := omega) only [pl0, pl1, pl2, pl3, pl4, pl5, pl6, pl7, pl8, pl9, pl10, pl11, pl12, pl16, pl19, lit_nI, iI_add, iI_sub, iI_mul, iI_neg, iI_le, iI_lt, iI_eq, iI_max, iI_min, Option.bind_some, Option.bind_eq_bind, if_true, if_false]); (repeat (first | rw [if_pos (by omega)] | rw [if_neg (by omega)])); (try rfl))
    · have h : 0 ≤ a ∧ a ≤ 3 := by omega
      have hk := ky_r hI h
      have hx : 12 + 2 * a.toNat < 67 := by omega
      have hw : K 1 (12 + 2 * a.toNat) = iI (lk s a.toNat) := by rw [hK, lk, toInt_iI]
      have ht := m_tin (K := K) (12 + 2 * a.toNat) har hbr (show (0 : Int) ≤ 3 ∧ (11 : Int) ≥ 3 by omega) hx hw (R32_k (by omega)) (iI 0)
      have ex : iI (11 + 2 * a + 1) = iI ((12 + 2 * a.toNat : Nat) : Int) := by congr 1; omega
      simp (disch := omega) only [pl0, pl1, pl2, pl3, pl4, pl5, pl6, pl7, pl8, pl9, pl10, pl11, pl12, pl16, pl19, lit_nI, iI_add, iI_sub, iI_mul, iI_neg, iI_le, iI_lt, iI_eq, iI_max, iI_min, Option.bind_some, Option.bind_eq_bind, if_true, if_false]
      (repeat (first | rw [if_pos (by omega)] | rw [if_neg (by omega)]))
      simp (disch := omega) only [pl0, pl1, pl2, pl3, pl4, pl5, pl6, pl7, pl8, pl9, pl10, pl11, pl12, pl16, pl19, lit_nI, iI_add, iI_sub, iI_mul, iI_neg, iI_le, iI_lt, iI_eq, iI_max, iI_min, Option.bind_some, Option.bind_eq_bind, if_true, if_false, ex, ht]
      (repeat (first | rw [if_pos (by omega)] | rw [if_neg (by omega)]))
      by_cases h3 : 0 ≤ b ∧ b ≤ 3
      · rw [if_pos h3]
        by_cases h5 : b = lk s a.toNat
        · rw [if_pos h5, vt_3 h h3 h5, dr2_3, e3]
        · rw [if_neg h5, vt_0 h h3 h5, dr2_0, e4, e5, hK]
      · rw [if_neg h3, vt_2 h (by omega), dr2_2, e2]
theorem M_do3 (hK : K 1 = s) (hI : Inv s) {a b c : Int} (ha : R32 a) (hb : R32 b) (hc : R32 c) : f_X10_doDrop K (iI a) (iI b) (iI c) = dr2 K s 3 a b c (vd s 3 a b c) := by
  have e : vd s 3 a b c = if 0 ≤ a ∧ a ≤ 3 then (if (0 ≤ b ∧ b ≤ 9) ∧ 1 ≤ c ∧ c ≤ 8 then rm s c else (2, 0, 0)) else (1, 0, 0) := rfl
  have e1 : iI (pk 3 1) = iI 1 := rfl
  have e2 : iI (pk 3 2) = iI 2 := rfl
  have e3 : pk 3 3 = 3 := rfl
  have e4 : an s 3 a = ns s := rfl
  have e5 : nw s 3 a b c = st1 s a b c := rfl
  have hq := m_sets hK hI (t := a) (h := b) (p := 3) hc
  unfold R32 at ha hb hc
  rw [e]
  unfold f_X10_doDrop f_X10_isTin f_X10_in f_X10_doDrop_44
  by_cases h1 : a < 0
  · rw [if_neg (show ¬ (0 ≤ a ∧ a ≤ 3) by omega), dr2_1, e1]
    (simp (disch := omega) only [pl0, pl1, pl2, pl3, pl4, pl5, pl6, pl7, pl8, pl9, pl10, pl11, pl12, pl16, pl19, lit_nI, iI_add, iI_sub, iI_mul, iI_neg, iI_le, iI_lt, iI_eq, iI_max, iI_min, Option.bind_some, Option.bind_eq_bind, if_true, if_false, b2id, m_fails]; (repeat (first | rw [if_pos (by omega)] | rw [if_neg (by omega)])); (try simp (disch := omega) only [pl0, pl1, pl2, pl3, pl4, pl5, pl6, pl7, pl8, pl9, pl10, pl11, pl12, pl16, pl19, lit_nI, iI_add, iI_sub, iI_mul, iI_neg, iI_le, iI_lt, iI_eq, iI_max, iI_min, Option.bind_some, Option.bind_eq_bind, if_true, if_false]); (repeat (first | rw [if_pos (by omega)] | rw [if_neg (by omega)])); (try rfl))
  · by_cases h2 : 3 < a
    · rw [if_neg (show ¬ (0 ≤ a ∧ a ≤ 3) by omega), dr2_1, e1]
      (simp (disch := omega) only [pl0, pl1, pl2, pl3, pl4, pl5, pl6, pl7, pl8, pl9, pl10, pl11, pl12, pl16, pl19, lit_nI, iI_add, iI_sub, iI_mul, iI_neg, iI_le, iI_lt, iI_eq, iI_max, iI_min, Option.bind_some, Option.bind_eq_bind, if_true, if_false, b2id, m_fails]; (repeat (first | rw [if_pos (by omega)] | rw [if_neg (by omega)])); (try simp (disch := omega) only [pl0, pl1, pl2, pl3, pl4, pl5, pl6, pl7, pl8, pl9, pl10, pl11, pl12, pl16, pl19, lit_nI, iI_add, iI_sub, iI_mul, iI_neg, iI_le, iI_lt, iI_eq, iI_max, iI_min, Option.bind_some, Option.bind_eq_bind, if_true, if_false]); (repeat (first | rw [if_pos (by omega)] | rw [if_neg (by omega)])); (try rfl))
    · rw [if_pos (show 0 ≤ a ∧ a ≤ 3 by omega)]
      by_cases h3 : b < 0
      · rw [if_neg (show ¬ ((0 ≤ b ∧ b ≤ 9) ∧ 1 ≤ c ∧ c ≤ 8) by omega), dr2_2, e2]
        (simp (disch := omega) only [pl0, pl1, pl2, pl3, pl4, pl5, pl6, pl7, pl8, pl9, pl10, pl11, pl12, pl16, pl19, lit_nI, iI_add, iI_sub, iI_mul, iI_neg, iI_le, iI_lt, iI_eq, iI_max, iI_min, Option.bind_some, Option.bind_eq_bind, if_true, if_false, b2id, m_fails]; (repeat (first | rw [if_pos (by omega)] | rw [if_neg (by omega)])); (try simp (disch := omega) only [pl0, pl1, pl2, pl3, pl4, pl5, pl6, pl7, pl8, pl9, pl10, pl11, pl12, pl16, pl19, lit_nI, iI_add, iI_sub, iI_mul, iI_neg, iI_le, iI_lt, iI_eq, iI_max, iI_min, Option.bind_some, Option.bind_eq_bind, if_true, if_false]); (repeat (first | rw [if_pos (by omega)] | rw [if_neg (by omega)])); (try rfl))
      · by_cases h4 : 9 < b
        · rw [if_neg (show ¬ ((0 ≤ b ∧ b ≤ 9) ∧ 1 ≤ c ∧ c ≤ 8) by omega), dr2_2, e2]
          (simp (disch := omega) only [pl0, pl1, pl2, pl3, pl4, pl5, pl6, pl7, pl8, pl9, pl10, pl11, pl12, pl16, pl19, lit_nI, iI_add, iI_sub, iI_mul, iI_neg, iI_le, iI_lt, iI_eq, iI_max, iI_min, Option.bind_some, Option.bind_eq_bind, if_true, if_false, b2id, m_fails]; (repeat (first | rw [if_pos (by omega)] | rw [if_neg (by omega)])); (try simp (disch := omega) only [pl0, pl1, pl2, pl3, pl4, pl5, pl6, pl7, pl8, pl9, pl10, pl11, pl12, pl16, pl19, lit_nI, iI_add, iI_sub, iI_mul, iI_neg, iI_le, iI_lt, iI_eq, iI_max, iI_min, Option.bind_some, Option.bind_eq_bind, if_true, if_false]); (repeat (first | rw [if_pos (by omega)] | rw [if_neg (by omega)])); (try rfl))
        · by_cases h5 : c < 1
          · rw [if_neg (show ¬ ((0 ≤ b ∧ b ≤ 9) ∧ 1 ≤ c ∧ c ≤ 8) by omega), dr2_2, e2]
            (simp (disch := omega) only [pl0, pl1, pl2, pl3, pl4, pl5, pl6, pl7, pl8, pl9, pl10, pl11, pl12, pl16, pl19, lit_nI, iI_add, iI_sub, iI_mul, iI_neg, iI_le, iI_lt, iI_eq, iI_max, iI_min, Option.bind_some, Option.bind_eq_bind, if_true, if_false, b2id, m_fails]; (repeat (first | rw [if_pos (by omega)] | rw [if_neg (by omega)])); (try simp (disch := omega) only [pl0, pl1, pl2, pl3, pl4, pl5, pl6, pl7, pl8, pl9, pl10, pl11, pl12, pl16, pl19, lit_nI, iI_add, iI_sub, iI_mul, iI_neg, iI_le, iI_lt, iI_eq, iI_max, iI_min, Option.bind_some, Option.bind_eq_bind, if_true, if_false]); (repeat (first | rw [if_pos (by omega)] | rw [if_neg (by omega)])); (try rfl))
          · by_cases h6 : 8 < c
            · rw [if_neg (show ¬ ((0 ≤ b ∧ b ≤ 9) ∧ 1 ≤ c ∧ c ≤ 8) by omega), dr2_2, e2]
              (simp (disch := omega) only [pl0, pl1, pl2, pl3, pl4, pl5, pl6, pl7, pl8, pl9, pl10, pl11, pl12, pl16, pl19, lit_nI, iI_add, iI_sub, iI_mul, iI_neg, iI_le, iI_lt, iI_eq, iI_max, iI_min, Option.bind_some, Option.bind_eq_bind, if_true, if_false, b2id, m_fails]; (repeat (first | rw [if_pos (by omega)] | rw [if_neg (by omega)])); (try simp (disch := omega) only [pl0, pl1, pl2, pl3, pl4, pl5, pl6, pl7, pl8, pl9, pl10, pl11, pl12, pl16, pl19, lit_nI, iI_add, iI_sub, iI_mul, iI_neg, iI_le, iI_lt, iI_eq, iI_max, iI_min, Option.bind_some, Option.bind_eq_bind, if_true, if_false]); (repeat (first | rw [if_pos (by omega)] | rw [if_neg (by omega)])); (try rfl))
            · rw [if_pos (show (0 ≤ b ∧ b ≤ 9) ∧ 1 ≤ c ∧ c ≤ 8 by omega)]
              have hg : f_X10_sets K (iI a) (iI b) (iI c) (iI 3) = dr2 K s 3 a b c (rm s c) := by
                rw [hq]
                by_cases g1 : ns s < 16
                · by_cases g2 : c ≤ fre s
                  · rw [rm_0 g1 g2, ms_0, dr2_0, e4, e5]
                  · rw [rm_f g1 g2, ms_3, dr2_3, e3]
                · rw [rm_n g1, ms_3, dr2_3, e3]
              simp (disch := omega) only [pl0, pl1, pl2, pl3, pl4, pl5, pl6, pl7, pl8, pl9, pl10, pl11, pl12, pl16, pl19, lit_nI, iI_add, iI_sub, iI_mul, iI_neg, iI_le, iI_lt, iI_eq, iI_max, iI_min, Option.bind_some, Option.bind_eq_bind, if_true, if_false, b2id]
              (repeat (first | rw [if_pos (by omega)] | rw [if_neg (by omega)]))
              simp (disch := omega) only [pl0, pl1, pl2, pl3, pl4, pl5, pl6, pl7, pl8, pl9, pl10, pl11, pl12, pl16, pl19, lit_nI, iI_add, iI_sub, iI_mul, iI_neg, iI_le, iI_lt, iI_eq, iI_max, iI_min, Option.bind_some, Option.bind_eq_bind, if_true, if_false, hg, b2id]
              (repeat (first | rw [if_pos (by omega)] | rw [if_neg (by omega)]))
theorem M_do4 (hK : K 1 = s) (hI : Inv s) {a b c : Int} (ha : R32 a) : f_X10_doRest K (iI a) = dr2 K s 4 a b c (vd s 4 a b c) := by
  have e : vd s 4 a b c = if 0 ≤ a ∧ a ≤ 3 then (if lk s a.toNat = 0 then (3, 4, ky s a.toNat) else rm s (lk s a.toNat)) else (1, 0, 0) := rfl
  have e1 : iI (pk 4 1) = iI 1 := rfl
  have e3 : pk 4 3 = 2 := rfl
  have e4 : an s 4 a = ns s := rfl
  have e5 : nw s 4 a b c = st1 s a (-1) (lk s a.toNat) := rfl
  unfold R32 at ha
  rw [e]
  unfold f_X10_doRest f_X10_isTin f_X10_in
  by_cases h1 : a < 0
  · rw [if_neg (show ¬ (0 ≤ a ∧ a ≤ 3) by omega), dr2_1, e1]
    (simp (disch := omega) only [pl0, pl1, pl2, pl3, pl4, pl5, pl6, pl7, pl8, pl9, pl10, pl11, pl12, pl16, pl19, lit_nI, iI_add, iI_sub, iI_mul, iI_neg, iI_le, iI_lt, iI_eq, iI_max, iI_min, Option.bind_some, Option.bind_eq_bind, if_true, if_false, b2id, m_fails]; (repeat (first | rw [if_pos (by omega)] | rw [if_neg (by omega)])); (try simp (disch := omega) only [pl0, pl1, pl2, pl3, pl4, pl5, pl6, pl7, pl8, pl9, pl10, pl11, pl12, pl16, pl19, lit_nI, iI_add, iI_sub, iI_mul, iI_neg, iI_le, iI_lt, iI_eq, iI_max, iI_min, Option.bind_some, Option.bind_eq_bind, if_true, if_false]); (repeat (first | rw [if_pos (by omega)] | rw [if_neg (by omega)])); (try rfl))
  · by_cases h2 : 3 < a
    · rw [if_neg (show ¬ (0 ≤ a ∧ a ≤ 3) by omega), dr2_1, e1]
      (simp (disch := omega) only [pl0, pl1, pl2, pl3, pl4, pl5, pl6, pl7, pl8, pl9, pl10, pl11, pl12, pl16, pl19, lit_nI, iI_add, iI_sub, iI_mul, iI_neg, iI_le, iI_lt, iI_eq, iI_max, iI_min, Option.bind_some, Option.bind_eq_bind, if_true, if_false, b2id, m_fails]; (repeat (first | rw [if_pos (by omega)] | rw [if_neg (by omega)])); (try simp (disch := omega) only [pl0, pl1, pl2, pl3, pl4, pl5, pl6, pl7, pl8, pl9, pl10, pl11, pl12, pl16, pl19, lit_nI, iI_add, iI_sub, iI_mul, iI_neg, iI_le, iI_lt, iI_eq, iI_max, iI_min, Option.bind_some, Option.bind_eq_bind, if_true, if_false]); (repeat (first | rw [if_pos (by omega)] | rw [if_neg (by omega)])); (try rfl))
    · have h : 0 ≤ a ∧ a ≤ 3 := by omega
      have hk := ky_r hI h
      have hw : K 1 (11 + 2 * a.toNat) = iI (ky s a.toNat) := by rw [hK, ky, toInt_iI]
      have hw2 : K 1 (12 + 2 * a.toNat) = iI (lk s a.toNat) := by rw [hK, lk, toInt_iI]
      have i0 : (11 + 2 * a).toNat = 11 + 2 * a.toNat := by omega
      have i1 : (11 + 2 * a + 1).toNat = 12 + 2 * a.toNat := by omega
      rw [if_pos h]
      by_cases h3 : lk s a.toNat = 0
      · rw [if_pos h3, dr2_3, e3]
        simp (disch := omega) only [pl0, pl1, pl2, pl3, pl4, pl5, pl6, pl7, pl8, pl9, pl10, pl11, pl12, pl16, pl19, lit_nI, iI_add, iI_sub, iI_mul, iI_neg, iI_le, iI_lt, iI_eq, iI_max, iI_min, Option.bind_some, Option.bind_eq_bind, if_true, if_false]
        (repeat (first | rw [if_pos (by omega)] | rw [if_neg (by omega)]))
        simp (disch := omega) only [pl0, pl1, pl2, pl3, pl4, pl5, pl6, pl7, pl8, pl9, pl10, pl11, pl12, pl16, pl19, lit_nI, iI_add, iI_sub, iI_mul, iI_neg, iI_le, iI_lt, iI_eq, iI_max, iI_min, Option.bind_some, Option.bind_eq_bind, if_true, if_false, iI_inb, iI_clamp, i0, i1, hw, hw2]
        (repeat (first | rw [if_pos (by omega)] | rw [if_neg (by omega)]))
        simp (disch := omega) only [pl0, pl1, pl2, pl3, pl4, pl5, pl6, pl7, pl8, pl9, pl10, pl11, pl12, pl16, pl19, lit_nI, iI_add, iI_sub, iI_mul, iI_neg, iI_le, iI_lt, iI_eq, iI_max, iI_min, Option.bind_some, Option.bind_eq_bind, if_true, if_false, b2id, m_refuse]
      · rw [if_neg h3]
        have hq := m_sets hK hI (t := a) (h := -1) (p := 2) (l := lk s a.toNat) (R32_k (by omega))
        have hg : f_X10_sets K (iI a) (iI (-1)) (iI (lk s a.toNat)) (iI 2) = dr2 K s 4 a b c (rm s (lk s a.toNat)) := by
          rw [hq]
          by_cases g1 : ns s < 16
          · by_cases g2 : lk s a.toNat ≤ fre s
            · rw [rm_0 g1 g2, ms_0, dr2_0, e4, e5]
            · rw [rm_f g1 g2, ms_3, dr2_3, e3]
          · rw [rm_n g1, ms_3, dr2_3, e3]
        simp (disch := omega) only [pl0, pl1, pl2, pl3, pl4, pl5, pl6, pl7, pl8, pl9, pl10, pl11, pl12, pl16, pl19, lit_nI, iI_add, iI_sub, iI_mul, iI_neg, iI_le, iI_lt, iI_eq, iI_max, iI_min, Option.bind_some, Option.bind_eq_bind, if_true, if_false]
        (repeat (first | rw [if_pos (by omega)] | rw [if_neg (by omega)]))
        simp (disch := omega) only [pl0, pl1, pl2, pl3, pl4, pl5, pl6, pl7, pl8, pl9, pl10, pl11, pl12, pl16, pl19, lit_nI, iI_add, iI_sub, iI_mul, iI_neg, iI_le, iI_lt, iI_eq, iI_max, iI_min, Option.bind_some, Option.bind_eq_bind, if_true, if_false, iI_inb, iI_clamp, i0, i1, hw, hw2]
        (repeat (first | rw [if_pos (by omega)] | rw [if_neg (by omega)]))
        simp (disch := omega) only [pl0, pl1, pl2, pl3, pl4, pl5, pl6, pl7, pl8, pl9, pl10, pl11, pl12, pl16, pl19, lit_nI, iI_add, iI_sub, iI_mul, iI_neg, iI_le, iI_lt, iI_eq, iI_max, iI_min, Option.bind_some, Option.bind_eq_bind, if_true, if_false, b2id, hg]
theorem M_do5 (hK : K 1 = s) (hI : Inv s) {a b c : Int} : f_X10_doLift K = dr2 K s 5 a b c (vd s 5 a b c) := by
  have e : vd s 5 a b c = if 0 < ns s then (0, 0, 0) else (3, 5, (nb s : Int)) := rfl
  have e3 : pk 5 3 = 1 := rfl
  have e4 : an s 5 a = ln s (ns s - 1) := rfl
  have e5 : nw s 5 a b c = upd (upd s 1 (iI ((ns s - 1 : Nat) : Int))) 4 (s 4 + iI 1) := rfl
  have h6 := hI.nb6
  have h16 := hI.ns16
  have hb0 : K 1 0 = iI (nb s) := by rw [hK]; exact hI.b0
  have hb1 : K 1 1 = iI (ns s) := by rw [hK]; exact hI.s1
  rw [e]
  unfold f_X10_doLift
  by_cases h1 : 0 < ns s
  · have e6 : iI ((ns s : Int) - 1) = iI ((ns s - 1 : Nat) : Int) := by congr 1; omega
    have f4 : ∀ x, upd s 1 x 4 = s 4 := fun x => upd_ne _ _ (by decide)
    have hl : f_X10_of (upR K 1 (upd (upd s 1 (iI ((ns s - 1 : Nat) : Int))) 4 (s 4 + iI 1))) (iI ((ns s - 1 : Nat) : Int)) (iI 2) = some (iI (ln s (ns s - 1))) := by
      have := m_of2 (K := upR K 1 (upd (upd s 1 (iI ((ns s - 1 : Nat) : Int))) 4 (s 4 + iI 1))) (s := upd (upd s 1 (iI ((ns s - 1 : Nat) : Int))) 4 (s 4 + iI 1)) (upR_at _ _ _) (j := ns s - 1) (by omega)
      rw [this]
      unfold ln
      rw [upd_ne _ _ (by omega), upd_ne _ _ (by omega)]
    rw [if_pos h1, dr2_0, e4, e5, hb1]
    simp (disch := omega) only [pl0, pl1, pl2, pl3, pl4, pl5, pl6, pl7, pl8, pl9, pl10, pl11, pl12, pl16, pl19, lit_nI, iI_add, iI_sub, iI_mul, iI_neg, iI_le, iI_lt, iI_eq, iI_max, iI_min, Option.bind_some, Option.bind_eq_bind, if_true, if_false]
    (repeat (first | rw [if_pos (by omega)] | rw [if_neg (by omega)]))
    simp only [iI_clamp (show (1 : Int) ≤ 2147483647 by omega) (by omega), iI_clamp (show (4 : Int) ≤ 2147483647 by omega) (by omega), tN1, tN4, upR_at, upR_upR, hK, f4, e6, hl, Option.bind_some]
  · rw [if_neg h1, dr2_3, e3, hb0, hb1]
    simp (disch := omega) only [pl0, pl1, pl2, pl3, pl4, pl5, pl6, pl7, pl8, pl9, pl10, pl11, pl12, pl16, pl19, lit_nI, iI_add, iI_sub, iI_mul, iI_neg, iI_le, iI_lt, iI_eq, iI_max, iI_min, Option.bind_some, Option.bind_eq_bind, if_true, if_false]
    (repeat (first | rw [if_pos (by omega)] | rw [if_neg (by omega)]))
    simp (disch := omega) only [pl0, pl1, pl2, pl3, pl4, pl5, pl6, pl7, pl8, pl9, pl10, pl11, pl12, pl16, pl19, lit_nI, iI_add, iI_sub, iI_mul, iI_neg, iI_le, iI_lt, iI_eq, iI_max, iI_min, Option.bind_some, Option.bind_eq_bind, if_true, if_false, b2id, m_refuse]
theorem M_do6 (hK : K 1 = s) (hI : Inv s) {a b c : Int} (ha : R32 a) : f_X10_doLimit K (iI a) = dr2 K s 6 a b c (vd s 6 a b c) := by
  have e : vd s 6 a b c = if 1 ≤ a ∧ a ≤ 11 then (if a = lm s then (3, 2, a) else (0, 0, 0)) else (2, 0, 0) := rfl
  have e2 : iI (pk 6 2) = iI 1 := rfl
  have e3 : pk 6 3 = 2 := rfl
  have e4 : an s 6 a = lm s := rfl
  have e5 : nw s 6 a b c = upd s 2 (iI a) := rfl
  have hl := hI.2.2.2.2.1
  have hl2 : K 1 2 = iI (lm s) := by rw [hK]; exact (toInt_iI _).symm
  unfold R32 at ha
  rw [e]
  unfold f_X10_doLimit f_X10_in
  by_cases h1 : a < 1
  · rw [if_neg (show ¬ (1 ≤ a ∧ a ≤ 11) by omega), dr2_2, e2]
    (simp (disch := omega) only [pl0, pl1, pl2, pl3, pl4, pl5, pl6, pl7, pl8, pl9, pl10, pl11, pl12, pl16, pl19, lit_nI, iI_add, iI_sub, iI_mul, iI_neg, iI_le, iI_lt, iI_eq, iI_max, iI_min, Option.bind_some, Option.bind_eq_bind, if_true, if_false, b2id, m_fails]; (repeat (first | rw [if_pos (by omega)] | rw [if_neg (by omega)])); (try simp (disch := omega) only [pl0, pl1, pl2, pl3, pl4, pl5, pl6, pl7, pl8, pl9, pl10, pl11, pl12, pl16, pl19, lit_nI, iI_add, iI_sub, iI_mul, iI_neg, iI_le, iI_lt, iI_eq, iI_max, iI_min, Option.bind_some, Option.bind_eq_bind, if_true, if_false]); (repeat (first | rw [if_pos (by omega)] | rw [if_neg (by omega)])); (try rfl))
  · by_cases h2 : 11 < a
    · rw [if_neg (show ¬ (1 ≤ a ∧ a ≤ 11) by omega), dr2_2, e2]
      (simp (disch := omega) only [pl0, pl1, pl2, pl3, pl4, pl5, pl6, pl7, pl8, pl9, pl10, pl11, pl12, pl16, pl19, lit_nI, iI_add, iI_sub, iI_mul, iI_neg, iI_le, iI_lt, iI_eq, iI_max, iI_min, Option.bind_some, Option.bind_eq_bind, if_true, if_false, b2id, m_fails]; (repeat (first | rw [if_pos (by omega)] | rw [if_neg (by omega)])); (try simp (disch := omega) only [pl0, pl1, pl2, pl3, pl4, pl5, pl6, pl7, pl8, pl9, pl10, pl11, pl12, pl16, pl19, lit_nI, iI_add, iI_sub, iI_mul, iI_neg, iI_le, iI_lt, iI_eq, iI_max, iI_min, Option.bind_some, Option.bind_eq_bind, if_true, if_false]); (repeat (first | rw [if_pos (by omega)] | rw [if_neg (by omega)])); (try rfl))
    · rw [if_pos (show 1 ≤ a ∧ a ≤ 11 by omega)]
      by_cases h3 : a = lm s
      · rw [if_pos h3, dr2_3, e3]
        simp (disch := omega) only [pl0, pl1, pl2, pl3, pl4, pl5, pl6, pl7, pl8, pl9, pl10, pl11, pl12, pl16, pl19, lit_nI, iI_add, iI_sub, iI_mul, iI_neg, iI_le, iI_lt, iI_eq, iI_max, iI_min, Option.bind_some, Option.bind_eq_bind, if_true, if_false, hl2]
        (repeat (first | rw [if_pos (by omega)] | rw [if_neg (by omega)]))
        simp (disch := omega) only [pl0, pl1, pl2, pl3, pl4, pl5, pl6, pl7, pl8, pl9, pl10, pl11, pl12, pl16, pl19, lit_nI, iI_add, iI_sub, iI_mul, iI_neg, iI_le, iI_lt, iI_eq, iI_max, iI_min, Option.bind_some, Option.bind_eq_bind, if_true, if_false, b2id, m_refuse]
        (repeat (first | rw [if_pos (by omega)] | rw [if_neg (by omega)]))
      · rw [if_neg h3, dr2_0, e4, e5]
        simp (disch := omega) only [pl0, pl1, pl2, pl3, pl4, pl5, pl6, pl7, pl8, pl9, pl10, pl11, pl12, pl16, pl19, lit_nI, iI_add, iI_sub, iI_mul, iI_neg, iI_le, iI_lt, iI_eq, iI_max, iI_min, Option.bind_some, Option.bind_eq_bind, if_true, if_false, hl2]
        (repeat (first | rw [if_pos (by omega)] | rw [if_neg (by omega)]))
        simp (disch := omega) only [pl0, pl1, pl2, pl3, pl4, pl5, pl6, pl7, pl8, pl9, pl10, pl11, pl12, pl16, pl19, lit_nI, iI_add, iI_sub, iI_mul, iI_neg, iI_le, iI_lt, iI_eq, iI_max, iI_min, Option.bind_some, Option.bind_eq_bind, if_true, if_false, iI_clamp, tN2, hK]
        (repeat (first | rw [if_pos (by omega)] | rw [if_neg (by omega)]))
theorem m_ofI1 (hK : K 1 = s) {a : Int} (ha : 0 ≤ a ∧ a < 16) : f_X10_of K (iI a) (iI 1) = some (iI (ht s a.toNat)) := by
  have h := m_of1 hK (j := a.toNat) (by omega)
  rwa [Int.toNat_of_nonneg ha.1] at h
theorem m_ofI2 (hK : K 1 = s) {a : Int} (ha : 0 ≤ a ∧ a < 16) : f_X10_of K (iI a) (iI 2) = some (iI (ln s a.toNat)) := by
  have h := m_of2 hK (j := a.toNat) (by omega)
  rwa [Int.toNat_of_nonneg ha.1] at h
theorem M_do7 (hK : K 1 = s) (hI : Inv s) {a b c : Int} (ha : R32 a) (hb : R32 b) : f_X10_doTune K (iI a) (iI b) = dr2 K s 7 a b c (vd s 7 a b c) := by
  have e : vd s 7 a b c = if 0 ≤ a ∧ a < ns s then (if 0 ≤ b ∧ b ≤ 9 then (if ht s a.toNat < 0 then (3, 6, ln s a.toNat) else if b = ht s a.toNat then (3, 2, b) else (0, 0, 0)) else (2, 0, 0)) else (1, 0, 0) := rfl
  have e1 : iI (pk 7 1) = iI 1 := rfl
  have e2 : iI (pk 7 2) = iI 2 := rfl
  have e3 : pk 7 3 = 3 := rfl
  have e4 : an s 7 a = ht s a.toNat := rfl
  have e5 : nw s 7 a b c = upd s (20 + 3 * a.toNat) (iI b) := rfl
  have h16 := hI.ns16
  have hb1 : K 1 1 = iI (ns s) := by rw [hK]; exact hI.s1
  unfold R32 at ha hb
  rw [e]
  unfold f_X10_doTune f_X10_isSound f_X10_in
  by_cases h1 : a < 0
  · rw [if_neg (show ¬ (0 ≤ a ∧ a < ns s) by omega), dr2_1, e1, hb1]
    (simp (disch := omega) only [pl0, pl1, pl2, pl3, pl4, pl5, pl6, pl7, pl8, pl9, pl10, pl11, pl12, pl16, pl19, lit_nI, iI_add, iI_sub, iI_mul, iI_neg, iI_le, iI_lt, iI_eq, iI_max, iI_min, Option.bind_some, Option.bind_eq_bind, if_true, if_false, b2id, m_fails]; (repeat (first | rw [if_pos (by omega)] | rw [if_neg (by omega)])); (try simp (disch := omega) only [pl0, pl1, pl2, pl3, pl4, pl5, pl6, pl7, pl8, pl9, pl10, pl11, pl12, pl16, pl19, lit_nI, iI_add, iI_sub, iI_mul, iI_neg, iI_le, iI_lt, iI_eq, iI_max, iI_min, Option.bind_some, Option.bind_eq_bind, if_true, if_false]); (repeat (first | rw [if_pos (by omega)] | rw [if_neg (by omega)])); (try rfl))
  · by_cases h2 : ns s ≤ a
    · rw [if_neg (show ¬ (0 ≤ a ∧ a < ns s) by omega), dr2_1, e1, hb1]
      (simp (disch := omega) only [pl0, pl1, pl2, pl3, pl4, pl5, pl6, pl7, pl8, pl9, pl10, pl11, pl12, pl16, pl19, lit_nI, iI_add, iI_sub, iI_mul, iI_neg, iI_le, iI_lt, iI_eq, iI_max, iI_min, Option.bind_some, Option.bind_eq_bind, if_true, if_false, b2id, m_fails]; (repeat (first | rw [if_pos (by omega)] | rw [if_neg (by omega)])); (try simp (disch := omega) only [pl0, pl1, pl2, pl3, pl4, pl5, pl6, pl7, pl8, pl9, pl10, pl11, pl12, pl16, pl19, lit_nI, iI_add, iI_sub, iI_mul, iI_neg, iI_le, iI_lt, iI_eq, iI_max, iI_min, Option.bind_some, Option.bind_eq_bind, if_true, if_false]); (repeat (first | rw [if_pos (by omega)] | rw [if_neg (by omega)])); (try rfl))
    · have h : 0 ≤ a ∧ a < ns s := by omega
      have hd := hI.sd (j := a.toNat) (by omega)
      rw [if_pos h, hb1]
      by_cases h3 : b < 0
      · rw [if_neg (show ¬ (0 ≤ b ∧ b ≤ 9) by omega), dr2_2, e2]
        (simp (disch := omega) only [pl0, pl1, pl2, pl3, pl4, pl5, pl6, pl7, pl8, pl9, pl10, pl11, pl12, pl16, pl19, lit_nI, iI_add, iI_sub, iI_mul, iI_neg, iI_le, iI_lt, iI_eq, iI_max, iI_min, Option.bind_some, Option.bind_eq_bind, if_true, if_false, b2id, m_fails]; (repeat (first | rw [if_pos (by omega)] | rw [if_neg (by omega)])); (try simp (disch := omega) only [pl0, pl1, pl2, pl3, pl4, pl5, pl6, pl7, pl8, pl9, pl10, pl11, pl12, pl16, pl19, lit_nI, iI_add, iI_sub, iI_mul, iI_neg, iI_le, iI_lt, iI_eq, iI_max, iI_min, Option.bind_some, Option.bind_eq_bind, if_true, if_false]); (repeat (first | rw [if_pos (by omega)] | rw [if_neg (by omega)])); (try rfl))
      · by_cases h4 : 9 < b
        · rw [if_neg (show ¬ (0 ≤ b ∧ b ≤ 9) by omega), dr2_2, e2]
          (simp (disch := omega) only [pl0, pl1, pl2, pl3, pl4, pl5, pl6, pl7, pl8, pl9, pl10, pl11, pl12, pl16, pl19, lit_nI, iI_add, iI_sub, iI_mul, iI_neg, iI_le, iI_lt, iI_eq, iI_max, iI_min, Option.bind_some, Option.bind_eq_bind, if_true, if_false, b2id, m_fails]; (repeat (first | rw [if_pos (by omega)] | rw [if_neg (by omega)])); (try simp (disch := omega) only [pl0, pl1, pl2, pl3, pl4, pl5, pl6, pl7, pl8, pl9, pl10, pl11, pl12, pl16, pl19, lit_nI, iI_add, iI_sub, iI_mul, iI_neg, iI_le, iI_lt, iI_eq, iI_max, iI_min, Option.bind_some, Option.bind_eq_bind, if_true, if_false]); (repeat (first | rw [if_pos (by omega)] | rw [if_neg (by omega)])); (try rfl))
        · rw [if_pos (show 0 ≤ b ∧ b ≤ 9 by omega)]
          by_cases h5 : ht s a.toNat < 0
          · rw [if_pos h5, dr2_3, e3]
            simp (disch := omega) only [pl0, pl1, pl2, pl3, pl4, pl5, pl6, pl7, pl8, pl9, pl10, pl11, pl12, pl16, pl19, lit_nI, iI_add, iI_sub, iI_mul, iI_neg, iI_le, iI_lt, iI_eq, iI_max, iI_min, Option.bind_some, Option.bind_eq_bind, if_true, if_false]
            (repeat (first | rw [if_pos (by omega)] | rw [if_neg (by omega)]))
            simp (disch := omega) only [pl0, pl1, pl2, pl3, pl4, pl5, pl6, pl7, pl8, pl9, pl10, pl11, pl12, pl16, pl19, lit_nI, iI_add, iI_sub, iI_mul, iI_neg, iI_le, iI_lt, iI_eq, iI_max, iI_min, Option.bind_some, Option.bind_eq_bind, if_true, if_false, m_ofI1 hK (show 0 ≤ a ∧ a < 16 by omega), m_ofI2 hK (show 0 ≤ a ∧ a < 16 by omega)]
            (repeat (first | rw [if_pos (by omega)] | rw [if_neg (by omega)]))
            (try simp (disch := omega) only [pl0, pl1, pl2, pl3, pl4, pl5, pl6, pl7, pl8, pl9, pl10, pl11, pl12, pl16, pl19, lit_nI, iI_add, iI_sub, iI_mul, iI_neg, iI_le, iI_lt, iI_eq, iI_max, iI_min, Option.bind_some, Option.bind_eq_bind, if_true, if_false, m_ofI1 hK (show 0 ≤ a ∧ a < 16 by omega), m_ofI2 hK (show 0 ≤ a ∧ a < 16 by omega)])
            (repeat (first | rw [if_pos (by omega)] | rw [if_neg (by omega)]))
            (try simp (disch := omega) only [pl0, pl1, pl2, pl3, pl4, pl5, pl6, pl7, pl8, pl9, pl10, pl11, pl12, pl16, pl19, lit_nI, iI_add, iI_sub, iI_mul, iI_neg, iI_le, iI_lt, iI_eq, iI_max, iI_min, Option.bind_some, Option.bind_eq_bind, if_true, if_false, b2id, m_refuse])
          · rw [if_neg h5]
            by_cases h6 : b = ht s a.toNat
            · rw [if_pos h6, dr2_3, e3]
              simp (disch := omega) only [pl0, pl1, pl2, pl3, pl4, pl5, pl6, pl7, pl8, pl9, pl10, pl11, pl12, pl16, pl19, lit_nI, iI_add, iI_sub, iI_mul, iI_neg, iI_le, iI_lt, iI_eq, iI_max, iI_min, Option.bind_some, Option.bind_eq_bind, if_true, if_false]
              (repeat (first | rw [if_pos (by omega)] | rw [if_neg (by omega)]))
              simp (disch := omega) only [pl0, pl1, pl2, pl3, pl4, pl5, pl6, pl7, pl8, pl9, pl10, pl11, pl12, pl16, pl19, lit_nI, iI_add, iI_sub, iI_mul, iI_neg, iI_le, iI_lt, iI_eq, iI_max, iI_min, Option.bind_some, Option.bind_eq_bind, if_true, if_false, m_ofI1 hK (show 0 ≤ a ∧ a < 16 by omega)]
              (repeat (first | rw [if_pos (by omega)] | rw [if_neg (by omega)]))
              (try simp (disch := omega) only [pl0, pl1, pl2, pl3, pl4, pl5, pl6, pl7, pl8, pl9, pl10, pl11, pl12, pl16, pl19, lit_nI, iI_add, iI_sub, iI_mul, iI_neg, iI_le, iI_lt, iI_eq, iI_max, iI_min, Option.bind_some, Option.bind_eq_bind, if_true, if_false, m_ofI1 hK (show 0 ≤ a ∧ a < 16 by omega)])
              (repeat (first | rw [if_pos (by omega)] | rw [if_neg (by omega)]))
              (try simp (disch := omega) only [pl0, pl1, pl2, pl3, pl4, pl5, pl6, pl7, pl8, pl9, pl10, pl11, pl12, pl16, pl19, lit_nI, iI_add, iI_sub, iI_mul, iI_neg, iI_le, iI_lt, iI_eq, iI_max, iI_min, Option.bind_some, Option.bind_eq_bind, if_true, if_false, b2id, m_refuse])
            · have i1 : (19 + 3 * a + 1).toNat = 20 + 3 * a.toNat := by omega
              rw [if_neg h6, dr2_0, e4, e5]
              simp (disch := omega) only [pl0, pl1, pl2, pl3, pl4, pl5, pl6, pl7, pl8, pl9, pl10, pl11, pl12, pl16, pl19, lit_nI, iI_add, iI_sub, iI_mul, iI_neg, iI_le, iI_lt, iI_eq, iI_max, iI_min, Option.bind_some, Option.bind_eq_bind, if_true, if_false]
              (repeat (first | rw [if_pos (by omega)] | rw [if_neg (by omega)]))
              simp (disch := omega) only [pl0, pl1, pl2, pl3, pl4, pl5, pl6, pl7, pl8, pl9, pl10, pl11, pl12, pl16, pl19, lit_nI, iI_add, iI_sub, iI_mul, iI_neg, iI_le, iI_lt, iI_eq, iI_max, iI_min, Option.bind_some, Option.bind_eq_bind, if_true, if_false, m_ofI1 hK (show 0 ≤ a ∧ a < 16 by omega)]
              (repeat (first | rw [if_pos (by omega)] | rw [if_neg (by omega)]))
              (try simp (disch := omega) only [pl0, pl1, pl2, pl3, pl4, pl5, pl6, pl7, pl8, pl9, pl10, pl11, pl12, pl16, pl19, lit_nI, iI_add, iI_sub, iI_mul, iI_neg, iI_le, iI_lt, iI_eq, iI_max, iI_min, Option.bind_some, Option.bind_eq_bind, if_true, if_false, m_ofI1 hK (show 0 ≤ a ∧ a < 16 by omega)])
              (repeat (first | rw [if_pos (by omega)] | rw [if_neg (by omega)]))
              (try simp (disch := omega) only [pl0, pl1, pl2, pl3, pl4, pl5, pl6, pl7, pl8, pl9, pl10, pl11, pl12, pl16, pl19, lit_nI, iI_add, iI_sub, iI_mul, iI_neg, iI_le, iI_lt, iI_eq, iI_max, iI_min, Option.bind_some, Option.bind_eq_bind, if_true, if_false, iI_inb, iI_clamp, i1, hK])
              (repeat (first | rw [if_pos (by omega)] | rw [if_neg (by omega)]))
              (try simp (disch := omega) only [pl0, pl1, pl2, pl3, pl4, pl5, pl6, pl7, pl8, pl9, pl10, pl11, pl12, pl16, pl19, lit_nI, iI_add, iI_sub, iI_mul, iI_neg, iI_le, iI_lt, iI_eq, iI_max, iI_min, Option.bind_some, Option.bind_eq_bind, if_true, if_false, iI_inb, iI_clamp, i1, hK])
theorem fdo0 (K : GT) (a b c : Int32) : f_do K 0 a b c = f_X10_doBar K a := by
  unfold f_do
  rw [if_pos rfl]
theorem fdo1 (K : GT) (a b c : Int32) : f_do K 1 a b c = f_X10_doTin K a b 1 := by
  unfold f_do
  rw [if_neg (by decide), if_pos rfl]
theorem fdo2 (K : GT) (a b c : Int32) : f_do K 2 a b c = f_X10_doTin K a b 0 := by
  unfold f_do
  rw [if_neg (by decide), if_neg (by decide), if_pos rfl]
theorem fdo3 (K : GT) (a b c : Int32) : f_do K 3 a b c = f_X10_doDrop K a b c := by
  unfold f_do
  rw [if_neg (by decide), if_neg (by decide), if_neg (by decide), if_pos rfl]
theorem fdo4 (K : GT) (a b c : Int32) : f_do K 4 a b c = f_X10_doRest K a := by
  unfold f_do
  rw [if_neg (by decide), if_neg (by decide), if_neg (by decide), if_neg (by decide), if_pos rfl]
theorem fdo5 (K : GT) (a b c : Int32) : f_do K 5 a b c = f_X10_doLift K := by
  unfold f_do
  rw [if_neg (by decide), if_neg (by decide), if_neg (by decide), if_neg (by decide), if_neg (by decide), if_pos rfl]
theorem fdo6 (K : GT) (a b c : Int32) : f_do K 6 a b c = f_X10_doLimit K a := by
  unfold f_do
  rw [if_neg (by decide), if_neg (by decide), if_neg (by decide), if_neg (by decide), if_neg (by decide), if_neg (by decide), if_pos rfl]
theorem fdo7 (K : GT) (a b c : Int32) : f_do K 7 a b c = f_X10_doTune K a b := by
  unfold f_do
  rw [if_neg (by decide), if_neg (by decide), if_neg (by decide), if_neg (by decide), if_neg (by decide), if_neg (by decide), if_neg (by decide)]
theorem M_do (hK : K 1 = s) (hI : Inv s) {o : Nat} {a b c : Int} (ho : o < 8) (ha : R32 a) (hb : R32 b) (hc : R32 c) : f_do K o (iI a) (iI b) (iI c) = dr2 K s o a b c (vd s o a b c) := by
  obtain rfl | rfl | rfl | rfl | rfl | rfl | rfl | rfl : o = 0 ∨ o = 1 ∨ o = 2 ∨ o = 3 ∨ o = 4 ∨ o = 5 ∨ o = 6 ∨ o = 7 := by omega
  · rw [fdo0]; exact M_do0 hK hI ha
  · rw [fdo1]; exact M_do1 hK hI ha hb
  · rw [fdo2]; exact M_do2 hK hI ha hb
  · rw [fdo3]; exact M_do3 hK hI ha hb hc
  · rw [fdo4]; exact M_do4 hK hI ha
  · rw [fdo5]; exact M_do5 hK hI
  · rw [fdo6]; exact M_do6 hK hI ha
  · rw [fdo7]; exact M_do7 hK hI ha hb
end PN2
