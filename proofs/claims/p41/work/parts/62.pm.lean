/-! orders: what is said of them, what they do -/
def fre (s : Nat → Int32) : Int := bB s (nb s) - bS s (ns s)
/-- room for a sound: verdict, reason, detail -/
def rm (s : Nat → Int32) (c : Int) : Int × Int × Int := if ns s < 16 then (if c ≤ fre s then (0, 0, 0) else (3, 3, fre s)) else (3, 1, 16)
def vt (a b w m : Int) : Int × Int × Int := if 0 ≤ a ∧ a ≤ 3 then (if 0 ≤ b ∧ b ≤ m then (if b = w then (3, 2, b) else (0, 0, 0)) else (2, 0, 0)) else (1, 0, 0)
def vd (s : Nat → Int32) (o : Nat) (a b c : Int) : Int × Int × Int :=
  if o = 0 then (if 2 ≤ a ∧ a ≤ 8 then (if nb s < 6 then (0, 0, 0) else (3, 1, 6)) else (2, 0, 0))
  else if o = 1 then vt a b (ky s a.toNat) 11
  else if o = 2 then vt a b (lk s a.toNat) 3
  else if o = 3 then (if 0 ≤ a ∧ a ≤ 3 then (if (0 ≤ b ∧ b ≤ 9) ∧ 1 ≤ c ∧ c ≤ 8 then rm s c else (2, 0, 0)) else (1, 0, 0))
  else if o = 4 then (if 0 ≤ a ∧ a ≤ 3 then (if lk s a.toNat = 0 then (3, 4, ky s a.toNat) else rm s (lk s a.toNat)) else (1, 0, 0))
  else if o = 5 then (if 0 < ns s then (0, 0, 0) else (3, 5, nb s))
  else if o = 6 then (if 1 ≤ a ∧ a ≤ 11 then (if a = lm s then (3, 2, a) else (0, 0, 0)) else (2, 0, 0))
  else (if 0 ≤ a ∧ a < ns s then (if 0 ≤ b ∧ b ≤ 9 then (if ht s a.toNat < 0 then (3, 6, ln s a.toNat) else if b = ht s a.toNat then (3, 2, b) else (0, 0, 0)) else (2, 0, 0)) else (1, 0, 0))
/-- the answer -/
def an (s : Nat → Int32) (o : Nat) (a : Int) : Int :=
  if o = 0 then nb s else if o = 1 then ky s a.toNat else if o = 2 then lk s a.toNat else if o = 3 then ns s else if o = 4 then ns s
  else if o = 5 then ln s (ns s - 1) else if o = 6 then lm s else ht s a.toNat
/-- a sound more -/
def st1 (s : Nat → Int32) (t h l : Int) : Nat → Int32 := upd (upd (upd (upd (upd s (19 + 3 * ns s) (iI t)) (20 + 3 * ns s) (iI h)) (21 + 3 * ns s) (iI l)) 1 (iI ((ns s + 1 : Nat) : Int))) 3 (s 3 + iI 1)
/-- the row after it -/
def nw (s : Nat → Int32) (o : Nat) (a b c : Int) : Nat → Int32 :=
  if o = 0 then upd (upd s (5 + nb s) (iI a)) 0 (iI ((nb s + 1 : Nat) : Int))
  else if o = 1 then upd s (11 + 2 * a.toNat) (iI b)
  else if o = 2 then upd s (12 + 2 * a.toNat) (iI b)
  else if o = 3 then st1 s a b c
  else if o = 4 then st1 s a (-1) (lk s a.toNat)
  else if o = 5 then upd (upd s 1 (iI ((ns s - 1 : Nat) : Int))) 4 (s 4 + iI 1)
  else if o = 6 then upd s 2 (iI a)
  else upd s (20 + 3 * a.toNat) (iI b)
def jd (G : GT) (x y : Int) : GT := upR G 78 (upd (upd (G 78) 1 (iI x)) 2 (iI y))
def rf (K : GT) (p x y : Int) : GT := upR K 0 (upd (upd (upd (upd (K 0) 6 (iI p)) 9 (iI 1)) 7 (iI x)) 8 (iI y))
/-- the place of a verdict in a method's list -/
def pk (o : Nat) (v : Int) : Int := if o = 0 then v - 1 else if o = 4 then (if v = 1 then 1 else 2) else if o = 5 then 1 else if o = 6 then v - 1 else v
/-- what the reference does with an order of verdict w -/
def dr2 (K : GT) (s : Nat → Int32) (o : Nat) (a b c : Int) (w : Int × Int × Int) : Option (Int32 × GT) := if w.1 = 0 then some (iI (an s o a), upR K 1 (nw s o a b c)) else if w.1 = 3 then some (iI 0, rf K (pk o 3) w.2.1 w.2.2) else some (iI 0, th K (iI (pk o w.1)))
/-- what the class says -/
def vd2 (G : GT) (w : Int × Int × Int) : Option (Int32 × GT) := if w.1 = 3 then some (iI 3, jd G w.2.1 w.2.2) else some (iI w.1, G)
section PMM
variable {G K : GT} {s : Nat → Int32}
def R32 (a : Int) : Prop := -2147483648 ≤ a ∧ a ≤ 2147483647
theorem c_refuse (G : GT) (x y : Int) : f_X1_refuse G (iI x) (iI y) = some (iI 3, jd G x y) := by
  unfold f_X1_refuse jd
  simp only [Option.bind_some, upR_upR, upR_at]
  rfl
theorem b2s {α β γ : Type} (a : α) (b : β) (f : α → β → Option γ) : bind2 (some (a, b)) f = f a b := rfl
theorem fre_r (hI : Inv s) : 0 ≤ fre s ∧ fre s ≤ 48 := by
  have h1 := hI.full
  have h2 := hI.bBr (b := nb s) (by omega)
  have h3 := hI.nb6
  have h4 := hI.bSr (j := ns s) (by omega)
  unfold fre
  omega
theorem vd2_0 (G : GT) (x y : Int) : vd2 G (0, x, y) = some (iI 0, G) := rfl
theorem vd2_1 (G : GT) (x y : Int) : vd2 G (1, x, y) = some (iI 1, G) := rfl
theorem vd2_2 (G : GT) (x y : Int) : vd2 G (2, x, y) = some (iI 2, G) := rfl
theorem vd2_3 (G : GT) (x y : Int) : vd2 G (3, x, y) = some (iI 3, jd G x y) := rfl
theorem b2id {α : Type} (x : Option (α × GT)) : (bind2 x fun r G => some (r, G)) = x := by
  cases x with
  | none => rfl
  | some q => rfl
theorem vt_1 {a b w m : Int} (h : a < 0 ∨ 3 < a) : vt a b w m = (1, 0, 0) := if_neg (by omega)
theorem vt_2 {a b w m : Int} (h : 0 ≤ a ∧ a ≤ 3) (h2 : b < 0 ∨ m < b) : vt a b w m = (2, 0, 0) := (if_pos h).trans (if_neg (by omega))
theorem vt_3 {a b w m : Int} (h : 0 ≤ a ∧ a ≤ 3) (h2 : 0 ≤ b ∧ b ≤ m) (h3 : b = w) : vt a b w m = (3, 2, b) := (if_pos h).trans ((if_pos h2).trans (if_pos h3))
theorem vt_0 {a b w m : Int} (h : 0 ≤ a ∧ a ≤ 3) (h2 : 0 ≤ b ∧ b ≤ m) (h3 : ¬ b = w) : vt a b w m = (0, 0, 0) := (if_pos h).trans ((if_pos h2).trans (if_neg h3))
theorem rm_0 {c : Int} (h : ns s < 16) (h2 : c ≤ fre s) : rm s c = (0, 0, 0) := (if_pos h).trans (if_pos h2)
theorem rm_f {c : Int} (h : ns s < 16) (h2 : ¬ c ≤ fre s) : rm s c = (3, 3, fre s) := (if_pos h).trans (if_neg h2)
theorem rm_n {c : Int} (h : ¬ ns s < 16) : rm s c = (3, 1, 16) := if_neg h
theorem c_room (hP : Pr G 0 s) (hI : Inv s) {c : Int} (hc : R32 c) : f_X1_verdictOnRoom G (iI c) = vd2 G (rm s c) := by
  have h1 := hI.ns16
  have h2 := fre_r hI
  have hf : f_X5_freeBeats G = some (iI (fre s)) := c_freeBeats hP hI
  unfold R32 at hc
  unfold f_X1_verdictOnRoom f_X5_countOfSounds
  by_cases h3 : ns s < 16
  · by_cases h4 : c ≤ fre s
    · rw [rm_0 h3 h4]
      (simp (disch := omega) only [pl0, pl1, pl2, pl3, pl4, pl5, pl6, pl7, pl8, pl9, pl10, pl11, pl12, pl16, pl19, lit_nI, iI_add, iI_sub, iI_mul, iI_neg, iI_le, iI_lt, iI_eq, iI_max, iI_min, Option.bind_some, Option.bind_eq_bind, if_true, if_false, c_ns hP hI, hf, vd2_0]; (repeat (first | rw [if_pos (by omega)] | rw [if_neg (by omega)])); (try simp (disch := omega) only [pl0, pl1, pl2, pl3, pl4, pl5, pl6, pl7, pl8, pl9, pl10, pl11, pl12, pl16, pl19, lit_nI, iI_add, iI_sub, iI_mul, iI_neg, iI_le, iI_lt, iI_eq, iI_max, iI_min, Option.bind_some, Option.bind_eq_bind, if_true, if_false]); (repeat (first | rw [if_pos (by omega)] | rw [if_neg (by omega)])); (try rfl))
    · rw [rm_f h3 h4]
      (simp (disch := omega) only [pl0, pl1, pl2, pl3, pl4, pl5, pl6, pl7, pl8, pl9, pl10, pl11, pl12, pl16, pl19, lit_nI, iI_add, iI_sub, iI_mul, iI_neg, iI_le, iI_lt, iI_eq, iI_max, iI_min, Option.bind_some, Option.bind_eq_bind, if_true, if_false, c_ns hP hI, hf, b2id, c_refuse, vd2_3]; (repeat (first | rw [if_pos (by omega)] | rw [if_neg (by omega)])); (try simp (disch := omega) only [pl0, pl1, pl2, pl3, pl4, pl5, pl6, pl7, pl8, pl9, pl10, pl11, pl12, pl16, pl19, lit_nI, iI_add, iI_sub, iI_mul, iI_neg, iI_le, iI_lt, iI_eq, iI_max, iI_min, Option.bind_some, Option.bind_eq_bind, if_true, if_false]); (repeat (first | rw [if_pos (by omega)] | rw [if_neg (by omega)])); (try rfl))
  · rw [rm_n h3]
    (simp (disch := omega) only [pl0, pl1, pl2, pl3, pl4, pl5, pl6, pl7, pl8, pl9, pl10, pl11, pl12, pl16, pl19, lit_nI, iI_add, iI_sub, iI_mul, iI_neg, iI_le, iI_lt, iI_eq, iI_max, iI_min, Option.bind_some, Option.bind_eq_bind, if_true, if_false, c_ns hP hI, b2id, c_refuse, vd2_3]; (repeat (first | rw [if_pos (by omega)] | rw [if_neg (by omega)])); (try simp (disch := omega) only [pl0, pl1, pl2, pl3, pl4, pl5, pl6, pl7, pl8, pl9, pl10, pl11, pl12, pl16, pl19, lit_nI, iI_add, iI_sub, iI_mul, iI_neg, iI_le, iI_lt, iI_eq, iI_max, iI_min, Option.bind_some, Option.bind_eq_bind, if_true, if_false]); (repeat (first | rw [if_pos (by omega)] | rw [if_neg (by omega)])); (try rfl))
theorem c_vt {a b w m : Int} (ha : R32 a) (hb : R32 b) (hw : R32 w) (hm : 0 ≤ m ∧ m ≤ 11) : f_X1_verdictOnTin G (iI a) (iI b) (iI w) (iI m) = vd2 G (vt a b w m) := by
  unfold R32 at ha hb hw
  unfold f_X1_verdictOnTin f_X9_isTin f_X9_isWithin
  by_cases h1 : a < 0
  · rw [vt_1 (Or.inl h1)]
    (simp (disch := omega) only [pl0, pl1, pl2, pl3, pl4, pl5, pl6, pl7, pl8, pl9, pl10, pl11, pl12, pl16, pl19, lit_nI, iI_add, iI_sub, iI_mul, iI_neg, iI_le, iI_lt, iI_eq, iI_max, iI_min, Option.bind_some, Option.bind_eq_bind, if_true, if_false, vd2_1]; (repeat (first | rw [if_pos (by omega)] | rw [if_neg (by omega)])); (try simp (disch := omega) only [pl0, pl1, pl2, pl3, pl4, pl5, pl6, pl7, pl8, pl9, pl10, pl11, pl12, pl16, pl19, lit_nI, iI_add, iI_sub, iI_mul, iI_neg, iI_le, iI_lt, iI_eq, iI_max, iI_min, Option.bind_some, Option.bind_eq_bind, if_true, if_false]); (repeat (first | rw [if_pos (by omega)] | rw [if_neg (by omega)])); (try rfl))
  · by_cases h2 : 3 < a
    · rw [vt_1 (Or.inr h2)]
      (simp (disch := omega) only [pl0, pl1, pl2, pl3, pl4, pl5, pl6, pl7, pl8, pl9, pl10, pl11, pl12, pl16, pl19, lit_nI, iI_add, iI_sub, iI_mul, iI_neg, iI_le, iI_lt, iI_eq, iI_max, iI_min, Option.bind_some, Option.bind_eq_bind, if_true, if_false, vd2_1]; (repeat (first | rw [if_pos (by omega)] | rw [if_neg (by omega)])); (try simp (disch := omega) only [pl0, pl1, pl2, pl3, pl4, pl5, pl6, pl7, pl8, pl9, pl10, pl11, pl12, pl16, pl19, lit_nI, iI_add, iI_sub, iI_mul, iI_neg, iI_le, iI_lt, iI_eq, iI_max, iI_min, Option.bind_some, Option.bind_eq_bind, if_true, if_false]); (repeat (first | rw [if_pos (by omega)] | rw [if_neg (by omega)])); (try rfl))
    · by_cases h3 : b < 0
      · rw [vt_2 (by omega) (Or.inl h3)]
        (simp (disch := omega) only [pl0, pl1, pl2, pl3, pl4, pl5, pl6, pl7, pl8, pl9, pl10, pl11, pl12, pl16, pl19, lit_nI, iI_add, iI_sub, iI_mul, iI_neg, iI_le, iI_lt, iI_eq, iI_max, iI_min, Option.bind_some, Option.bind_eq_bind, if_true, if_false, vd2_2]; (repeat (first | rw [if_pos (by omega)] | rw [if_neg (by omega)])); (try simp (disch := omega) only [pl0, pl1, pl2, pl3, pl4, pl5, pl6, pl7, pl8, pl9, pl10, pl11, pl12, pl16, pl19, lit_nI, iI_add, iI_sub, iI_mul, iI_neg, iI_le, iI_lt, iI_eq, iI_max, iI_min, Option.bind_some, Option.bind_eq_bind, if_true, if_false]); (repeat (first | rw [if_pos (by omega)] | rw [if_neg (by omega)])); (try rfl))
      · by_cases h4 : m < b
        · rw [vt_2 (by omega) (Or.inr h4)]
          (simp (disch := omega) only [pl0, pl1, pl2, pl3, pl4, pl5, pl6, pl7, pl8, pl9, pl10, pl11, pl12, pl16, pl19, lit_nI, iI_add, iI_sub, iI_mul, iI_neg, iI_le, iI_lt, iI_eq, iI_max, iI_min, Option.bind_some, Option.bind_eq_bind, if_true, if_false, vd2_2]; (repeat (first | rw [if_pos (by omega)] | rw [if_neg (by omega)])); (try simp (disch := omega) only [pl0, pl1, pl2, pl3, pl4, pl5, pl6, pl7, pl8, pl9, pl10, pl11, pl12, pl16, pl19, lit_nI, iI_add, iI_sub, iI_mul, iI_neg, iI_le, iI_lt, iI_eq, iI_max, iI_min, Option.bind_some, Option.bind_eq_bind, if_true, if_false]); (repeat (first | rw [if_pos (by omega)] | rw [if_neg (by omega)])); (try rfl))
        · by_cases h5 : b = w
          · rw [vt_3 (by omega) (by omega) h5]
            (simp (disch := omega) only [pl0, pl1, pl2, pl3, pl4, pl5, pl6, pl7, pl8, pl9, pl10, pl11, pl12, pl16, pl19, lit_nI, iI_add, iI_sub, iI_mul, iI_neg, iI_le, iI_lt, iI_eq, iI_max, iI_min, Option.bind_some, Option.bind_eq_bind, if_true, if_false, vd2_3, b2id, c_refuse]; (repeat (first | rw [if_pos (by omega)] | rw [if_neg (by omega)])); (try simp (disch := omega) only [pl0, pl1, pl2, pl3, pl4, pl5, pl6, pl7, pl8, pl9, pl10, pl11, pl12, pl16, pl19, lit_nI, iI_add, iI_sub, iI_mul, iI_neg, iI_le, iI_lt, iI_eq, iI_max, iI_min, Option.bind_some, Option.bind_eq_bind, if_true, if_false]); (repeat (first | rw [if_pos (by omega)] | rw [if_neg (by omega)])); (try rfl))
          · rw [vt_0 (by omega) (by omega) h5]
            (simp (disch := omega) only [pl0, pl1, pl2, pl3, pl4, pl5, pl6, pl7, pl8, pl9, pl10, pl11, pl12, pl16, pl19, lit_nI, iI_add, iI_sub, iI_mul, iI_neg, iI_le, iI_lt, iI_eq, iI_max, iI_min, Option.bind_some, Option.bind_eq_bind, if_true, if_false, vd2_0]; (repeat (first | rw [if_pos (by omega)] | rw [if_neg (by omega)])); (try simp (disch := omega) only [pl0, pl1, pl2, pl3, pl4, pl5, pl6, pl7, pl8, pl9, pl10, pl11, pl12, pl16, pl19, lit_nI, iI_add, iI_sub, iI_mul, iI_neg, iI_le, iI_lt, iI_eq, iI_max, iI_min, Option.bind_some, Option.bind_eq_bind, if_true, if_false]); (repeat (first | rw [if_pos (by omega)] | rw [if_neg (by omega)])); (try rfl))
theorem ver0 (G : GT) (a2 a3 a4 : Int32) : f_X1_verdict G 0 a2 a3 a4 = (bind2 (f_X1_verdictOnBar G a2) fun r G => some (r, G)) := rfl
theorem ver1 (G : GT) (a2 a3 a4 : Int32) : f_X1_verdict G 1 a2 a3 a4 = ((f_X5_keyOf G a2).bind fun r => bind2 (f_X1_verdictOnTin G a2 a3 r 11) fun r G => some (r, G)) := rfl
theorem ver2 (G : GT) (a2 a3 a4 : Int32) : f_X1_verdict G 2 a2 a3 a4 = ((f_X5_leakOf G a2).bind fun r => bind2 (f_X1_verdictOnTin G a2 a3 r 3) fun r G => some (r, G)) := rfl
theorem ver3 (G : GT) (a2 a3 a4 : Int32) : f_X1_verdict G 3 a2 a3 a4 = (bind2 (f_X1_verdictOnDrop G a2 a3 a4) fun r G => some (r, G)) := rfl
theorem ver4 (G : GT) (a2 a3 a4 : Int32) : f_X1_verdict G 4 a2 a3 a4 = (bind2 (f_X1_verdictOnRest G a2) fun r G => some (r, G)) := rfl
theorem ver5 (G : GT) (a2 a3 a4 : Int32) : f_X1_verdict G 5 a2 a3 a4 = ((f_X5_countOfSounds G).bind fun r11 => if r11 ≤ 0 then (f_X5_countOfBars G).bind fun r13 => bind2 (f_X1_refuse G 5 r13) fun r G => some (r, G) else some (0, G)) := rfl
theorem ver6 (G : GT) (a2 a3 a4 : Int32) : f_X1_verdict G 6 a2 a3 a4 = (bind2 (f_X1_verdictOnLimit G a2) fun r G => some (r, G)) := rfl
theorem ver7 (G : GT) (a2 a3 a4 : Int32) : f_X1_verdict G 7 a2 a3 a4 = (bind2 (f_X1_verdictOnTune G a2 a3) fun r G => some (r, G)) := rfl
theorem R32_k {w : Int} (h : 0 ≤ w ∧ w ≤ 100) : R32 w := by unfold R32; omega
theorem ky_r (hI : Inv s) {a : Int} (ha : 0 ≤ a ∧ a ≤ 3) : 0 ≤ ky s a.toNat ∧ ky s a.toNat ≤ 11 ∧ 0 ≤ lk s a.toNat ∧ lk s a.toNat ≤ 3 := hI.ky (by omega)
theorem c_kyI (hP : Pr G 0 s) {a : Int} (ha : 0 ≤ a ∧ a ≤ 3) : cell32 4 (G 2) (iI a) = iI (ky s a.toNat) := by
  have h := c_ky hP (t := a.toNat) (by omega)
  rwa [Int.toNat_of_nonneg ha.1] at h
theorem c_lkI (hP : Pr G 0 s) {a : Int} (ha : 0 ≤ a ∧ a ≤ 3) : cell32 4 (G 3) (iI a) = iI (lk s a.toNat) := by
  have h := c_lk hP (t := a.toNat) (by omega)
  rwa [Int.toNat_of_nonneg ha.1] at h
theorem c_htI (hP : Pr G 0 s) {a : Int} (ha : 0 ≤ a ∧ a < 16) : cell32 16 (G 5) (iI a) = iI (ht s a.toNat) := by
  have h := c_ht hP (j := a.toNat) (by omega)
  rwa [Int.toNat_of_nonneg ha.1] at h
theorem c_lnI (hP : Pr G 0 s) {a : Int} (ha : 0 ≤ a ∧ a < 16) : cell32 16 (G 6) (iI a) = iI (ln s a.toNat) := by
  have h := c_ln hP (j := a.toNat) (by omega)
  rwa [Int.toNat_of_nonneg ha.1] at h
theorem cell_out {z : Nat} {f : Nat → Int32} {a : Int} (hz : z ≤ 4096) (ha : R32 a) (h : a < 0 ∨ (z : Int) ≤ a) : cell32 z f (iI a) = iI 0 := iI_cell0 hz ha.1 ha.2 h
theorem C_vd0 (hP : Pr G 0 s) (hI : Inv s) {a b c : Int} (ha : R32 a) : f_X1_verdict G 0 (iI a) (iI b) (iI c) = vd2 G (vd s 0 a b c) := by
  have e : vd s 0 a b c = if 2 ≤ a ∧ a ≤ 8 then (if nb s < 6 then (0, 0, 0) else (3, 1, 6)) else (2, 0, 0) := rfl
  have h6 := hI.nb6
  unfold R32 at ha
  rw [e, ver0, b2id]
  unfold f_X1_verdictOnBar f_X9_isWithin f_X5_countOfBars
  by_cases h1 : a < 2
  · rw [if_neg (show ¬ (2 ≤ a ∧ a ≤ 8) by omega)]
    (simp (disch := omega) only [pl0, pl1, pl2, pl3, pl4, pl5, pl6, pl7, pl8, pl9, pl10, pl11, pl12, pl16, pl19, lit_nI, iI_add, iI_sub, iI_mul, iI_neg, iI_le, iI_lt, iI_eq, iI_max, iI_min, Option.bind_some, Option.bind_eq_bind, if_true, if_false, vd2_2]; (repeat (first | rw [if_pos (by omega)] | rw [if_neg (by omega)])); (try simp (disch := omega) only [pl0, pl1, pl2, pl3, pl4, pl5, pl6, pl7, pl8, pl9, pl10, pl11, pl12, pl16, pl19, lit_nI, iI_add, iI_sub, iI_mul, iI_neg, iI_le, iI_lt, iI_eq, iI_max, iI_min, Option.bind_some, Option.bind_eq_bind, if_true, if_false]); (repeat (first | rw [if_pos (by omega)] | rw [if_neg (by omega)])); (try rfl))
  · by_cases h2 : 8 < a
    · rw [if_neg (show ¬ (2 ≤ a ∧ a ≤ 8) by omega)]
      (simp (disch := omega) only [pl0, pl1, pl2, pl3, pl4, pl5, pl6, pl7, pl8, pl9, pl10, pl11, pl12, pl16, pl19, lit_nI, iI_add, iI_sub, iI_mul, iI_neg, iI_le, iI_lt, iI_eq, iI_max, iI_min, Option.bind_some, Option.bind_eq_bind, if_true, if_false, vd2_2]; (repeat (first | rw [if_pos (by omega)] | rw [if_neg (by omega)])); (try simp (disch := omega) only [pl0, pl1, pl2, pl3, pl4, pl5, pl6, pl7, pl8, pl9, pl10, pl11, pl12, pl16, pl19, lit_nI, iI_add, iI_sub, iI_mul, iI_neg, iI_le, iI_lt, iI_eq, iI_max, iI_min, Option.bind_some, Option.bind_eq_bind, if_true, if_false]); (repeat (first | rw [if_pos (by omega)] | rw [if_neg (by omega)])); (try rfl))
    · rw [if_pos (show 2 ≤ a ∧ a ≤ 8 by omega)]
      by_cases h3 : nb s < 6
      · rw [if_pos h3]
        (simp (disch := omega) only [pl0, pl1, pl2, pl3, pl4, pl5, pl6, pl7, pl8, pl9, pl10, pl11, pl12, pl16, pl19, lit_nI, iI_add, iI_sub, iI_mul, iI_neg, iI_le, iI_lt, iI_eq, iI_max, iI_min, Option.bind_some, Option.bind_eq_bind, if_true, if_false, vd2_0, c_nb hP hI]; (repeat (first | rw [if_pos (by omega)] | rw [if_neg (by omega)])); (try simp (disch := omega) only [pl0, pl1, pl2, pl3, pl4, pl5, pl6, pl7, pl8, pl9, pl10, pl11, pl12, pl16, pl19, lit_nI, iI_add, iI_sub, iI_mul, iI_neg, iI_le, iI_lt, iI_eq, iI_max, iI_min, Option.bind_some, Option.bind_eq_bind, if_true, if_false]); (repeat (first | rw [if_pos (by omega)] | rw [if_neg (by omega)])); (try rfl))
      · rw [if_neg h3]
        (simp (disch := omega) only [pl0, pl1, pl2, pl3, pl4, pl5, pl6, pl7, pl8, pl9, pl10, pl11, pl12, pl16, pl19, lit_nI, iI_add, iI_sub, iI_mul, iI_neg, iI_le, iI_lt, iI_eq, iI_max, iI_min, Option.bind_some, Option.bind_eq_bind, if_true, if_false, vd2_3, c_nb hP hI, b2id, c_refuse]; (repeat (first | rw [if_pos (by omega)] | rw [if_neg (by omega)])); (try simp (disch := omega) only [pl0, pl1, pl2, pl3, pl4, pl5, pl6, pl7, pl8, pl9, pl10, pl11, pl12, pl16, pl19, lit_nI, iI_add, iI_sub, iI_mul, iI_neg, iI_le, iI_lt, iI_eq, iI_max, iI_min, Option.bind_some, Option.bind_eq_bind, if_true, if_false]); (repeat (first | rw [if_pos (by omega)] | rw [if_neg (by omega)])); (try rfl))
theorem C_vd1 (hP : Pr G 0 s) (hI : Inv s) {a b c : Int} (ha : R32 a) (hb : R32 b) : f_X1_verdict G 1 (iI a) (iI b) (iI c) = vd2 G (vd s 1 a b c) := by
  have e : vd s 1 a b c = vt a b (ky s a.toNat) 11 := rfl
  rw [e, ver1]
  unfold f_X5_keyOf
  rw [Option.bind_some, b2id, pl11]
  by_cases h : 0 ≤ a ∧ a ≤ 3
  · rw [c_kyI hP h]
    exact c_vt ha hb (R32_k (by have := ky_r hI h; omega)) (by omega)
  · rw [cell_out (by omega) ha (by omega), c_vt ha hb (R32_k (by omega)) (by omega), vt_1 (by omega), vt_1 (by omega)]
theorem C_vd2 (hP : Pr G 0 s) (hI : Inv s) {a b c : Int} (ha : R32 a) (hb : R32 b) : f_X1_verdict G 2 (iI a) (iI b) (iI c) = vd2 G (vd s 2 a b c) := by
  have e : vd s 2 a b c = vt a b (lk s a.toNat) 3 := rfl
  rw [e, ver2]
  unfold f_X5_leakOf
  rw [Option.bind_some, b2id, pl3]
  by_cases h : 0 ≤ a ∧ a ≤ 3
  · rw [c_lkI hP h]
    exact c_vt ha hb (R32_k (by have := ky_r hI h; omega)) (by omega)
  · rw [cell_out (by omega) ha (by omega), c_vt ha hb (R32_k (by omega)) (by omega), vt_1 (by omega), vt_1 (by omega)]
theorem C_vd3 (hP : Pr G 0 s) (hI : Inv s) {a b c : Int} (ha : R32 a) (hb : R32 b) (hc : R32 c) : f_X1_verdict G 3 (iI a) (iI b) (iI c) = vd2 G (vd s 3 a b c) := by
  have e : vd s 3 a b c = if 0 ≤ a ∧ a ≤ 3 then (if (0 ≤ b ∧ b ≤ 9) ∧ 1 ≤ c ∧ c ≤ 8 then rm s c else (2, 0, 0)) else (1, 0, 0) := rfl
  have hq := c_room hP hI hc
  unfold R32 at ha hb hc
  rw [e, ver3, b2id]
  unfold f_X1_verdictOnDrop f_X9_isTin f_X9_isWithin
  by_cases h1 : a < 0
  · rw [if_neg (show ¬ (0 ≤ a ∧ a ≤ 3) by omega)]
    (simp (disch := omega) only [pl0, pl1, pl2, pl3, pl4, pl5, pl6, pl7, pl8, pl9, pl10, pl11, pl12, pl16, pl19, lit_nI, iI_add, iI_sub, iI_mul, iI_neg, iI_le, iI_lt, iI_eq, iI_max, iI_min, Option.bind_some, Option.bind_eq_bind, if_true, if_false, vd2_1]; (repeat (first | rw [if_pos (by omega)] | rw [if_neg (by omega)])); (try simp (disch := omega) only [pl0, pl1, pl2, pl3, pl4, pl5, pl6, pl7, pl8, pl9, pl10, pl11, pl12, pl16, pl19, lit_nI, iI_add, iI_sub, iI_mul, iI_neg, iI_le, iI_lt, iI_eq, iI_max, iI_min, Option.bind_some, Option.bind_eq_bind, if_true, if_false]); (repeat (first | rw [if_pos (by omega)] | rw [if_neg (by omega)])); (try rfl))
  · by_cases h2 : 3 < a
    · rw [if_neg (show ¬ (0 ≤ a ∧ a ≤ 3) by omega)]
      (simp (disch := omega) only [pl0, pl1, pl2, pl3, pl4, pl5, pl6, pl7, pl8, pl9, pl10, pl11, pl12, pl16, pl19, lit_nI, iI_add, iI_sub, iI_mul, iI_neg, iI_le, iI_lt, iI_eq, iI_max, iI_min, Option.bind_some, Option.bind_eq_bind, if_true, if_false, vd2_1]; (repeat (first | rw [if_pos (by omega)] | rw [if_neg (by omega)])); (try simp (disch := omega) only [pl0, pl1, pl2, pl3, pl4, pl5, pl6, pl7, pl8, pl9, pl10, pl11, pl12, pl16, pl19, lit_nI, iI_add, iI_sub, iI_mul, iI_neg, iI_le, iI_lt, iI_eq, iI_max, iI_min, Option.bind_some, Option.bind_eq_bind, if_true, if_false]); (repeat (first | rw [if_pos (by omega)] | rw [if_neg (by omega)])); (try rfl))
    · rw [if_pos (show 0 ≤ a ∧ a ≤ 3 by omega)]
      by_cases h3 : b < 0
      · rw [if_neg (show ¬ ((0 ≤ b ∧ b ≤ 9) ∧ 1 ≤ c ∧ c ≤ 8) by omega)]
        (simp (disch := omega) only [pl0, pl1, pl2, pl3, pl4, pl5, pl6, pl7, pl8, pl9, pl10, pl11, pl12, pl16, pl19, lit_nI, iI_add, iI_sub, iI_mul, iI_neg, iI_le, iI_lt, iI_eq, iI_max, iI_min, Option.bind_some, Option.bind_eq_bind, if_true, if_false, vd2_2]; (repeat (first | rw [if_pos (by omega)] | rw [if_neg (by omega)])); (try simp (disch := omega) only [pl0, pl1, pl2, pl3, pl4, pl5, pl6, pl7, pl8, pl9, pl10, pl11, pl12, pl16, pl19, lit_nI, iI_add, iI_sub, iI_mul, iI_neg, iI_le, iI_lt, iI_eq, iI_max, iI_min, Option.bind_some, Option.bind_eq_bind, if_true, if_false]); (repeat (first | rw [if_pos (by omega)] | rw [if_neg (by omega)])); (try rfl))
      · by_cases h4 : 9 < b
        · rw [if_neg (show ¬ ((0 ≤ b ∧ b ≤ 9) ∧ 1 ≤ c ∧ c ≤ 8) by omega)]
          (simp (disch := omega) only [pl0, pl1, pl2, pl3, pl4, pl5, pl6, pl7, pl8, pl9, pl10, pl11, pl12, pl16, pl19, lit_nI, iI_add, iI_sub, iI_mul, iI_neg, iI_le, iI_lt, iI_eq, iI_max, iI_min, Option.bind_some, Option.bind_eq_bind, if_true, if_false, vd2_2]; (repeat (first | rw [if_pos (by omega)] | rw [if_neg (by omega)])); (try simp (disch := omega) only [pl0, pl1, pl2, pl3, pl4, pl5, pl6, pl7, pl8, pl9, pl10, pl11, pl12, pl16, pl19, lit_nI, iI_add, iI_sub, iI_mul, iI_neg, iI_le, iI_lt, iI_eq, iI_max, iI_min, Option.bind_some, Option.bind_eq_bind, if_true, if_false]); (repeat (first | rw [if_pos (by omega)] | rw [if_neg (by omega)])); (try rfl))
        · by_cases h5 : c < 1
          · rw [if_neg (show ¬ ((0 ≤ b ∧ b ≤ 9) ∧ 1 ≤ c ∧ c ≤ 8) by omega)]
            (simp (disch := omega) only [pl0, pl1, pl2, pl3, pl4, pl5, pl6, pl7, pl8, pl9, pl10, pl11, pl12, pl16, pl19, lit_nI, iI_add, iI_sub, iI_mul, iI_neg, iI_le, iI_lt, iI_eq, iI_max, iI_min, Option.bind_some, Option.bind_eq_bind, if_true, if_false, vd2_2]; (repeat (first | rw [if_pos (by omega)] | rw [if_neg (by omega)])); (try simp (disch := omega) only [pl0, pl1, pl2, pl3, pl4, pl5, pl6, pl7, pl8, pl9, pl10, pl11, pl12, pl16, pl19, lit_nI, iI_add, iI_sub, iI_mul, iI_neg, iI_le, iI_lt, iI_eq, iI_max, iI_min, Option.bind_some, Option.bind_eq_bind, if_true, if_false]); (repeat (first | rw [if_pos (by omega)] | rw [if_neg (by omega)])); (try rfl))
          · by_cases h6 : 8 < c
            · rw [if_neg (show ¬ ((0 ≤ b ∧ b ≤ 9) ∧ 1 ≤ c ∧ c ≤ 8) by omega)]
              (simp (disch := omega) only [pl0, pl1, pl2, pl3, pl4, pl5, pl6, pl7, pl8, pl9, pl10, pl11, pl12, pl16, pl19, lit_nI, iI_add, iI_sub, iI_mul, iI_neg, iI_le, iI_lt, iI_eq, iI_max, iI_min, Option.bind_some, Option.bind_eq_bind, if_true, if_false, vd2_2]; (repeat (first | rw [if_pos (by omega)] | rw [if_neg (by omega)])); (try simp (disch := omega) only [pl0, pl1, pl2, pl3, pl4, pl5, pl6, pl7, pl8, pl9, pl10, pl11, pl12, pl16, pl19, lit_nI, iI_add, iI_sub, iI_mul, iI_neg, iI_le, iI_lt, iI_eq, iI_max, iI_min, Option.bind_some, Option.bind_eq_bind, if_true, if_false]); (repeat (first | rw [if_pos (by omega)] | rw [if_neg (by omega)])); (try rfl))
            · rw [if_pos (show (0 ≤ b ∧ b ≤ 9) ∧ 1 ≤ c ∧ c ≤ 8 by omega)]
              (simp (disch := omega) only [pl0, pl1, pl2, pl3, pl4, pl5, pl6, pl7, pl8, pl9, pl10, pl11, pl12, pl16, pl19, lit_nI, iI_add, iI_sub, iI_mul, iI_neg, iI_le, iI_lt, iI_eq, iI_max, iI_min, Option.bind_some, Option.bind_eq_bind, if_true, if_false, hq, b2id]; (repeat (first | rw [if_pos (by omega)] | rw [if_neg (by omega)])); (try simp (disch := omega) only [pl0, pl1, pl2, pl3, pl4, pl5, pl6, pl7, pl8, pl9, pl10, pl11, pl12, pl16, pl19, lit_nI, iI_add, iI_sub, iI_mul, iI_neg, iI_le, iI_lt, iI_eq, iI_max, iI_min, Option.bind_some, Option.bind_eq_bind, if_true, if_false]); (repeat (first | rw [if_pos (by omega)] | rw [if_neg (by omega)])); (try rfl))
theorem C_e4 {a b c : Int} : vd s 4 a b c = if 0 ≤ a ∧ a ≤ 3 then (if lk s a.toNat = 0 then (3, 4, ky s a.toNat) else rm s (lk s a.toNat)) else (1, 0, 0) := rfl
theorem C_q4 (hP : Pr G 0 s) (hI : Inv s) {a : Int} (h : 0 ≤ a ∧ a ≤ 3) : f_X1_verdictOnRoom G (iI (lk s a.toNat)) = vd2 G (rm s (lk s a.toNat)) := c_room hP hI (R32_k (by have := ky_r hI h; omega))
theorem C_t4 {a : Int} (h : 0 ≤ a ∧ a ≤ 3) : f_X9_isTin G (iI a) = some (iI 1) := by
  unfold f_X9_isTin f_X9_isWithin
  (simp (disch := omega) only [pl0, pl1, pl2, pl3, pl4, pl5, pl6, pl7, pl8, pl9, pl10, pl11, pl12, pl16, pl19, lit_nI, iI_add, iI_sub, iI_mul, iI_neg, iI_le, iI_lt, iI_eq, iI_max, iI_min, Option.bind_some, Option.bind_eq_bind, if_true, if_false]; (repeat (first | rw [if_pos (by omega)] | rw [if_neg (by omega)])); (try simp (disch := omega) only [pl0, pl1, pl2, pl3, pl4, pl5, pl6, pl7, pl8, pl9, pl10, pl11, pl12, pl16, pl19, lit_nI, iI_add, iI_sub, iI_mul, iI_neg, iI_le, iI_lt, iI_eq, iI_max, iI_min, Option.bind_some, Option.bind_eq_bind, if_true, if_false]); (repeat (first | rw [if_pos (by omega)] | rw [if_neg (by omega)])); (try rfl))
theorem C_t5 {a : Int} (ha : R32 a) (h : ¬ (0 ≤ a ∧ a ≤ 3)) : f_X9_isTin G (iI a) = some (iI 0) := by
  unfold R32 at ha
  unfold f_X9_isTin f_X9_isWithin
  by_cases h1 : a < 0 <;> (simp (disch := omega) only [pl0, pl1, pl2, pl3, pl4, pl5, pl6, pl7, pl8, pl9, pl10, pl11, pl12, pl16, pl19, lit_nI, iI_add, iI_sub, iI_mul, iI_neg, iI_le, iI_lt, iI_eq, iI_max, iI_min, Option.bind_some, Option.bind_eq_bind, if_true, if_false]; (repeat (first | rw [if_pos (by omega)] | rw [if_neg (by omega)])); (try simp (disch := omega) only [pl0, pl1, pl2, pl3, pl4, pl5, pl6, pl7, pl8, pl9, pl10, pl11, pl12, pl16, pl19, lit_nI, iI_add, iI_sub, iI_mul, iI_neg, iI_le, iI_lt, iI_eq, iI_max, iI_min, Option.bind_some, Option.bind_eq_bind, if_true, if_false]); (repeat (first | rw [if_pos (by omega)] | rw [if_neg (by omega)])); (try rfl))
theorem ne10 : ¬ (iI 1 = (0 : Int32)) := by decide
theorem nex0 {x : Int} (hx : R32 x) (h : ¬ x = 0) : ¬ (iI x = (0 : Int32)) := by
  unfold R32 at hx
  rw [pl0, iI_eq (by omega) (by omega) (by omega) (by omega)]
  exact h
theorem C_r4 {a x y : Int} (ht : f_X9_isTin G (iI a) = some (iI 1)) (hl : f_X5_leakOf G (iI a) = some (iI x)) (hk : f_X5_keyOf G (iI a) = some (iI y)) (hx2 : x = 0) : f_X1_verdictOnRest G (iI a) = some (iI 3, jd G 4 y) := by
  subst hx2
  unfold f_X1_verdictOnRest
  rw [ht, Option.bind_some, if_neg ne10, hl, Option.bind_some, if_pos (show iI 0 = (0 : Int32) from rfl), hk, Option.bind_some, b2id, pl4, c_refuse]
theorem C_r5 {a x : Int} {r : Option (Int32 × GT)} (ht : f_X9_isTin G (iI a) = some (iI 1)) (hl : f_X5_leakOf G (iI a) = some (iI x)) (hx : R32 x) (hx2 : ¬ x = 0) (hq : f_X1_verdictOnRoom G (iI x) = r) : f_X1_verdictOnRest G (iI a) = r := by
  unfold f_X1_verdictOnRest
  rw [ht, Option.bind_some, if_neg ne10, hl, Option.bind_some, if_neg (nex0 hx hx2), Option.bind_some, b2id, hq]
theorem C_r6 {a : Int} (ht : f_X9_isTin G (iI a) = some (iI 0)) : f_X1_verdictOnRest G (iI a) = some (iI 1, G) := by
  unfold f_X1_verdictOnRest
  rw [ht]
  (simp (disch := omega) only [pl0, pl1, pl2, pl3, pl4, pl5, pl6, pl7, pl8, pl9, pl10, pl11, pl12, pl16, pl19, lit_nI, iI_add, iI_sub, iI_mul, iI_neg, iI_le, iI_lt, iI_eq, iI_max, iI_min, Option.bind_some, Option.bind_eq_bind, if_true, if_false]; (repeat (first | rw [if_pos (by omega)] | rw [if_neg (by omega)])); (try simp (disch := omega) only [pl0, pl1, pl2, pl3, pl4, pl5, pl6, pl7, pl8, pl9, pl10, pl11, pl12, pl16, pl19, lit_nI, iI_add, iI_sub, iI_mul, iI_neg, iI_le, iI_lt, iI_eq, iI_max, iI_min, Option.bind_some, Option.bind_eq_bind, if_true, if_false]); (repeat (first | rw [if_pos (by omega)] | rw [if_neg (by omega)])); (try rfl))
theorem C_vd4 (hP : Pr G 0 s) (hI : Inv s) {a b c : Int} (ha : R32 a) : f_X1_verdict G 4 (iI a) (iI b) (iI c) = vd2 G (vd s 4 a b c) := by
  rw [C_e4, ver4, b2id]
  by_cases h : 0 ≤ a ∧ a ≤ 3
  · have hk := ky_r hI h
    have hlk : f_X5_leakOf G (iI a) = some (iI (lk s a.toNat)) := congrArg some (c_lkI hP h)
    have hky : f_X5_keyOf G (iI a) = some (iI (ky s a.toNat)) := congrArg some (c_kyI hP h)
    rw [if_pos h]
    by_cases h3 : lk s a.toNat = 0
    · rw [if_pos h3, vd2_3]
      exact C_r4 (C_t4 h) hlk hky h3
    · rw [if_neg h3]
      exact C_r5 (C_t4 h) hlk (R32_k (by omega)) h3 (C_q4 hP hI h)
  · rw [if_neg h, vd2_1]
    exact C_r6 (C_t5 ha h)
theorem C_vd5 (hP : Pr G 0 s) (hI : Inv s) {a b c : Int} : f_X1_verdict G 5 (iI a) (iI b) (iI c) = vd2 G (vd s 5 a b c) := by
  have e : vd s 5 a b c = if 0 < ns s then (0, 0, 0) else (3, 5, (nb s : Int)) := rfl
  have h6 := hI.nb6
  have h16 := hI.ns16
  rw [e, ver5]
  unfold f_X5_countOfSounds f_X5_countOfBars
  by_cases h1 : 0 < ns s
  · rw [if_pos h1]
    (simp (disch := omega) only [pl0, pl1, pl2, pl3, pl4, pl5, pl6, pl7, pl8, pl9, pl10, pl11, pl12, pl16, pl19, lit_nI, iI_add, iI_sub, iI_mul, iI_neg, iI_le, iI_lt, iI_eq, iI_max, iI_min, Option.bind_some, Option.bind_eq_bind, if_true, if_false, vd2_0, c_ns hP hI]; (repeat (first | rw [if_pos (by omega)] | rw [if_neg (by omega)])); (try simp (disch := omega) only [pl0, pl1, pl2, pl3, pl4, pl5, pl6, pl7, pl8, pl9, pl10, pl11, pl12, pl16, pl19, lit_nI, iI_add, iI_sub, iI_mul, iI_neg, iI_le, iI_lt, iI_eq, iI_max, iI_min, Option.bind_some, Option.bind_eq_bind, if_true, if_false]); (repeat (first | rw [if_pos (by omega)] | rw [if_neg (by omega)])); (try rfl))
  · rw [if_neg h1]
    (simp (disch := omega) only [pl0, pl1, pl2, pl3, pl4, pl5, pl6, pl7, pl8, pl9, pl10, pl11, pl12, pl16, pl19, lit_nI, iI_add, iI_sub, iI_mul, iI_neg, iI_le, iI_lt, iI_eq, iI_max, iI_min, Option.bind_some, Option.bind_eq_bind, if_true, if_false, vd2_3, c_ns hP hI, c_nb hP hI, b2id, c_refuse]; (repeat (first | rw [if_pos (by omega)] | rw [if_neg (by omega)])); (try simp (disch := omega) only [pl0, pl1, pl2, pl3, pl4, pl5, pl6, pl7, pl8, pl9, pl10, pl11, pl12, pl16, pl19, lit_nI, iI_add, iI_sub, iI_mul, iI_neg, iI_le, iI_lt, iI_eq, iI_max, iI_min, Option.bind_some, Option.bind_eq_bind, if_true, if_false]); (repeat (first | rw [if_pos (by omega)] | rw [if_neg (by omega)])); (try rfl))
theorem C_vd6 (hP : Pr G 0 s) (hI : Inv s) {a b c : Int} (ha : R32 a) : f_X1_verdict G 6 (iI a) (iI b) (iI c) = vd2 G (vd s 6 a b c) := by
  have e : vd s 6 a b c = if 1 ≤ a ∧ a ≤ 11 then (if a = lm s then (3, 2, a) else (0, 0, 0)) else (2, 0, 0) := rfl
  have hl := hI.2.2.2.2.1
  unfold R32 at ha
  rw [e, ver6, b2id]
  unfold f_X1_verdictOnLimit f_X9_isWithin f_X5_limitNow
  by_cases h1 : a < 1
  · rw [if_neg (show ¬ (1 ≤ a ∧ a ≤ 11) by omega)]
    (simp (disch := omega) only [pl0, pl1, pl2, pl3, pl4, pl5, pl6, pl7, pl8, pl9, pl10, pl11, pl12, pl16, pl19, lit_nI, iI_add, iI_sub, iI_mul, iI_neg, iI_le, iI_lt, iI_eq, iI_max, iI_min, Option.bind_some, Option.bind_eq_bind, if_true, if_false, vd2_2]; (repeat (first | rw [if_pos (by omega)] | rw [if_neg (by omega)])); (try simp (disch := omega) only [pl0, pl1, pl2, pl3, pl4, pl5, pl6, pl7, pl8, pl9, pl10, pl11, pl12, pl16, pl19, lit_nI, iI_add, iI_sub, iI_mul, iI_neg, iI_le, iI_lt, iI_eq, iI_max, iI_min, Option.bind_some, Option.bind_eq_bind, if_true, if_false]); (repeat (first | rw [if_pos (by omega)] | rw [if_neg (by omega)])); (try rfl))
  · by_cases h2 : 11 < a
    · rw [if_neg (show ¬ (1 ≤ a ∧ a ≤ 11) by omega)]
      (simp (disch := omega) only [pl0, pl1, pl2, pl3, pl4, pl5, pl6, pl7, pl8, pl9, pl10, pl11, pl12, pl16, pl19, lit_nI, iI_add, iI_sub, iI_mul, iI_neg, iI_le, iI_lt, iI_eq, iI_max, iI_min, Option.bind_some, Option.bind_eq_bind, if_true, if_false, vd2_2]; (repeat (first | rw [if_pos (by omega)] | rw [if_neg (by omega)])); (try simp (disch := omega) only [pl0, pl1, pl2, pl3, pl4, pl5, pl6, pl7, pl8, pl9, pl10, pl11, pl12, pl16, pl19, lit_nI, iI_add, iI_sub, iI_mul, iI_neg, iI_le, iI_lt, iI_eq, iI_max, iI_min, Option.bind_some, Option.bind_eq_bind, if_true, if_false]); (repeat (first | rw [if_pos (by omega)] | rw [if_neg (by omega)])); (try rfl))
    · rw [if_pos (show 1 ≤ a ∧ a ≤ 11 by omega)]
      by_cases h3 : a = lm s
      · rw [if_pos h3]
        (simp (disch := omega) only [pl0, pl1, pl2, pl3, pl4, pl5, pl6, pl7, pl8, pl9, pl10, pl11, pl12, pl16, pl19, lit_nI, iI_add, iI_sub, iI_mul, iI_neg, iI_le, iI_lt, iI_eq, iI_max, iI_min, Option.bind_some, Option.bind_eq_bind, if_true, if_false, vd2_3, c_lm hP, b2id, c_refuse]; (repeat (first | rw [if_pos (by omega)] | rw [if_neg (by omega)])); (try simp (disch := omega) only [pl0, pl1, pl2, pl3, pl4, pl5, pl6, pl7, pl8, pl9, pl10, pl11, pl12, pl16, pl19, lit_nI, iI_add, iI_sub, iI_mul, iI_neg, iI_le, iI_lt, iI_eq, iI_max, iI_min, Option.bind_some, Option.bind_eq_bind, if_true, if_false]); (repeat (first | rw [if_pos (by omega)] | rw [if_neg (by omega)])); (try rfl))
      · rw [if_neg h3]
        (simp (disch := omega) only [pl0, pl1, pl2, pl3, pl4, pl5, pl6, pl7, pl8, pl9, pl10, pl11, pl12, pl16, pl19, lit_nI, iI_add, iI_sub, iI_mul, iI_neg, iI_le, iI_lt, iI_eq, iI_max, iI_min, Option.bind_some, Option.bind_eq_bind, if_true, if_false, vd2_0, c_lm hP]; (repeat (first | rw [if_pos (by omega)] | rw [if_neg (by omega)])); (try simp (disch := omega) only [pl0, pl1, pl2, pl3, pl4, pl5, pl6, pl7, pl8, pl9, pl10, pl11, pl12, pl16, pl19, lit_nI, iI_add, iI_sub, iI_mul, iI_neg, iI_le, iI_lt, iI_eq, iI_max, iI_min, Option.bind_some, Option.bind_eq_bind, if_true, if_false]); (repeat (first | rw [if_pos (by omega)] | rw [if_neg (by omega)])); (try rfl))
theorem c_restI (hP : Pr G 0 s) (hI : Inv s) {a : Int} (ha : 0 ≤ a ∧ a < ns s) : f_X5_isRest G (iI a) = some (iI (if ht s a.toNat < 0 then 1 else 0)) := by
  have h := c_isRest hP hI (j := a.toNat) (by omega)
  rwa [Int.toNat_of_nonneg ha.1] at h
theorem C_vd7 (hP : Pr G 0 s) (hI : Inv s) {a b c : Int} (ha : R32 a) (hb : R32 b) : f_X1_verdict G 7 (iI a) (iI b) (iI c) = vd2 G (vd s 7 a b c) := by
  have e : vd s 7 a b c = if 0 ≤ a ∧ a < ns s then (if 0 ≤ b ∧ b ≤ 9 then (if ht s a.toNat < 0 then (3, 6, ln s a.toNat) else if b = ht s a.toNat then (3, 2, b) else (0, 0, 0)) else (2, 0, 0)) else (1, 0, 0) := rfl
  have h16 := hI.ns16
  unfold R32 at ha hb
  rw [e, ver7, b2id]
  unfold f_X1_verdictOnTune f_X5_hasSound f_X9_isWithin f_X5_heightOf f_X5_beatsOf
  by_cases h1 : a < 0
  · rw [if_neg (show ¬ (0 ≤ a ∧ a < ns s) by omega)]
    (simp (disch := omega) only [pl0, pl1, pl2, pl3, pl4, pl5, pl6, pl7, pl8, pl9, pl10, pl11, pl12, pl16, pl19, lit_nI, iI_add, iI_sub, iI_mul, iI_neg, iI_le, iI_lt, iI_eq, iI_max, iI_min, Option.bind_some, Option.bind_eq_bind, if_true, if_false, vd2_1, c_ns hP hI]; (repeat (first | rw [if_pos (by omega)] | rw [if_neg (by omega)])); (try simp (disch := omega) only [pl0, pl1, pl2, pl3, pl4, pl5, pl6, pl7, pl8, pl9, pl10, pl11, pl12, pl16, pl19, lit_nI, iI_add, iI_sub, iI_mul, iI_neg, iI_le, iI_lt, iI_eq, iI_max, iI_min, Option.bind_some, Option.bind_eq_bind, if_true, if_false]); (repeat (first | rw [if_pos (by omega)] | rw [if_neg (by omega)])); (try rfl))
  · by_cases h2 : ns s ≤ a
    · rw [if_neg (show ¬ (0 ≤ a ∧ a < ns s) by omega)]
      (simp (disch := omega) only [pl0, pl1, pl2, pl3, pl4, pl5, pl6, pl7, pl8, pl9, pl10, pl11, pl12, pl16, pl19, lit_nI, iI_add, iI_sub, iI_mul, iI_neg, iI_le, iI_lt, iI_eq, iI_max, iI_min, Option.bind_some, Option.bind_eq_bind, if_true, if_false, vd2_1, c_ns hP hI]; (repeat (first | rw [if_pos (by omega)] | rw [if_neg (by omega)])); (try simp (disch := omega) only [pl0, pl1, pl2, pl3, pl4, pl5, pl6, pl7, pl8, pl9, pl10, pl11, pl12, pl16, pl19, lit_nI, iI_add, iI_sub, iI_mul, iI_neg, iI_le, iI_lt, iI_eq, iI_max, iI_min, Option.bind_some, Option.bind_eq_bind, if_true, if_false]); (repeat (first | rw [if_pos (by omega)] | rw [if_neg (by omega)])); (try rfl))
    · have h : 0 ≤ a ∧ a < ns s := by omega
      have hd := hI.sd (j := a.toNat) (by omega)
      rw [if_pos h]
      by_cases h3 : b < 0
      · rw [if_neg (show ¬ (0 ≤ b ∧ b ≤ 9) by omega)]
        (simp (disch := omega) only [pl0, pl1, pl2, pl3, pl4, pl5, pl6, pl7, pl8, pl9, pl10, pl11, pl12, pl16, pl19, lit_nI, iI_add, iI_sub, iI_mul, iI_neg, iI_le, iI_lt, iI_eq, iI_max, iI_min, Option.bind_some, Option.bind_eq_bind, if_true, if_false, vd2_2, c_ns hP hI]; (repeat (first | rw [if_pos (by omega)] | rw [if_neg (by omega)])); (try simp (disch := omega) only [pl0, pl1, pl2, pl3, pl4, pl5, pl6, pl7, pl8, pl9, pl10, pl11, pl12, pl16, pl19, lit_nI, iI_add, iI_sub, iI_mul, iI_neg, iI_le, iI_lt, iI_eq, iI_max, iI_min, Option.bind_some, Option.bind_eq_bind, if_true, if_false]); (repeat (first | rw [if_pos (by omega)] | rw [if_neg (by omega)])); (try rfl))
      · by_cases h4 : 9 < b
        · rw [if_neg (show ¬ (0 ≤ b ∧ b ≤ 9) by omega)]
          (simp (disch := omega) only [pl0, pl1, pl2, pl3, pl4, pl5, pl6, pl7, pl8, pl9, pl10, pl11, pl12, pl16, pl19, lit_nI, iI_add, iI_sub, iI_mul, iI_neg, iI_le, iI_lt, iI_eq, iI_max, iI_min, Option.bind_some, Option.bind_eq_bind, if_true, if_false, vd2_2, c_ns hP hI]; (repeat (first | rw [if_pos (by omega)] | rw [if_neg (by omega)])); (try simp (disch := omega) only [pl0, pl1, pl2, pl3, pl4, pl5, pl6, pl7, pl8, pl9, pl10, pl11, pl12, pl16, pl19, lit_nI, iI_add, iI_sub, iI_mul, iI_neg, iI_le, iI_lt, iI_eq, iI_max, iI_min, Option.bind_some, Option.bind_eq_bind, if_true, if_false]); (repeat (first | rw [if_pos (by omega)] | rw [if_neg (by omega)])); (try rfl))
        · rw [if_pos (show 0 ≤ b ∧ b ≤ 9 by omega)]
          by_cases h5 : ht s a.toNat < 0
          · rw [if_pos h5]
            (simp (disch := omega) only [pl0, pl1, pl2, pl3, pl4, pl5, pl6, pl7, pl8, pl9, pl10, pl11, pl12, pl16, pl19, lit_nI, iI_add, iI_sub, iI_mul, iI_neg, iI_le, iI_lt, iI_eq, iI_max, iI_min, Option.bind_some, Option.bind_eq_bind, if_true, if_false, vd2_3, c_ns hP hI, c_restI hP hI h, c_lnI hP (show 0 ≤ a ∧ a < 16 by omega), b2id, c_refuse]; (repeat (first | rw [if_pos (by omega)] | rw [if_neg (by omega)])); (try simp (disch := omega) only [pl0, pl1, pl2, pl3, pl4, pl5, pl6, pl7, pl8, pl9, pl10, pl11, pl12, pl16, pl19, lit_nI, iI_add, iI_sub, iI_mul, iI_neg, iI_le, iI_lt, iI_eq, iI_max, iI_min, Option.bind_some, Option.bind_eq_bind, if_true, if_false]); (repeat (first | rw [if_pos (by omega)] | rw [if_neg (by omega)])); (try rfl))
          · rw [if_neg h5]
            by_cases h6 : b = ht s a.toNat
            · rw [if_pos h6]
              (simp (disch := omega) only [pl0, pl1, pl2, pl3, pl4, pl5, pl6, pl7, pl8, pl9, pl10, pl11, pl12, pl16, pl19, lit_nI, iI_add, iI_sub, iI_mul, iI_neg, iI_le, iI_lt, iI_eq, iI_max, iI_min, Option.bind_some, Option.bind_eq_bind, if_true, if_false, vd2_3, c_ns hP hI, c_restI hP hI h, c_htI hP (show 0 ≤ a ∧ a < 16 by omega), b2id, c_refuse]; (repeat (first | rw [if_pos (by omega)] | rw [if_neg (by omega)])); (try simp (disch := omega) only [pl0, pl1, pl2, pl3, pl4, pl5, pl6, pl7, pl8, pl9, pl10, pl11, pl12, pl16, pl19, lit_nI, iI_add, iI_sub, iI_mul, iI_neg, iI_le, iI_lt, iI_eq, iI_max, iI_min, Option.bind_some, Option.bind_eq_bind, if_true, if_false]); (repeat (first | rw [if_pos (by omega)] | rw [if_neg (by omega)])); (try rfl))
            · rw [if_neg h6]
              (simp (disch := omega) only [pl0, pl1, pl2, pl3, pl4, pl5, pl6, pl7, pl8, pl9, pl10, pl11, pl12, pl16, pl19, lit_nI, iI_add, iI_sub, iI_mul, iI_neg, iI_le, iI_lt, iI_eq, iI_max, iI_min, Option.bind_some, Option.bind_eq_bind, if_true, if_false, vd2_0, c_ns hP hI, c_restI hP hI h, c_htI hP (show 0 ≤ a ∧ a < 16 by omega)]; (repeat (first | rw [if_pos (by omega)] | rw [if_neg (by omega)])); (try simp (disch := omega) only [pl0, pl1, pl2, pl3, pl4, pl5, pl6, pl7, pl8, pl9, pl10, pl11, pl12, pl16, pl19, lit_nI, iI_add, iI_sub, iI_mul, iI_neg, iI_le, iI_lt, iI_eq, iI_max, iI_min, Option.bind_some, Option.bind_eq_bind, if_true, if_false]); (repeat (first | rw [if_pos (by omega)] | rw [if_neg (by omega)])); (try rfl))
theorem C_vd (hP : Pr G 0 s) (hI : Inv s) {o : Nat} {a b c : Int} (ho : o < 8) (ha : R32 a) (hb : R32 b) (hc : R32 c) : f_X1_verdict G o (iI a) (iI b) (iI c) = vd2 G (vd s o a b c) := by
  obtain rfl | rfl | rfl | rfl | rfl | rfl | rfl | rfl : o = 0 ∨ o = 1 ∨ o = 2 ∨ o = 3 ∨ o = 4 ∨ o = 5 ∨ o = 6 ∨ o = 7 := by omega
  · exact C_vd0 hP hI ha
  · exact C_vd1 hP hI ha hb
  · exact C_vd2 hP hI ha hb
  · exact C_vd3 hP hI ha hb hc
  · exact C_vd4 hP hI ha
  · exact C_vd5 hP hI
  · exact C_vd6 hP hI ha
  · exact C_vd7 hP hI ha hb
end PMM
