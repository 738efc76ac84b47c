/-! loops of more cells -/
theorem lq5_fr {A1 A2 A3 A4 A5 ρ : Type} {F : (A1 → A2 → A3 → A4 → A5 → Option ρ) → A1 → A2 → A3 → A4 → A5 → Option ρ} (X1 : Nat → A1) (X2 : Nat → A2) (X3 : Nat → A3) (X4 : Nat → A4) (X5 : Nat → A5) (N : Nat) (R : Option ρ) {a1 : A1} {a2 : A2} {a3 : A3} {a4 : A4} {a5 : A5} (e1 : a1 = X1 0) (e2 : a2 = X2 0) (e3 : a3 = X3 0) (e4 : a4 = X4 0) (e5 : a5 = X5 0) (hs : ∀ k j, j < N → F k (X1 j) (X2 j) (X3 j) (X4 j) (X5 j) = k (X1 (j + 1)) (X2 (j + 1)) (X3 (j + 1)) (X4 (j + 1)) (X5 (j + 1))) (he : ∀ k, F k (X1 N) (X2 N) (X3 N) (X4 N) (X5 N) = R) {n : Nat} (hn : N < n) : lq5 F n a1 a2 a3 a4 a5 = R := by
  have key : ∀ m j, j + m = N → ∀ n, m < n → lq5 F n (X1 j) (X2 j) (X3 j) (X4 j) (X5 j) = R := by
    intro m
    induction m with
    | zero => intro j hj n hn; obtain ⟨n, rfl⟩ : ∃ k, n = k + 1 := ⟨n - 1, by omega⟩; obtain rfl : j = N := by omega
              exact he _
    | succ m ih => intro j hj n hn; obtain ⟨n, rfl⟩ : ∃ k, n = k + 1 := ⟨n - 1, by omega⟩
                   exact (hs _ j (by omega)).trans (ih (j + 1) (by omega) n (by omega))
  rw [e1, e2, e3, e4, e5]; exact key N 0 (by omega) n hn
theorem lq11_fr {A1 A2 A3 A4 A5 A6 A7 A8 A9 A10 A11 ρ : Type} {F : (A1 → A2 → A3 → A4 → A5 → A6 → A7 → A8 → A9 → A10 → A11 → Option ρ) → A1 → A2 → A3 → A4 → A5 → A6 → A7 → A8 → A9 → A10 → A11 → Option ρ} (X1 : Nat → A1) (X2 : Nat → A2) (X3 : Nat → A3) (X4 : Nat → A4) (X5 : Nat → A5) (X6 : Nat → A6) (X7 : Nat → A7) (X8 : Nat → A8) (X9 : Nat → A9) (X10 : Nat → A10) (X11 : Nat → A11) (N : Nat) (R : Option ρ) {a1 : A1} {a2 : A2} {a3 : A3} {a4 : A4} {a5 : A5} {a6 : A6} {a7 : A7} {a8 : A8} {a9 : A9} {a10 : A10} {a11 : A11} (e1 : a1 = X1 0) (e2 : a2 = X2 0) (e3 : a3 = X3 0) (e4 : a4 = X4 0) (e5 : a5 = X5 0) (e6 : a6 = X6 0) (e7 : a7 = X7 0) (e8 : a8 = X8 0) (e9 : a9 = X9 0) (e10 : a10 = X10 0) (e11 : a11 = X11 0) (hs : ∀ k j, j < N → F k (X1 j) (X2 j) (X3 j) (X4 j) (X5 j) (X6 j) (X7 j) (X8 j) (X9 j) (X10 j) (X11 j) = k (X1 (j + 1)) (X2 (j + 1)) (X3 (j + 1)) (X4 (j + 1)) (X5 (j + 1)) (X6 (j + 1)) (X7 (j + 1)) (X8 (j + 1)) (X9 (j + 1)) (X10 (j + 1)) (X11 (j + 1))) (he : ∀ k, F k (X1 N) (X2 N) (X3 N) (X4 N) (X5 N) (X6 N) (X7 N) (X8 N) (X9 N) (X10 N) (X11 N) = R) {n : Nat} (hn : N < n) : lq11 F n a1 a2 a3 a4 a5 a6 a7 a8 a9 a10 a11 = R := by
  have key : ∀ m j, j + m = N → ∀ n, m < n → lq11 F n (X1 j) (X2 j) (X3 j) (X4 j) (X5 j) (X6 j) (X7 j) (X8 j) (X9 j) (X10 j) (X11 j) = R := by
    intro m
    induction m with
    | zero => intro j hj n hn; obtain ⟨n, rfl⟩ : ∃ k, n = k + 1 := ⟨n - 1, by omega⟩; obtain rfl : j = N := by omega
              exact he _
    | succ m ih => intro j hj n hn; obtain ⟨n, rfl⟩ : ∃ k, n = k + 1 := ⟨n - 1, by omega⟩
                   exact (hs _ j (by omega)).trans (ih (j + 1) (by omega) n (by omega))
  rw [e1, e2, e3, e4, e5, e6, e7, e8, e9, e10, e11]; exact key N 0 (by omega) n hn
theorem lq12_fr {A1 A2 A3 A4 A5 A6 A7 A8 A9 A10 A11 A12 ρ : Type} {F : (A1 → A2 → A3 → A4 → A5 → A6 → A7 → A8 → A9 → A10 → A11 → A12 → Option ρ) → A1 → A2 → A3 → A4 → A5 → A6 → A7 → A8 → A9 → A10 → A11 → A12 → Option ρ} (X1 : Nat → A1) (X2 : Nat → A2) (X3 : Nat → A3) (X4 : Nat → A4) (X5 : Nat → A5) (X6 : Nat → A6) (X7 : Nat → A7) (X8 : Nat → A8) (X9 : Nat → A9) (X10 : Nat → A10) (X11 : Nat → A11) (X12 : Nat → A12) (N : Nat) (R : Option ρ) {a1 : A1} {a2 : A2} {a3 : A3} {a4 : A4} {a5 : A5} {a6 : A6} {a7 : A7} {a8 : A8} {a9 : A9} {a10 : A10} {a11 : A11} {a12 : A12} (e1 : a1 = X1 0) (e2 : a2 = X2 0) (e3 : a3 = X3 0) (e4 : a4 = X4 0) (e5 : a5 = X5 0) (e6 : a6 = X6 0) (e7 : a7 = X7 0) (e8 : a8 = X8 0) (e9 : a9 = X9 0) (e10 : a10 = X10 0) (e11 : a11 = X11 0) (e12 : a12 = X12 0) (hs : ∀ k j, j < N → F k (X1 j) (X2 j) (X3 j) (X4 j) (X5 j) (X6 j) (X7 j) (X8 j) (X9 j) (X10 j) (X11 j) (X12 j) = k (X1 (j + 1)) (X2 (j + 1)) (X3 (j + 1)) (X4 (j + 1)) (X5 (j + 1)) (X6 (j + 1)) (X7 (j + 1)) (X8 (j + 1)) (X9 (j + 1)) (X10 (j + 1)) (X11 (j + 1)) (X12 (j + 1))) (he : ∀ k, F k (X1 N) (X2 N) (X3 N) (X4 N) (X5 N) (X6 N) (X7 N) (X8 N) (X9 N) (X10 N) (X11 N) (X12 N) = R) {n : Nat} (hn : N < n) : lq12 F n a1 a2 a3 a4 a5 a6 a7 a8 a9 a10 a11 a12 = R := by
  have key : ∀ m j, j + m = N → ∀ n, m < n → lq12 F n (X1 j) (X2 j) (X3 j) (X4 j) (X5 j) (X6 j) (X7 j) (X8 j) (X9 j) (X10 j) (X11 j) (X12 j) = R := by
    intro m
    induction m with
    | zero => intro j hj n hn; obtain ⟨n, rfl⟩ : ∃ k, n = k + 1 := ⟨n - 1, by omega⟩; obtain rfl : j = N := by omega
              exact he _
    | succ m ih => intro j hj n hn; obtain ⟨n, rfl⟩ : ∃ k, n = k + 1 := ⟨n - 1, by omega⟩
                   exact (hs _ j (by omega)).trans (ih (j + 1) (by omega) n (by omega))
  rw [e1, e2, e3, e4, e5, e6, e7, e8, e9, e10, e11, e12]; exact key N 0 (by omega) n hn
/-! faulty -/
theorem pm11 : iI (-11) = (-11 : Int32) := rfl
theorem pm12 : iI (-12) = (-12 : Int32) := rfl
theorem pm13 : iI (-13) = (-13 : Int32) := rfl
theorem p00 : iI 0 = (0 : Int32) := rfl
section FG
variable {G : GT} {s : Nat → Int32}
theorem L_f42 (hP : Pr G 0 s) (hI : Inv s) {q : Nat} (hq : 1 ≤ q ∧ q ≤ 4) (k7 : GT → Int32 → Option (Int32 × GT)) : f_L_faulty_42 k7 (ns s) (SS s (ns s)) (iI q) (iI (fm s q)) 17 G (iI (-13)) (iI ((pl s q : Int) - 1)) = k7 G (iI ((q + 1 : Nat) : Int)) := by
  have hpl := pl_r hI q
  unfold f_L_faulty_42
  refine lq3_fr (X1 := fun _ => G) (X2 := fun t => iI (flt s q (pl s q) t)) (X3 := fun t => iI ((pl s q : Int) - 1 - t)) (pl s q) _ rfl rfl ?_ (fun k t ht => ?_) (fun k => ?_) (by omega)
  · show iI _ = iI _
    congr 1
    omega
  · obtain ⟨i0, hi0⟩ : ∃ i, i = pl s q - 1 - t := ⟨_, rfl⟩
    have ei : (pl s q : Int) - 1 - t = i0 := by omega
    have ej : (pl s q : Int) - 1 - ((t + 1 : Nat) : Int) = (i0 : Int) + -1 := by omega
    have ef : flt s q (pl s q) (t + 1) = if vv s q i0 = 1 then (i0 : Int) else flt s q (pl s q) t := by rw [hi0]; rfl
    have hf := L_isF hP hI (Vr_0 hI) hq (j := i0) (by omega)
    rcases vv_01 s q i0 with h0 | h0
    · rw [h0] at ef hf
      rw [if_neg (by decide)] at ef
      show (if _ then _ else _) = k G (iI (flt s q (pl s q) (t + 1))) (iI ((pl s q : Int) - 1 - ((t + 1 : Nat) : Int)))
      rw [ei, ej, ef, hf, b2s, if_neg (by rw [pl0, iI_lt (by omega) (by omega) (by omega) (by omega)]; omega), if_pos p00]
      unfold f_L_faulty_65
      rw [pl1, iI_neg, iI_add]
    · rw [h0] at ef hf
      rw [if_pos rfl] at ef
      show (if _ then _ else _) = k G (iI (flt s q (pl s q) (t + 1))) (iI ((pl s q : Int) - 1 - ((t + 1 : Nat) : Int)))
      rw [ei, ej, ef, hf, b2s, if_neg (by rw [pl0, iI_lt (by omega) (by omega) (by omega) (by omega)]; omega), if_neg (by decide)]
      unfold f_L_faulty_65
      rw [pl1, iI_neg, iI_add]
  · show (if iI ((pl s q : Int) - 1 - (pl s q : Int)) < 0 then _ else _) = _
    rw [if_pos (by rw [pl0, iI_lt (by omega) (by omega) (by omega) (by omega)]; omega), pl0, r_faults0 hP hI hq, b2s, if_pos rfl, pl1, r_faults1 hP hI hq, b2s, if_pos rfl, r_first hP hI hq, b2s, flt_fs, if_pos rfl, iI_add]
    rfl
theorem L_f7 (hP : Pr G 0 s) (hI : Inv s) : f_L_faulty_7 (ns s) (SS s (ns s)) 5 G (iI 1) = f_L_faulty_113 (ns s) 17 G (SS s (ns s)) (iI 0) := by
  unfold f_L_faulty_7
  refine lq2_fr (X1 := fun _ => G) (X2 := fun t => iI ((t + 1 : Nat) : Int)) 4 _ rfl rfl (fun k t ht => ?_) (fun k => ?_) (by omega)
  · have hf := L_fOf hP hI (Vr_0 hI) (q := t + 1) (by omega)
    have h42 := L_f42 hP hI (q := t + 1) (by omega) k
    rw [if_neg (by rw [pl5, iI_le (by omega) (by omega) (by omega) (by omega)]; omega), hf, b2s, ← h42]
    by_cases h3 : t + 1 = 3
    · have e : pl s (t + 1) = nb s := if_pos h3
      rw [if_pos (by rw [pl3, iI_eq (by omega) (by omega) (by omega) (by omega)]; omega), pl0, r_acc0 hP hI, bR_i, e]
      unfold f_L_faulty_38
      rw [pl1, iI_sub]
      rfl
    · have e : pl s (t + 1) = ns s := if_neg h3
      rw [if_neg (by rw [pl3, iI_eq (by omega) (by omega) (by omega) (by omega)]; omega), e]
      unfold f_L_faulty_38
      rw [lit_nI, pl1, iI_sub]
      rfl
  · rfl
theorem L_f212 (hP : Pr G 0 s) (hI : Inv s) {k : Nat} (hk : k < ns s) (k113 : GT → (Nat → Nat → Int32) → Int32 → Option (Int32 × GT)) (k134 : GT → (Nat → Nat → Int32) → Int32 → Int32 → Int32 → Option (Int32 × GT)) (S : Nat → Nat → Int32) (b l : Int32) {h : Nat} (hh : h < 10) : f_L_faulty_212 k113 k134 (ns s) (iI k) (iI (pc s k)) S b (iI h) (iI (mw s k h)) l G = k134 G S b l (iI ((h + 1 : Nat) : Int)) := by
  have hpc := pc_r hI hk
  unfold f_L_faulty_212 mw
  by_cases hd : ht s k < 0
  · have e : pc s k = -1 := by unfold pc; rw [if_pos hd]
    rw [r_wouldr hP hI hk (by omega) (by omega), b2s, e, if_neg (by decide)]
    unfold f_L_faulty_232
    rw [if_pos pm13, pl1, iI_add]
    rfl
  · have e : 0 ≤ pc s k := by have := pt_r hI hk; unfold pc; rw [if_neg hd]; omega
    rw [r_would hP hI hk (by omega) (by omega), b2s, if_pos (by rw [pl0, iI_le (by omega) (by omega) (by omega) (by omega)]; exact e), if_neg hd]
    unfold f_L_faulty_232
    rw [if_pos rfl, pl1, iI_add]
    rfl
def hS (s : Nat → Int32) (k : Nat) : Nat → Nat → Nat → Int32
  | 0 => SS s (ns s)
  | h + 1 => SK s k h
def hb (s : Nat → Int32) (k : Nat) : Nat → Int
  | 0 => -1
  | h + 1 => bm (mw s k) h
def hl (s : Nat → Int32) (k : Nat) : Nat → Int
  | 0 => 0
  | h + 1 => mw s k (bm (mw s k) h)
theorem hS_set (s : Nat → Int32) (k h : Nat) : upS (hS s k h) k (upd (hS s k h k) 3 (iI (npc s k h))) = hS s k (h + 1) := by
  cases h with
  | zero => rfl
  | succ h => exact SK_set s k _ _
theorem hS_0 {k : Nat} (hk : k < ns s) (h : Nat) : hS s k h k 0 = iI (tn s k) := by
  cases h with
  | zero => exact (RW_SS s (ns s) k hk).1
  | succ h => exact SK_0 hk _
theorem L_f169 (hP : Pr G 0 s) (hI : Inv s) {k : Nat} (hk : k < ns s) (k113 : GT → (Nat → Nat → Int32) → Int32 → Option (Int32 × GT)) (k134 : GT → (Nat → Nat → Int32) → Int32 → Int32 → Int32 → Option (Int32 × GT)) {h : Nat} (hh : h < 10) : f_L_faulty_169 k113 k134 (ns s) (iI k) (iI (pc s k)) (hS s k h) (iI (hb s k h)) (iI (hl s k h)) (iI h) (iI (npc s k h)) (iI 3) k G = k134 G (hS s k (h + 1)) (iI (hb s k (h + 1))) (iI (hl s k (h + 1))) (iI ((h + 1 : Nat) : Int)) := by
  have hm := mw_r hI hk (h := (h : Int)) (by omega)
  have e3 : (iI 3).toNatClampNeg = 3 := by decide
  have hmany : f_L_allFaults G (ns s) (hS s k (h + 1)) = some (iI (mw s k h), G) := L_many hP hI hk (by omega)
  unfold f_L_faulty_169
  rw [if_pos (by decide), e3, hS_set, Option.bind_some, hmany, b2s]
  cases h with
  | zero =>
    have e1 : hb s k 0 = -1 := rfl
    have e2 : hb s k (0 + 1) = 0 := rfl
    have e4 : hl s k (0 + 1) = mw s k ((0 : Nat) : Int) := rfl
    rw [e1, if_pos (by decide), e2, e4]
    unfold f_L_faulty_189 f_L_faulty_196
    rw [if_pos rfl]
    exact L_f212 hP hI hk k113 k134 _ _ _ hh
  | succ h =>
    have e1 : hb s k (h + 1) = bm (mw s k) h := rfl
    have e2 : hl s k (h + 1) = mw s k (bm (mw s k) h) := rfl
    have e3 : hb s k (h + 1 + 1) = if mw s k ((h + 1 : Nat) : Int) < mw s k (bm (mw s k) h) then ((h + 1 : Nat) : Int) else bm (mw s k) h := rfl
    have e4 : hl s k (h + 1 + 1) = mw s k (hb s k (h + 1 + 1)) := rfl
    have hbr := bm_r (mw s k) h
    have hml := mw_r hI hk (h := bm (mw s k) h) (by omega)
    rw [e1, e2, if_neg (by rw [pl0, iI_lt (by omega) (by omega) (by omega) (by omega)]; omega)]
    by_cases h4 : mw s k (bm (mw s k) h) ≤ mw s k ((h + 1 : Nat) : Int)
    · rw [if_neg (by omega)] at e3
      rw [if_pos (by rw [iI_le (by omega) (by omega) (by omega) (by omega)]; exact h4), e4, e3]
      unfold f_L_faulty_196
      rw [if_neg (by rw [iI_eq (by omega) (by omega) (by omega) (by omega)]; omega)]
      exact L_f212 hP hI hk k113 k134 _ _ _ hh
    · rw [if_pos (by omega)] at e3
      rw [if_neg (by rw [iI_le (by omega) (by omega) (by omega) (by omega)]; exact h4), e4, e3]
      unfold f_L_faulty_189 f_L_faulty_196
      rw [if_pos rfl]
      exact L_f212 hP hI hk k113 k134 _ _ _ hh
theorem L_f134 (hP : Pr G 0 s) (hI : Inv s) {k : Nat} (hk : k < ns s) (k113 : GT → (Nat → Nat → Int32) → Int32 → Option (Int32 × GT)) : f_L_faulty_134 k113 (ns s) (iI k) (iI (pc s k)) 11 G (SS s (ns s)) (iI (-1)) (iI 0) (iI 0) = k113 G (SS s (ns s)) (iI ((k + 1 : Nat) : Int)) := by
  have h16 := hI.ns16
  have hpc := pc_r hI hk
  have hdk := hI.sd hk
  have hky := hI.ky (t := (tn s k).toNat) (by omega)
  have hin : inb (iI (k : Int)) (ns s) := by rw [iI_inb (by omega) (by omega) (by omega)]; omega
  have ec : (iI (k : Int)).toNatClampNeg = k := by rw [iI_clamp (by omega) (by omega), Int.toNat_natCast]
  have e3 : (iI 3).toNatClampNeg = 3 := by decide
  have hpd : (0 ≤ pc s k) = (0 ≤ ht s k) := by
    unfold pc
    have := pt_r hI hk
    by_cases h : ht s k < 0
    · rw [if_pos h]; apply propext; omega
    · rw [if_neg h]; apply propext; omega
  unfold f_L_faulty_134
  refine lq5_fr (X1 := fun _ => G) (X2 := fun h => hS s k h) (X3 := fun h => iI (hb s k h)) (X4 := fun h => iI (hl s k h)) (X5 := fun h => iI h) 10 _ rfl rfl rfl rfl rfl (fun k134 h hh => ?_) (fun k134 => ?_) (by omega)
  · have h169 := L_f169 hP hI hk k113 k134 hh
    show (if _ then _ else _) = k134 G (hS s k (h + 1)) (iI (hb s k (h + 1))) (iI (hl s k (h + 1))) (iI ((h + 1 : Nat) : Int))
    rw [if_neg (by rw [pl10, iI_le (by omega) (by omega) (by omega) (by omega)]; omega), if_pos hin, ← h169, ec]
    by_cases hd : ht s k < 0
    · have e : npc s k h = -1 := if_pos hd
      rw [if_neg (by rw [pl0, iI_le (by omega) (by omega) (by omega) (by omega), hpd]; omega), e]
      rfl
    · have e : npc s k h = (ky s (tn s k).toNat + h) % 12 := if_neg hd
      have e5 : ky s (tn s k).toNat + h - (ky s (tn s k).toNat + h) / 12 * 12 = (ky s (tn s k).toNat + h) % 12 := by omega
      rw [if_pos (by rw [pl0, iI_le (by omega) (by omega) (by omega) (by omega), hpd]; omega), if_pos hin, hS_0 hk, pl0, r_tinI hP hI hk, b2s, iI_add, pl12, iI_div (by omega) (by omega) (by omega) (by omega), iI_mul, iI_sub, e5, e]
      rfl
  · show (if _ then _ else _) = _
    rw [if_pos (by decide), if_pos hin, ec, pl3, e3, show hS s k 10 = SK s k 9 from rfl, SK_back hk]
    have eb : hb s k 10 = bm (mw s k) 9 := rfl
    have h265 : ∀ v : Int32, f_L_faulty_265 k113 (ns s) (SS s (ns s)) (iI k) v v G = k113 G (SS s (ns s)) (iI ((k + 1 : Nat) : Int)) := fun v => by
      unfold f_L_faulty_265
      rw [if_pos rfl, pl10, r_wouldx hP hI hk, b2s, if_pos pm12, pl1, iI_neg, r_wouldy hP hI hk, b2s, if_pos pm12, iI_add]
      rfl
    rw [eb]
    by_cases hd : ht s k < 0
    · rw [Option.bind_some, r_bestr hP hI hk (by omega), b2s, if_neg (by rw [pl0, iI_le (by omega) (by omega) (by omega) (by omega), hpd]; omega)]
      exact h265 _
    · rw [Option.bind_some, r_best hP hI hk (by omega), b2s, if_pos (by rw [pl0, iI_le (by omega) (by omega) (by omega) (by omega), hpd]; omega), bm_bh (by omega)]
      exact h265 _
theorem L_f316 (hP : Pr G 0 s) (hI : Inv s) (v : Int32) : f_L_faulty_316 (ns s) (SS s (ns s)) v v G = some (iI 1, G) := by
  unfold f_L_faulty_316
  rw [if_pos rfl, pl0, pl1, r_faultsx, b2s, if_pos pm12, pl5, r_faultsy, b2s, if_pos pm12, r_firstx, b2s, if_pos pm12, lit_nI, pl10, r_wouldz hP hI, b2s, if_pos pm11, iI_neg, r_bestx hP hI, b2s, if_pos pm11, c_isWell hP hI, Option.bind_some, if_neg (by decide)]
theorem L_faulty (hP : Pr G 0 s) (hI : Inv s) : f_L_faulty G = some (iI 1, G) := by
  have h16 := hI.ns16
  have hft := ft_r hI
  unfold f_L_faulty
  rw [L_sounds hP hI, b3s, pl1, L_f7 hP hI]
  unfold f_L_faulty_113
  refine lq3_fr (X1 := fun _ => G) (X2 := fun _ => SS s (ns s)) (X3 := fun k => iI k) (ns s) _ rfl rfl rfl (fun k j hj => ?_) (fun k => ?_) (by omega)
  · have hin : inb (iI (j : Int)) (ns s) := by rw [iI_inb (by omega) (by omega) (by omega)]; omega
    have ec : (iI (j : Int)).toNatClampNeg = j := by rw [iI_clamp (by omega) (by omega), Int.toNat_natCast]
    show (if _ then _ else _) = _
    rw [if_neg (by rw [lit_nI, iI_le (by omega) (by omega) (by omega) (by omega)]; omega), if_pos hin, ec, (RW_SS s (ns s) j hj).2.2.1]
    exact L_f134 hP hI hj k
  · show (if _ then _ else _) = _
    rw [if_pos (by rw [lit_nI]; exact Int32.le_refl _), r_clean hP hI, Option.bind_some, L_allF hP hI (Vr_0 hI), b2s]
    by_cases h : ft s = 0
    · rw [if_pos h, if_pos (by rw [h]; rfl)]
      exact L_f316 hP hI _
    · rw [if_neg h, if_neg (by rw [pl0, iI_eq (by omega) (by omega) (by omega) (by omega)]; exact h)]
      exact L_f316 hP hI _
end FG
