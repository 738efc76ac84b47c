/-! orders: the class's print after them, and that it keeps its bounds -/
section PO
variable {G K : GT} {s : Nat → Int32}
theorem no30 {x y : Int} : ¬ ((3, x, y) : Int × Int × Int).1 = 0 := fun h => absurd (show (3 : Int) = 0 from h) (by decide)
theorem no20 {x y : Int} : ¬ ((2, x, y) : Int × Int × Int).1 = 0 := fun h => absurd (show (2 : Int) = 0 from h) (by decide)
theorem no10 {x y : Int} : ¬ ((1, x, y) : Int × Int × Int).1 = 0 := fun h => absurd (show (1 : Int) = 0 from h) (by decide)
theorem vt_ok {a b w m : Int} (h : (vt a b w m).1 = 0) : (0 ≤ a ∧ a ≤ 3) ∧ (0 ≤ b ∧ b ≤ m) ∧ b ≠ w := by
  by_cases h1 : 0 ≤ a ∧ a ≤ 3
  · by_cases h2 : 0 ≤ b ∧ b ≤ m
    · by_cases h3 : b = w
      · rw [vt_3 h1 h2 h3] at h; exact absurd h no30
      · exact ⟨h1, h2, h3⟩
    · rw [vt_2 h1 (by omega)] at h; exact absurd h no20
  · rw [vt_1 (by omega)] at h; exact absurd h no10
theorem rm_ok {c : Int} (h : (rm s c).1 = 0) : ns s < 16 ∧ c ≤ fre s := by
  by_cases h1 : ns s < 16
  · by_cases h2 : c ≤ fre s
    · exact ⟨h1, h2⟩
    · rw [rm_f h1 h2] at h; exact absurd h no30
  · rw [rm_n h1] at h; exact absurd h no30
theorem ok0 {a b c : Int} (h : (vd s 0 a b c).1 = 0) : (2 ≤ a ∧ a ≤ 8) ∧ nb s < 6 := by
  have e : vd s 0 a b c = if 2 ≤ a ∧ a ≤ 8 then (if nb s < 6 then (0, 0, 0) else (3, 1, 6)) else (2, 0, 0) := rfl
  rw [e] at h
  by_cases h1 : 2 ≤ a ∧ a ≤ 8
  · rw [if_pos h1] at h
    by_cases h2 : nb s < 6
    · exact ⟨h1, h2⟩
    · rw [if_neg h2] at h; exact absurd h no30
  · rw [if_neg h1] at h; exact absurd h no20
theorem ok3 {a b c : Int} (h : (vd s 3 a b c).1 = 0) : (0 ≤ a ∧ a ≤ 3) ∧ (0 ≤ b ∧ b ≤ 9) ∧ (1 ≤ c ∧ c ≤ 8) ∧ ns s < 16 ∧ c ≤ fre s := by
  have e : vd s 3 a b c = if 0 ≤ a ∧ a ≤ 3 then (if (0 ≤ b ∧ b ≤ 9) ∧ 1 ≤ c ∧ c ≤ 8 then rm s c else (2, 0, 0)) else (1, 0, 0) := rfl
  rw [e] at h
  by_cases h1 : 0 ≤ a ∧ a ≤ 3
  · rw [if_pos h1] at h
    by_cases h2 : (0 ≤ b ∧ b ≤ 9) ∧ 1 ≤ c ∧ c ≤ 8
    · rw [if_pos h2] at h
      exact ⟨h1, h2.1, h2.2, rm_ok h⟩
    · rw [if_neg h2] at h; exact absurd h no20
  · rw [if_neg h1] at h; exact absurd h no10
theorem ok4 {a b c : Int} (h : (vd s 4 a b c).1 = 0) : (0 ≤ a ∧ a ≤ 3) ∧ lk s a.toNat ≠ 0 ∧ ns s < 16 ∧ lk s a.toNat ≤ fre s := by
  rw [C_e4] at h
  by_cases h1 : 0 ≤ a ∧ a ≤ 3
  · rw [if_pos h1] at h
    by_cases h2 : lk s a.toNat = 0
    · rw [if_pos h2] at h; exact absurd h no30
    · rw [if_neg h2] at h
      exact ⟨h1, h2, rm_ok h⟩
  · rw [if_neg h1] at h; exact absurd h no10
theorem ok5 {a b c : Int} (h : (vd s 5 a b c).1 = 0) : 0 < ns s := by
  have e : vd s 5 a b c = if 0 < ns s then (0, 0, 0) else (3, 5, (nb s : Int)) := rfl
  rw [e] at h
  by_cases h1 : 0 < ns s
  · exact h1
  · rw [if_neg h1] at h; exact absurd h no30
theorem ok6 {a b c : Int} (h : (vd s 6 a b c).1 = 0) : 1 ≤ a ∧ a ≤ 11 := by
  have e : vd s 6 a b c = if 1 ≤ a ∧ a ≤ 11 then (if a = lm s then (3, 2, a) else (0, 0, 0)) else (2, 0, 0) := rfl
  rw [e] at h
  by_cases h1 : 1 ≤ a ∧ a ≤ 11
  · exact h1
  · rw [if_neg h1] at h; exact absurd h no20
theorem ok7 {a b c : Int} (h : (vd s 7 a b c).1 = 0) : (0 ≤ a ∧ a < ns s) ∧ (0 ≤ b ∧ b ≤ 9) ∧ 0 ≤ ht s a.toNat := by
  have e : vd s 7 a b c = if 0 ≤ a ∧ a < ns s then (if 0 ≤ b ∧ b ≤ 9 then (if ht s a.toNat < 0 then (3, 6, ln s a.toNat) else if b = ht s a.toNat then (3, 2, b) else (0, 0, 0)) else (2, 0, 0)) else (1, 0, 0) := rfl
  rw [e] at h
  by_cases h1 : 0 ≤ a ∧ a < ns s
  · rw [if_pos h1] at h
    by_cases h2 : 0 ≤ b ∧ b ≤ 9
    · rw [if_pos h2] at h
      by_cases h3 : ht s a.toNat < 0
      · rw [if_pos h3] at h; exact absurd h no30
      · exact ⟨h1, h2, Int.not_lt.mp h3⟩
    · rw [if_neg h2] at h; exact absurd h no20
  · rw [if_neg h1] at h; exact absurd h no10
theorem Inv_of {t : Nat → Int32} (B N : Nat) (h0 : t 0 = iI B) (hB : B ≤ 6) (h1 : t 1 = iI N) (hN : N ≤ 16) (hl : 1 ≤ lm t ∧ lm t ≤ 11) (hz : ∀ i, i < B → 2 ≤ sz t i ∧ sz t i ≤ 8) (hk : ∀ i, i < 4 → 0 ≤ ky t i ∧ ky t i ≤ 11 ∧ 0 ≤ lk t i ∧ lk t i ≤ 3) (hs : ∀ j, j < N → 0 ≤ tn t j ∧ tn t j ≤ 3 ∧ -1 ≤ ht t j ∧ ht t j ≤ 9 ∧ 1 ≤ ln t j ∧ ln t j ≤ 8) (hf : bS t N ≤ bB t B) : Inv t := by
  have eB : nb t = B := by unfold nb; rw [h0, iI_toInt (by omega) (by omega)]; exact Int.toNat_natCast B
  have eN : ns t = N := by unfold ns; rw [h1, iI_toInt (by omega) (by omega)]; exact Int.toNat_natCast N
  unfold Inv
  rw [eB, eN]
  exact ⟨h0, hB, h1, hN, hl, hz, hk, hs, hf⟩
/-- numbers of a row that is the other's but for some places -/
theorem row_sz {t : Nat → Int32} {i : Nat} (h : t (5 + i) = s (5 + i)) : sz t i = sz s i := by unfold sz; rw [h]
theorem row_ky {t : Nat → Int32} {i : Nat} (h : t (11 + 2 * i) = s (11 + 2 * i)) : ky t i = ky s i := by unfold ky; rw [h]
theorem row_lk {t : Nat → Int32} {i : Nat} (h : t (12 + 2 * i) = s (12 + 2 * i)) : lk t i = lk s i := by unfold lk; rw [h]
theorem row_tn {t : Nat → Int32} {i : Nat} (h : t (19 + 3 * i) = s (19 + 3 * i)) : tn t i = tn s i := by unfold tn; rw [h]
theorem row_ht {t : Nat → Int32} {i : Nat} (h : t (20 + 3 * i) = s (20 + 3 * i)) : ht t i = ht s i := by unfold ht; rw [h]
theorem row_ln {t : Nat → Int32} {i : Nat} (h : t (21 + 3 * i) = s (21 + 3 * i)) : ln t i = ln s i := by unfold ln; rw [h]
theorem row_lm {t : Nat → Int32} (h : t 2 = s 2) : lm t = lm s := by unfold lm; rw [h]
theorem sz_at {t : Nat → Int32} {i : Nat} {v : Int} (h : t (5 + i) = iI v) (hv : R32 v) : sz t i = v := by unfold sz; rw [h]; exact iI_toInt hv.1 hv.2
theorem ky_at {t : Nat → Int32} {i : Nat} {v : Int} (h : t (11 + 2 * i) = iI v) (hv : R32 v) : ky t i = v := by unfold ky; rw [h]; exact iI_toInt hv.1 hv.2
theorem lk_at {t : Nat → Int32} {i : Nat} {v : Int} (h : t (12 + 2 * i) = iI v) (hv : R32 v) : lk t i = v := by unfold lk; rw [h]; exact iI_toInt hv.1 hv.2
theorem tn_at {t : Nat → Int32} {i : Nat} {v : Int} (h : t (19 + 3 * i) = iI v) (hv : R32 v) : tn t i = v := by unfold tn; rw [h]; exact iI_toInt hv.1 hv.2
theorem ht_at {t : Nat → Int32} {i : Nat} {v : Int} (h : t (20 + 3 * i) = iI v) (hv : R32 v) : ht t i = v := by unfold ht; rw [h]; exact iI_toInt hv.1 hv.2
theorem ln_at {t : Nat → Int32} {i : Nat} {v : Int} (h : t (21 + 3 * i) = iI v) (hv : R32 v) : ln t i = v := by unfold ln; rw [h]; exact iI_toInt hv.1 hv.2
theorem lm_at {t : Nat → Int32} {v : Int} (h : t 2 = iI v) (hv : R32 v) : lm t = v := by unfold lm; rw [h]; exact iI_toInt hv.1 hv.2
theorem R32_m {w : Int} (h : -1 ≤ w ∧ w ≤ 100) : R32 w := by unfold R32; omega
theorem Inv0 (hI : Inv s) {a : Int} (h1 : 2 ≤ a ∧ a ≤ 8) (h2 : nb s < 6) : Inv (upd (upd s (5 + nb s) (iI a)) 0 (iI ((nb s + 1 : Nat) : Int))) := by
  generalize ht0 : upd (upd s (5 + nb s) (iI a)) 0 (iI ((nb s + 1 : Nat) : Int)) = t
  have q : ∀ i, i ≠ 0 → i ≠ 5 + nb s → t i = s i := fun i h3 h4 => by rw [← ht0, upd_ne _ _ h3, upd_ne _ _ h4]
  have q0 : t 0 = iI ((nb s + 1 : Nat) : Int) := by rw [← ht0, upd_at]
  have q1 : t (5 + nb s) = iI a := by rw [← ht0, upd_ne _ _ (by omega), upd_at]
  have z1 : sz t (nb s) = a := sz_at q1 (R32_k (by omega))
  refine Inv_of (nb s + 1) (ns s) q0 (by omega) (by rw [q 1 (by omega) (by omega)]; exact hI.s1) hI.ns16 (by rw [row_lm (q 2 (by omega) (by omega))]; exact hI.2.2.2.2.1) (fun i hi => ?_) (fun i hi => ?_) (fun j hj => ?_) ?_
  · by_cases e : i = nb s
    · rw [e, z1]; omega
    · rw [row_sz (q _ (by omega) (by omega))]; exact hI.sz (by omega)
  · rw [row_ky (q _ (by omega) (by omega)), row_lk (q _ (by omega) (by omega))]; exact hI.ky hi
  · rw [row_tn (q _ (by omega) (by omega)), row_ht (q _ (by omega) (by omega)), row_ln (q _ (by omega) (by omega))]; exact hI.sd hj
  · have a1 : bS t (ns s) = bS s (ns s) := sm_ext fun i _ => row_ln (q _ (by omega) (by omega))
    have a2 : bB t (nb s) = bB s (nb s) := sm_ext fun i hi => row_sz (q _ (by omega) (by omega))
    have a3 := hI.full
    rw [a1, bB_1, a2, z1]
    omega
theorem Inv1 (hI : Inv s) {a b : Int} (h1 : 0 ≤ a ∧ a ≤ 3) (h2 : 0 ≤ b ∧ b ≤ 11) : Inv (upd s (11 + 2 * a.toNat) (iI b)) := by
  generalize ht0 : upd s (11 + 2 * a.toNat) (iI b) = t
  have q : ∀ i, i ≠ 11 + 2 * a.toNat → t i = s i := fun i h3 => by rw [← ht0, upd_ne _ _ h3]
  have q1 : t (11 + 2 * a.toNat) = iI b := by rw [← ht0, upd_at]
  refine Inv_of (nb s) (ns s) (by rw [q 0 (by omega)]; exact hI.b0) hI.nb6 (by rw [q 1 (by omega)]; exact hI.s1) hI.ns16 (by rw [row_lm (q 2 (by omega))]; exact hI.2.2.2.2.1) (fun i hi => ?_) (fun i hi => ?_) (fun j hj => ?_) ?_
  · have := hI.nb6
    rw [row_sz (q _ (by omega))]; exact hI.sz (by omega)
  · rw [row_lk (q _ (by omega))]
    have := hI.ky hi
    by_cases e : i = a.toNat
    · rw [e, ky_at q1 (R32_k (by omega)), ← e]; omega
    · rw [row_ky (q _ (by omega))]; exact hI.ky hi
  · rw [row_tn (q _ (by omega)), row_ht (q _ (by omega)), row_ln (q _ (by omega))]; exact hI.sd hj
  · have a1 : bS t (ns s) = bS s (ns s) := sm_ext fun i _ => row_ln (q _ (by omega))
    have a2 : bB t (nb s) = bB s (nb s) := sm_ext fun i hi => row_sz (q _ (by have := hI.nb6; omega))
    rw [a1, a2]
    exact hI.full
theorem Inv2 (hI : Inv s) {a b : Int} (h1 : 0 ≤ a ∧ a ≤ 3) (h2 : 0 ≤ b ∧ b ≤ 3) : Inv (upd s (12 + 2 * a.toNat) (iI b)) := by
  generalize ht0 : upd s (12 + 2 * a.toNat) (iI b) = t
  have q : ∀ i, i ≠ 12 + 2 * a.toNat → t i = s i := fun i h3 => by rw [← ht0, upd_ne _ _ h3]
  have q1 : t (12 + 2 * a.toNat) = iI b := by rw [← ht0, upd_at]
  refine Inv_of (nb s) (ns s) (by rw [q 0 (by omega)]; exact hI.b0) hI.nb6 (by rw [q 1 (by omega)]; exact hI.s1) hI.ns16 (by rw [row_lm (q 2 (by omega))]; exact hI.2.2.2.2.1) (fun i hi => ?_) (fun i hi => ?_) (fun j hj => ?_) ?_
  · have := hI.nb6
    rw [row_sz (q _ (by omega))]; exact hI.sz (by omega)
  · rw [row_ky (q _ (by omega))]
    have := hI.ky hi
    by_cases e : i = a.toNat
    · rw [e, lk_at q1 (R32_k (by omega)), ← e]; omega
    · rw [row_lk (q _ (by omega))]; exact hI.ky hi
  · rw [row_tn (q _ (by omega)), row_ht (q _ (by omega)), row_ln (q _ (by omega))]; exact hI.sd hj
  · have a1 : bS t (ns s) = bS s (ns s) := sm_ext fun i _ => row_ln (q _ (by omega))
    have a2 : bB t (nb s) = bB s (nb s) := sm_ext fun i hi => row_sz (q _ (by have := hI.nb6; omega))
    rw [a1, a2]
    exact hI.full
theorem Inv3 (hI : Inv s) {a b c : Int} (h1 : 0 ≤ a ∧ a ≤ 3) (h2 : -1 ≤ b ∧ b ≤ 9) (h3 : 1 ≤ c ∧ c ≤ 8) (h4 : ns s < 16) (h5 : c ≤ fre s) : Inv (st1 s a b c) := by
  unfold fre at h5
  have q : ∀ i, i ≠ 19 + 3 * ns s → i ≠ 20 + 3 * ns s → i ≠ 21 + 3 * ns s → i ≠ 1 → i ≠ 3 → st1 s a b c i = s i := fun i e1 e2 e3 e4 e5 => by
    unfold st1
    rw [upd_ne _ _ e5, upd_ne _ _ e4, upd_ne _ _ e3, upd_ne _ _ e2, upd_ne _ _ e1]
  have q1 : st1 s a b c 1 = iI ((ns s + 1 : Nat) : Int) := by unfold st1; rw [upd_ne _ _ (by omega), upd_at]
  have q2 : st1 s a b c (19 + 3 * ns s) = iI a := by
    unfold st1
    rw [upd_ne _ _ (by omega), upd_ne _ _ (by omega), upd_ne _ _ (by omega), upd_ne _ _ (by omega), upd_at]
  have q3 : st1 s a b c (20 + 3 * ns s) = iI b := by
    unfold st1
    rw [upd_ne _ _ (by omega), upd_ne _ _ (by omega), upd_ne _ _ (by omega), upd_at]
  have q4 : st1 s a b c (21 + 3 * ns s) = iI c := by
    unfold st1
    rw [upd_ne _ _ (by omega), upd_ne _ _ (by omega), upd_at]
  generalize st1 s a b c = t at q q1 q2 q3 q4 ⊢
  have h6 := hI.nb6
  refine Inv_of (nb s) (ns s + 1) (by rw [q 0 (by omega) (by omega) (by omega) (by omega) (by omega)]; exact hI.b0) hI.nb6 q1 (by omega) (by rw [row_lm (q 2 (by omega) (by omega) (by omega) (by omega) (by omega))]; exact hI.2.2.2.2.1) (fun i hi => ?_) (fun i hi => ?_) (fun j hj => ?_) ?_
  · rw [row_sz (q _ (by omega) (by omega) (by omega) (by omega) (by omega))]; exact hI.sz (by omega)
  · rw [row_ky (q _ (by omega) (by omega) (by omega) (by omega) (by omega)), row_lk (q _ (by omega) (by omega) (by omega) (by omega) (by omega))]; exact hI.ky hi
  · by_cases e : j = ns s
    · rw [e, tn_at q2 (R32_k (by omega)), ht_at q3 (R32_m (by omega)), ln_at q4 (R32_k (by omega))]; omega
    · rw [row_tn (q _ (by omega) (by omega) (by omega) (by omega) (by omega)), row_ht (q _ (by omega) (by omega) (by omega) (by omega) (by omega)), row_ln (q _ (by omega) (by omega) (by omega) (by omega) (by omega))]
      exact hI.sd (by omega)
  · have a1 : bS t (ns s) = bS s (ns s) := sm_ext fun i hi => row_ln (q _ (by omega) (by omega) (by omega) (by omega) (by omega))
    have a2 : bB t (nb s) = bB s (nb s) := sm_ext fun i hi => row_sz (q _ (by omega) (by omega) (by omega) (by omega) (by omega))
    rw [bS_1, a1, a2, ln_at q4 (R32_k (by omega))]
    omega
theorem Inv5 (hI : Inv s) (h1 : 0 < ns s) (x : Int32) : Inv (upd (upd s 1 (iI ((ns s - 1 : Nat) : Int))) 4 x) := by
  generalize ht0 : upd (upd s 1 (iI ((ns s - 1 : Nat) : Int))) 4 x = t
  have q : ∀ i, i ≠ 1 → i ≠ 4 → t i = s i := fun i h3 h4 => by rw [← ht0, upd_ne _ _ h4, upd_ne _ _ h3]
  have q1 : t 1 = iI ((ns s - 1 : Nat) : Int) := by rw [← ht0, upd_ne _ _ (by omega), upd_at]
  have h16 := hI.ns16
  refine Inv_of (nb s) (ns s - 1) (by rw [q 0 (by omega) (by omega)]; exact hI.b0) hI.nb6 q1 (by omega) (by rw [row_lm (q 2 (by omega) (by omega))]; exact hI.2.2.2.2.1) (fun i hi => ?_) (fun i hi => ?_) (fun j hj => ?_) ?_
  · rw [row_sz (q _ (by omega) (by omega))]; exact hI.sz (by omega)
  · rw [row_ky (q _ (by omega) (by omega)), row_lk (q _ (by omega) (by omega))]; exact hI.ky hi
  · rw [row_tn (q _ (by omega) (by omega)), row_ht (q _ (by omega) (by omega)), row_ln (q _ (by omega) (by omega))]; exact hI.sd (by omega)
  · have a1 : bS t (ns s - 1) = bS s (ns s - 1) := sm_ext fun i _ => row_ln (q _ (by omega) (by omega))
    have a2 : bB t (nb s) = bB s (nb s) := sm_ext fun i hi => row_sz (q _ (by omega) (by omega))
    have a3 := hI.full
    have a4 := hI.bSm (a := ns s - 1) (b := ns s) (by omega) (by omega)
    rw [a1, a2]
    omega
theorem Inv6 (hI : Inv s) {a : Int} (h1 : 1 ≤ a ∧ a ≤ 11) : Inv (upd s 2 (iI a)) := by
  generalize ht0 : upd s 2 (iI a) = t
  have q : ∀ i, i ≠ 2 → t i = s i := fun i h3 => by rw [← ht0, upd_ne _ _ h3]
  have q1 : t 2 = iI a := by rw [← ht0, upd_at]
  refine Inv_of (nb s) (ns s) (by rw [q 0 (by omega)]; exact hI.b0) hI.nb6 (by rw [q 1 (by omega)]; exact hI.s1) hI.ns16 (by rw [lm_at q1 (R32_k (by omega))]; exact h1) (fun i hi => ?_) (fun i hi => ?_) (fun j hj => ?_) ?_
  · rw [row_sz (q _ (by omega))]; exact hI.sz (by omega)
  · rw [row_ky (q _ (by omega)), row_lk (q _ (by omega))]; exact hI.ky hi
  · rw [row_tn (q _ (by omega)), row_ht (q _ (by omega)), row_ln (q _ (by omega))]; exact hI.sd hj
  · have a1 : bS t (ns s) = bS s (ns s) := sm_ext fun i _ => row_ln (q _ (by omega))
    have a2 : bB t (nb s) = bB s (nb s) := sm_ext fun i hi => row_sz (q _ (by omega))
    rw [a1, a2]
    exact hI.full
theorem Inv7 (hI : Inv s) {a b : Int} (h1 : 0 ≤ a ∧ a < ns s) (h2 : 0 ≤ b ∧ b ≤ 9) : Inv (upd s (20 + 3 * a.toNat) (iI b)) := by
  generalize ht0 : upd s (20 + 3 * a.toNat) (iI b) = t
  have q : ∀ i, i ≠ 20 + 3 * a.toNat → t i = s i := fun i h3 => by rw [← ht0, upd_ne _ _ h3]
  have q1 : t (20 + 3 * a.toNat) = iI b := by rw [← ht0, upd_at]
  have h6 := hI.nb6
  refine Inv_of (nb s) (ns s) (by rw [q 0 (by omega)]; exact hI.b0) hI.nb6 (by rw [q 1 (by omega)]; exact hI.s1) hI.ns16 (by rw [row_lm (q 2 (by omega))]; exact hI.2.2.2.2.1) (fun i hi => ?_) (fun i hi => ?_) (fun j hj => ?_) ?_
  · rw [row_sz (q _ (by omega))]; exact hI.sz (by omega)
  · rw [row_ky (q _ (by omega)), row_lk (q _ (by omega))]; exact hI.ky hi
  · rw [row_tn (q _ (by omega)), row_ln (q _ (by omega))]
    have := hI.sd hj
    by_cases e : j = a.toNat
    · have e1 : ht t j = b := by rw [e]; exact ht_at q1 (R32_k (by omega))
      rw [e1]; omega
    · rw [row_ht (q _ (by omega))]; exact hI.sd hj
  · have a1 : bS t (ns s) = bS s (ns s) := sm_ext fun i _ => row_ln (q _ (by omega))
    have a2 : bB t (nb s) = bB s (nb s) := sm_ext fun i hi => row_sz (q _ (by omega))
    rw [a1, a2]
    exact hI.full
theorem nw0 (s : Nat → Int32) (a b c : Int) : nw s 0 a b c = upd (upd s (5 + nb s) (iI a)) 0 (iI ((nb s + 1 : Nat) : Int)) := by
  unfold nw
  rw [if_pos rfl]
theorem nw1 (s : Nat → Int32) (a b c : Int) : nw s 1 a b c = upd s (11 + 2 * a.toNat) (iI b) := by
  unfold nw
  rw [if_neg (by decide), if_pos rfl]
theorem nw2 (s : Nat → Int32) (a b c : Int) : nw s 2 a b c = upd s (12 + 2 * a.toNat) (iI b) := by
  unfold nw
  rw [if_neg (by decide), if_neg (by decide), if_pos rfl]
theorem nw3 (s : Nat → Int32) (a b c : Int) : nw s 3 a b c = st1 s a b c := by
  unfold nw
  rw [if_neg (by decide), if_neg (by decide), if_neg (by decide), if_pos rfl]
theorem nw4 (s : Nat → Int32) (a b c : Int) : nw s 4 a b c = st1 s a (-1) (lk s a.toNat) := by
  unfold nw
  rw [if_neg (by decide), if_neg (by decide), if_neg (by decide), if_neg (by decide), if_pos rfl]
theorem nw5 (s : Nat → Int32) (a b c : Int) : nw s 5 a b c = upd (upd s 1 (iI ((ns s - 1 : Nat) : Int))) 4 (s 4 + iI 1) := by
  unfold nw
  rw [if_neg (by decide), if_neg (by decide), if_neg (by decide), if_neg (by decide), if_neg (by decide), if_pos rfl]
theorem nw6 (s : Nat → Int32) (a b c : Int) : nw s 6 a b c = upd s 2 (iI a) := by
  unfold nw
  rw [if_neg (by decide), if_neg (by decide), if_neg (by decide), if_neg (by decide), if_neg (by decide), if_neg (by decide), if_pos rfl]
theorem nw7 (s : Nat → Int32) (a b c : Int) : nw s 7 a b c = upd s (20 + 3 * a.toNat) (iI b) := by
  unfold nw
  rw [if_neg (by decide), if_neg (by decide), if_neg (by decide), if_neg (by decide), if_neg (by decide), if_neg (by decide), if_neg (by decide)]
theorem Inv_nw (hI : Inv s) {o : Nat} {a b c : Int} (ho : o < 8) (h : (vd s o a b c).1 = 0) : Inv (nw s o a b c) := by
  obtain rfl | rfl | rfl | rfl | rfl | rfl | rfl | rfl : o = 0 ∨ o = 1 ∨ o = 2 ∨ o = 3 ∨ o = 4 ∨ o = 5 ∨ o = 6 ∨ o = 7 := by omega
  · rw [nw0]; exact Inv0 hI (ok0 h).1 (ok0 h).2
  · have e : vd s 1 a b c = vt a b (ky s a.toNat) 11 := rfl
    rw [e] at h
    rw [nw1]; exact Inv1 hI (vt_ok h).1 (vt_ok h).2.1
  · have e : vd s 2 a b c = vt a b (lk s a.toNat) 3 := rfl
    rw [e] at h
    rw [nw2]; exact Inv2 hI (vt_ok h).1 (vt_ok h).2.1
  · obtain ⟨h1, h2, h3, h4, h5⟩ := ok3 h
    rw [nw3]; exact Inv3 hI h1 (by omega) h3 h4 h5
  · obtain ⟨h1, h2, h4, h5⟩ := ok4 h
    have hk := ky_r hI h1
    rw [nw4]; exact Inv3 hI h1 (by omega) (by omega) h4 h5
  · rw [nw5]; exact Inv5 hI (ok5 h) _
  · rw [nw6]; exact Inv6 hI (ok6 h)
  · rw [nw7]; exact Inv7 hI (ok7 h).1 (ok7 h).2.1
end PO
