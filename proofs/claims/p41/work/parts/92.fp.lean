/-! helpers of changes, lines: what they answer and leave -/
section FP
variable {G : GT} {s : Nat → Int32} {L : List (Nat → Int32)}
theorem an_nn (hI : Inv s) {o : Nat} {a b c : Int} (ho : o < 8) (h : (vd s o a b c).1 = 0) : 0 ≤ an s o a ∧ an s o a ≤ 100 := by
  have h16 := hI.ns16
  have h6 := hI.nb6
  have hlm := hI.2.2.2.2.1
  obtain rfl | rfl | rfl | rfl | rfl | rfl | rfl | rfl : o = 0 ∨ o = 1 ∨ o = 2 ∨ o = 3 ∨ o = 4 ∨ o = 5 ∨ o = 6 ∨ o = 7 := by omega
  · have e : an s 0 a = (nb s : Int) := rfl
    omega
  · have e : an s 1 a = ky s a.toNat := rfl
    have := ky_r hI (vt_ok h).1
    omega
  · have e : an s 2 a = lk s a.toNat := rfl
    have := ky_r hI (vt_ok h).1
    omega
  · have e : an s 3 a = (ns s : Int) := rfl
    omega
  · have e : an s 4 a = (ns s : Int) := rfl
    omega
  · have e : an s 5 a = ln s (ns s - 1) := rfl
    have h1 := ok5 h
    have := hI.sd (j := ns s - 1) (by omega)
    omega
  · have e : an s 6 a = lm s := rfl
    omega
  · have e : an s 7 a = ht s a.toNat := rfl
    have h1 := ok7 h
    have := hI.sd (j := a.toNat) (by omega)
    omega
theorem Ch_bar (hC : Cs G s L) (p : Int32) : Ch G s L (fw_bar G p) := by
  obtain ⟨px, rfl, hp⟩ := exI p
  obtain ⟨v, x, y, e, hal⟩ := vd_al s (o := 0) (by omega) px 0 0
  have e1 : (vd s 0 px 0 0).1 = v := by rw [e]
  rcases ch_ok hC (o := 0) (by omega) hp (R32_k (w := 0) (by omega)) (R32_k (w := 0) (by omega)) with ⟨h1, G', h2, h3⟩ | ⟨h1, h2⟩ | ⟨h1, h2⟩ | ⟨h1, h2⟩
  · have h4 := an_nn hC.2.1 (o := 0) (by omega) h1
    refine ⟨iI (an s 0 px), G', by
      show catT _ (bindX (f_X9_change G 0 (iI px) (iI 0) (iI 0)) _) = _
      rw [h2]
      rfl
      , Or.inl ⟨by rw [pl0, iI_lt (by omega) (by omega) (by omega) (by omega)]; omega, _, h3⟩⟩
  · unfold alw at hal; omega
  · refine ⟨-1, G, by
      show catT _ (bindX (f_X9_change G 0 (iI px) (iI 0) (iI 0)) _) = _
      rw [h2]
      rfl
      , Or.inr ⟨by decide, hC⟩⟩
  · refine ⟨-2, jd G _ _, by
      show catT _ (bindX (f_X9_change G 0 (iI px) (iI 0) (iI 0)) _) = _
      rw [h2]
      rfl
      , Or.inr ⟨by decide, Cs_jd hC _ _⟩⟩
theorem Ch_key (hC : Cs G s L) (p q : Int32) : Ch G s L (fw_key G p q) := by
  obtain ⟨px, rfl, hp⟩ := exI p
  obtain ⟨qx, rfl, hq⟩ := exI q
  obtain ⟨v, x, y, e, hal⟩ := vd_al s (o := 1) (by omega) px qx 0
  have e1 : (vd s 1 px qx 0).1 = v := by rw [e]
  rcases ch_ok hC (o := 1) (by omega) hp hq (R32_k (w := 0) (by omega)) with ⟨h1, G', h2, h3⟩ | ⟨h1, h2⟩ | ⟨h1, h2⟩ | ⟨h1, h2⟩
  · have h4 := an_nn hC.2.1 (o := 1) (by omega) h1
    refine ⟨iI (an s 1 px), G', by
      show catT _ (bindX (f_X9_change G 1 (iI px) (iI qx) (iI 0)) _) = _
      rw [h2]
      rfl
      , Or.inl ⟨by rw [pl0, iI_lt (by omega) (by omega) (by omega) (by omega)]; omega, _, h3⟩⟩
  · refine ⟨-1, G, by
      show catT _ (bindX (f_X9_change G 1 (iI px) (iI qx) (iI 0)) _) = _
      rw [h2]
      rfl
      , Or.inr ⟨by decide, hC⟩⟩
  · refine ⟨-2, G, by
      show catT _ (bindX (f_X9_change G 1 (iI px) (iI qx) (iI 0)) _) = _
      rw [h2]
      rfl
      , Or.inr ⟨by decide, hC⟩⟩
  · refine ⟨-3, jd G _ _, by
      show catT _ (bindX (f_X9_change G 1 (iI px) (iI qx) (iI 0)) _) = _
      rw [h2]
      rfl
      , Or.inr ⟨by decide, Cs_jd hC _ _⟩⟩
theorem Ch_leak (hC : Cs G s L) (p q : Int32) : Ch G s L (fw_leak G p q) := by
  obtain ⟨px, rfl, hp⟩ := exI p
  obtain ⟨qx, rfl, hq⟩ := exI q
  obtain ⟨v, x, y, e, hal⟩ := vd_al s (o := 2) (by omega) px qx 0
  have e1 : (vd s 2 px qx 0).1 = v := by rw [e]
  rcases ch_ok hC (o := 2) (by omega) hp hq (R32_k (w := 0) (by omega)) with ⟨h1, G', h2, h3⟩ | ⟨h1, h2⟩ | ⟨h1, h2⟩ | ⟨h1, h2⟩
  · have h4 := an_nn hC.2.1 (o := 2) (by omega) h1
    refine ⟨iI (an s 2 px), G', by
      show catT _ (bindX (f_X9_change G 2 (iI px) (iI qx) (iI 0)) _) = _
      rw [h2]
      rfl
      , Or.inl ⟨by rw [pl0, iI_lt (by omega) (by omega) (by omega) (by omega)]; omega, _, h3⟩⟩
  · refine ⟨-1, G, by
      show catT _ (bindX (f_X9_change G 2 (iI px) (iI qx) (iI 0)) _) = _
      rw [h2]
      rfl
      , Or.inr ⟨by decide, hC⟩⟩
  · refine ⟨-2, G, by
      show catT _ (bindX (f_X9_change G 2 (iI px) (iI qx) (iI 0)) _) = _
      rw [h2]
      rfl
      , Or.inr ⟨by decide, hC⟩⟩
  · refine ⟨-3, jd G _ _, by
      show catT _ (bindX (f_X9_change G 2 (iI px) (iI qx) (iI 0)) _) = _
      rw [h2]
      rfl
      , Or.inr ⟨by decide, Cs_jd hC _ _⟩⟩
theorem Ch_drop (hC : Cs G s L) (p q r : Int32) : Ch G s L (fw_drop G p q r) := by
  obtain ⟨px, rfl, hp⟩ := exI p
  obtain ⟨qx, rfl, hq⟩ := exI q
  obtain ⟨rx, rfl, hr⟩ := exI r
  obtain ⟨v, x, y, e, hal⟩ := vd_al s (o := 3) (by omega) px qx rx
  have e1 : (vd s 3 px qx rx).1 = v := by rw [e]
  rcases ch_ok hC (o := 3) (by omega) hp hq hr with ⟨h1, G', h2, h3⟩ | ⟨h1, h2⟩ | ⟨h1, h2⟩ | ⟨h1, h2⟩
  · have h4 := an_nn hC.2.1 (o := 3) (by omega) h1
    refine ⟨iI (an s 3 px), G', by
      show catT _ (bindX (f_X9_change G 3 (iI px) (iI qx) (iI rx)) _) = _
      rw [h2]
      rfl
      , Or.inl ⟨by rw [pl0, iI_lt (by omega) (by omega) (by omega) (by omega)]; omega, _, h3⟩⟩
  · refine ⟨-1, G, by
      show catT _ (bindX (f_X9_change G 3 (iI px) (iI qx) (iI rx)) _) = _
      rw [h2]
      rfl
      , Or.inr ⟨by decide, hC⟩⟩
  · refine ⟨-2, G, by
      show catT _ (bindX (f_X9_change G 3 (iI px) (iI qx) (iI rx)) _) = _
      rw [h2]
      rfl
      , Or.inr ⟨by decide, hC⟩⟩
  · refine ⟨-3, jd G _ _, by
      show catT _ (bindX (f_X9_change G 3 (iI px) (iI qx) (iI rx)) _) = _
      rw [h2]
      rfl
      , Or.inr ⟨by decide, Cs_jd hC _ _⟩⟩
theorem Ch_rest (hC : Cs G s L) (p : Int32) : Ch G s L (fw_rest G p) := by
  obtain ⟨px, rfl, hp⟩ := exI p
  obtain ⟨v, x, y, e, hal⟩ := vd_al s (o := 4) (by omega) px 0 0
  have e1 : (vd s 4 px 0 0).1 = v := by rw [e]
  rcases ch_ok hC (o := 4) (by omega) hp (R32_k (w := 0) (by omega)) (R32_k (w := 0) (by omega)) with ⟨h1, G', h2, h3⟩ | ⟨h1, h2⟩ | ⟨h1, h2⟩ | ⟨h1, h2⟩
  · have h4 := an_nn hC.2.1 (o := 4) (by omega) h1
    refine ⟨iI (an s 4 px), G', by
      show catT _ (bindX (f_X9_change G 4 (iI px) (iI 0) (iI 0)) _) = _
      rw [h2]
      rfl
      , Or.inl ⟨by rw [pl0, iI_lt (by omega) (by omega) (by omega) (by omega)]; omega, _, h3⟩⟩
  · refine ⟨-1, G, by
      show catT _ (bindX (f_X9_change G 4 (iI px) (iI 0) (iI 0)) _) = _
      rw [h2]
      rfl
      , Or.inr ⟨by decide, hC⟩⟩
  · unfold alw at hal; omega
  · refine ⟨-3, jd G _ _, by
      show catT _ (bindX (f_X9_change G 4 (iI px) (iI 0) (iI 0)) _) = _
      rw [h2]
      rfl
      , Or.inr ⟨by decide, Cs_jd hC _ _⟩⟩
theorem Ch_lift (hC : Cs G s L) : Ch G s L (fw_lift G) := by
  obtain ⟨v, x, y, e, hal⟩ := vd_al s (o := 5) (by omega) 0 0 0
  have e1 : (vd s 5 0 0 0).1 = v := by rw [e]
  rcases ch_ok hC (o := 5) (by omega) (R32_k (w := 0) (by omega)) (R32_k (w := 0) (by omega)) (R32_k (w := 0) (by omega)) with ⟨h1, G', h2, h3⟩ | ⟨h1, h2⟩ | ⟨h1, h2⟩ | ⟨h1, h2⟩
  · have h4 := an_nn hC.2.1 (o := 5) (by omega) h1
    refine ⟨iI (an s 5 0), G', by
      show catT _ (bindX (f_X9_change G 5 (iI 0) (iI 0) (iI 0)) _) = _
      rw [h2]
      rfl
      , Or.inl ⟨by rw [pl0, iI_lt (by omega) (by omega) (by omega) (by omega)]; omega, _, h3⟩⟩
  · unfold alw at hal; omega
  · unfold alw at hal; omega
  · refine ⟨-3, jd G _ _, by
      show catT _ (bindX (f_X9_change G 5 (iI 0) (iI 0) (iI 0)) _) = _
      rw [h2]
      rfl
      , Or.inr ⟨by decide, Cs_jd hC _ _⟩⟩
theorem Ch_limit (hC : Cs G s L) (p : Int32) : Ch G s L (fw_limit G p) := by
  obtain ⟨px, rfl, hp⟩ := exI p
  obtain ⟨v, x, y, e, hal⟩ := vd_al s (o := 6) (by omega) px 0 0
  have e1 : (vd s 6 px 0 0).1 = v := by rw [e]
  rcases ch_ok hC (o := 6) (by omega) hp (R32_k (w := 0) (by omega)) (R32_k (w := 0) (by omega)) with ⟨h1, G', h2, h3⟩ | ⟨h1, h2⟩ | ⟨h1, h2⟩ | ⟨h1, h2⟩
  · have h4 := an_nn hC.2.1 (o := 6) (by omega) h1
    refine ⟨iI (an s 6 px), G', by
      show catT _ (bindX (f_X9_change G 6 (iI px) (iI 0) (iI 0)) _) = _
      rw [h2]
      rfl
      , Or.inl ⟨by rw [pl0, iI_lt (by omega) (by omega) (by omega) (by omega)]; omega, _, h3⟩⟩
  · unfold alw at hal; omega
  · refine ⟨-2, G, by
      show catT _ (bindX (f_X9_change G 6 (iI px) (iI 0) (iI 0)) _) = _
      rw [h2]
      rfl
      , Or.inr ⟨by decide, hC⟩⟩
  · refine ⟨-3, jd G _ _, by
      show catT _ (bindX (f_X9_change G 6 (iI px) (iI 0) (iI 0)) _) = _
      rw [h2]
      rfl
      , Or.inr ⟨by decide, Cs_jd hC _ _⟩⟩
theorem Ch_tune (hC : Cs G s L) (p q : Int32) : Ch G s L (fw_tune G p q) := by
  obtain ⟨px, rfl, hp⟩ := exI p
  obtain ⟨qx, rfl, hq⟩ := exI q
  obtain ⟨v, x, y, e, hal⟩ := vd_al s (o := 7) (by omega) px qx 0
  have e1 : (vd s 7 px qx 0).1 = v := by rw [e]
  rcases ch_ok hC (o := 7) (by omega) hp hq (R32_k (w := 0) (by omega)) with ⟨h1, G', h2, h3⟩ | ⟨h1, h2⟩ | ⟨h1, h2⟩ | ⟨h1, h2⟩
  · have h4 := an_nn hC.2.1 (o := 7) (by omega) h1
    refine ⟨iI (an s 7 px), G', by
      show catT _ (bindX (f_X9_change G 7 (iI px) (iI qx) (iI 0)) _) = _
      rw [h2]
      rfl
      , Or.inl ⟨by rw [pl0, iI_lt (by omega) (by omega) (by omega) (by omega)]; omega, _, h3⟩⟩
  · refine ⟨-1, G, by
      show catT _ (bindX (f_X9_change G 7 (iI px) (iI qx) (iI 0)) _) = _
      rw [h2]
      rfl
      , Or.inr ⟨by decide, hC⟩⟩
  · refine ⟨-2, G, by
      show catT _ (bindX (f_X9_change G 7 (iI px) (iI qx) (iI 0)) _) = _
      rw [h2]
      rfl
      , Or.inr ⟨by decide, hC⟩⟩
  · refine ⟨-3, jd G _ _, by
      show catT _ (bindX (f_X9_change G 7 (iI px) (iI qx) (iI 0)) _) = _
      rw [h2]
      rfl
      , Or.inr ⟨by decide, Cs_jd hC _ _⟩⟩
theorem L_app (hC : Cs G s L) (c : Int32) : ∃ v G', fw_append G c = some (v, G') ∧ Cs G' s L := by
  obtain ⟨hP, hI, hH, n, h60, e1, e3⟩ := id hC
  by_cases h : n = 60
  · subst h
    refine ⟨-14, G, ?_, hC⟩
    have e : f_X9_append G c = some (.inl 4, G) := by
      unfold f_X9_append f_X8_isFull
      rw [e1]
      rfl
    unfold fw_append
    rw [e]
    rfl
  · have c1 : f_X8_isFull G = some (iI 0) := by
      unfold f_X8_isFull
      rw [e1, if_pos (by rw [lit_nI, iI_lt (by omega) (by omega) (by omega) (by omega)]; omega)]
      rfl
    have ea : iI (n : Int) + 1 = iI ((n + 1 : Nat) : Int) := by rw [pl1, iI_add]; rfl
    have hin : inb (iI (n : Int)) 60 := by
      rw [iI_inb (by omega) (by omega) (by omega)]; omega
    have hcx : f_X9_append G c = some (.inr (iI ((n + 1 : Nat) : Int)), upR (upR G 85 (upd (G 85) n (vp_nar .char c))) 84 (upd (G 84) 3 (iI ((n + 1 : Nat) : Int)))) := by
      unfold f_X9_append
      rw [c1, Option.bind_some, if_pos p00]
      unfold f_X9_append_15 f_X8_add f_X8_add_39
      rw [if_neg (by decide), e1, if_neg (by rw [pl0, iI_lt (by omega) (by omega) (by omega) (by omega)]; omega), if_neg (by rw [lit_nI, iI_le (by omega) (by omega) (by omega) (by omega)]; omega), if_pos hin, cln (by omega), Option.bind_some, Option.bind_some, upR_ne _ _ (show 84 ≠ 85 by decide), e1, ea, b2s, upR_at, upd_at]
    refine ⟨iI ((n + 1 : Nat) : Int), upR (upR G 85 (upd (G 85) n (vp_nar .char c))) 84 (upd (G 84) 3 (iI ((n + 1 : Nat) : Int))), by unfold fw_append; rw [hcx]; rfl, ?_⟩
    have g : ∀ i, i ≠ 84 → i ≠ 85 → upR (upR G 85 (upd (G 85) n (vp_nar .char c))) 84 (upd (G 84) 3 (iI ((n + 1 : Nat) : Int))) i = G i := fun i h1 h2 => by rw [upR_ne _ _ h1, upR_ne _ _ h2]
    refine ⟨Pr_frame (fun i h1 h2 => g i (by omega) (by omega)) hP, hI, Hg_frame hH (fun i h1 h2 => g i (by omega) (by omega)) (g 88 (by decide) (by decide)), n + 1, by omega, ?_, fun j hj => ?_⟩
    · rw [upR_at, upd_at]
    · rw [upR_ne _ _ (by decide), upR_at]
      by_cases hjn : j = n
      · rw [hjn, upd_at]
        exact nar_ok _
      · rw [upd_ne _ _ hjn]
        exact e3 j (by omega)
theorem Cs_wl (hC : Cs G s L) (l : List Int32) : Cs (wl G l) s L := Cs_frame hC (fun i hi => wl_i l (by omega) (by omega)) (wl_i l (by decide) (by decide)) (wl_i l (by decide) (by decide)) (wl_i l (by decide) (by decide))
/-- the line of a bar, of a tin -/
def lB (s : Nat → Int32) (b : Nat) : List Int32 := (lc s b (ns s) ++ [95]) ++ [dg (sz s b - sm (fun j => ov s j b) (ns s))]
def lT (s : Nat → Int32) (t : Nat) : List Int32 := nl (nl [] (ky s t) ++ [47]) (lk s t)
theorem r_line (hP : Pr G 0 s) (hI : Inv s) {b : Nat} (hb : b < nb s) : fw_line G (iI b) = some (iI (lB s b).length, wl G (lB s b)) := by
  have h6 := hI.nb6
  have hc0 := c_nb hP hI
  have c1 : f_X5_hasBar G (iI b) = some (iI 1) := by
    unfold f_X5_hasBar f_X9_isWithin
    (simp (disch := omega) only [pl0, pl1, pl2, pl3, pl4, pl5, pl6, pl7, pl8, pl9, pl10, pl11, pl12, pl16, pl19, lit_nI, iI_add, iI_sub, iI_mul, iI_neg, iI_le, iI_lt, iI_eq, iI_max, iI_min, Option.bind_some, Option.bind_eq_bind, if_true, if_false, hc0]; (repeat (first | rw [if_pos (by omega)] | rw [if_neg (by omega)])); (try simp (disch := omega) only [pl0, pl1, pl2, pl3, pl4, pl5, pl6, pl7, pl8, pl9, pl10, pl11, pl12, pl16, pl19, lit_nI, iI_add, iI_sub, iI_mul, iI_neg, iI_le, iI_lt, iI_eq, iI_max, iI_min, Option.bind_some, Option.bind_eq_bind, if_true, if_false]); (repeat (first | rw [if_pos (by omega)] | rw [if_neg (by omega)])); (try simp only []); (try simp (disch := omega) only [pl0, pl1, pl2, pl3, pl4, pl5, pl6, pl7, pl8, pl9, pl10, pl11, pl12, pl16, pl19, lit_nI, iI_add, iI_sub, iI_mul, iI_neg, iI_le, iI_lt, iI_eq, iI_max, iI_min, Option.bind_some, Option.bind_eq_bind, if_true, if_false]); (repeat (first | rw [if_pos (by omega)] | rw [if_neg (by omega)])); (try simp (disch := omega) only [pl0, pl1, pl2, pl3, pl4, pl5, pl6, pl7, pl8, pl9, pl10, pl11, pl12, pl16, pl19, lit_nI, iI_add, iI_sub, iI_mul, iI_neg, iI_le, iI_lt, iI_eq, iI_max, iI_min, Option.bind_some, Option.bind_eq_bind, if_true, if_false, hc0]); (repeat (first | rw [if_pos (by omega)] | rw [if_neg (by omega)])); (try simp only []); (try simp (disch := omega) only [pl0, pl1, pl2, pl3, pl4, pl5, pl6, pl7, pl8, pl9, pl10, pl11, pl12, pl16, pl19, lit_nI, iI_add, iI_sub, iI_mul, iI_neg, iI_le, iI_lt, iI_eq, iI_max, iI_min, Option.bind_some, Option.bind_eq_bind, if_true, if_false]); (repeat (first | rw [if_pos (by omega)] | rw [if_neg (by omega)])); (try simp (disch := omega) only [pl0, pl1, pl2, pl3, pl4, pl5, pl6, pl7, pl8, pl9, pl10, pl11, pl12, pl16, pl19, lit_nI, iI_add, iI_sub, iI_mul, iI_neg, iI_le, iI_lt, iI_eq, iI_max, iI_min, Option.bind_some, Option.bind_eq_bind, if_true, if_false, hc0]); (repeat (first | rw [if_pos (by omega)] | rw [if_neg (by omega)])); (try simp only []); (try simp (disch := omega) only [pl0, pl1, pl2, pl3, pl4, pl5, pl6, pl7, pl8, pl9, pl10, pl11, pl12, pl16, pl19, lit_nI, iI_add, iI_sub, iI_mul, iI_neg, iI_le, iI_lt, iI_eq, iI_max, iI_min, Option.bind_some, Option.bind_eq_bind, if_true, if_false]); (repeat (first | rw [if_pos (by omega)] | rw [if_neg (by omega)])); (try simp (disch := omega) only [pl0, pl1, pl2, pl3, pl4, pl5, pl6, pl7, pl8, pl9, pl10, pl11, pl12, pl16, pl19, lit_nI, iI_add, iI_sub, iI_mul, iI_neg, iI_le, iI_lt, iI_eq, iI_max, iI_min, Option.bind_some, Option.bind_eq_bind, if_true, if_false, hc0]); (repeat (first | rw [if_pos (by omega)] | rw [if_neg (by omega)])); (try simp only []); (try simp (disch := omega) only [pl0, pl1, pl2, pl3, pl4, pl5, pl6, pl7, pl8, pl9, pl10, pl11, pl12, pl16, pl19, lit_nI, iI_add, iI_sub, iI_mul, iI_neg, iI_le, iI_lt, iI_eq, iI_max, iI_min, Option.bind_some, Option.bind_eq_bind, if_true, if_false]); (repeat (first | rw [if_pos (by omega)] | rw [if_neg (by omega)])); (try simp (disch := omega) only [pl0, pl1, pl2, pl3, pl4, pl5, pl6, pl7, pl8, pl9, pl10, pl11, pl12, pl16, pl19, lit_nI, iI_add, iI_sub, iI_mul, iI_neg, iI_le, iI_lt, iI_eq, iI_max, iI_min, Option.bind_some, Option.bind_eq_bind, if_true, if_false, hc0]); (repeat (first | rw [if_pos (by omega)] | rw [if_neg (by omega)])); (try simp only []); (try simp (disch := omega) only [pl0, pl1, pl2, pl3, pl4, pl5, pl6, pl7, pl8, pl9, pl10, pl11, pl12, pl16, pl19, lit_nI, iI_add, iI_sub, iI_mul, iI_neg, iI_le, iI_lt, iI_eq, iI_max, iI_min, Option.bind_some, Option.bind_eq_bind, if_true, if_false]); (repeat (first | rw [if_pos (by omega)] | rw [if_neg (by omega)])); (try simp (disch := omega) only [pl0, pl1, pl2, pl3, pl4, pl5, pl6, pl7, pl8, pl9, pl10, pl11, pl12, pl16, pl19, lit_nI, iI_add, iI_sub, iI_mul, iI_neg, iI_le, iI_lt, iI_eq, iI_max, iI_min, Option.bind_some, Option.bind_eq_bind, if_true, if_false, hc0]); (repeat (first | rw [if_pos (by omega)] | rw [if_neg (by omega)])); (try rfl))
  have e : f_X9_line G (iI b) = some (.inr (iI (lB s b).length), wl G (lB s b)) := by
    unfold f_X9_line
    rw [c1, Option.bind_some, if_neg ne10, c_writeBar hP hI hb]
    rfl
  unfold fw_line
  rw [e]
  rfl
theorem r_linex (hP : Pr G 0 s) (hI : Inv s) : fw_line G (iI (nb s)) = some (iI (-11), G) := by
  have h6 := hI.nb6
  have hc0 := c_nb hP hI
  have c1 : f_X5_hasBar G (iI (nb s)) = some (iI 0) := by
    unfold f_X5_hasBar f_X9_isWithin
    (simp (disch := omega) only [pl0, pl1, pl2, pl3, pl4, pl5, pl6, pl7, pl8, pl9, pl10, pl11, pl12, pl16, pl19, lit_nI, iI_add, iI_sub, iI_mul, iI_neg, iI_le, iI_lt, iI_eq, iI_max, iI_min, Option.bind_some, Option.bind_eq_bind, if_true, if_false, hc0]; (repeat (first | rw [if_pos (by omega)] | rw [if_neg (by omega)])); (try simp (disch := omega) only [pl0, pl1, pl2, pl3, pl4, pl5, pl6, pl7, pl8, pl9, pl10, pl11, pl12, pl16, pl19, lit_nI, iI_add, iI_sub, iI_mul, iI_neg, iI_le, iI_lt, iI_eq, iI_max, iI_min, Option.bind_some, Option.bind_eq_bind, if_true, if_false]); (repeat (first | rw [if_pos (by omega)] | rw [if_neg (by omega)])); (try simp only []); (try simp (disch := omega) only [pl0, pl1, pl2, pl3, pl4, pl5, pl6, pl7, pl8, pl9, pl10, pl11, pl12, pl16, pl19, lit_nI, iI_add, iI_sub, iI_mul, iI_neg, iI_le, iI_lt, iI_eq, iI_max, iI_min, Option.bind_some, Option.bind_eq_bind, if_true, if_false]); (repeat (first | rw [if_pos (by omega)] | rw [if_neg (by omega)])); (try simp (disch := omega) only [pl0, pl1, pl2, pl3, pl4, pl5, pl6, pl7, pl8, pl9, pl10, pl11, pl12, pl16, pl19, lit_nI, iI_add, iI_sub, iI_mul, iI_neg, iI_le, iI_lt, iI_eq, iI_max, iI_min, Option.bind_some, Option.bind_eq_bind, if_true, if_false, hc0]); (repeat (first | rw [if_pos (by omega)] | rw [if_neg (by omega)])); (try simp only []); (try simp (disch := omega) only [pl0, pl1, pl2, pl3, pl4, pl5, pl6, pl7, pl8, pl9, pl10, pl11, pl12, pl16, pl19, lit_nI, iI_add, iI_sub, iI_mul, iI_neg, iI_le, iI_lt, iI_eq, iI_max, iI_min, Option.bind_some, Option.bind_eq_bind, if_true, if_false]); (repeat (first | rw [if_pos (by omega)] | rw [if_neg (by omega)])); (try simp (disch := omega) only [pl0, pl1, pl2, pl3, pl4, pl5, pl6, pl7, pl8, pl9, pl10, pl11, pl12, pl16, pl19, lit_nI, iI_add, iI_sub, iI_mul, iI_neg, iI_le, iI_lt, iI_eq, iI_max, iI_min, Option.bind_some, Option.bind_eq_bind, if_true, if_false, hc0]); (repeat (first | rw [if_pos (by omega)] | rw [if_neg (by omega)])); (try simp only []); (try simp (disch := omega) only [pl0, pl1, pl2, pl3, pl4, pl5, pl6, pl7, pl8, pl9, pl10, pl11, pl12, pl16, pl19, lit_nI, iI_add, iI_sub, iI_mul, iI_neg, iI_le, iI_lt, iI_eq, iI_max, iI_min, Option.bind_some, Option.bind_eq_bind, if_true, if_false]); (repeat (first | rw [if_pos (by omega)] | rw [if_neg (by omega)])); (try simp (disch := omega) only [pl0, pl1, pl2, pl3, pl4, pl5, pl6, pl7, pl8, pl9, pl10, pl11, pl12, pl16, pl19, lit_nI, iI_add, iI_sub, iI_mul, iI_neg, iI_le, iI_lt, iI_eq, iI_max, iI_min, Option.bind_some, Option.bind_eq_bind, if_true, if_false, hc0]); (repeat (first | rw [if_pos (by omega)] | rw [if_neg (by omega)])); (try simp only []); (try simp (disch := omega) only [pl0, pl1, pl2, pl3, pl4, pl5, pl6, pl7, pl8, pl9, pl10, pl11, pl12, pl16, pl19, lit_nI, iI_add, iI_sub, iI_mul, iI_neg, iI_le, iI_lt, iI_eq, iI_max, iI_min, Option.bind_some, Option.bind_eq_bind, if_true, if_false]); (repeat (first | rw [if_pos (by omega)] | rw [if_neg (by omega)])); (try simp (disch := omega) only [pl0, pl1, pl2, pl3, pl4, pl5, pl6, pl7, pl8, pl9, pl10, pl11, pl12, pl16, pl19, lit_nI, iI_add, iI_sub, iI_mul, iI_neg, iI_le, iI_lt, iI_eq, iI_max, iI_min, Option.bind_some, Option.bind_eq_bind, if_true, if_false, hc0]); (repeat (first | rw [if_pos (by omega)] | rw [if_neg (by omega)])); (try simp only []); (try simp (disch := omega) only [pl0, pl1, pl2, pl3, pl4, pl5, pl6, pl7, pl8, pl9, pl10, pl11, pl12, pl16, pl19, lit_nI, iI_add, iI_sub, iI_mul, iI_neg, iI_le, iI_lt, iI_eq, iI_max, iI_min, Option.bind_some, Option.bind_eq_bind, if_true, if_false]); (repeat (first | rw [if_pos (by omega)] | rw [if_neg (by omega)])); (try simp (disch := omega) only [pl0, pl1, pl2, pl3, pl4, pl5, pl6, pl7, pl8, pl9, pl10, pl11, pl12, pl16, pl19, lit_nI, iI_add, iI_sub, iI_mul, iI_neg, iI_le, iI_lt, iI_eq, iI_max, iI_min, Option.bind_some, Option.bind_eq_bind, if_true, if_false, hc0]); (repeat (first | rw [if_pos (by omega)] | rw [if_neg (by omega)])); (try rfl))
  have e : f_X9_line G (iI (nb s)) = some (.inl 0, G) := by
    unfold f_X9_line
    rw [c1]
    rfl
  unfold fw_line
  rw [e]
  rfl
theorem lT_len (s : Nat → Int32) (t : Nat) : (lT s t).length ≤ 5 := by
  have n1 := nl_len [] (ky s t)
  have n0 : ([] : List Int32).length = 0 := rfl
  have n2 := nl_len (nl [] (ky s t) ++ [47]) (lk s t)
  have n3 : (nl [] (ky s t) ++ [47]).length = (nl [] (ky s t)).length + 1 := by simp
  unfold lT
  omega
theorem r_tinLine (hP : Pr G 0 s) (hI : Inv s) {t : Nat} (ht : t < 4) : fw_tinLine G (iI t) = some (iI (lT s t).length, wl G (lT s t)) := by
  have hk := hI.ky ht
  have n1 := nl_len [] (ky s t)
  have n0 : ([] : List Int32).length = 0 := rfl
  have n3 : (nl [] (ky s t) ++ [47]).length = (nl [] (ky s t)).length + 1 := by simp
  have e1 : f_X9_isTin G (iI t) = some (iI 1) := C_t4 (by omega)
  have k1 : f_X5_keyOf (wl G []) (iI t) = some (iI (ky s t)) := congrArg some (c_ky (Pr_wl _ hP) ht)
  have k2 : ∀ l, f_X5_leakOf (wl G l) (iI t) = some (iI (lk s t)) := fun l => congrArg some (c_lk (Pr_wl _ hP) ht)
  have e : f_X9_tinLine G (iI t) = some (.inr (iI (lT s t).length), wl G (lT s t)) := by
    unfold f_X9_tinLine
    rw [e1, Option.bind_some, if_neg ne10]
    unfold f_X2_writeTin
    rw [Option.bind_some, pl0, wl_0, k1, Option.bind_some, c_num2 (by omega) (by omega), Option.bind_some, c_add (by omega), Option.bind_some, k2, Option.bind_some, c_num2 (by omega) (by omega)]
    rfl
  unfold fw_tinLine
  rw [e]
  rfl
theorem r_tinLinex (G : GT) : fw_tinLine G (iI 4) = some (iI (-11), G) := by
  have e1 : f_X9_isTin G (iI 4) = some (iI 0) := C_t5 (by unfold R32; omega) (by omega)
  have e : f_X9_tinLine G (iI 4) = some (.inl 0, G) := by
    unfold f_X9_tinLine
    rw [e1]
    rfl
  unfold fw_tinLine
  rw [e]
  rfl
theorem r_char (G : GT) {l : List Int32} (hl : l.length ≤ 32) {k : Nat} (hk : k < l.length) : fw_character (wl G l) (iI k) = some (vp_nar .char (l.getD k 0), wl G l) := by
  have e1 : wl G l 82 2 = iI l.length := rfl
  have e2 : wl G l 83 k = vp_nar .char (l.getD k 0) := by
    unfold wl
    rw [upR_ne _ _ (by decide), upR_at, List.getElem?_map, List.getElem?_eq_getElem hk, List.getD_eq_getElem?_getD, List.getElem?_eq_getElem hk]
    rfl
  have c1 : f_X2_hasSign (wl G l) (iI k) = some (iI 1) := by
    unfold f_X2_hasSign f_X9_isWithin
    (simp (disch := omega) only [pl0, pl1, pl2, pl3, pl4, pl5, pl6, pl7, pl8, pl9, pl10, pl11, pl12, pl16, pl19, lit_nI, iI_add, iI_sub, iI_mul, iI_neg, iI_le, iI_lt, iI_eq, iI_max, iI_min, Option.bind_some, Option.bind_eq_bind, if_true, if_false, e1]; (repeat (first | rw [if_pos (by omega)] | rw [if_neg (by omega)])); (try simp (disch := omega) only [pl0, pl1, pl2, pl3, pl4, pl5, pl6, pl7, pl8, pl9, pl10, pl11, pl12, pl16, pl19, lit_nI, iI_add, iI_sub, iI_mul, iI_neg, iI_le, iI_lt, iI_eq, iI_max, iI_min, Option.bind_some, Option.bind_eq_bind, if_true, if_false]); (repeat (first | rw [if_pos (by omega)] | rw [if_neg (by omega)])); (try simp only []); (try simp (disch := omega) only [pl0, pl1, pl2, pl3, pl4, pl5, pl6, pl7, pl8, pl9, pl10, pl11, pl12, pl16, pl19, lit_nI, iI_add, iI_sub, iI_mul, iI_neg, iI_le, iI_lt, iI_eq, iI_max, iI_min, Option.bind_some, Option.bind_eq_bind, if_true, if_false]); (repeat (first | rw [if_pos (by omega)] | rw [if_neg (by omega)])); (try simp (disch := omega) only [pl0, pl1, pl2, pl3, pl4, pl5, pl6, pl7, pl8, pl9, pl10, pl11, pl12, pl16, pl19, lit_nI, iI_add, iI_sub, iI_mul, iI_neg, iI_le, iI_lt, iI_eq, iI_max, iI_min, Option.bind_some, Option.bind_eq_bind, if_true, if_false, e1]); (repeat (first | rw [if_pos (by omega)] | rw [if_neg (by omega)])); (try simp only []); (try simp (disch := omega) only [pl0, pl1, pl2, pl3, pl4, pl5, pl6, pl7, pl8, pl9, pl10, pl11, pl12, pl16, pl19, lit_nI, iI_add, iI_sub, iI_mul, iI_neg, iI_le, iI_lt, iI_eq, iI_max, iI_min, Option.bind_some, Option.bind_eq_bind, if_true, if_false]); (repeat (first | rw [if_pos (by omega)] | rw [if_neg (by omega)])); (try simp (disch := omega) only [pl0, pl1, pl2, pl3, pl4, pl5, pl6, pl7, pl8, pl9, pl10, pl11, pl12, pl16, pl19, lit_nI, iI_add, iI_sub, iI_mul, iI_neg, iI_le, iI_lt, iI_eq, iI_max, iI_min, Option.bind_some, Option.bind_eq_bind, if_true, if_false, e1]); (repeat (first | rw [if_pos (by omega)] | rw [if_neg (by omega)])); (try simp only []); (try simp (disch := omega) only [pl0, pl1, pl2, pl3, pl4, pl5, pl6, pl7, pl8, pl9, pl10, pl11, pl12, pl16, pl19, lit_nI, iI_add, iI_sub, iI_mul, iI_neg, iI_le, iI_lt, iI_eq, iI_max, iI_min, Option.bind_some, Option.bind_eq_bind, if_true, if_false]); (repeat (first | rw [if_pos (by omega)] | rw [if_neg (by omega)])); (try simp (disch := omega) only [pl0, pl1, pl2, pl3, pl4, pl5, pl6, pl7, pl8, pl9, pl10, pl11, pl12, pl16, pl19, lit_nI, iI_add, iI_sub, iI_mul, iI_neg, iI_le, iI_lt, iI_eq, iI_max, iI_min, Option.bind_some, Option.bind_eq_bind, if_true, if_false, e1]); (repeat (first | rw [if_pos (by omega)] | rw [if_neg (by omega)])); (try simp only []); (try simp (disch := omega) only [pl0, pl1, pl2, pl3, pl4, pl5, pl6, pl7, pl8, pl9, pl10, pl11, pl12, pl16, pl19, lit_nI, iI_add, iI_sub, iI_mul, iI_neg, iI_le, iI_lt, iI_eq, iI_max, iI_min, Option.bind_some, Option.bind_eq_bind, if_true, if_false]); (repeat (first | rw [if_pos (by omega)] | rw [if_neg (by omega)])); (try simp (disch := omega) only [pl0, pl1, pl2, pl3, pl4, pl5, pl6, pl7, pl8, pl9, pl10, pl11, pl12, pl16, pl19, lit_nI, iI_add, iI_sub, iI_mul, iI_neg, iI_le, iI_lt, iI_eq, iI_max, iI_min, Option.bind_some, Option.bind_eq_bind, if_true, if_false, e1]); (repeat (first | rw [if_pos (by omega)] | rw [if_neg (by omega)])); (try simp only []); (try simp (disch := omega) only [pl0, pl1, pl2, pl3, pl4, pl5, pl6, pl7, pl8, pl9, pl10, pl11, pl12, pl16, pl19, lit_nI, iI_add, iI_sub, iI_mul, iI_neg, iI_le, iI_lt, iI_eq, iI_max, iI_min, Option.bind_some, Option.bind_eq_bind, if_true, if_false]); (repeat (first | rw [if_pos (by omega)] | rw [if_neg (by omega)])); (try simp (disch := omega) only [pl0, pl1, pl2, pl3, pl4, pl5, pl6, pl7, pl8, pl9, pl10, pl11, pl12, pl16, pl19, lit_nI, iI_add, iI_sub, iI_mul, iI_neg, iI_le, iI_lt, iI_eq, iI_max, iI_min, Option.bind_some, Option.bind_eq_bind, if_true, if_false, e1]); (repeat (first | rw [if_pos (by omega)] | rw [if_neg (by omega)])); (try rfl))
  have e : f_X9_character (wl G l) (iI k) = some (.inr (vp_nar .char (l.getD k 0)), wl G l) := by
    unfold f_X9_character
    rw [c1, Option.bind_some, if_neg ne10]
    unfold f_X2_signAt
    rw [if_neg (by rw [pl0, iI_lt (by omega) (by omega) (by omega) (by omega)]; omega), if_neg (by rw [lit_nI, iI_le (by omega) (by omega) (by omega) (by omega)]; omega), if_pos (by rw [iI_inb (by omega) (by omega) (by omega)]; omega), cln (by omega), e2, if_pos (nar_ok _)]
    rfl
  unfold fw_character
  rw [e]
  rfl
theorem r_charx (G : GT) {l : List Int32} (hl : l.length ≤ 32) : fw_character (wl G l) (iI l.length) = some (iI (-11), wl G l) := by
  have e1 : wl G l 82 2 = iI l.length := rfl
  have c1 : f_X2_hasSign (wl G l) (iI l.length) = some (iI 0) := by
    unfold f_X2_hasSign f_X9_isWithin
    (simp (disch := omega) only [pl0, pl1, pl2, pl3, pl4, pl5, pl6, pl7, pl8, pl9, pl10, pl11, pl12, pl16, pl19, lit_nI, iI_add, iI_sub, iI_mul, iI_neg, iI_le, iI_lt, iI_eq, iI_max, iI_min, Option.bind_some, Option.bind_eq_bind, if_true, if_false, e1]; (repeat (first | rw [if_pos (by omega)] | rw [if_neg (by omega)])); (try simp (disch := omega) only [pl0, pl1, pl2, pl3, pl4, pl5, pl6, pl7, pl8, pl9, pl10, pl11, pl12, pl16, pl19, lit_nI, iI_add, iI_sub, iI_mul, iI_neg, iI_le, iI_lt, iI_eq, iI_max, iI_min, Option.bind_some, Option.bind_eq_bind, if_true, if_false]); (repeat (first | rw [if_pos (by omega)] | rw [if_neg (by omega)])); (try simp only []); (try simp (disch := omega) only [pl0, pl1, pl2, pl3, pl4, pl5, pl6, pl7, pl8, pl9, pl10, pl11, pl12, pl16, pl19, lit_nI, iI_add, iI_sub, iI_mul, iI_neg, iI_le, iI_lt, iI_eq, iI_max, iI_min, Option.bind_some, Option.bind_eq_bind, if_true, if_false]); (repeat (first | rw [if_pos (by omega)] | rw [if_neg (by omega)])); (try simp (disch := omega) only [pl0, pl1, pl2, pl3, pl4, pl5, pl6, pl7, pl8, pl9, pl10, pl11, pl12, pl16, pl19, lit_nI, iI_add, iI_sub, iI_mul, iI_neg, iI_le, iI_lt, iI_eq, iI_max, iI_min, Option.bind_some, Option.bind_eq_bind, if_true, if_false, e1]); (repeat (first | rw [if_pos (by omega)] | rw [if_neg (by omega)])); (try simp only []); (try simp (disch := omega) only [pl0, pl1, pl2, pl3, pl4, pl5, pl6, pl7, pl8, pl9, pl10, pl11, pl12, pl16, pl19, lit_nI, iI_add, iI_sub, iI_mul, iI_neg, iI_le, iI_lt, iI_eq, iI_max, iI_min, Option.bind_some, Option.bind_eq_bind, if_true, if_false]); (repeat (first | rw [if_pos (by omega)] | rw [if_neg (by omega)])); (try simp (disch := omega) only [pl0, pl1, pl2, pl3, pl4, pl5, pl6, pl7, pl8, pl9, pl10, pl11, pl12, pl16, pl19, lit_nI, iI_add, iI_sub, iI_mul, iI_neg, iI_le, iI_lt, iI_eq, iI_max, iI_min, Option.bind_some, Option.bind_eq_bind, if_true, if_false, e1]); (repeat (first | rw [if_pos (by omega)] | rw [if_neg (by omega)])); (try simp only []); (try simp (disch := omega) only [pl0, pl1, pl2, pl3, pl4, pl5, pl6, pl7, pl8, pl9, pl10, pl11, pl12, pl16, pl19, lit_nI, iI_add, iI_sub, iI_mul, iI_neg, iI_le, iI_lt, iI_eq, iI_max, iI_min, Option.bind_some, Option.bind_eq_bind, if_true, if_false]); (repeat (first | rw [if_pos (by omega)] | rw [if_neg (by omega)])); (try simp (disch := omega) only [pl0, pl1, pl2, pl3, pl4, pl5, pl6, pl7, pl8, pl9, pl10, pl11, pl12, pl16, pl19, lit_nI, iI_add, iI_sub, iI_mul, iI_neg, iI_le, iI_lt, iI_eq, iI_max, iI_min, Option.bind_some, Option.bind_eq_bind, if_true, if_false, e1]); (repeat (first | rw [if_pos (by omega)] | rw [if_neg (by omega)])); (try simp only []); (try simp (disch := omega) only [pl0, pl1, pl2, pl3, pl4, pl5, pl6, pl7, pl8, pl9, pl10, pl11, pl12, pl16, pl19, lit_nI, iI_add, iI_sub, iI_mul, iI_neg, iI_le, iI_lt, iI_eq, iI_max, iI_min, Option.bind_some, Option.bind_eq_bind, if_true, if_false]); (repeat (first | rw [if_pos (by omega)] | rw [if_neg (by omega)])); (try simp (disch := omega) only [pl0, pl1, pl2, pl3, pl4, pl5, pl6, pl7, pl8, pl9, pl10, pl11, pl12, pl16, pl19, lit_nI, iI_add, iI_sub, iI_mul, iI_neg, iI_le, iI_lt, iI_eq, iI_max, iI_min, Option.bind_some, Option.bind_eq_bind, if_true, if_false, e1]); (repeat (first | rw [if_pos (by omega)] | rw [if_neg (by omega)])); (try simp only []); (try simp (disch := omega) only [pl0, pl1, pl2, pl3, pl4, pl5, pl6, pl7, pl8, pl9, pl10, pl11, pl12, pl16, pl19, lit_nI, iI_add, iI_sub, iI_mul, iI_neg, iI_le, iI_lt, iI_eq, iI_max, iI_min, Option.bind_some, Option.bind_eq_bind, if_true, if_false]); (repeat (first | rw [if_pos (by omega)] | rw [if_neg (by omega)])); (try simp (disch := omega) only [pl0, pl1, pl2, pl3, pl4, pl5, pl6, pl7, pl8, pl9, pl10, pl11, pl12, pl16, pl19, lit_nI, iI_add, iI_sub, iI_mul, iI_neg, iI_le, iI_lt, iI_eq, iI_max, iI_min, Option.bind_some, Option.bind_eq_bind, if_true, if_false, e1]); (repeat (first | rw [if_pos (by omega)] | rw [if_neg (by omega)])); (try rfl))
  have e : f_X9_character (wl G l) (iI l.length) = some (.inl 0, wl G l) := by
    unfold f_X9_character
    rw [c1]
    rfl
  unfold fw_character
  rw [e]
  rfl
end FP
