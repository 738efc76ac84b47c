/-! the orders of a text carried out -/
section QA
variable {G K : GT}
theorem bz2 {α : Type} (r : Int32) (X : GT) (f : Int32 → GT → Option α) : bind2 (some (r, X)) f = f r X := rfl
theorem does_o (X : GT) {i o : Nat} (ho : o < 8) (hi : i ≤ 12) (hk : X 7 (4 * i) = iI (kmO o)) : f_X10_does X (iI i) = bind2 (f_do X o (X 7 (4 * i + 1)) (X 7 (4 * i + 2)) (X 7 (4 * i + 3))) fun _ G => some G := by
  have e0 : 4 * iI (i : Int) = iI ((4 * i : Nat) : Int) := by
    rw [pl4, iI_mul]
    rfl
  have e1 : iI ((4 * i : Nat) : Int) + 1 = iI ((4 * i + 1 : Nat) : Int) := by rw [pl1, iI_add]; rfl
  have e2 : iI ((4 * i : Nat) : Int) + 2 = iI ((4 * i + 2 : Nat) : Int) := by rw [pl2, iI_add]; rfl
  have e3 : iI ((4 * i : Nat) : Int) + 3 = iI ((4 * i + 3 : Nat) : Int) := by rw [pl3, iI_add]; rfl
  have hin : ∀ q : Nat, q < 240 → inb (iI (q : Int)) 240 := fun q hq => by
    rw [iI_inb (by omega) (by omega) (by omega)]; omega
  unfold f_X10_does f_X10_does_151
  rw [e0, e1, e2, e3, if_pos (hin _ (by omega)), if_pos (hin _ (by omega)), if_pos (hin _ (by omega)), cln (by omega), cln (by omega), cln (by omega), cln (by omega), hk]
  obtain rfl | rfl | rfl | rfl | rfl | rfl | rfl | rfl : o = 0 ∨ o = 1 ∨ o = 2 ∨ o = 3 ∨ o = 4 ∨ o = 5 ∨ o = 6 ∨ o = 7 := by omega
  · rw [if_pos (by decide), fdo0]
  · rw [if_neg (by decide), if_neg (by decide), if_pos (by decide), if_pos (hin _ (by omega)), if_pos (by decide), fdo1]
  · rw [if_neg (by decide), if_neg (by decide), if_neg (by decide), if_pos (by decide), if_pos (hin _ (by omega)), if_neg (by decide), fdo2]
  · rw [if_neg (by decide), if_pos (by decide), if_pos (hin _ (by omega)), fdo3]
  · rw [if_neg (by decide), if_neg (by decide), if_neg (by decide), if_neg (by decide), if_neg (by decide), if_pos (by decide), fdo4]
  · rw [if_neg (by decide), if_neg (by decide), if_neg (by decide), if_neg (by decide), if_neg (by decide), if_neg (by decide), if_neg (by decide), fdo5]
  · rw [if_neg (by decide), if_neg (by decide), if_neg (by decide), if_neg (by decide), if_pos (by decide), fdo6]
  · rw [if_neg (by decide), if_neg (by decide), if_neg (by decide), if_neg (by decide), if_neg (by decide), if_neg (by decide), if_pos (by decide), fdo7]
theorem f_do_ar (X : GT) {o : Nat} (ho : o < 8) (N Om : Nat → Int32) (i j : Nat) (h : ∀ r, r < (dgL o).length → N (i + r) = Om (j + r)) : f_do X o (Om j) (Om (j + 1)) (Om (j + 2)) = f_do X o (N i) (N (i + 1)) (N (i + 2)) := by
  obtain rfl | rfl | rfl | rfl | rfl | rfl | rfl | rfl : o = 0 ∨ o = 1 ∨ o = 2 ∨ o = 3 ∨ o = 4 ∨ o = 5 ∨ o = 6 ∨ o = 7 := by omega
  · have h0 : N i = Om j := h 0 (by decide)
    rw [fdo0, fdo0, h0]
  · have h0 : N i = Om j := h 0 (by decide)
    have h1 : N (i + 1) = Om (j + 1) := h 1 (by decide)
    rw [fdo1, fdo1, h0, h1]
  · have h0 : N i = Om j := h 0 (by decide)
    have h1 : N (i + 1) = Om (j + 1) := h 1 (by decide)
    rw [fdo2, fdo2, h0, h1]
  · have h0 : N i = Om j := h 0 (by decide)
    have h1 : N (i + 1) = Om (j + 1) := h 1 (by decide)
    have h2 : N (i + 2) = Om (j + 2) := h 2 (by decide)
    rw [fdo3, fdo3, h0, h1, h2]
  · have h0 : N i = Om j := h 0 (by decide)
    rw [fdo4, fdo4, h0]
  · rw [fdo5, fdo5]
  · have h0 : N i = Om j := h 0 (by decide)
    rw [fdo6, fdo6, h0]
  · have h0 : N i = Om j := h 0 (by decide)
    have h1 : N (i + 1) = Om (j + 1) := h 1 (by decide)
    rw [fdo7, fdo7, h0, h1]
theorem cot_s (f : Nat) (G : GT) (x : Int32) : f_X9_carryOutText_2 (f + 1) G x = ((f_X8_countOfOrders G ).bind fun r1 => (if r1 ≤ x then some ((0 : Int32), G) else (bind2 (f_X8_orderAt G x) fun r3 G3 => (ncase r3 (((f_X8_numberAt G3 x (0 : Int32)).bind fun r6 => ((f_X8_numberAt G3 x (1 : Int32)).bind fun r7 => ((f_X8_numberAt G3 x (2 : Int32)).bind fun r8 => none)))) fun k4 => (if k4 < 8 then ((f_X8_numberAt G3 x (0 : Int32)).bind fun r9 => ((f_X8_numberAt G3 x (1 : Int32)).bind fun r10 => ((f_X8_numberAt G3 x (2 : Int32)).bind fun r11 => (bind2 (f_X1_verdict G3 k4 r9 r10 r11) fun r12 G12 => (if r12 = 0 then (bind2 (f_X1_carryOut G12 k4 r9 r10 r11) fun r14 G14 => f_X9_carryOutText_2 f G14 (x + 1)) else some (r12, G12)))))) else none))))) := rfl
theorem m117_s (f : Nat) (G : GT) (x : Int32) : f_X10_run_117 (f + 1) G x = (if (G 0 18) ≤ x then (bind2 (f_X10_ends G (G 0 18)) fun r4 G4 => some (r4, G4)) else ((some (upR G 0 (upd (G 0) 9 (0 : Int32)))).bind fun G5 => ((f_X10_does G5 x).bind fun G6 => (if (G6 0 6) ≤ 0 then f_X10_run_117 f G6 (x + 1) else (if (G6 0 9) = 0 then f_X10_run_156 G6 (1 : Int32) else f_X10_run_156 G6 (2 : Int32)))))) := rfl
/-- what holds while a text is carried out -/
def MF (Gs Ks Gc Km : GT) : Prop := (∀ j, 7 ≤ j → j ≠ 78 → Gc j = Gs j) ∧ Rj Gc Km ∧ (∀ j, j ≠ 6 → j ≠ 7 → j ≠ 8 → j ≠ 9 → Km 0 j = Ks 0 j) ∧ (∀ i, 2 ≤ i → Km i = Ks i)
def MI (Gs Ks Gc Km : GT) : Prop := Pr Gc 0 (Km 1) ∧ Inv (Km 1) ∧ Km 0 6 = iI 0 ∧ MF Gs Ks Gc Km
theorem run_loop {Gs Ks : GT} {M : Nat} (hM : M ≤ 12) (hg5 : Gs 84 5 = iI M) (hk18 : Ks 0 18 = iI M) (hgd : Gd M (Gs 86) (Gs 87) (Ks 7)) : ∀ (j i f1 f2 : Nat) (Gc Km : GT), i + j = M → j < f1 → j < f2 → MI Gs Ks Gc Km → (∃ (v : Int) (G' K' : GT), (v = 1 ∨ v = 2 ∨ v = 3) ∧ f_X9_carryOutText_2 f1 Gc (iI i) = some (iI v, G') ∧ f_X10_run_117 f2 Km (iI i) = f_X10_run_156 K' (iI (if v = 3 then 2 else 1)) ∧ MF Gs Ks G' K') ∨ (∃ G' K' : GT, f_X9_carryOutText_2 f1 Gc (iI i) = some (iI 0, G') ∧ f_X10_run_117 f2 Km (iI i) = (bind2 (f_X10_ends K' (iI M)) fun r4 G4 => some (r4, G4)) ∧ MI Gs Ks G' K') := by
  intro j
  induction j with
  | zero =>
    intro i f1 f2 Gc Km h1 h2 h3 h4
    obtain ⟨g1, rfl⟩ : ∃ g, f1 = g + 1 := ⟨f1 - 1, by omega⟩
    obtain ⟨g2, rfl⟩ : ∃ g, f2 = g + 1 := ⟨f2 - 1, by omega⟩
    obtain rfl : i = M := by omega
    obtain ⟨hP, hI, h6, m1, m2, m3, m4⟩ := id h4
    have c5 : f_X8_countOfOrders Gc = some (iI i) := by
      unfold f_X8_countOfOrders
      rw [m1 84 (by omega) (by omega), hg5]
    have hle : iI (i : Int) ≤ iI (i : Int) := by
      rw [iI_le (by omega) (by omega) (by omega) (by omega)]; omega
    refine Or.inr ⟨Gc, Km, ?_, ?_, h4⟩
    · rw [cot_s, c5, Option.bind_some, if_pos hle]
      rfl
    · rw [m117_s, m3 18 (by decide) (by decide) (by decide) (by decide), hk18, if_pos hle]
  | succ j ih =>
    intro i f1 f2 Gc Km h1 h2 h3 h4
    obtain ⟨g1, rfl⟩ : ∃ g, f1 = g + 1 := ⟨f1 - 1, by omega⟩
    obtain ⟨g2, rfl⟩ : ∃ g, f2 = g + 1 := ⟨f2 - 1, by omega⟩
    obtain ⟨hP, hI, h6, m1, m2, m3, m4⟩ := id h4
    obtain ⟨o, ho, q1, q2, q3⟩ := hgd i (by omega)
    have c5 : f_X8_countOfOrders Gc = some (iI M) := by
      unfold f_X8_countOfOrders
      rw [m1 84 (by omega) (by omega), hg5]
    have hnl : ¬ iI (M : Int) ≤ iI (i : Int) := by
      rw [iI_le (by omega) (by omega) (by omega) (by omega)]; omega
    have e1 : iI (i : Int) + 1 = iI ((i + 1 : Nat) : Int) := by rw [pl1, iI_add]; rfl
    have hor : f_X8_orderAt Gc (iI i) = some (o + 1, Gc) := by
      unfold f_X8_orderAt
      rw [if_neg (by rw [pl0, iI_lt (by omega) (by omega) (by omega) (by omega)]; omega), if_neg (by rw [lit_nI, iI_le (by omega) (by omega) (by omega) (by omega)]; omega), if_pos (by rw [iI_inb (by omega) (by omega) (by omega)]; omega), cln (by omega), m1 86 (by omega) (by omega), q1, cln (by omega)]
    have hnu : ∀ q : Nat, q < 3 → f_X8_numberAt Gc (iI i) (iI q) = some (Gs 87 (3 * i + q)) := fun q hq => by
      have ex : ((i : Int) * 3 + q).toNat = 3 * i + q := by omega
      unfold f_X8_numberAt
      rw [pl3, iI_mul, iI_add, iI_cell (by omega) (by omega) (by omega), ex, m1 87 (by omega) (by omega)]
    obtain ⟨a, ea, ha⟩ := exI (Gs 87 (3 * i))
    obtain ⟨b, eb, hb⟩ := exI (Gs 87 (3 * i + 1))
    obtain ⟨c, ec, hc⟩ := exI (Gs 87 (3 * i + 2))
    have n0 : f_X8_numberAt Gc (iI i) 0 = some (iI a) := (hnu 0 (by omega)).trans (congrArg some ea)
    have n1 : f_X8_numberAt Gc (iI i) 1 = some (iI b) := (hnu 1 (by omega)).trans (congrArg some eb)
    have n2 : f_X8_numberAt Gc (iI i) 2 = some (iI c) := (hnu 2 (by omega)).trans (congrArg some ec)
    have hcx : f_X9_carryOutText_2 (g1 + 1) Gc (iI i) = bind2 (f_X1_verdict Gc o (iI a) (iI b) (iI c)) fun r12 G12 => (if r12 = 0 then (bind2 (f_X1_carryOut G12 o (iI a) (iI b) (iI c)) fun r14 G14 => f_X9_carryOutText_2 g1 G14 (iI ((i + 1 : Nat) : Int))) else some (r12, G12)) := by
      rw [cot_s, c5, Option.bind_some, if_neg hnl, hor, b2s]
      show (if o < 8 then _ else none) = _
      rw [if_pos ho, n0, Option.bind_some, n1, Option.bind_some, n2, Option.bind_some, e1]
    have hX7 : upR Km 0 (upd (Km 0) 9 0) 7 = Ks 7 := by rw [upR_ne _ _ (by decide), m4 7 (by omega)]
    have hdo : f_X10_does (upR Km 0 (upd (Km 0) 9 0)) (iI i) = bind2 (f_do (upR Km 0 (upd (Km 0) 9 0)) o (iI a) (iI b) (iI c)) fun _ G => some G := by
      rw [does_o _ ho (by omega) (by rw [hX7]; exact q2), hX7]
      have := f_do_ar (upR Km 0 (upd (Km 0) 9 0)) ho (Gs 87) (Ks 7) (3 * i) (4 * i + 1) q3
      rw [ea, eb, ec] at this
      rw [this]
    have hmx : f_X10_run_117 (g2 + 1) Km (iI i) = (bind2 (f_do (upR Km 0 (upd (Km 0) 9 0)) o (iI a) (iI b) (iI c)) fun _ G => some G).bind fun G6 => (if (G6 0 6) ≤ 0 then f_X10_run_117 g2 G6 (iI ((i + 1 : Nat) : Int)) else (if (G6 0 9) = 0 then f_X10_run_156 G6 (1 : Int32) else f_X10_run_156 G6 (2 : Int32))) := by
      rw [m117_s, m3 18 (by decide) (by decide) (by decide) (by decide), hk18, if_neg hnl, Option.bind_some, hdo, e1]
    obtain ⟨v, x, y, hv, hal⟩ := vd_al (Km 1) ho a b c
    have hcl := C_vd hP hI ho ha hb hc
    have hmd := M_do (K := upR Km 0 (upd (Km 0) 9 0)) (s := Km 1) rfl hI ho ha hb hc
    rw [hv] at hcl hmd
    have hpk := pk_r ho hal
    have hX0 : ∀ j, j ≠ 9 → upR Km 0 (upd (Km 0) 9 0) 0 j = Km 0 j := fun j hj => by rw [upR_at, upd_ne _ _ hj]
    have hXi : ∀ q, 1 ≤ q → upR Km 0 (upd (Km 0) 9 0) q = Km q := fun q hq => upR_ne _ _ (by omega)
    have hX9 : upR Km 0 (upd (Km 0) 9 0) 0 9 = iI 0 := by rw [upR_at, upd_at]; rfl
    rw [hcx, hmx]
    have hal2 := hal
    unfold alw at hal2
    rcases hal2 with h0 | h0 | ⟨h0, -⟩ | ⟨h0, -⟩
    · subst h0
      rw [vd2_0] at hcl
      rw [dr2_0] at hmd
      obtain ⟨G3, d1, d2, d3⟩ := C_do hP hI ho (a := a) (b := b) (c := c) (by rw [hv])
      have hz : upR (upR Km 0 (upd (Km 0) 9 0)) 1 (nw (Km 1) o a b c) 0 6 = iI 0 := by rw [upR_ne _ _ (by decide), hX0 6 (by decide), h6]
      rw [hcl, b2s, if_pos (show iI 0 = (0 : Int32) from rfl), d1, b2s, hmd, b2s, Option.bind_some, hz, if_pos (by decide)]
      refine ih (i + 1) g1 g2 G3 _ (by omega) (by omega) (by omega) ⟨?_, ?_, hz, fun q h1 h2 => ?_, ?_, fun q h1 h2 h3 h4 => ?_, fun q h1 => ?_⟩
      · rw [upR_at]; exact d2
      · rw [upR_at]; exact Inv_nw hI ho (by rw [hv])
      · rw [d3 q h1, m1 q h1 h2]
      · have e78 := d3 78 (by omega)
        refine Rj_frame m2 e78 ?_ ?_
        · rw [upR_ne _ _ (by decide), hX0 7 (by decide)]
        · rw [upR_ne _ _ (by decide), hX0 8 (by decide)]
      · rw [upR_ne _ _ (by decide), hX0 q h4, m3 q h1 h2 h3 h4]
      · rw [upR_ne _ _ (by omega), hXi q (by omega), m4 q h1]
    · subst h0
      rw [vd2_3] at hcl
      rw [dr2_3] at hmd
      have hz : rf (upR Km 0 (upd (Km 0) 9 0)) (pk o 3) x y 0 6 = iI (pk o 3) := rfl
      have hz9 : rf (upR Km 0 (upd (Km 0) 9 0)) (pk o 3) x y 0 9 = iI 1 := rfl
      have hp := hpk (by decide)
      refine Or.inl ⟨3, jd Gc x y, rf (upR Km 0 (upd (Km 0) 9 0)) (pk o 3) x y, by omega, ?_, ?_, fun q h1 h2 => ?_, ⟨rfl, rfl⟩, fun q h1 h2 h3 h4 => ?_, fun q h1 => ?_⟩
      · rw [hcl, b2s, if_neg (by decide)]
      · rw [hmd, b2s, Option.bind_some, hz, if_neg (by rw [pl0, iI_le (by omega) (by omega) (by omega) (by omega)]; omega), hz9, if_neg ne10]
        rfl
      · unfold jd
        rw [upR_ne _ _ h2, m1 q h1 h2]
      · unfold rf
        rw [upR_at, upd_ne _ _ h3, upd_ne _ _ h2, upd_ne _ _ h4, upd_ne _ _ h1, hX0 q h4, m3 q h1 h2 h3 h4]
      · unfold rf
        rw [upR_ne _ _ (by omega), hXi q (by omega), m4 q h1]
    · subst h0
      rw [vd2_1] at hcl
      rw [dr2_1] at hmd
      have hz : th (upR Km 0 (upd (Km 0) 9 0)) (iI (pk o 1)) 0 6 = iI (pk o 1) := rfl
      have hz9 : th (upR Km 0 (upd (Km 0) 9 0)) (iI (pk o 1)) 0 9 = iI 0 := hX9
      have hp := hpk (by decide)
      refine Or.inl ⟨1, Gc, th (upR Km 0 (upd (Km 0) 9 0)) (iI (pk o 1)), by omega, ?_, ?_, m1, Rj_frame m2 rfl rfl rfl, fun q h1 h2 h3 h4 => ?_, fun q h1 => ?_⟩
      · rw [hcl, b2s, if_neg (by decide)]
      · rw [hmd, b2s, Option.bind_some, hz, if_neg (by rw [pl0, iI_le (by omega) (by omega) (by omega) (by omega)]; omega), hz9, if_pos (show iI 0 = (0 : Int32) from rfl)]
        rfl
      · unfold th
        rw [upR_at, upd_ne _ _ h1, hX0 q h4, m3 q h1 h2 h3 h4]
      · unfold th
        rw [upR_ne _ _ (by omega), hXi q (by omega), m4 q h1]
    · subst h0
      rw [vd2_2] at hcl
      rw [dr2_2] at hmd
      have hz : th (upR Km 0 (upd (Km 0) 9 0)) (iI (pk o 2)) 0 6 = iI (pk o 2) := rfl
      have hz9 : th (upR Km 0 (upd (Km 0) 9 0)) (iI (pk o 2)) 0 9 = iI 0 := hX9
      have hp := hpk (by decide)
      refine Or.inl ⟨2, Gc, th (upR Km 0 (upd (Km 0) 9 0)) (iI (pk o 2)), by omega, ?_, ?_, m1, Rj_frame m2 rfl rfl rfl, fun q h1 h2 h3 h4 => ?_, fun q h1 => ?_⟩
      · rw [hcl, b2s, if_neg (by decide)]
      · rw [hmd, b2s, Option.bind_some, hz, if_neg (by rw [pl0, iI_le (by omega) (by omega) (by omega) (by omega)]; omega), hz9, if_pos (show iI 0 = (0 : Int32) from rfl)]
        rfl
      · unfold th
        rw [upR_at, upd_ne _ _ h1, hX0 q h4, m3 q h1 h2 h3 h4]
      · unfold th
        rw [upR_ne _ _ (by omega), hXi q (by omega), m4 q h1]
/-- a text read: what is there after it -/
def rdg (X : GT) (s : Int32) : GT := upR X 84 (upd (upd (X 84) 6 s) 3 (iI 0))
theorem c_read28 (X : GT) {r : Int32} (s : Int32) (hr : okB r) : f_X8_read_28 X r s = some (r, rdg X s) := by
  unfold f_X8_read_28 rdg
  rw [Option.bind_some, Option.bind_some, upR_upR, upR_at, if_pos hr]
  rfl
theorem c_read0 (G : GT) : f_X8_read G = (bind2 (f_X8_readOrders_2 4096 (tc G 0 0 (G 86) (G 87)) (0 : Int32)) fun r6 G6 => (if r6 = 0 then f_X8_read_28 G6 r6 (G6 84 4) else f_X8_read_28 G6 r6 (-1 : Int32))) := by
  have e : upR (upR G 84 (upd (G 84) 4 0)) 84 (upd (upR G 84 (upd (G 84) 4 0) 84) 5 0) = tc G 0 0 (G 86) (G 87) := by
    refine tc_eq (X := G 86) (Y := G 86) ?_ ?_ ?_ fun i h1 h2 h3 => ?_
    · rw [upR_at, upR_at]; rfl
    · rw [upR_ne _ _ (by decide), upR_ne _ _ (by decide)]
    · rw [upR_ne _ _ (by decide), upR_ne _ _ (by decide)]
    · rw [upR_ne _ _ h1, upR_ne _ _ h1]
  unfold f_X8_read f_X8_readOrders
  rw [Option.bind_some, Option.bind_some, e]
theorem m_run0 (K : GT) : f_X10_run K = ((f_X10_readOrder (tm K 0 0 0 (K 7))).bind fun G26 => f_X10_run_19 4096 G26) := by
  have e : upR (upR (upR K 0 (upd (K 0) 14 0)) 0 (upd (upR K 0 (upd (K 0) 14 0) 0) 15 0)) 0 (upd (upR (upR K 0 (upd (K 0) 14 0)) 0 (upd (upR K 0 (upd (K 0) 14 0) 0) 15 0) 0) 18 0) = tm K 0 0 0 (K 7) := by
    refine tm_eq ?_ ?_ fun i h1 h2 => ?_
    · rw [upR_at, upR_at, upR_at]; rfl
    · rw [upR_ne _ _ (by decide), upR_ne _ _ (by decide), upR_ne _ _ (by decide)]
    · rw [upR_ne _ _ h1, upR_ne _ _ h1, upR_ne _ _ h1]
  unfold f_X10_run
  rw [Option.bind_some, Option.bind_some, Option.bind_some, e]
/-- the relation after a text is read -/
theorem Rel_text (hR : Rel G K) {G' K' : GT} (g : ∀ i, i ≠ 84 → i ≠ 86 → i ≠ 87 → G' i = G i) (g3 : G' 84 3 = iI 0) (g6 : G' 84 6 = K' 0 16) (z0 : ∀ j, j ≠ 6 → j ≠ 13 → j ≠ 14 → j ≠ 15 → j ≠ 16 → j ≠ 18 → K' 0 j = K 0 j) (z13 : K' 0 13 = iI 0) (z1 : ∀ i, i ≠ 0 → i ≠ 7 → K' i = K i) : Rel G' K' := by
  obtain ⟨⟨hP, hI⟩, a2, a3, a4, a5, a6⟩ := hR
  exact ⟨⟨by rw [z1 1 (by decide) (by decide)]; exact Pr_frame (fun i h1 h2 => g i (by omega) (by omega) (by omega)) hP, by rw [z1 1 (by decide) (by decide)]; exact hI⟩, Rv_frame a2 (fun i h1 h2 => g i (by omega) (by omega) (by omega)) (g 77 (by decide) (by decide) (by decide)) (z0 3 (by decide) (by decide) (by decide) (by decide) (by decide) (by decide)) (z1 3 (by decide) (by decide)), Rj_frame a3 (g 78 (by decide) (by decide) (by decide)) (z0 7 (by decide) (by decide) (by decide) (by decide) (by decide) (by decide)) (z0 8 (by decide) (by decide) (by decide) (by decide) (by decide) (by decide)), Rl_frame a4 (g 82 (by decide) (by decide) (by decide)) (g 83 (by decide) (by decide) (by decide)) (z0 11 (by decide) (by decide) (by decide) (by decide) (by decide) (by decide)) (z1 5 (by decide) (by decide)), ⟨g6, 0, by omega, g3, z13, fun j hj => by omega⟩, Hs_frame a6 (fun i h1 h2 => g i (by omega) (by omega) (by omega)) (g 88 (by decide) (by decide) (by decide)) (z0 5 (by decide) (by decide) (by decide) (by decide) (by decide) (by decide)) (z1 4 (by decide) (by decide))⟩
/-- the reference's state behind the reading -/
def r90 (X : GT) (s : Int32) : GT := upR X 0 (upd (upd (X 0) 16 s) 13 (iI 0))
theorem m_90 (X : GT) (s : Int32) : f_X10_run_90 X s = (if (X 0 15) = 0 then ((f_X10_keep (r90 X s)).bind fun G12 => f_X10_run_117 4096 G12 (0 : Int32)) else (bind2 (f_X10_fails (r90 X s) (1 : Int32)) fun r13 G13 => some (r13, G13))) := by
  unfold f_X10_run_90
  rw [Option.bind_some, Option.bind_some, upR_upR, upR_at]
  rfl
theorem i00 : iI ((0 : Nat) : Int) = (0 : Int32) := rfl
theorem m_90ok (X : GT) (s : Int32) (h : X 0 15 = iI 0) : f_X10_run_90 X s = f_X10_run_117 4096 (kp (r90 X s)) (0 : Int32) := by
  rw [m_90, h, if_pos (show iI 0 = (0 : Int32) from rfl), m_keep, Option.bind_some]
theorem m_90no (X : GT) (s : Int32) (h : X 0 15 = iI 1) : f_X10_run_90 X s = some (iI 0, th (r90 X s) (iI 1)) := by
  rw [m_90, h, if_neg ne10, m_fails, b2s]
  rfl
theorem c_41 (X : GT) {v : Int} (hv : v = 1 ∨ v = 2 ∨ v = 3) : f_X9_run_41 X (iI v) = some (.inl (if v = 3 then 2 else 1), X) := by
  obtain rfl | rfl | rfl := hv <;> rfl
theorem t_run : St_run Rel := by
  intro G K hR
  obtain ⟨⟨hP, hI⟩, a2, a3, a4, ⟨e6, n, h60, e1, e2, e3⟩, a6⟩ := id hR
  have T : Tx G K n := ⟨h60, e1, e2, e3⟩
  have hrun := m_run0 K
  have hread := c_read0 G
  rcases text_both T 12 0 0 4096 4096 (G 86) (G 87) (K 7) (by omega) (by omega) (by omega) (by omega) (by omega) (fun i hi => by omega) with ⟨e, O', N', c', m', Om', b1, b2, b3⟩ | ⟨M, O', N', Om', b0, b2, b3, b4⟩
  · have hcr : f_X8_read G = some (iI 0, rdg (tc G e c' O' N') (iI e)) := by
      rw [i00] at b2
      rw [hread, b2, b2s, if_pos (show iI 0 = (0 : Int32) from rfl), tc_4, c_read28 (r := iI 0) _ _ (Or.inl rfl)]
    have hmr : f_X10_run K = some (iI 0, th (r90 (tm K e 1 m' Om') (iI e)) (iI 1)) := by
      rw [hrun, b3, m_90no _ _ tm_15]
    refine ⟨.inl 1, rdg (tc G e c' O' N') (iI e), iI 0, th (r90 (tm K e 1 m' Om') (iI e)) (iI 1), ?_, hmr, rfl, fun k hk => by cases hk; decide, fun v hv => (nomatch hv), ?_⟩
    · unfold f_X9_run
      rw [hcr, b2s, if_pos (show iI 0 = (0 : Int32) from rfl)]
    · refine Rel_text hR (fun i h1 h2 h3 => ?_) ?_ ?_ (fun j h1 h2 h3 h4 h5 h6 => ?_) rfl fun i h1 h2 => ?_
      · unfold rdg
        rw [upR_ne _ _ h1, tc_i h1 h2 h3]
      · unfold rdg
        rw [upR_at, upd_at]
      · have w : th (r90 (tm K e 1 m' Om') (iI e)) (iI 1) 0 16 = iI e := rfl
        rw [w]
        unfold rdg
        rw [upR_at, upd_ne _ _ (by decide), upd_at]
      · unfold th r90
        rw [upR_at, upd_ne _ _ h1, upR_at, upd_ne _ _ h2, upd_ne _ _ h5, tm_j h3 h4 h6]
      · unfold th r90
        rw [upR_ne _ _ h1, upR_ne _ _ h1, tm_i h1 h2]
  · have hcr : f_X8_read G = some (iI 1, rdg (tc G n M O' N') (iI (-1))) := by
      rw [i00] at b2
      rw [hread, b2, b2s, if_neg ne10, show (-1 : Int32) = iI (-1) from rfl, c_read28 (r := iI 1) _ _ (Or.inr rfl)]
    have hmr : f_X10_run K = f_X10_run_117 4096 (kp (r90 (tm K n 0 M Om') (iI (-1)))) (0 : Int32) := by
      rw [hrun, b3, m_90ok _ _ tm_15]
    have hRr : Rel (rdg (tc G n M O' N') (iI (-1))) (r90 (tm K n 0 M Om') (iI (-1))) := by
      refine Rel_text hR (fun i h1 h2 h3 => ?_) ?_ ?_ (fun j h1 h2 h3 h4 h5 h6 => ?_) rfl fun i h1 h2 => ?_
      · unfold rdg
        rw [upR_ne _ _ h1, tc_i h1 h2 h3]
      · unfold rdg
        rw [upR_at, upd_at]
      · have w : r90 (tm K n 0 M Om') (iI (-1)) 0 16 = iI (-1) := rfl
        rw [w]
        unfold rdg
        rw [upR_at, upd_ne _ _ (by decide), upd_at]
      · unfold r90
        rw [upR_at, upd_ne _ _ h2, upd_ne _ _ h5, tm_j h3 h4 h6]
      · unfold r90
        rw [upR_ne _ _ h1, tm_i h1 h2]
    have hr5 : rdg (tc G n M O' N') (iI (-1)) 84 5 = iI M := rfl
    have hr86 : rdg (tc G n M O' N') (iI (-1)) 86 = O' := rfl
    have hr87 : rdg (tc G n M O' N') (iI (-1)) 87 = N' := rfl
    have hk18 : r90 (tm K n 0 M Om') (iI (-1)) 0 18 = iI M := rfl
    have hk7 : r90 (tm K n 0 M Om') (iI (-1)) 7 = Om' := rfl
    generalize rdg (tc G n M O' N') (iI (-1)) = Gr at hcr hRr hr5 hr86 hr87
    generalize r90 (tm K n 0 M Om') (iI (-1)) = Kr at hmr hRr hk18 hk7
    clear hread hrun b2 b3 e6 e1 e2 e3 T h60 hR hP hI a2 a3 a4 a6
    obtain ⟨⟨hP, hI⟩, a2, a3, a4, a5, nx, cc, c1, c2, c3, c4, c5, c6⟩ := id hRr
    obtain ⟨Gs, d1, d2, d3⟩ := become_ok Gr (u0 := 2) (u1 := 0) (by decide)
    have hPs : Pr Gs 14 (Kr 1) := d2 _ hP
    have k6 : ∀ j, j ≠ 6 → kp Kr 0 j = Kr 0 j := fun j hj => kp_j Kr hj
    have hMI : MI Gs (kp Kr) Gs (kp Kr) := ⟨Pr_frame (fun i h1 h2 => d3 i (by omega)) hP, hI, rfl, fun _ _ _ => rfl, Rj_frame a3 (d3 78 (by omega)) rfl rfl, fun _ _ _ _ _ => rfl, fun _ _ => rfl⟩
    have hgd : Gd M (Gs 86) (Gs 87) (kp Kr 7) := by
      rw [d3 86 (by omega), d3 87 (by omega), hr86, hr87, kp_i Kr (by decide), hk7]
      exact b4
    have hcx : ∀ (r : Int32) (X : GT), f_X9_carryOutText Gs = some (r, X) → f_X9_run G = (if r = 0 then f_X9_run_41 X r else (f_X5_become X 0 2).bind fun G12 => f_X9_run_41 G12 r) := by
      intro r X h
      unfold f_X9_run
      rw [hcr, b2s, if_neg ne10, d1, Option.bind_some, h, b2s]
    rcases run_loop b0 (Gs := Gs) (Ks := kp Kr) (by rw [d3 84 (by omega)]; exact hr5) ((k6 18 (by decide)).trans hk18) hgd M 0 4096 4096 Gs (kp Kr) (by omega) (by omega) (by omega) hMI with ⟨v, G', K', hv, q1, q2, m1, m2, m3, m4⟩ | ⟨G', K', q1, q2, hPf, hIf, hf6, m1, m2, m3, m4⟩
    · obtain ⟨G12, g1, g2, g3⟩ := become_ok G' (u0 := 0) (u1 := 2) (by decide)
      have hP14 : Pr G' (7 * 2) (Kr 1) := Pr_frame (fun i h1 h2 => m1 i (by omega) (by omega)) hPs
      have hvs : iI v ≠ (0 : Int32) := by
        rw [pl0]
        intro h
        rw [iI_eq (by omega) (by omega) (by omega) (by omega)] at h
        omega
      rw [i00] at q1 q2
      have hco : f_X9_carryOutText Gs = some (iI v, G') := by
        unfold f_X9_carryOutText
        exact q1
      have hvp : 0 < (if v = 3 then (2 : Int) else 1) ∧ (if v = 3 then (2 : Int) else 1) < 10 := by
        by_cases h : v = 3
        · rw [if_pos h]; omega
        · rw [if_neg h]; omega
      have hef := ends_fail (th K' (iI (if v = 3 then 2 else 1))) (iI 0) rfl hvp
      have hmx : f_X10_run K = some (iI 0, upR (th K' (iI (if v = 3 then 2 else 1))) 1 (va_cpy (th K' (iI (if v = 3 then 2 else 1)) 2) (th K' (iI (if v = 3 then 2 else 1)) 1) 0 0 67)) := by
        rw [hmr, q2]
        unfold f_X10_run_156
        rw [m_fails, b2s, hef, b2s]
      refine ⟨.inl (if v = 3 then 2 else 1), G12, iI 0, _, ?_, hmx, ?_, fun k hk => ?_, fun v hv => (nomatch hv), ?_⟩
      · rw [hcx _ _ hco, if_neg hvs, g1, Option.bind_some, c_41 G12 hv]
      · obtain rfl | rfl | rfl := hv <;> rfl
      · cases hk
        obtain rfl | rfl | rfl := hv <;> decide
      · have gg : ∀ i, 7 ≤ i → i ≠ 78 → (i < 14 ∨ 21 ≤ i) → G12 i = Gr i := fun i h1 h2 h3 => by rw [g3 i (by omega), m1 i h1 h2, d3 i (by omega)]
        have g78 : G12 78 = G' 78 := g3 78 (by omega)
        have t1 : ∀ k, k < 67 → Kr 1 k = upR (th K' (iI (if v = 3 then 2 else 1))) 1 (va_cpy (th K' (iI (if v = 3 then 2 else 1)) 2) (th K' (iI (if v = 3 then 2 else 1)) 1) 0 0 67) 1 k := fun k hk => by
          have w : th K' (iI (if v = 3 then 2 else 1)) 2 = kp Kr 2 := m4 2 (by omega)
          rw [upR_at, cpy_in (by omega) (by omega), Nat.zero_add, Nat.sub_zero, w, kp_2 Kr hk]
        have z0 : ∀ j, j ≠ 6 → j ≠ 7 → j ≠ 8 → j ≠ 9 → upR (th K' (iI (if v = 3 then 2 else 1))) 1 (va_cpy (th K' (iI (if v = 3 then 2 else 1)) 2) (th K' (iI (if v = 3 then 2 else 1)) 1) 0 0 67) 0 j = Kr 0 j := fun j h1 h2 h3 h4 => by
          rw [upR_ne _ _ (by decide)]
          unfold th
          rw [upR_at, upd_ne _ _ h1, m3 j h1 h2 h3 h4, k6 j h1]
        have z7 : upR (th K' (iI (if v = 3 then 2 else 1))) 1 (va_cpy (th K' (iI (if v = 3 then 2 else 1)) 2) (th K' (iI (if v = 3 then 2 else 1)) 1) 0 0 67) 0 7 = K' 0 7 := rfl
        have z8 : upR (th K' (iI (if v = 3 then 2 else 1))) 1 (va_cpy (th K' (iI (if v = 3 then 2 else 1)) 2) (th K' (iI (if v = 3 then 2 else 1)) 1) 0 0 67) 0 8 = K' 0 8 := rfl
        have zi : ∀ i, 3 ≤ i → upR (th K' (iI (if v = 3 then 2 else 1))) 1 (va_cpy (th K' (iI (if v = 3 then 2 else 1)) 2) (th K' (iI (if v = 3 then 2 else 1)) 1) 0 0 67) i = Kr i := fun i h1 => by
          rw [upR_ne _ _ (by omega)]
          unfold th
          rw [upR_ne _ _ (by omega), m4 i (by omega), kp_i Kr h1]
        generalize upR (th K' (iI (if v = 3 then 2 else 1))) 1 (va_cpy (th K' (iI (if v = 3 then 2 else 1)) 2) (th K' (iI (if v = 3 then 2 else 1)) 1) 0 0 67) = Kf at t1 z0 z7 z8 zi ⊢
        exact ⟨⟨Pr_ext t1 (g2 _ hP14), Inv_ext t1 hI⟩, Rv_frame a2 (fun i h1 h2 => gg i (by omega) (by omega) (by omega)) (gg 77 (by omega) (by omega) (by omega)) (z0 3 (by decide) (by decide) (by decide) (by decide)) (zi 3 (by omega)), Rj_frame m2 g78 z7 z8, Rl_frame a4 (gg 82 (by omega) (by omega) (by omega)) (gg 83 (by omega) (by omega) (by omega)) (z0 11 (by decide) (by decide) (by decide) (by decide)) (zi 5 (by omega)), Rt_frame a5 (by rw [gg 84 (by omega) (by omega) (by omega)]) (by rw [gg 84 (by omega) (by omega) (by omega)]) (gg 85 (by omega) (by omega) (by omega)) (z0 13 (by decide) (by decide) (by decide) (by decide)) (z0 16 (by decide) (by decide) (by decide) (by decide)) (zi 6 (by omega)), Hs_frame ⟨nx, cc, c1, c2, c3, c4, c5, c6⟩ (fun i h1 h2 => gg i (by omega) (by omega) (by omega)) (gg 88 (by omega) (by omega) (by omega)) (z0 5 (by decide) (by decide) (by decide) (by decide)) (zi 4 (by omega))⟩
    · have hP14 : Pr G' (7 * 2) (Kr 1) := Pr_frame (fun i h1 h2 => m1 i (by omega) (by omega)) hPs
      have h88 : G' 88 = Gr 88 := (m1 88 (by omega) (by omega)).trans (d3 88 (by omega))
      obtain ⟨G2, d4, d5, d6, d7, d8⟩ := keep_ok G' (nx := nx) (c := cc) (u1 := 2) (by rw [h88]; exact c3) (by rw [h88]; exact c4) c1 c2 (by omega)
      obtain ⟨K2, k1, k2, k3, k4, k5, k8, k7⟩ := ends_fine K' (iI M) (c := cc) hf6 (by rw [m3 5 (by decide) (by decide) (by decide) (by decide), k6 5 (by decide)]; exact c5) c2
      rw [i00] at q1 q2
      have hco : f_X9_carryOutText Gs = some (iI 0, G') := by
        unfold f_X9_carryOutText
        exact q1
      have h5' : G2 84 5 = iI M := by rw [d6 84 (by omega) (by omega), m1 84 (by omega) (by omega), d3 84 (by omega)]; exact hr5
      have hmx : f_X10_run K = some (iI M, K2) := by
        rw [hmr, q2, k1, b2s]
      refine ⟨.inr (iI M), G2, iI M, K2, ?_, hmx, ?_, fun k hk => (nomatch hk), fun v hv => by cases hv; rfl, ?_⟩
      · rw [hcx _ _ hco, if_pos (show iI 0 = (0 : Int32) from rfl)]
        have w : f_X9_run_41 G' (iI 0) = f_X9_run_63 G' 1 := rfl
        rw [w]
        unfold f_X9_run_63 f_X8_countOfOrders
        rw [if_neg (by decide), d4, Option.bind_some, h5']
        rfl
      · refine congrArg some ?_
        rw [k3 6 (by decide), hf6]
        rfl
      · have gg : ∀ i, 7 ≤ i → i ≠ 78 → i ≠ 88 → (i < 14 ∨ 21 ≤ i) → (i < 7 * (3 + nx) ∨ 7 * (3 + nx) + 7 ≤ i) → G2 i = Gr i := fun i h1 h2 h3 h4 h5 => by rw [d6 i h3 h5, m1 i h1 h2, d3 i (by omega)]
        have g78 : G2 78 = G' 78 := d6 78 (by omega) (by omega)
        have z0 : ∀ j, j ≠ 5 → j ≠ 6 → j ≠ 7 → j ≠ 8 → j ≠ 9 → K2 0 j = Kr 0 j := fun j h0 h1 h2 h3 h4 => by rw [k3 j h0, m3 j h1 h2 h3 h4, k6 j h1]
        have zi : ∀ i, 3 ≤ i → i ≠ 4 → K2 i = Kr i := fun i h1 h2 => by rw [k4 i (by omega) h2, m4 i (by omega), kp_i Kr h1]
        have z1 : K2 1 = K' 1 := k4 1 (by decide) (by decide)
        refine ⟨⟨by rw [z1]; exact Pr_frame (fun i h1 h2 => d6 i (by omega) (by omega)) hPf, by rw [z1]; exact hIf⟩, Rv_frame a2 (fun i h1 h2 => gg i (by omega) (by omega) (by omega) (by omega) (by omega)) (gg 77 (by omega) (by omega) (by omega) (by omega) (by omega)) (z0 3 (by decide) (by decide) (by decide) (by decide) (by decide)) (zi 3 (by omega) (by omega)), Rj_frame m2 g78 (k3 7 (by decide)) (k3 8 (by decide)), Rl_frame a4 (gg 82 (by omega) (by omega) (by omega) (by omega) (by omega)) (gg 83 (by omega) (by omega) (by omega) (by omega) (by omega)) (z0 11 (by decide) (by decide) (by decide) (by decide) (by decide)) (zi 5 (by omega) (by omega)), Rt_frame a5 (by rw [gg 84 (by omega) (by omega) (by omega) (by omega) (by omega)]) (by rw [gg 84 (by omega) (by omega) (by omega) (by omega) (by omega)]) (gg 85 (by omega) (by omega) (by omega) (by omega) (by omega)) (z0 13 (by decide) (by decide) (by decide) (by decide) (by decide)) (z0 16 (by decide) (by decide) (by decide) (by decide) (by decide)) (zi 6 (by omega) (by omega)), ?_⟩
        refine Hs_keep c1 c2 c6 (s := Kr 1) (d5 _ hP14) hI (fun i h1 h2 h3 => gg i (by omega) (by omega) (by omega) (by omega) h3) d7 d8 k2 (fun h k hk => ?_) (fun h k hk => ?_) (fun k hk => ?_)
        · rw [k5 h k hk, m4 4 (by decide), kp_i Kr (by decide)]
        · rw [k8 h k hk, m4 4 (by decide), kp_i Kr (by decide)]
        · rw [k7 k hk, m4 2 (by decide), kp_2 Kr hk]
theorem pure_ok : ∃ Rel : GT → GT → Prop, Rel G0 K0 ∧ StA Rel := ⟨Rel, Rel_0, t_bar, t_key, t_leak, t_drop, t_rest, t_lift, t_limit, t_tune, t_tinOf, t_soundOf, t_barOf, t_partOf, t_at, t_faults, t_firstFault, t_isClean, t_wouldFault, t_bestHeight, t_walk, t_goes, t_span, t_withPitch, t_loudest, t_highest, t_line, t_tinLine, t_character, t_append, t_run, t_errorPosition, t_refusal, t_account, t_isWell, t_meanPitch, t_filledShare, t_undo, t_save, t_restore⟩
end QA
