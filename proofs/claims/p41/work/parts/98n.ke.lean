section KS0
variable {args : Array Value} {s : State}
theorem ks_str (hn : ∀ w ∈ NFl, w.before args s = true) : ∃ q : Nat → Nat × Nat, ∀ i, i < 33 → (stM i).eval args s none [] s = some (.ref (q i).1) ∧ Str (q i).1 (q i).2 (stB i) (LA s.heap.size) s s.heap := by
  have hA : ∀ a : Nat, a < s.heap.size → ¬ LA s.heap.size a := fun a h => Nat.not_le_of_lt h
  have h0 : ∀ i : Nat, ∃ q : Nat × Nat, i < 33 → (stM i).eval args s none [] s = some (.ref q.1) ∧ Str q.1 q.2 (stB i) (LA s.heap.size) s s.heap := by
    intro i
    by_cases hi : i < 33
    · obtain ⟨a, c, cA, kA, q1, q2, q3, q4, q5, q6, -⟩ := Cond.exactly_spec (hn _ (n_ex i hi))
      obtain ⟨t, ht, hT⟩ := va_Tof (f := fun j => .int ((stB i).getD j 0)) (A := LA s.heap.size) ((by decide : ∀ i, i < 33 → (stB i).length < 2 ^ 31) i hi) (hn _ (n_ar i hi)) (va_eqt (hn _ (n_le i hi))) (fun j hj => va_eqt (hn _ (n_el i hi j hj))) hA
      exact ⟨(a, t), fun _ => ⟨q1, va_Oof (hn _ (n_ex i hi)) q1 hA, vk_OFof q1 (va_eqt (hn _ (n_co i hi))) hA, vk_OFof q1 ht hA, hT⟩⟩
    · exact ⟨(0, 0), fun h => absurd h hi⟩
  obtain ⟨ad, had⟩ := Classical.axiomOfChoice h0
  exact ⟨ad, had⟩
theorem ks_en (hn : ∀ w ∈ NFl, w.before args s = true) : ∃ q : Nat → Nat, ∀ i, i < 8 → (enM i).eval args s none [] s = some (.ref (q i)) := by
  have h0 : ∀ i : Nat, ∃ q : Nat, i < 8 → (enM i).eval args s none [] s = some (.ref q) := by
    intro i
    by_cases hi : i < 8
    · obtain ⟨a, c, cA, kA, q1, q2, q3, q4, q5, q6, -⟩ := Cond.exactly_spec (hn _ (n_en i hi))
      exact ⟨a, fun _ => q1⟩
    · exact ⟨0, fun h => absurd h hi⟩
  obtain ⟨ad, had⟩ := Classical.axiomOfChoice h0
  exact ⟨ad, had⟩
theorem Ks0 (hts : ∀ w ∈ lw_tbl, w.before args s = true) (hn : ∀ w ∈ NFl, w.before args s = true) : ∃ kd, Ks kd (LA s.heap.size) s s.heap := by
  have hA : ∀ a : Nat, a < s.heap.size → ¬ LA s.heap.size a := fun a h => Nat.not_le_of_lt h
  obtain ⟨q, hq⟩ := ks_str hn
  obtain ⟨r, hr⟩ := ks_en hn
  obtain ⟨t, ht, hT⟩ := va_Tof (tm := arM) (N := 8) (f := fun j => .ref (r j)) (A := LA s.heap.size) (by decide) (hn _ n_or.1) (va_eqt (hn _ n_or.2.1)) (fun j hj => va_eqv (hn _ (n_or.2.2.1 j hj)) (hr j hj)) hA
  let kd : Nat → Nat := fun i => if i < 108 then r (i - 100) else if i = 130 then t else if i < 300 then (q (i - 200)).1 else (q (i - 300)).2
  have k1 : ∀ i, i < 8 → kd (100 + i) = r i := fun i hi => by show (if _ then _ else _) = _; rw [if_pos (by omega), Nat.add_sub_cancel_left]
  have k2 : kd 130 = t := rfl
  have k3 : ∀ i, i < 33 → kd (200 + i) = (q i).1 := fun i hi => by show (if _ then _ else _) = _; rw [if_neg (by omega), if_neg (by omega), if_pos (by omega), Nat.add_sub_cancel_left]
  have k4 : ∀ i, i < 33 → kd (300 + i) = (q i).2 := fun i hi => by show (if _ then _ else _) = _; rw [if_neg (by omega), if_neg (by omega), if_neg (by omega), Nat.add_sub_cancel_left]
  have hwo : ∀ k, k < 8 → woO k < 33 ∧ diO k < 33 := by decide
  refine ⟨kd, fun k hk => ?_, fun i j hi hj h => ?_, fun i hi => ?_, ⟨?_, ?_⟩, ⟨?_, ?_, ?_, ?_⟩, fun i hi => ?_⟩
  · rw [k1 k hk, k3 _ (hwo k hk).1, k3 _ (hwo k hk).2]
    exact ⟨va_Zref (hts _ (t_en k hk)) (hts _ t_in.1) (hr k hk) hA, va_Oof (hn _ (n_en k hk)) (hr k hk) hA, vk_OFof (hr k hk) (va_eqv (hn _ (n_wo k hk)) (hq _ (hwo k hk).1).1) hA, vk_OFof (hr k hk) (va_eqv (hn _ (n_di k hk)) (hq _ (hwo k hk).2).1) hA⟩
  · rw [k1 i hi, k1 j hj] at h
    by_cases hij : i = j
    · exact hij
    · rcases n_ne i hi j hj hij with h2 | h2
      · exact absurd h (va_neR (hn _ h2) (hr i hi) (hr j hj))
      · exact absurd h.symm (va_neR (hn _ h2) (hr j hj) (hr i hi))
  · rw [k3 i hi, k4 i hi]
    exact (hq i hi).2
  · rw [k2]
    exact va_Zref (hts _ t_ls.1) (hts _ t_in.2.1) ht hA
  · rw [k2]
    obtain ⟨cell, h1, h2, h3, h4, h5, h6, h7⟩ := hT
    exact ⟨cell, h1, h2, h3, h4, h5, fun j hj => by rw [h6 j hj]; show some (Value.ref (r j)) = some (Value.ref (kd (100 + j))); rw [k1 j hj], h7⟩
  · exact va_Zof (hts _ t_ls.2.1) (hts _ t_in.2.2.1) (va_eqt (hn _ n_or.2.2.2.1)) hA
  · exact va_Zqof (hts _ t_ls.2.2.1) (hts _ t_in.2.2.2.1) (hn _ n_or.2.2.2.2.1) hA
  · exact vx_Zqof (hts _ t_ls.2.2.2.1) (hts _ t_in.2.2.2.2) (hn _ n_or.2.2.2.2.2.1) hA
  · exact vx_Zqof (hts _ t_ls.2.2.2.2) (hts _ t_in.2.2.2.2) (hn _ n_or.2.2.2.2.2.2) hA
  · rw [k3 i (by omega)]
    exact vk_R.of (hts _ (t_sr i (by omega))) (hq i (by omega)).1
theorem Ncs0 (hn : ∀ w ∈ NFl, w.before args s = true) : Ncs s := fun i j hi hj hij => va_Nc.of (hn _ (n_nc i hi j hj hij))
theorem AOs0 (hts : ∀ w ∈ lw_tbl, w.before args s = true) : AOs s := ⟨va_AO.of (hts _ t_ao.1), va_AO.of (hts _ t_ao.2)⟩
theorem ta_prim {ty : FieldType} (h : (Cond.arrayClass ty).before args s = true) : ∃ y : ClassId, ArrOfT s y ty ∧ s.vm.findClass ("[" ++ ty.toString) = some y := by
  obtain ⟨c, k, comp, h1, h2, h3⟩ := Cond.arrayClass_spec h
  exact ⟨c, fun n z => ⟨fun k h => (by cases h), k, h2, comp, h3⟩, h1⟩
theorem ta_obj {C : String} (h : (Cond.arrayOver (.object C)).before args s = true) : ∃ y : ClassId, ArrOfT s y (.object C) ∧ va_RA s y (.object C) := by
  obtain ⟨comp, c, k, h1, -, h3, h4, h5⟩ := Cond.arrayOver_spec h
  exact ⟨c, fun n z => ⟨fun k h => (by cases h), k, h3, comp, h4⟩, k, comp, h3, h4, h1, h5⟩
theorem ta_row (h : (Cond.arrayOver (.array .int)).before args s = true) : ∃ y : ClassId, ArrOfT s y (.array .int) ∧ va_RA s y (.array .int) := by
  obtain ⟨comp, c, k, h1, -, h3, h4, h5⟩ := arrayOverA_spec h
  exact ⟨c, fun n z => ⟨fun k h => (by cases h), k, h3, comp, h4⟩, h5⟩
set_option maxRecDepth 100000 in
theorem i_Jx00060 : ∀ w ∈ u_ws RJx00060 TJx00060 6, w ∈ lw_tbl := by decide +kernel
set_option maxRecDepth 100000 in
theorem t_is : Cond.instantiable RJ0 4 ∈ lw_tbl ∧ Cond.instantiable RJx00060 6 ∈ lw_tbl ∧ Cond.instantiable RX0 3 ∈ lw_tbl ∧ Cond.instantiable RX1 3 ∈ lw_tbl ∧ Cond.instantiable RX2 3 ∈ lw_tbl ∧ Cond.instantiable RX3 1 ∈ lw_tbl ∧ Cond.instantiable RX5 11 ∈ lw_tbl ∧ Cond.instantiable RX6 1 ∈ lw_tbl ∧ Cond.instantiable RX7 1 ∈ lw_tbl ∧ Cond.instantiable RX8 7 ∈ lw_tbl ∧ Cond.instantiable RX9 11 ∈ lw_tbl ∧ Cond.instantiable RJ4 4 ∈ lw_tbl := by decide +kernel
theorem LW_tbl {w : Cond} (h : w ∈ LW) : w ∈ lw_tbl := (List.mem_filter.mp h).1
theorem Ev0 (hts : ∀ w ∈ lw_tbl, w.before args s = true) : ∃ D Y, Ev D Y s := by
  obtain ⟨c0, s0, k0⟩ := u_known (C := RJ0) (T := TJ0) (N := 4) (n := 4) hts (fun w h => LW_tbl (i_J0 w h)) (hts _ t_is.1)
  obtain ⟨c1, s1, k1⟩ := u_known (C := RJx00060) (T := TJx00060) (N := 6) (n := 6) hts i_Jx00060 (hts _ t_is.2.1)
  obtain ⟨c2, s2, k2⟩ := u_known (C := RX0) (T := TX0) (N := 3) (n := 3) hts (fun w h => LW_tbl (i_X0 w h)) (hts _ t_is.2.2.1)
  obtain ⟨c3, s3, k3⟩ := u_known (C := RX1) (T := TX1) (N := 3) (n := 3) hts (fun w h => LW_tbl (i_X1 w h)) (hts _ t_is.2.2.2.1)
  obtain ⟨c4, s4, k4⟩ := u_known (C := RX2) (T := TX2) (N := 3) (n := 3) hts (fun w h => LW_tbl (i_X2 w h)) (hts _ t_is.2.2.2.2.1)
  obtain ⟨c5, s5, k5⟩ := u_known (C := RX3) (T := TX3) (N := 1) (n := 1) hts (fun w h => LW_tbl (i_X3 w h)) (hts _ t_is.2.2.2.2.2.1)
  obtain ⟨c6, s6, k6⟩ := u_known (C := RX5) (T := TX5) (N := 11) (n := 11) hts (fun w h => LW_tbl (i_X5 w h)) (hts _ t_is.2.2.2.2.2.2.1)
  obtain ⟨c7, s7, k7⟩ := u_known (C := RX6) (T := TX6) (N := 1) (n := 1) hts (fun w h => LW_tbl (i_X6 w h)) (hts _ t_is.2.2.2.2.2.2.2.1)
  obtain ⟨c8, s8, k8⟩ := u_known (C := RX7) (T := TX7) (N := 1) (n := 1) hts (fun w h => LW_tbl (i_X7 w h)) (hts _ t_is.2.2.2.2.2.2.2.2.1)
  obtain ⟨c9, s9, k9⟩ := u_known (C := RX8) (T := TX8) (N := 7) (n := 7) hts (fun w h => LW_tbl (i_X8 w h)) (hts _ t_is.2.2.2.2.2.2.2.2.2.1)
  obtain ⟨c10, s10, k10⟩ := u_known (C := RX9) (T := TX9) (N := 11) (n := 11) hts (fun w h => LW_tbl (i_X9 w h)) (hts _ t_is.2.2.2.2.2.2.2.2.2.2.1)
  obtain ⟨c11, s11, k11⟩ := u_known (C := RJ4) (T := TJ4) (N := 4) (n := 4) hts (fun w h => LW_tbl (i_J4 w h)) (hts _ t_is.2.2.2.2.2.2.2.2.2.2.2)
  obtain ⟨y0, a0, b0⟩ := ta_prim (ty := .int) (hts _ (LW_tbl mw_85))
  obtain ⟨y1, a1, b1⟩ := ta_prim (ty := .char) (hts _ (LW_tbl mw_148))
  obtain ⟨y2, a2, b2⟩ := ta_obj (hts _ t_ao.2)
  obtain ⟨y3, a3, b3⟩ := ta_obj (hts _ t_ao.1)
  obtain ⟨y4, a4, b4⟩ := ta_prim (ty := .long) (hts _ (LW_tbl mw_1477))
  obtain ⟨y5, a5, b5⟩ := ta_row (hts _ t_aoi)
  obtain ⟨y6, a6, b6⟩ := ta_prim (ty := .byte) (hts _ (LW_tbl mw_435))
  refine ⟨(fun k => [c0, c1, c2, c3, c4, c5, c6, c7, c8, c9, c10, c11].getD k c0, fun k => [s0, s1, s2, s3, s4, s5, s6, s7, s8, s9, s10, s11].getD k s0), fun k => [y0, y1, y2, y3, y4, y5, y6].getD k y0, ⟨fun k q hq => ?_, fun k q hq => ?_⟩, Nw.of hts⟩
  · match k, hq with
    | 0, hq => cases hq; exact k0
    | 1, hq => cases hq; exact k1
    | 2, hq => cases hq; exact k2
    | 3, hq => cases hq; exact k3
    | 4, hq => cases hq; exact k4
    | 5, hq => cases hq; exact k5
    | 6, hq => cases hq; exact k6
    | 7, hq => cases hq; exact k7
    | 8, hq => cases hq; exact k8
    | 9, hq => cases hq; exact k9
    | 10, hq => cases hq; exact k10
    | 11, hq => cases hq; exact k11
    | k + 12, hq => simp [vwCl] at hq
  · match k, hq with
    | 0, hq => cases hq; exact ⟨a0, b0⟩
    | 1, hq => cases hq; exact ⟨a1, b1⟩
    | 2, hq => cases hq; exact ⟨a2, b2⟩
    | 3, hq => cases hq; exact ⟨a3, b3⟩
    | 4, hq => cases hq; exact ⟨a4, b4⟩
    | 5, hq => cases hq; exact ⟨a5, b5⟩
    | 6, hq => cases hq; exact ⟨a6, b6⟩
    | k + 7, hq => simp [TY] at hq
theorem Le0 (hts : ∀ w ∈ lw_tbl, w.before args s = true) (hn : ∀ w ∈ NFl, w.before args s = true) : Le s := ⟨Ncs0 hn, AOs0 hts, hts _ t_aoi⟩
theorem Dg0 (hts : ∀ w ∈ lw_tbl, w.before args s = true) (hn : ∀ w ∈ NFl, w.before args s = true) : Dg (LA s.heap.size) s s.heap := by
  have hA : ∀ a : Nat, a < s.heap.size → ¬ LA s.heap.size a := fun a h => Nat.not_le_of_lt h
  obtain ⟨t, ht, hT⟩ := va_Tof (tm := dM 0) (N := 100) (f := fun j => .int (nI (48 + j % 10))) (A := LA s.heap.size) (by decide) (hn _ n_dg0.1) (va_eqt (hn _ n_dg0.2)) (fun j hj => va_eqt (hn _ (n_de0 j hj))) hA
  obtain ⟨t2, ht2, hT2⟩ := va_Tof (tm := dM 1) (N := 100) (f := fun j => .int (nI (48 + j / 10))) (A := LA s.heap.size) (by decide) (hn _ n_dg1.1) (va_eqt (hn _ n_dg1.2)) (fun j hj => va_eqt (hn _ (n_de1 j hj))) hA
  exact ⟨t, t2, va_Zref (hts _ t_dg.1) (hts _ t_dg.2.2) ht hA, hT, va_Zref (hts _ t_dg.2.1) (hts _ t_dg.2.2) ht2 hA, hT2⟩
theorem Sj0 (hts : ∀ w ∈ lw_tbl, w.before args s = true) : Sj s := fun y hy => by
  have hcls : y.cls = RJ5 := (by decide : ∀ y ∈ pv4, y.cls = RJ5) y hy
  have hne : y.cls ≠ "java/lang/invoke/MethodHandle" ∧ y.cls ≠ "java/lang/invoke/VarHandle" := (by decide : ∀ y ∈ pv4, y.cls ≠ "java/lang/invoke/MethodHandle" ∧ y.cls ≠ "java/lang/invoke/VarHandle") y hy
  obtain ⟨c2, r2, m2, q1, q2, q3, q4, kP, hkP, hkPi⟩ := Cond.selects_spec (hts _ (LW_tbl mw_1148))
  obtain ⟨mk, methM, hnamed, hmethM, -, -⟩ := Cond.instanceMethod_spec (hts _ (t_pm y hy).2)
  have hfound : s.methodFound? y.cls y.name y.desc = some mk := State.methodFound?_of_named hnamed hne
  have hc1 : s.vm.findClass RJ5 = some mk.cls := by rw [← hcls]; exact findClass_of_methodNamed hnamed
  have hc2 : s.vm.findClass RJ5 = some m2.cls := findClass_of_methodNamed q3
  have hmc : m2.cls = mk.cls := Option.some.inj (hc2.symm.trans hc1)
  have hsel : selectMethod {} s.vm c2 mk = .method mk := selectMethod_private hmethM (Cond.privateMethod_at (hts _ (t_pm y hy).1) mk methM hnamed hmethM)
  rw [hmc] at hkP
  simp only [Cond.before, Cond.holds, Cond.value, q1, hfound, hnamed, hsel, hkP]
  simp [hkPi]
theorem Jk0 {kd : Nat → Nat} (hts : ∀ w ∈ lw_tbl, w.before args s = true) (hn : ∀ w ∈ NFl, w.before args s = true) (hK : Ks kd (LA s.heap.size) s s.heap) : Jk (LA s.heap.size) s s.heap := ⟨hK.2.2.2.2.1.1, Dg0 hts hn, Sj0 hts⟩
end KS0
