/-! a builder is made -/
theorem wF_D {q b b' sz : Nat} {fs : List Value} {e : va_E} (hne : q ≠ b') (hb : b' = b ∨ sz ≤ b') : va_D (AB q b sz) [(q, .inr (11, fs)), (b', e)] := by
  refine ⟨fun i j x z hi hj hxz => ?_, fun i x hi => ?_⟩
  · have h1 : i < 2 := (List.getElem?_eq_some_iff.mp hi).1
    have h2 : j < 2 := (List.getElem?_eq_some_iff.mp hj).1
    obtain rfl | rfl : i = 0 ∨ i = 1 := by omega
    · obtain rfl | rfl : j = 0 ∨ j = 1 := by omega
      · rfl
      · cases hi; cases hj; exact absurd hxz hne
    · obtain rfl | rfl : j = 0 ∨ j = 1 := by omega
      · cases hi; cases hj; exact absurd hxz.symm hne
      · rfl
  · have h1 : i < 2 := (List.getElem?_eq_some_iff.mp hi).1
    obtain rfl | rfl : i = 0 ∨ i = 1 := by omega
    · cases hi; exact Or.inl rfl
    · cases hi; exact hb.elim (fun h => Or.inr (Or.inl h)) (fun h => Or.inr (Or.inr h))
def fs0 : List Value := [.null, .int 0, .int 0, .int 0]
def ΦI (D : va_G) (q sz : Nat) : State → Heap → Prop := fun U H => (H.size = sz ∧ va_P D vwCl [(q, .inr (11, fs0))] H) ∧ Jk (AB q q sz) U H
theorem ΦI_mv {D : va_G} {q sz : Nat} : Mv (ΦI D q sz) := mv_and (mv_h _) mv_J
def PoI (D : va_G) (Y : Nat → ClassId) (q sz : Nat) : Option Value → State → State → Prop := fun v _ t => v = none ∧ va_P D vwCl (wB Y q sz 0 16 (fun _ => 0)) t.heap
theorem q_binit0 (l : Launch) (D : va_G) (Y : Nat → ClassId) {q sz : Nat} : JM l yJ5_init_d00df cJ5_init_d00df 2 none 1 1 16 D Y (ΦI D q sz) [.ref q, .int 16] (PoI D Y q sz) (AB q q sz) := by
  refine JM_of (ret := none) (by decide) (Nat.le_of_ble_eq_true rfl) (lv := [(0, .ref q), (1, .int 16)]) rfl ?_
  intro p ev s m below meth c ls F hΦ hr hk hnm hl
  have F : Fx p c cJ5_init_d00df 2 s m _ RJ5 D Y := F
  have hx := F.1.1
  have hb := F.1.2.1
  have hts := F.1.2.2.2.2
  have hown := F.1.2.2.2.1
  obtain ⟨⟨hsz, hP⟩, hJ⟩ := hΦ
  have hlt : q < s.heap.size := (hP 0 _ rfl).lt
  refine lv_aload_n hx hb dJ5_init_d00df_0 rfl (lv_at hl 0 rfl) ?_
  refine c_init F mw_1080 hl.1 ⟨Nat.le_of_ble_eq_true rfl, Nat.le_of_ble_eq_true rfl⟩ dJ5_init_d00df_1 ?_
  refine va_gets hx hb hJ.1 (va_S.rf (A := AB q q sz)) hown (hts _ mw_1081) (fun _ h => h) dJ5_init_d00df_4 ?_
  refine lv_if_eq (tgt := 25) hx hb dJ5_init_d00df_7 (by decide) (fun c1 => ?_) (fun c1 => ?_)
  · exact absurd c1 (show ¬ ((1 : Int32) = 0) by decide)
  refine lv_aload_n hx hb dJ5_init_d00df_10 rfl (lv_at hl 0 rfl) ?_
  refine lv_iload_n hx hb dJ5_init_d00df_11 rfl (lv_at hl 1 rfl) ?_
  refine jnew_b (N := 16) F (by decide) (by decide) (by decide) (Nat.le_of_ble_eq_true rfl) (Nat.le_of_ble_eq_true rfl) dJ5_init_d00df_12 (fun H1 g1 g2 g3 => ?_)
  have hP1 : va_P D vwCl [(q, .inr (11, fs0)), (s.heap.size, .inl (Y 6, 16, .inl (fun _ => 0)))] H1 := at_P2 ((hP 0 _ rfl).kept (g3 q hlt)) g1
  have hD1 : va_D (AB q q sz) [(q, .inr (11, fs0)), (s.heap.size, (.inl (Y 6, 16, .inl (fun _ => 0)) : va_E))] := wF_D (Nat.ne_of_lt hlt) (Or.inr (Nat.le_of_eq hsz.symm))
  have hS1 : va_S (AB q q sz) s.heap H1 [] := ⟨by omega, fun x h _ => g3 x h, fun z hz => by cases hz⟩
  refine b_put F hP1 hD1 hS1 (fs := fs0) rfl rfl 0 (by decide) mw_1090 rfl rfl (ty := .array .byte) (v := .ref s.heap.size) (by decide) rfl rfl dJ5_init_d00df_14 (fun H2 L2 hP2 hD2 hS2 => ?_)
  refine lv_aload_n hx hb dJ5_init_d00df_17 rfl (lv_at hl 0 rfl) ?_
  refine lv_iconst (v := 0) hx hb dJ5_init_d00df_18 (by decide) ?_
  refine b_put F hP2 hD2 hS2 (fs := [.ref s.heap.size, .int 0, .int 0, .int 0]) rfl rfl 1 (by decide) mw_1091 rfl rfl (ty := .byte) (v := .int 0) (by decide) rfl rfl dJ5_init_d00df_19 (fun H3 L3 hP3 hD3 hS3 => ?_)
  refine lv_goto (tgt := 38) hx hb dJ5_init_d00df_22 (by decide) ?_
  exact W.vret hx hb hr (fun t ht _ => ⟨_, rfl, ⟨rfl, by rw [ht, ← hsz]; exact hP3⟩, hS3.F ht⟩) hS3.2.2 dJ5_init_d00df_38 hk
theorem q_binit (l : Launch) (D : va_G) (Y : Nat → ClassId) {q sz : Nat} : JM l yJ4_init_da8c8 cJ4_init_da8c8 1 none 2 1 16 D Y (ΦI D q sz) [.ref q] (PoI D Y q sz) (AB q q sz) := by
  refine JM_of (ret := none) (by decide) (Nat.le_of_ble_eq_true rfl) (lv := [(0, .ref q)]) rfl ?_
  intro p ev s m below meth c ls F hΦ hr hk hnm hl
  have F : Fx p c cJ4_init_da8c8 1 s m _ RJ4 D Y := F
  have hx := F.1.1
  have hb := F.1.2.1
  have hts := F.1.2.2.2.2
  have hown := F.1.2.2.2.1
  refine lv_aload_n hx hb dJ4_init_da8c8_0 rfl (lv_at hl 0 rfl) ?_
  refine lv_bipush (v := 16) hx hb dJ4_init_da8c8_1 (by decide) ?_
  refine jm_I (ar := 1) F ΦI_mv hΦ (va_S.rf (A := AB q q sz)) (fun _ z => z) mw_1078 mw_23 mw_1079 mw_1077 rfl (by decide +kernel) (q_binit0 l D Y (q := q) (sz := sz)) rfl hl.1 ⟨Nat.le_of_ble_eq_true rfl, Nat.le_of_ble_eq_true rfl⟩ (rest := []) rfl (Nat.le_of_ble_eq_true rfl) ⟨Nat.le_of_ble_eq_true rfl, Nat.le_of_ble_eq_true rfl⟩ dJ4_init_da8c8_3 (fun v2 st tt H1 L e0 e1 hp hz hq hS => ?_)
  obtain ⟨rfl, hP1⟩ := hp
  exact W.vret hx hb hr (fun t ht _ => ⟨_, rfl, ⟨rfl, by rw [ht, ← e1]; exact hP1⟩, hS.F ht⟩) hS.2.2 dJ4_init_da8c8_6 hk
