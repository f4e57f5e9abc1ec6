def okY (n : Nat) (ro : Nat → Nat) (cn : Nat) (wc : Nat → Nat) (wt : Nat → Nat → Nat) : Prop := n ≤ 15 ∧ (∀ j, ro j ≤ 1000) ∧ (∀ j, j < n → 1 ≤ ro j) ∧ (∀ c, c < cn → ∀ i, i < wc c → wt c i < n) ∧ ∀ c, c < cn → ∀ i j, i < wc c → j < wc c → wt c i = wt c j → i = j
theorem occ_0 {wt : Nat → Nat → Nat} {c t : Nat} : ∀ {k : Nat}, (∀ i, i < k → wt c i ≠ t) → cz_sum (fun i => if wt c i = t then 1 else 0) k = 0
  | 0, _ => rfl
  | k + 1, h => by
    show cz_sum _ k + (if wt c k = t then 1 else 0) = 0
    rw [occ_0 (fun i hi => h i (Nat.lt_succ_of_lt hi)), if_neg (h k (Nat.lt_succ_self k))]
theorem occ_1 {wt : Nat → Nat → Nat} {c t i0 : Nat} (h0 : wt c i0 = t) : ∀ {k : Nat}, i0 < k → (∀ i, i < k → wt c i = t → i = i0) → cz_sum (fun i => if wt c i = t then 1 else 0) k = 1
  | 0, h, _ => absurd h (Nat.not_lt_zero _)
  | k + 1, h, hu => by
    show cz_sum _ k + (if wt c k = t then 1 else 0) = 1
    by_cases e : k = i0
    · rw [occ_0 (fun i hi q => by have := hu i (Nat.lt_succ_of_lt hi) q; omega), if_pos (by rw [e]; exact h0)]
    · rw [occ_1 h0 (by omega) (fun i hi q => hu i (Nat.lt_succ_of_lt hi) q), if_neg (fun q => e (hu k (Nat.lt_succ_self k) q))]
theorem occ_le {wc : Nat → Nat} {wt : Nat → Nat → Nat} {c t : Nat} (hu : ∀ i j, i < wc c → j < wc c → wt c i = wt c j → i = j) : cz_occ wc wt c t ≤ 1 := by
  by_cases h : ∃ i, i < wc c ∧ wt c i = t
  · obtain ⟨i, hi, e⟩ := h
    exact Nat.le_of_eq (occ_1 e hi (fun j hj q => hu j i hj hi (q.trans e.symm)))
  · have e : cz_occ wc wt c t = 0 := occ_0 (fun i hi q => h ⟨i, hi, q⟩)
    omega
set_option maxHeartbeats 4000000 in
set_option maxRecDepth 100000 in
/-- isOn -/
theorem kX5_isOn (l : Launch) (D : va_G) (cI cG cL cB : ClassId) (g : Nat → Nat) (th n : Nat) (en le ro : Nat → Nat) (sn : Nat) (ar rt oh : Nat → Nat) (cn : Nat) (no ot cu : Nat → Nat) (lim : Nat) (fa wy lo ch bd : Nat → Nat) (wc wl : Nat → Nat) (wt : Nat → Nat → Nat) (c t : Nat) (hc : c < cn) (ht : t < 15) (hz : okZ sn ar rt oh cn cu wc wl wt) (hy : okY n ro cn wc wt) (hch : ∀ j, ch j < 6) (hlim : lim ≤ 1000000) (he : ∀ c, c < cn → enc wc wt wl wy lo c) : ct_i l yX5_isOn (.code yX5_isOn cX5_isOn 4 (some .boolean) :: bw) ({ frames := 0, cells := 0, slots := 0, locals := 0 }) (EN D (tyL cI cG cL cB)) D vwCl (pM g cI cB th n en le ro sn ar rt oh cn no ot cu lim fa wy lo ch bd) [.ref (g 0), .int (nI c), .int (nI t)] (fun v W => W = (pM g cI cB th n en le ro sn ar rt oh cn no ot cu lim fa wy lo ch bd) ∧ v = nI (cz_occ wc wt c t)) 0 0 := by
  refine ct_ofi (by decide) (Nat.le_of_ble_eq_true rfl) ?_
  intro p e s m below meth cd A H locs av Q ls hx hb hr hml hown hlocks hnm hbw hEN hQ hP hD hS hA hl
  have hown : s.vm.findClass RX5 = some m.cls := hown
  have hK := hEN.1
  have hl : lv_has ls 4 [(0, .ref (g 0)), (1, .int (nI c)), (2, .int (nI t))] := hl
  obtain ⟨hsn, har, hrt, hoh, hcn, hcu, hwc, hwl, hwt⟩ := id hz
  obtain ⟨hn, hro, hro1, hway, hnd⟩ := id hy
  obtain ⟨e1, e2, e3⟩ := he c hc
  have b_w := hwc c
  refine lv_iconst (v := nI 0) hx hb dX5_isOn_0 (by decide) ?_
  refine lv_istore_n (lv' := [(3, .int (nI 0)), (0, .ref (g 0)), (1, .int (nI c)), (2, .int (nI t))]) hx hb dX5_isOn_1 rfl hl (by decide) rfl (fun ls hl => ?_)
  have lp : ∀ (k : Nat) (i : Nat), (hk : 9 < i + k) → (hi : i ≤ wc c) → (hv : ∀ j, j < i → wt c j ≠ t) → ∀ (H : Heap) (locs : List Loc) (ls : Array Slot), va_P D vwCl (pM g cI cB th n en le ro sn ar rt oh cn no ot cu lim fa wy lo ch bd) H → va_D A (pM g cI cB th n en le ro sn ar rt oh cn no ot cu lim fa wy lo ch bd) → va_S A s.heap H locs → lv_has ls 4 [(0, .ref (g 0)), (1, .int (nI c)), (2, .int (nI t)), (3, .int (nI i))] → W p l e ({ frames := 0, cells := 0, slots := 0, locals := 0 }) s m av below meth cd H locs 0 0 Q (F0 m 2 ls []) := by
    intro k
    induction k with
    | zero => intro i hk hi hv; exact absurd hk (by omega)
    | succ k ih =>
      intro i hk hi hv H locs ls hP hD hS hl
      by_cases hlt : i < wc c
      · have b_t := hwt c i
        refine lv_aload_n hx hb dX5_isOn_2 rfl (lv_at hl 0 rfl) ?_
        refine va_get (ci := 5) (v := .ref (g 11)) (C := RX5) (T := TX5) (N := 19) hx hb hbw in_X5 hown hK hP 0 rfl rfl 15 (by decide) (hbw _ m_503) (fun _ h9 => h9) rfl dX5_isOn_3 ?_
        refine lv_bipush (v := nI 16) hx hb dX5_isOn_6 (by decide) ?_
        refine lv_iload_n hx hb dX5_isOn_8 rfl (lv_at hl 1 rfl) ?_
        refine nr_imul hx hb dX5_isOn_9 ?_
        refine lv_iload_n hx hb dX5_isOn_10 rfl (lv_at hl 3 rfl) ?_
        refine nr_iadd hx hb dX5_isOn_11 ?_
        refine nr_mald1 hx hb hK hP 11 0 rfl rfl (k := (16 * c) + i) (v := wt c i) (by omega) (by omega) (e1 i hlt) dX5_isOn_12 ?_
        refine lv_iconst (v := (-1)) hx hb dX5_isOn_13 (by decide) ?_
        refine lv_icmp_eq (tgt := 40) hx hb dX5_isOn_14 (by decide) (fun h => absurd h (nI_nm1 (by omega))) (fun _ => ?_)
        refine lv_aload_n hx hb dX5_isOn_17 rfl (lv_at hl 0 rfl) ?_
        refine va_get (ci := 5) (v := .ref (g 11)) (C := RX5) (T := TX5) (N := 19) hx hb hbw in_X5 hown hK hP 0 rfl rfl 15 (by decide) (hbw _ m_503) (fun _ h9 => h9) rfl dX5_isOn_18 ?_
        refine lv_bipush (v := nI 16) hx hb dX5_isOn_21 (by decide) ?_
        refine lv_iload_n hx hb dX5_isOn_23 rfl (lv_at hl 1 rfl) ?_
        refine nr_imul hx hb dX5_isOn_24 ?_
        refine lv_iload_n hx hb dX5_isOn_25 rfl (lv_at hl 3 rfl) ?_
        refine nr_iadd hx hb dX5_isOn_26 ?_
        refine nr_mald1 hx hb hK hP 11 0 rfl rfl (k := (16 * c) + i) (v := wt c i) (by omega) (by omega) (e1 i hlt) dX5_isOn_27 ?_
        refine lv_iload_n hx hb dX5_isOn_28 rfl (lv_at hl 2 rfl) ?_
        refine nr_icmp_ne (x := wt c i) (y := t) (tgt := 34) hx hb (by omega) (by omega) dX5_isOn_29 (by decide) (fun h1 => ?_) (fun h1 => ?_)
        · refine lv_iinc (v := nI (i + 1)) (lv' := [(3, .int (nI (i + 1))), (0, .ref (g 0)), (1, .int (nI c)), (2, .int (nI t))]) hx hb dX5_isOn_34 hl (k := 3) rfl (nI_1 _) (by decide) rfl (fun ls hl => ?_)
          refine lv_goto (tgt := 2) hx hb dX5_isOn_37 (by decide) ?_
          exact ih (i + 1) (by omega) (by omega) (lt_s hv h1) _ _ _ hP hD hS (lv_sub hl [1, 2, 3, 0] rfl)
        · refine lv_iconst (v := nI 1) hx hb dX5_isOn_32 (by decide) ?_
          have e9 : cz_occ wc wt c t = 1 := occ_1 h1 hlt (fun j hj q => hnd c hc j i hj hlt (q.trans h1.symm))
          rw [hQ]
          exact ct_zret hx hb hr hlocks hP hD hS dX5_isOn_33 (by first | exact Or.inl rfl | exact Or.inr rfl) ⟨rfl, by rw [e9]⟩
      · have ei : i = wc c := by omega
        refine lv_aload_n hx hb dX5_isOn_2 rfl (lv_at hl 0 rfl) ?_
        refine va_get (ci := 5) (v := .ref (g 11)) (C := RX5) (T := TX5) (N := 19) hx hb hbw in_X5 hown hK hP 0 rfl rfl 15 (by decide) (hbw _ m_503) (fun _ h9 => h9) rfl dX5_isOn_3 ?_
        refine lv_bipush (v := nI 16) hx hb dX5_isOn_6 (by decide) ?_
        refine lv_iload_n hx hb dX5_isOn_8 rfl (lv_at hl 1 rfl) ?_
        refine nr_imul hx hb dX5_isOn_9 ?_
        refine lv_iload_n hx hb dX5_isOn_10 rfl (lv_at hl 3 rfl) ?_
        refine nr_iadd hx hb dX5_isOn_11 ?_
        refine nr_mald0 hx hb hK hP 11 0 rfl rfl (k := (16 * c) + i) (by omega) (by omega) (by rw [ei]; exact e2) dX5_isOn_12 ?_
        refine lv_iconst (v := (-1)) hx hb dX5_isOn_13 (by decide) ?_
        refine lv_icmp_eq (tgt := 40) hx hb dX5_isOn_14 (by decide) (fun _ => ?_) (fun h => absurd rfl h)
        refine lv_iconst (v := nI 0) hx hb dX5_isOn_40 (by decide) ?_
        have e9 : cz_occ wc wt c t = 0 := occ_0 (fun j hj => hv j (by omega))
        rw [hQ]
        exact ct_zret hx hb hr hlocks hP hD hS dX5_isOn_41 (by first | exact Or.inl rfl | exact Or.inr rfl) ⟨rfl, by rw [e9]⟩
  exact lp 10 0 (by omega) (Nat.zero_le _) (lt_0) H locs ls hP hD hS (lv_sub hl [1, 2, 3, 0] rfl)
set_option maxHeartbeats 4000000 in
set_option maxRecDepth 100000 in
/-- fill -/
theorem kX5_fill (l : Launch) (D : va_G) (cI cG cL cB : ClassId) (g : Nat → Nat) (th n : Nat) (en le ro : Nat → Nat) (sn : Nat) (ar rt oh : Nat → Nat) (cn : Nat) (no ot cu : Nat → Nat) (lim : Nat) (fa wy lo ch bd : Nat → Nat) (wc wl : Nat → Nat) (wt : Nat → Nat → Nat) (t : Nat) (ht : t < n) (hz : okZ sn ar rt oh cn cu wc wl wt) (hy : okY n ro cn wc wt) (hch : ∀ j, ch j < 6) (hlim : lim ≤ 1000000) (he : ∀ c, c < cn → enc wc wt wl wy lo c) : ct_i l yX5_fill (.code yX5_fill cX5_fill 4 (some .int) :: bw) ({ frames := 1, cells := 0, slots := 0, locals := 23 }) (EN D (tyL cI cG cL cB)) D vwCl (pM g cI cB th n en le ro sn ar rt oh cn no ot cu lim fa wy lo ch bd) [.ref (g 0), .int (nI t)] (fun v W => W = (pM g cI cB th n en le ro sn ar rt oh cn no ot cu lim fa wy lo ch bd) ∧ v = nI (cz_fill cn ar wc ro wt ch t)) 0 0 := by
  refine ct_ofi (by decide) (Nat.le_of_ble_eq_true rfl) ?_
  intro p e s m below meth cd A H locs av Q ls hx hb hr hml hown hlocks hnm hbw hEN hQ hP hD hS hA hl
  have hown : s.vm.findClass RX5 = some m.cls := hown
  have hK := hEN.1
  have hl : lv_has ls 4 [(0, .ref (g 0)), (1, .int (nI t))] := hl
  obtain ⟨hsn, har, hrt, hoh, hcn, hcu, hwc, hwl, hwt⟩ := id hz
  obtain ⟨hn, hro, hro1, hway, hnd⟩ := id hy
  have b_r := hro1 t ht
  refine lv_iconst (v := nI 0) hx hb dX5_fill_0 (by decide) ?_
  refine lv_istore_n (lv' := [(2, .int (nI 0)), (0, .ref (g 0)), (1, .int (nI t))]) hx hb dX5_fill_1 rfl hl (by decide) rfl (fun ls hl => ?_)
  refine lv_iconst (v := nI 0) hx hb dX5_fill_2 (by decide) ?_
  refine lv_istore_n (lv' := [(3, .int (nI 0)), (2, .int (nI 0)), (0, .ref (g 0)), (1, .int (nI t))]) hx hb dX5_fill_3 rfl hl (by decide) rfl (fun ls hl => ?_)
  have lp : ∀ (k : Nat) (c : Nat), (hk : cn < c + k) → (hi : c ≤ cn) → ∀ (H : Heap) (locs : List Loc) (ls : Array Slot), va_P D vwCl (pM g cI cB th n en le ro sn ar rt oh cn no ot cu lim fa wy lo ch bd) H → va_D A (pM g cI cB th n en le ro sn ar rt oh cn no ot cu lim fa wy lo ch bd) → va_S A s.heap H locs → lv_has ls 4 [(0, .ref (g 0)), (1, .int (nI t)), (2, .int (nI (cz_sum (fun c => cz_occ wc wt c t * ar (ch c)) c))), (3, .int (nI c))] → W p l e ({ frames := 1, cells := 0, slots := 0, locals := 23 }) s m av below meth cd H locs 0 0 Q (F0 m 4 ls []) := by
    intro k
    induction k with
    | zero => intro c hk hi; exact absurd hk (by omega)
    | succ k ih =>
      intro c hk hi H locs ls hP hD hS hl
      refine lv_iload_n hx hb dX5_fill_4 rfl (lv_at hl 3 rfl) ?_
      refine lv_aload_n hx hb dX5_fill_5 rfl (lv_at hl 0 rfl) ?_
      refine va_get (ci := 5) (v := .int (nI cn)) (C := RX5) (T := TX5) (N := 19) hx hb hbw in_X5 hown hK hP 0 rfl rfl 9 (by decide) (hbw _ m_497) (fun _ h9 => h9) rfl dX5_fill_6 ?_
      refine nr_icmp_ge (x := c) (y := cn) (tgt := 45) hx hb (by omega) (by omega) dX5_fill_9 (by decide) (fun h1 => ?_) (fun h1 => ?_)
      · have ec : c = cn := by omega
        have b_l : cz_load cn ar wc wt ch t ≤ 18000 := cz_load_bd hcn har hwc
        have hl : lv_has ls 4 [(0, .ref (g 0)), (1, .int (nI t)), (2, .int (nI (cz_load cn ar wc wt ch t))), (3, .int (nI c))] := by rw [ec] at hl ⊢; exact hl
        refine lv_sipush (v := nI 1000) hx hb dX5_fill_45 (by decide) ?_
        refine lv_iload_n hx hb dX5_fill_48 rfl (lv_at hl 2 rfl) ?_
        refine nr_imul hx hb dX5_fill_49 ?_
        refine lv_aload_n hx hb dX5_fill_50 rfl (lv_at hl 0 rfl) ?_
        refine va_get (ci := 5) (v := .ref (g 3)) (C := RX5) (T := TX5) (N := 19) hx hb hbw in_X5 hown hK hP 0 rfl rfl 4 (by decide) (hbw _ m_492) (fun _ h9 => h9) rfl dX5_fill_51 ?_
        refine lv_iload_n hx hb dX5_fill_54 rfl (lv_at hl 1 rfl) ?_
        refine nr_iald hx hb hK hP 3 0 rfl rfl (k := t) (by omega) (by omega) dX5_fill_55 ?_
        have b_1 := hro t
        refine nr_idiv hx hb (by omega) (by omega) (by omega) dX5_fill_56 ?_
        rw [hQ]
        exact ct_iret hx hb hr hlocks hP hD hS dX5_fill_57 ⟨rfl, by unfold cz_fill; rw [Nat.mul_comm]⟩
      · refine lv_aload_n hx hb dX5_fill_12 rfl (lv_at hl 0 rfl) ?_
        refine lv_iload_n hx hb dX5_fill_13 rfl (lv_at hl 3 rfl) ?_
        refine lv_iload_n hx hb dX5_fill_14 rfl (lv_at hl 1 rfl) ?_
        refine ct_Vi (wc := (pM g cI cB th n en le ro sn ar rt oh cn no ot cu lim fa wy lo ch bd)) (wr := ([] : va_W)) (As := [.int (nI c), .int (nI t)]) (rest := []) ⟨hx, hb, hml, hown, hbw⟩ (EN_E D _) hEN (kX5_isOn l D cI cG cL cB g th n en le ro sn ar rt oh cn no ot cu lim fa wy lo ch bd wc wl wt c t h1 (by omega) hz hy hch hlim he) (cwV (C := "CableSizesModel") 2 hbw (gV m_637 m_639 m_15 m_23 m_640) rfl rfl rfl (by decide +kernel) ⟨Nat.le_of_ble_eq_true rfl, Nat.le_of_ble_eq_true rfl⟩) (va_recv hK hP (ci := 5) (q0 := 0) rfl rfl) hP hD hS hA [0, 1, 2, 3, 4, 5, 6, 7, 8, 9, 10, 11, 12, 13, 14] [] rfl rfl (by decide) (by decide) (by decide) rfl hl.1 rfl (Nat.le_of_ble_eq_true rfl) dX5_fill_15 ⟨Nat.le_of_ble_eq_true rfl, Nat.le_of_ble_eq_true rfl⟩ (fun r_2 w_2 H locs hw hP hD hS => ?_)
        obtain ⟨rfl, rfl⟩ := hw
        have hP := hP.sub (ws' := (pM g cI cB th n en le ro sn ar rt oh cn no ot cu lim fa wy lo ch bd)) [0, 1, 2, 3, 4, 5, 6, 7, 8, 9, 10, 11, 12, 13, 14] rfl
        have hD := hD.sub (ws' := (pM g cI cB th n en le ro sn ar rt oh cn no ot cu lim fa wy lo ch bd)) [0, 1, 2, 3, 4, 5, 6, 7, 8, 9, 10, 11, 12, 13, 14] (by decide) rfl
        have b_o := occ_le (wc := wc) (wt := wt) (c := c) (t := t) (hnd c h1)
        refine nr_if_eq (x := cz_occ wc wt c t) (tgt := 37) hx hb (by omega) dX5_fill_18 (by decide) (fun h2 => ?_) (fun h2 => ?_)
        · refine lv_iload_n hx hb dX5_fill_37 rfl (lv_at hl 2 rfl) ?_
          refine lv_istore_n (lv' := [(2, .int (nI (cz_sum (fun c => cz_occ wc wt c t * ar (ch c)) c))), (0, .ref (g 0)), (1, .int (nI t)), (3, .int (nI c))]) hx hb dX5_fill_38 rfl hl (by decide) rfl (fun ls hl => ?_)
          refine lv_iinc (v := nI (c + 1)) (lv' := [(3, .int (nI (c + 1))), (2, .int (nI (cz_sum (fun c => cz_occ wc wt c t * ar (ch c)) c))), (0, .ref (g 0)), (1, .int (nI t))]) hx hb dX5_fill_39 hl (k := 3) rfl (nI_1 _) (by decide) rfl (fun ls hl => ?_)
          refine lv_goto (tgt := 4) hx hb dX5_fill_42 (by decide) ?_
          have hl : lv_has ls 4 [(3, .int (nI (c + 1))), (2, .int (nI (cz_sum (fun c => cz_occ wc wt c t * ar (ch c)) c))), (0, .ref (g 0)), (1, .int (nI t))] := hl
          have e9 : cz_sum (fun c => cz_occ wc wt c t * ar (ch c)) (c + 1) = cz_sum (fun c => cz_occ wc wt c t * ar (ch c)) c := by show cz_sum (fun c => cz_occ wc wt c t * ar (ch c)) c + cz_occ wc wt c t * ar (ch c) = _; rw [show cz_occ wc wt c t = 0 by omega]; omega
          rw [← e9] at hl
          exact ih (c + 1) (by omega) (by omega) _ _ _ hP hD hS (lv_sub hl [2, 3, 1, 0] rfl)
        · refine lv_iload_n hx hb dX5_fill_21 rfl (lv_at hl 2 rfl) ?_
          refine lv_aload_n hx hb dX5_fill_22 rfl (lv_at hl 0 rfl) ?_
          refine va_get (ci := 5) (v := .ref (g 4)) (C := RX5) (T := TX5) (N := 19) hx hb hbw in_X5 hown hK hP 0 rfl rfl 6 (by decide) (hbw _ m_494) (fun _ h9 => h9) rfl dX5_fill_23 ?_
          refine lv_aload_n hx hb dX5_fill_26 rfl (lv_at hl 0 rfl) ?_
          refine va_get (ci := 5) (v := .ref (g 13)) (C := RX5) (T := TX5) (N := 19) hx hb hbw in_X5 hown hK hP 0 rfl rfl 17 (by decide) (hbw _ m_505) (fun _ h9 => h9) rfl dX5_fill_27 ?_
          refine lv_iload_n hx hb dX5_fill_30 rfl (lv_at hl 3 rfl) ?_
          refine nr_iald hx hb hK hP 13 0 rfl rfl (k := c) (by omega) (by omega) dX5_fill_31 ?_
          have b_3 := hch c
          refine nr_iald hx hb hK hP 4 0 rfl rfl (k := ch c) (by omega) (by omega) dX5_fill_32 ?_
          have b_4 := har (ch c)
          refine nr_iadd hx hb dX5_fill_33 ?_
          refine lv_goto (tgt := 38) hx hb dX5_fill_34 (by decide) ?_
          refine lv_istore_n (lv' := [(2, .int (nI ((cz_sum (fun c => cz_occ wc wt c t * ar (ch c)) c) + (ar (ch c))))), (0, .ref (g 0)), (1, .int (nI t)), (3, .int (nI c))]) hx hb dX5_fill_38 rfl hl (by decide) rfl (fun ls hl => ?_)
          refine lv_iinc (v := nI (c + 1)) (lv' := [(3, .int (nI (c + 1))), (2, .int (nI ((cz_sum (fun c => cz_occ wc wt c t * ar (ch c)) c) + (ar (ch c))))), (0, .ref (g 0)), (1, .int (nI t))]) hx hb dX5_fill_39 hl (k := 3) rfl (nI_1 _) (by decide) rfl (fun ls hl => ?_)
          refine lv_goto (tgt := 4) hx hb dX5_fill_42 (by decide) ?_
          have hl : lv_has ls 4 [(3, .int (nI (c + 1))), (2, .int (nI ((cz_sum (fun c => cz_occ wc wt c t * ar (ch c)) c) + (ar (ch c))))), (0, .ref (g 0)), (1, .int (nI t))] := hl
          have e9 : cz_sum (fun c => cz_occ wc wt c t * ar (ch c)) (c + 1) = (cz_sum (fun c => cz_occ wc wt c t * ar (ch c)) c) + (ar (ch c)) := by show cz_sum (fun c => cz_occ wc wt c t * ar (ch c)) c + cz_occ wc wt c t * ar (ch c) = _; rw [show cz_occ wc wt c t = 1 by omega]; omega
          rw [← e9] at hl
          exact ih (c + 1) (by omega) (by omega) _ _ _ hP hD hS (lv_sub hl [2, 3, 1, 0] rfl)
  exact lp (cn + 1) 0 (by omega) (Nat.zero_le cn) H locs ls hP hD hS (lv_sub hl [2, 3, 1, 0] rfl)
theorem cz_fill_bd {C : Nat} {ar wc rm pk : Nat → Nat} {wt : Nat → Nat → Nat} {t : Nat} (h1 : C ≤ 20) (h2 : ∀ j, ar j ≤ 100) (h3 : ∀ j, wc j ≤ 9) : cz_fill C ar wc rm wt pk t ≤ 18000000 := by
  have h4 : cz_load C ar wc wt pk t ≤ 18000 := cz_load_bd h1 h2 h3
  unfold cz_fill
  exact Nat.le_trans (Nat.div_le_self _ _) (by omega)
set_option maxHeartbeats 4000000 in
set_option maxRecDepth 100000 in
/-- factor -/
theorem kX5_factor (l : Launch) (D : va_G) (cI cG cL cB : ClassId) (g : Nat → Nat) (th n : Nat) (en le ro : Nat → Nat) (sn : Nat) (ar rt oh : Nat → Nat) (cn : Nat) (no ot cu : Nat → Nat) (lim : Nat) (fa wy lo ch bd : Nat → Nat) (wc wl : Nat → Nat) (wt : Nat → Nat → Nat) (t : Nat) (ht : t < n) (hz : okZ sn ar rt oh cn cu wc wl wt) (hy : okY n ro cn wc wt) (hch : ∀ j, ch j < 6) (hlim : lim ≤ 1000000) (he : ∀ c, c < cn → enc wc wt wl wy lo c) : ct_i l yX5_factor (.code yX5_factor cX5_factor 3 (some .int) :: bw) ({ frames := 2, cells := 0, slots := 0, locals := 46 }) (EN D (tyL cI cG cL cB)) D vwCl (pM g cI cB th n en le ro sn ar rt oh cn no ot cu lim fa wy lo ch bd) [.ref (g 0), .int (nI t)] (fun v W => W = (pM g cI cB th n en le ro sn ar rt oh cn no ot cu lim fa wy lo ch bd) ∧ v = nI (cz_fac (cz_fill cn ar wc ro wt ch t))) 0 0 := by
  refine ct_ofi (by decide) (Nat.le_of_ble_eq_true rfl) ?_
  intro p e s m below meth cd A H locs av Q ls hx hb hr hml hown hlocks hnm hbw hEN hQ hP hD hS hA hl
  have hown : s.vm.findClass RX5 = some m.cls := hown
  have hK := hEN.1
  have hl : lv_has ls 3 [(0, .ref (g 0)), (1, .int (nI t))] := hl
  obtain ⟨hsn, har, hrt, hoh, hcn, hcu, hwc, hwl, hwt⟩ := id hz
  obtain ⟨hn, hro, hro1, hway, hnd⟩ := id hy
  refine lv_aload_n hx hb dX5_factor_0 rfl (lv_at hl 0 rfl) ?_
  refine lv_iload_n hx hb dX5_factor_1 rfl (lv_at hl 1 rfl) ?_
  refine ct_Vi (wc := (pM g cI cB th n en le ro sn ar rt oh cn no ot cu lim fa wy lo ch bd)) (wr := ([] : va_W)) (As := [.int (nI t)]) (rest := []) ⟨hx, hb, hml, hown, hbw⟩ (EN_E D _) hEN (kX5_fill l D cI cG cL cB g th n en le ro sn ar rt oh cn no ot cu lim fa wy lo ch bd wc wl wt t ht hz hy hch hlim he) (cwV (C := "CableSizesModel") 1 hbw (gV m_633 m_635 m_14 m_23 m_636) rfl rfl rfl (by decide +kernel) ⟨Nat.le_of_ble_eq_true rfl, Nat.le_of_ble_eq_true rfl⟩) (va_recv hK hP (ci := 5) (q0 := 0) rfl rfl) hP hD hS hA [0, 1, 2, 3, 4, 5, 6, 7, 8, 9, 10, 11, 12, 13, 14] [] rfl rfl (by decide) (by decide) (by decide) rfl hl.1 rfl (Nat.le_of_ble_eq_true rfl) dX5_factor_2 ⟨Nat.le_of_ble_eq_true rfl, Nat.le_of_ble_eq_true rfl⟩ (fun r_1 w_1 H locs hw hP hD hS => ?_)
  obtain ⟨rfl, rfl⟩ := hw
  have hP := hP.sub (ws' := (pM g cI cB th n en le ro sn ar rt oh cn no ot cu lim fa wy lo ch bd)) [0, 1, 2, 3, 4, 5, 6, 7, 8, 9, 10, 11, 12, 13, 14] rfl
  have hD := hD.sub (ws' := (pM g cI cB th n en le ro sn ar rt oh cn no ot cu lim fa wy lo ch bd)) [0, 1, 2, 3, 4, 5, 6, 7, 8, 9, 10, 11, 12, 13, 14] (by decide) rfl
  have b_l : cz_fill cn ar wc ro wt ch t ≤ 18000000 := cz_fill_bd hcn har hwc
  refine lv_istore_n (lv' := [(2, .int (nI (cz_fill cn ar wc ro wt ch t))), (0, .ref (g 0)), (1, .int (nI t))]) hx hb dX5_factor_5 rfl hl (by decide) rfl (fun ls hl => ?_)
  refine lv_iload_n hx hb dX5_factor_6 rfl (lv_at hl 0 rfl) ?_
  refine lv_sipush (v := nI 200) hx hb dX5_factor_7 (by decide) ?_
  refine nr_icmp_gt (x := cz_fill cn ar wc ro wt ch t) (y := 200) (tgt := 19) hx hb (by omega) (by omega) dX5_factor_10 (by decide) (fun h0 => ?_) (fun h0 => ?_)
  · refine lv_iload_n hx hb dX5_factor_19 rfl (lv_at hl 0 rfl) ?_
    refine lv_sipush (v := nI 400) hx hb dX5_factor_20 (by decide) ?_
    refine nr_icmp_gt (x := cz_fill cn ar wc ro wt ch t) (y := 400) (tgt := 32) hx hb (by omega) (by omega) dX5_factor_23 (by decide) (fun h1 => ?_) (fun h1 => ?_)
    · refine lv_iload_n hx hb dX5_factor_32 rfl (lv_at hl 0 rfl) ?_
      refine lv_sipush (v := nI 600) hx hb dX5_factor_33 (by decide) ?_
      refine nr_icmp_gt (x := cz_fill cn ar wc ro wt ch t) (y := 600) (tgt := 45) hx hb (by omega) (by omega) dX5_factor_36 (by decide) (fun h2 => ?_) (fun h2 => ?_)
      · refine lv_iload_n hx hb dX5_factor_45 rfl (lv_at hl 0 rfl) ?_
        refine lv_sipush (v := nI 800) hx hb dX5_factor_46 (by decide) ?_
        refine nr_icmp_gt (x := cz_fill cn ar wc ro wt ch t) (y := 800) (tgt := 58) hx hb (by omega) (by omega) dX5_factor_49 (by decide) (fun h3 => ?_) (fun h3 => ?_)
        · refine lv_iload_n hx hb dX5_factor_58 rfl (lv_at hl 0 rfl) ?_
          refine lv_sipush (v := nI 1000) hx hb dX5_factor_59 (by decide) ?_
          refine nr_icmp_gt (x := cz_fill cn ar wc ro wt ch t) (y := 1000) (tgt := 71) hx hb (by omega) (by omega) dX5_factor_62 (by decide) (fun h4 => ?_) (fun h4 => ?_)
          · refine lv_iconst (v := nI 0) hx hb dX5_factor_71 (by decide) ?_
            have e1 : cz_fac (cz_fill cn ar wc ro wt ch t) = 0 := by unfold cz_fac; rw [if_neg (by omega), if_neg (by omega), if_neg (by omega), if_neg (by omega), if_neg (by omega)]
            rw [hQ]
            exact ct_iret hx hb hr hlocks hP hD hS dX5_factor_72 ⟨rfl, by rw [e1]⟩
          · refine lv_sipush (v := nI 500) hx hb dX5_factor_65 (by decide) ?_
            refine lv_goto (tgt := 72) hx hb dX5_factor_68 (by decide) ?_
            have e1 : cz_fac (cz_fill cn ar wc ro wt ch t) = 500 := by unfold cz_fac; rw [if_neg (by omega), if_neg (by omega), if_neg (by omega), if_neg (by omega), if_pos (by omega)]
            rw [hQ]
            exact ct_iret hx hb hr hlocks hP hD hS dX5_factor_72 ⟨rfl, by rw [e1]⟩
        · refine lv_sipush (v := nI 550) hx hb dX5_factor_52 (by decide) ?_
          refine lv_goto (tgt := 72) hx hb dX5_factor_55 (by decide) ?_
          have e1 : cz_fac (cz_fill cn ar wc ro wt ch t) = 550 := by unfold cz_fac; rw [if_neg (by omega), if_neg (by omega), if_neg (by omega), if_pos (by omega)]
          rw [hQ]
          exact ct_iret hx hb hr hlocks hP hD hS dX5_factor_72 ⟨rfl, by rw [e1]⟩
      · refine lv_sipush (v := nI 650) hx hb dX5_factor_39 (by decide) ?_
        refine lv_goto (tgt := 72) hx hb dX5_factor_42 (by decide) ?_
        have e1 : cz_fac (cz_fill cn ar wc ro wt ch t) = 650 := by unfold cz_fac; rw [if_neg (by omega), if_neg (by omega), if_pos (by omega)]
        rw [hQ]
        exact ct_iret hx hb hr hlocks hP hD hS dX5_factor_72 ⟨rfl, by rw [e1]⟩
    · refine lv_sipush (v := nI 800) hx hb dX5_factor_26 (by decide) ?_
      refine lv_goto (tgt := 72) hx hb dX5_factor_29 (by decide) ?_
      have e1 : cz_fac (cz_fill cn ar wc ro wt ch t) = 800 := by unfold cz_fac; rw [if_neg (by omega), if_pos (by omega)]
      rw [hQ]
      exact ct_iret hx hb hr hlocks hP hD hS dX5_factor_72 ⟨rfl, by rw [e1]⟩
  · refine lv_sipush (v := nI 1000) hx hb dX5_factor_13 (by decide) ?_
    refine lv_goto (tgt := 72) hx hb dX5_factor_16 (by decide) ?_
    have e1 : cz_fac (cz_fill cn ar wc ro wt ch t) = 1000 := by unfold cz_fac; rw [if_pos (by omega)]
    rw [hQ]
    exact ct_iret hx hb hr hlocks hP hD hS dX5_factor_72 ⟨rfl, by rw [e1]⟩
set_option maxHeartbeats 4000000 in
set_option maxRecDepth 100000 in
/-- carries -/
theorem kX5_carries (l : Launch) (D : va_G) (cI cG cL cB : ClassId) (g : Nat → Nat) (th n : Nat) (en le ro : Nat → Nat) (sn : Nat) (ar rt oh : Nat → Nat) (cn : Nat) (no ot cu : Nat → Nat) (lim : Nat) (fa wy lo ch bd : Nat → Nat) (wc wl : Nat → Nat) (wt : Nat → Nat → Nat) (c : Nat) (hc : c < cn) (hz : okZ sn ar rt oh cn cu wc wl wt) (hy : okY n ro cn wc wt) (hch : ∀ j, ch j < 6) (hlim : lim ≤ 1000000) (he : ∀ c, c < cn → enc wc wt wl wy lo c) : ct_i l yX5_carries (.code yX5_carries cX5_carries 5 (some .int) :: bw) ({ frames := 3, cells := 0, slots := 0, locals := 68 }) (EN D (tyL cI cG cL cB)) D vwCl (pM g cI cB th n en le ro sn ar rt oh cn no ot cu lim fa wy lo ch bd) [.ref (g 0), .int (nI c)] (fun v W => W = (pM g cI cB th n en le ro sn ar rt oh cn no ot cu lim fa wy lo ch bd) ∧ v = nI (cy_carry rt wc ch (cz_fill cn ar wc ro wt ch) wt c)) 0 0 := by
  refine ct_ofi (by decide) (Nat.le_of_ble_eq_true rfl) ?_
  intro p e s m below meth cd A H locs av Q ls hx hb hr hml hown hlocks hnm hbw hEN hQ hP hD hS hA hl
  have hown : s.vm.findClass RX5 = some m.cls := hown
  have hK := hEN.1
  have hl : lv_has ls 5 [(0, .ref (g 0)), (1, .int (nI c))] := hl
  obtain ⟨hsn, har, hrt, hoh, hcn, hcu, hwc, hwl, hwt⟩ := id hz
  obtain ⟨hn, hro, hro1, hway, hnd⟩ := id hy
  obtain ⟨e1, e2, e3⟩ := he c hc
  have b_w := hwc c
  have hb9 := cy_carry_bd (rt := rt) (wc := wc) (pk := ch) (fi := cz_fill cn ar wc ro wt ch) (wt := wt) (c := c) (hrt (ch c))
  refine lv_sipush (v := nI 1000) hx hb dX5_carries_0 (by decide) ?_
  refine lv_istore_n (lv' := [(2, .int (nI 1000)), (0, .ref (g 0)), (1, .int (nI c))]) hx hb dX5_carries_3 rfl hl (by decide) rfl (fun ls hl => ?_)
  refine lv_iconst (v := nI 0) hx hb dX5_carries_4 (by decide) ?_
  refine lv_istore_n (lv' := [(3, .int (nI 0)), (2, .int (nI 1000)), (0, .ref (g 0)), (1, .int (nI c))]) hx hb dX5_carries_5 rfl hl (by decide) rfl (fun ls hl => ?_)
  have lp : ∀ (k : Nat) (i : Nat), (hk : 9 < i + k) → (hi : i ≤ wc c) → ∀ (H : Heap) (locs : List Loc) (ls : Array Slot), va_P D vwCl (pM g cI cB th n en le ro sn ar rt oh cn no ot cu lim fa wy lo ch bd) H → va_D A (pM g cI cB th n en le ro sn ar rt oh cn no ot cu lim fa wy lo ch bd) → va_S A s.heap H locs → lv_has ls 5 [(0, .ref (g 0)), (1, .int (nI c)), (2, .int (nI (cz_mg (cz_fill cn ar wc ro wt ch) wt c i))), (3, .int (nI i))] → W p l e ({ frames := 3, cells := 0, slots := 0, locals := 68 }) s m av below meth cd H locs 0 0 Q (F0 m 6 ls []) := by
    intro k
    induction k with
    | zero => intro i hk hi; exact absurd hk (by omega)
    | succ k ih =>
      intro i hk hi H locs ls hP hD hS hl
      have b_m := cz_mg_le (cz_fill cn ar wc ro wt ch) wt c i
      by_cases hlt : i < wc c
      · have b_t := hwt c i
        refine lv_aload_n hx hb dX5_carries_6 rfl (lv_at hl 0 rfl) ?_
        refine va_get (ci := 5) (v := .ref (g 11)) (C := RX5) (T := TX5) (N := 19) hx hb hbw in_X5 hown hK hP 0 rfl rfl 15 (by decide) (hbw _ m_503) (fun _ h9 => h9) rfl dX5_carries_7 ?_
        refine lv_bipush (v := nI 16) hx hb dX5_carries_10 (by decide) ?_
        refine lv_iload_n hx hb dX5_carries_12 rfl (lv_at hl 1 rfl) ?_
        refine nr_imul hx hb dX5_carries_13 ?_
        refine lv_iload_n hx hb dX5_carries_14 rfl (lv_at hl 3 rfl) ?_
        refine nr_iadd hx hb dX5_carries_15 ?_
        refine nr_mald1 hx hb hK hP 11 0 rfl rfl (k := (16 * c) + i) (v := wt c i) (by omega) (by omega) (e1 i hlt) dX5_carries_16 ?_
        refine lv_iconst (v := (-1)) hx hb dX5_carries_17 (by decide) ?_
        refine lv_icmp_eq (tgt := 57) hx hb dX5_carries_18 (by decide) (fun h => absurd h (nI_nm1 (by omega))) (fun _ => ?_)
        refine lv_aload_n hx hb dX5_carries_21 rfl (lv_at hl 0 rfl) ?_
        refine lv_aload_n hx hb dX5_carries_22 rfl (lv_at hl 0 rfl) ?_
        refine va_get (ci := 5) (v := .ref (g 11)) (C := RX5) (T := TX5) (N := 19) hx hb hbw in_X5 hown hK hP 0 rfl rfl 15 (by decide) (hbw _ m_503) (fun _ h9 => h9) rfl dX5_carries_23 ?_
        refine lv_bipush (v := nI 16) hx hb dX5_carries_26 (by decide) ?_
        refine lv_iload_n hx hb dX5_carries_28 rfl (lv_at hl 1 rfl) ?_
        refine nr_imul hx hb dX5_carries_29 ?_
        refine lv_iload_n hx hb dX5_carries_30 rfl (lv_at hl 3 rfl) ?_
        refine nr_iadd hx hb dX5_carries_31 ?_
        refine nr_mald1 hx hb hK hP 11 0 rfl rfl (k := (16 * c) + i) (v := wt c i) (by omega) (by omega) (e1 i hlt) dX5_carries_32 ?_
        refine ct_Vi (wc := (pM g cI cB th n en le ro sn ar rt oh cn no ot cu lim fa wy lo ch bd)) (wr := ([] : va_W)) (As := [.int (nI (wt c i))]) (rest := []) ⟨hx, hb, hml, hown, hbw⟩ (EN_E D _) hEN (kX5_factor l D cI cG cL cB g th n en le ro sn ar rt oh cn no ot cu lim fa wy lo ch bd wc wl wt (wt c i) (hway c hc i hlt) hz hy hch hlim he) (cwV (C := "CableSizesModel") 1 hbw (gV m_629 m_631 m_13 m_23 m_632) rfl rfl rfl (by decide +kernel) ⟨Nat.le_of_ble_eq_true rfl, Nat.le_of_ble_eq_true rfl⟩) (va_recv hK hP (ci := 5) (q0 := 0) rfl rfl) hP hD hS hA [0, 1, 2, 3, 4, 5, 6, 7, 8, 9, 10, 11, 12, 13, 14] [] rfl rfl (by decide) (by decide) (by decide) rfl hl.1 rfl (Nat.le_of_ble_eq_true rfl) dX5_carries_33 ⟨Nat.le_of_ble_eq_true rfl, Nat.le_of_ble_eq_true rfl⟩ (fun r_1 w_1 H locs hw hP hD hS => ?_)
        obtain ⟨rfl, rfl⟩ := hw
        have hP := hP.sub (ws' := (pM g cI cB th n en le ro sn ar rt oh cn no ot cu lim fa wy lo ch bd)) [0, 1, 2, 3, 4, 5, 6, 7, 8, 9, 10, 11, 12, 13, 14] rfl
        have hD := hD.sub (ws' := (pM g cI cB th n en le ro sn ar rt oh cn no ot cu lim fa wy lo ch bd)) [0, 1, 2, 3, 4, 5, 6, 7, 8, 9, 10, 11, 12, 13, 14] (by decide) rfl
        have b_f := cz_fac_le (cz_fill cn ar wc ro wt ch (wt c i))
        refine lv_istore (lv' := [(4, .int (nI (cz_fac (cz_fill cn ar wc ro wt ch (wt c i))))), (0, .ref (g 0)), (1, .int (nI c)), (2, .int (nI (cz_mg (cz_fill cn ar wc ro wt ch) wt c i))), (3, .int (nI i))]) hx hb dX5_carries_36 hl (by decide) rfl (fun ls hl => ?_)
        refine lv_iload hx hb dX5_carries_38 (lv_at hl 0 rfl) ?_
        refine lv_iload_n hx hb dX5_carries_40 rfl (lv_at hl 3 rfl) ?_
        refine nr_icmp_ge (x := cz_fac (cz_fill cn ar wc ro wt ch (wt c i))) (y := cz_mg (cz_fill cn ar wc ro wt ch) wt c i) (tgt := 49) hx hb (by omega) (by omega) dX5_carries_41 (by decide) (fun h1 => ?_) (fun h1 => ?_)
        · refine lv_iload_n hx hb dX5_carries_49 rfl (lv_at hl 3 rfl) ?_
          refine lv_istore_n (lv' := [(2, .int (nI (cz_mg (cz_fill cn ar wc ro wt ch) wt c i))), (4, .int (nI (cz_fac (cz_fill cn ar wc ro wt ch (wt c i))))), (0, .ref (g 0)), (1, .int (nI c)), (3, .int (nI i))]) hx hb dX5_carries_50 rfl hl (by decide) rfl (fun ls hl => ?_)
          refine lv_iinc (v := nI (i + 1)) (lv' := [(3, .int (nI (i + 1))), (2, .int (nI (cz_mg (cz_fill cn ar wc ro wt ch) wt c i))), (4, .int (nI (cz_fac (cz_fill cn ar wc ro wt ch (wt c i))))), (0, .ref (g 0)), (1, .int (nI c))]) hx hb dX5_carries_51 hl (k := 4) rfl (nI_1 _) (by decide) rfl (fun ls hl => ?_)
          refine lv_goto (tgt := 6) hx hb dX5_carries_54 (by decide) ?_
          have e9 : cz_mg (cz_fill cn ar wc ro wt ch) wt c (i + 1) = cz_mg (cz_fill cn ar wc ro wt ch) wt c i := by show min _ _ = _; omega
          rw [← e9] at hl
          exact ih (i + 1) (by omega) (by omega) _ _ _ hP hD hS (lv_sub hl [3, 4, 1, 0] rfl)
        · refine lv_iload hx hb dX5_carries_44 (lv_at hl 0 rfl) ?_
          refine lv_goto (tgt := 50) hx hb dX5_carries_46 (by decide) ?_
          refine lv_istore_n (lv' := [(2, .int (nI (cz_fac (cz_fill cn ar wc ro wt ch (wt c i))))), (4, .int (nI (cz_fac (cz_fill cn ar wc ro wt ch (wt c i))))), (0, .ref (g 0)), (1, .int (nI c)), (3, .int (nI i))]) hx hb dX5_carries_50 rfl hl (by decide) rfl (fun ls hl => ?_)
          refine lv_iinc (v := nI (i + 1)) (lv' := [(3, .int (nI (i + 1))), (2, .int (nI (cz_fac (cz_fill cn ar wc ro wt ch (wt c i))))), (4, .int (nI (cz_fac (cz_fill cn ar wc ro wt ch (wt c i))))), (0, .ref (g 0)), (1, .int (nI c))]) hx hb dX5_carries_51 hl (k := 4) rfl (nI_1 _) (by decide) rfl (fun ls hl => ?_)
          refine lv_goto (tgt := 6) hx hb dX5_carries_54 (by decide) ?_
          have e9 : cz_mg (cz_fill cn ar wc ro wt ch) wt c (i + 1) = cz_fac (cz_fill cn ar wc ro wt ch (wt c i)) := by show min _ _ = _; omega
          rw [← e9] at hl
          exact ih (i + 1) (by omega) (by omega) _ _ _ hP hD hS (lv_sub hl [3, 4, 1, 0] rfl)
      · have ei : i = wc c := by omega
        refine lv_aload_n hx hb dX5_carries_6 rfl (lv_at hl 0 rfl) ?_
        refine va_get (ci := 5) (v := .ref (g 11)) (C := RX5) (T := TX5) (N := 19) hx hb hbw in_X5 hown hK hP 0 rfl rfl 15 (by decide) (hbw _ m_503) (fun _ h9 => h9) rfl dX5_carries_7 ?_
        refine lv_bipush (v := nI 16) hx hb dX5_carries_10 (by decide) ?_
        refine lv_iload_n hx hb dX5_carries_12 rfl (lv_at hl 1 rfl) ?_
        refine nr_imul hx hb dX5_carries_13 ?_
        refine lv_iload_n hx hb dX5_carries_14 rfl (lv_at hl 3 rfl) ?_
        refine nr_iadd hx hb dX5_carries_15 ?_
        refine nr_mald0 hx hb hK hP 11 0 rfl rfl (k := (16 * c) + i) (by omega) (by omega) (by rw [ei]; exact e2) dX5_carries_16 ?_
        refine lv_iconst (v := (-1)) hx hb dX5_carries_17 (by decide) ?_
        refine lv_icmp_eq (tgt := 57) hx hb dX5_carries_18 (by decide) (fun _ => ?_) (fun h => absurd rfl h)
        have hl : lv_has ls 5 [(0, .ref (g 0)), (1, .int (nI c)), (2, .int (nI (cz_mg (cz_fill cn ar wc ro wt ch) wt c (wc c)))), (3, .int (nI i))] := by rw [← ei]; exact hl
        refine lv_aload_n hx hb dX5_carries_57 rfl (lv_at hl 0 rfl) ?_
        refine va_get (ci := 5) (v := .ref (g 5)) (C := RX5) (T := TX5) (N := 19) hx hb hbw in_X5 hown hK hP 0 rfl rfl 7 (by decide) (hbw _ m_495) (fun _ h9 => h9) rfl dX5_carries_58 ?_
        refine lv_aload_n hx hb dX5_carries_61 rfl (lv_at hl 0 rfl) ?_
        refine va_get (ci := 5) (v := .ref (g 13)) (C := RX5) (T := TX5) (N := 19) hx hb hbw in_X5 hown hK hP 0 rfl rfl 17 (by decide) (hbw _ m_505) (fun _ h9 => h9) rfl dX5_carries_62 ?_
        refine lv_iload_n hx hb dX5_carries_65 rfl (lv_at hl 1 rfl) ?_
        refine nr_iald hx hb hK hP 13 0 rfl rfl (k := c) (by omega) (by omega) dX5_carries_66 ?_
        have b_2 := hch c
        refine nr_iald hx hb hK hP 5 0 rfl rfl (k := ch c) (by omega) (by omega) dX5_carries_67 ?_
        have b_3 := hrt (ch c)
        refine lv_iload_n hx hb dX5_carries_68 rfl (lv_at hl 2 rfl) ?_
        refine nr_imul hx hb dX5_carries_69 ?_
        refine lv_sipush (v := nI 1000) hx hb dX5_carries_70 (by decide) ?_
        refine nr_idiv hx hb (by omega) (by omega) (by omega) dX5_carries_73 ?_
        rw [hQ]
        exact ct_iret hx hb hr hlocks hP hD hS dX5_carries_74 ⟨rfl, rfl⟩
  exact lp 10 0 (by omega) (Nat.zero_le _) H locs ls hP hD hS (lv_sub hl [2, 3, 1, 0] rfl)
set_option maxHeartbeats 4000000 in
set_option maxRecDepth 100000 in
/-- drop -/
theorem kX5_drop (l : Launch) (D : va_G) (cI cG cL cB : ClassId) (g : Nat → Nat) (th n : Nat) (en le ro : Nat → Nat) (sn : Nat) (ar rt oh : Nat → Nat) (cn : Nat) (no ot cu : Nat → Nat) (lim : Nat) (fa wy lo ch bd : Nat → Nat) (wc wl : Nat → Nat) (wt : Nat → Nat → Nat) (c : Nat) (hc : c < cn) (hz : okZ sn ar rt oh cn cu wc wl wt) (hy : okY n ro cn wc wt) (hch : ∀ j, ch j < 6) (hlim : lim ≤ 1000000) (he : ∀ c, c < cn → enc wc wt wl wy lo c) : ct_i l yX5_drop (.code yX5_drop cX5_drop 2 (some .int) :: bw) ({ frames := 0, cells := 0, slots := 0, locals := 0 }) (EN D (tyL cI cG cL cB)) D vwCl (pM g cI cB th n en le ro sn ar rt oh cn no ot cu lim fa wy lo ch bd) [.ref (g 0), .int (nI c)] (fun v W => W = (pM g cI cB th n en le ro sn ar rt oh cn no ot cu lim fa wy lo ch bd) ∧ v = nI (cz_drop oh cu wl ch c)) 0 0 := by
  refine ct_ofi (by decide) (Nat.le_of_ble_eq_true rfl) ?_
  intro p e s m below meth cd A H locs av Q ls hx hb hr hml hown hlocks hnm hbw hEN hQ hP hD hS hA hl
  have hown : s.vm.findClass RX5 = some m.cls := hown
  have hK := hEN.1
  have hl : lv_has ls 2 [(0, .ref (g 0)), (1, .int (nI c))] := hl
  obtain ⟨hsn, har, hrt, hoh, hcn, hcu, hwc, hwl, hwt⟩ := id hz
  obtain ⟨hn, hro, hro1, hway, hnd⟩ := id hy
  obtain ⟨e1, e2, e3⟩ := he c hc
  have b_w := hwl c
  have hb8 := cz_drop_bd (oh := oh) (cu := cu) (wl := wl) (pk := ch) (c := c) (hcu c) (hoh (ch c)) (hwl c)
  rcases e3 with ⟨e3, e4, e5⟩ | ⟨e3, e4⟩
  · refine lv_aload_n hx hb dX5_drop_0 rfl (lv_at hl 0 rfl) ?_
    refine va_get (ci := 5) (v := .ref (g 12)) (C := RX5) (T := TX5) (N := 19) hx hb hbw in_X5 hown hK hP 0 rfl rfl 16 (by decide) (hbw _ m_504) (fun _ h9 => h9) rfl dX5_drop_1 ?_
    refine lv_iload_n hx hb dX5_drop_4 rfl (lv_at hl 1 rfl) ?_
    refine nr_mald0 hx hb hK hP 12 0 rfl rfl (k := c) (by omega) (by omega) e4 dX5_drop_5 ?_
    refine lv_iconst (v := (-1)) hx hb dX5_drop_6 (by decide) ?_
    refine lv_icmp_ne (tgt := 14) hx hb dX5_drop_7 (by decide) (fun h => absurd rfl h) (fun _ => ?_)
    refine lv_iconst (v := nI 0) hx hb dX5_drop_10 (by decide) ?_
    refine lv_goto (tgt := 47) hx hb dX5_drop_11 (by decide) ?_
    have e9 : cz_drop oh cu wl ch c = 0 := by unfold cz_drop; rw [e5, Nat.mul_zero]
    rw [hQ]
    exact ct_iret hx hb hr hlocks hP hD hS dX5_drop_47 ⟨rfl, by rw [e9]⟩
  · refine lv_aload_n hx hb dX5_drop_0 rfl (lv_at hl 0 rfl) ?_
    refine va_get (ci := 5) (v := .ref (g 12)) (C := RX5) (T := TX5) (N := 19) hx hb hbw in_X5 hown hK hP 0 rfl rfl 16 (by decide) (hbw _ m_504) (fun _ h9 => h9) rfl dX5_drop_1 ?_
    refine lv_iload_n hx hb dX5_drop_4 rfl (lv_at hl 1 rfl) ?_
    refine nr_mald1 hx hb hK hP 12 0 rfl rfl (k := c) (v := wl c) (by omega) (by omega) e4 dX5_drop_5 ?_
    refine lv_iconst (v := (-1)) hx hb dX5_drop_6 (by decide) ?_
    refine lv_icmp_ne (tgt := 14) hx hb dX5_drop_7 (by decide) (fun _ => ?_) (fun h => absurd h (nI_nm1 (by omega)))
    refine lv_aload_n hx hb dX5_drop_14 rfl (lv_at hl 0 rfl) ?_
    refine va_get (ci := 5) (v := .ref (g 9)) (C := RX5) (T := TX5) (N := 19) hx hb hbw in_X5 hown hK hP 0 rfl rfl 12 (by decide) (hbw _ m_500) (fun _ h9 => h9) rfl dX5_drop_15 ?_
    refine lv_iload_n hx hb dX5_drop_18 rfl (lv_at hl 1 rfl) ?_
    refine nr_iald hx hb hK hP 9 0 rfl rfl (k := c) (by omega) (by omega) dX5_drop_19 ?_
    have b_1 := hcu c
    refine lv_i2l (v := lN (cu c)) hx hb dX5_drop_20 (nI_l (by omega)) ?_
    refine lv_aload_n hx hb dX5_drop_21 rfl (lv_at hl 0 rfl) ?_
    refine va_get (ci := 5) (v := .ref (g 6)) (C := RX5) (T := TX5) (N := 19) hx hb hbw in_X5 hown hK hP 0 rfl rfl 8 (by decide) (hbw _ m_496) (fun _ h9 => h9) rfl dX5_drop_22 ?_
    refine lv_aload_n hx hb dX5_drop_25 rfl (lv_at hl 0 rfl) ?_
    refine va_get (ci := 5) (v := .ref (g 13)) (C := RX5) (T := TX5) (N := 19) hx hb hbw in_X5 hown hK hP 0 rfl rfl 17 (by decide) (hbw _ m_505) (fun _ h9 => h9) rfl dX5_drop_26 ?_
    refine lv_iload_n hx hb dX5_drop_29 rfl (lv_at hl 1 rfl) ?_
    refine nr_iald hx hb hK hP 13 0 rfl rfl (k := c) (by omega) (by omega) dX5_drop_30 ?_
    have b_2 := hch c
    refine nr_iald hx hb hK hP 6 0 rfl rfl (k := ch c) (by omega) (by omega) dX5_drop_31 ?_
    have b_3 := hoh (ch c)
    refine lv_i2l (v := lN (oh (ch c))) hx hb dX5_drop_32 (nI_l (by omega)) ?_
    refine nr_lmul hx hb dX5_drop_33 ?_
    refine lv_aload_n hx hb dX5_drop_34 rfl (lv_at hl 0 rfl) ?_
    refine va_get (ci := 5) (v := .ref (g 12)) (C := RX5) (T := TX5) (N := 19) hx hb hbw in_X5 hown hK hP 0 rfl rfl 16 (by decide) (hbw _ m_504) (fun _ h9 => h9) rfl dX5_drop_35 ?_
    refine lv_iload_n hx hb dX5_drop_38 rfl (lv_at hl 1 rfl) ?_
    refine nr_mald1 hx hb hK hP 12 0 rfl rfl (k := c) (v := wl c) (by omega) (by omega) e4 dX5_drop_39 ?_
    refine lv_i2l (v := lN (wl c)) hx hb dX5_drop_40 (nI_l (by omega)) ?_
    refine nr_lmul hx hb dX5_drop_41 ?_
    refine lv_ldc2 (v := lN 1000) hx hb hown (hbw _ m_562) dX5_drop_42 ?_
    refine nr_ldiv hx hb (by omega) (by omega) (by omega) dX5_drop_45 ?_
    refine lv_l2i (v := nI ((((cu c) * (oh (ch c))) * (wl c)) / 1000)) hx hb dX5_drop_46 (lN_i _) ?_
    rw [hQ]
    exact ct_iret hx hb hr hlocks hP hD hS dX5_drop_47 ⟨rfl, rfl⟩
set_option maxHeartbeats 4000000 in
set_option maxRecDepth 100000 in
/-- isRight -/
theorem kX5_isRight (l : Launch) (D : va_G) (cI cG cL cB : ClassId) (g : Nat → Nat) (th n : Nat) (en le ro : Nat → Nat) (sn : Nat) (ar rt oh : Nat → Nat) (cn : Nat) (no ot cu : Nat → Nat) (lim : Nat) (fa wy lo ch bd : Nat → Nat) (wc wl : Nat → Nat) (wt : Nat → Nat → Nat) (c : Nat) (hc : c < cn) (hz : okZ sn ar rt oh cn cu wc wl wt) (hy : okY n ro cn wc wt) (hch : ∀ j, ch j < 6) (hlim : lim ≤ 1000000) (he : ∀ c, c < cn → enc wc wt wl wy lo c) : ct_i l yX5_isRight (.code yX5_isRight cX5_isRight 2 (some .boolean) :: bw) ({ frames := 4, cells := 0, slots := 0, locals := 92 }) (EN D (tyL cI cG cL cB)) D vwCl (pM g cI cB th n en le ro sn ar rt oh cn no ot cu lim fa wy lo ch bd) [.ref (g 0), .int (nI c)] (fun v W => W = (pM g cI cB th n en le ro sn ar rt oh cn no ot cu lim fa wy lo ch bd) ∧ v = nI (bN (cs_rg cn ar rt oh cu wc wl ro wt lim ch c))) 0 0 := by
  refine ct_ofi (by decide) (Nat.le_of_ble_eq_true rfl) ?_
  intro p e s m below meth cd A H locs av Q ls hx hb hr hml hown hlocks hnm hbw hEN hQ hP hD hS hA hl
  have hown : s.vm.findClass RX5 = some m.cls := hown
  have hK := hEN.1
  have hl : lv_has ls 2 [(0, .ref (g 0)), (1, .int (nI c))] := hl
  obtain ⟨hsn, har, hrt, hoh, hcn, hcu, hwc, hwl, hwt⟩ := id hz
  obtain ⟨hn, hro, hro1, hway, hnd⟩ := id hy
  obtain ⟨e1, e2, e3⟩ := he c hc
  have b_w := hwl c
  have hb8 := cz_drop_bd (oh := oh) (cu := cu) (wl := wl) (pk := ch) (c := c) (hcu c) (hoh (ch c)) (hwl c)
  have hb9 := cy_carry_bd (rt := rt) (wc := wc) (pk := ch) (fi := cz_fill cn ar wc ro wt ch) (wt := wt) (c := c) (hrt (ch c))
  rcases e3 with ⟨e3, e4, e5⟩ | ⟨e3, e4⟩
  · refine lv_aload_n hx hb dX5_isRight_0 rfl (lv_at hl 0 rfl) ?_
    refine va_get (ci := 5) (v := .ref (g 12)) (C := RX5) (T := TX5) (N := 19) hx hb hbw in_X5 hown hK hP 0 rfl rfl 16 (by decide) (hbw _ m_504) (fun _ h9 => h9) rfl dX5_isRight_1 ?_
    refine lv_iload_n hx hb dX5_isRight_4 rfl (lv_at hl 1 rfl) ?_
    refine nr_mald0 hx hb hK hP 12 0 rfl rfl (k := c) (by omega) (by omega) e4 dX5_isRight_5 ?_
    refine lv_iconst (v := (-1)) hx hb dX5_isRight_6 (by decide) ?_
    refine lv_icmp_eq (tgt := 36) hx hb dX5_isRight_7 (by decide) (fun _ => ?_) (fun h => absurd rfl h)
    refine lv_iconst (v := nI 1) hx hb dX5_isRight_36 (by decide) ?_
    refine lv_goto (tgt := 41) hx hb dX5_isRight_37 (by decide) ?_
    have e9 : cs_rg cn ar rt oh cu wc wl ro wt lim ch c = true := decide_eq_true (Or.inl e3)
    rw [hQ]
    exact ct_zret hx hb hr hlocks hP hD hS dX5_isRight_41 (by first | exact Or.inl rfl | exact Or.inr rfl) ⟨rfl, by rw [e9]; rfl⟩
  · refine lv_aload_n hx hb dX5_isRight_0 rfl (lv_at hl 0 rfl) ?_
    refine va_get (ci := 5) (v := .ref (g 12)) (C := RX5) (T := TX5) (N := 19) hx hb hbw in_X5 hown hK hP 0 rfl rfl 16 (by decide) (hbw _ m_504) (fun _ h9 => h9) rfl dX5_isRight_1 ?_
    refine lv_iload_n hx hb dX5_isRight_4 rfl (lv_at hl 1 rfl) ?_
    refine nr_mald1 hx hb hK hP 12 0 rfl rfl (k := c) (v := wl c) (by omega) (by omega) e4 dX5_isRight_5 ?_
    refine lv_iconst (v := (-1)) hx hb dX5_isRight_6 (by decide) ?_
    refine lv_icmp_eq (tgt := 36) hx hb dX5_isRight_7 (by decide) (fun h => absurd h (nI_nm1 (by omega))) (fun _ => ?_)
    refine lv_aload_n hx hb dX5_isRight_10 rfl (lv_at hl 0 rfl) ?_
    refine lv_iload_n hx hb dX5_isRight_11 rfl (lv_at hl 1 rfl) ?_
    refine ct_Vi (wc := (pM g cI cB th n en le ro sn ar rt oh cn no ot cu lim fa wy lo ch bd)) (wr := ([] : va_W)) (As := [.int (nI c)]) (rest := []) ⟨hx, hb, hml, hown, hbw⟩ (EN_E D _) hEN (kX5_carries l D cI cG cL cB g th n en le ro sn ar rt oh cn no ot cu lim fa wy lo ch bd wc wl wt c hc hz hy hch hlim he) (cwV (C := "CableSizesModel") 1 hbw (gV m_625 m_627 m_12 m_23 m_628) rfl rfl rfl (by decide +kernel) ⟨Nat.le_of_ble_eq_true rfl, Nat.le_of_ble_eq_true rfl⟩) (va_recv hK hP (ci := 5) (q0 := 0) rfl rfl) hP hD hS hA [0, 1, 2, 3, 4, 5, 6, 7, 8, 9, 10, 11, 12, 13, 14] [] rfl rfl (by decide) (by decide) (by decide) rfl hl.1 rfl (Nat.le_of_ble_eq_true rfl) dX5_isRight_12 ⟨Nat.le_of_ble_eq_true rfl, Nat.le_of_ble_eq_true rfl⟩ (fun r_1 w_1 H locs hw hP hD hS => ?_)
    obtain ⟨rfl, rfl⟩ := hw
    have hP := hP.sub (ws' := (pM g cI cB th n en le ro sn ar rt oh cn no ot cu lim fa wy lo ch bd)) [0, 1, 2, 3, 4, 5, 6, 7, 8, 9, 10, 11, 12, 13, 14] rfl
    have hD := hD.sub (ws' := (pM g cI cB th n en le ro sn ar rt oh cn no ot cu lim fa wy lo ch bd)) [0, 1, 2, 3, 4, 5, 6, 7, 8, 9, 10, 11, 12, 13, 14] (by decide) rfl
    refine lv_aload_n hx hb dX5_isRight_15 rfl (lv_at hl 0 rfl) ?_
    refine va_get (ci := 5) (v := .ref (g 9)) (C := RX5) (T := TX5) (N := 19) hx hb hbw in_X5 hown hK hP 0 rfl rfl 12 (by decide) (hbw _ m_500) (fun _ h9 => h9) rfl dX5_isRight_16 ?_
    refine lv_iload_n hx hb dX5_isRight_19 rfl (lv_at hl 1 rfl) ?_
    refine nr_iald hx hb hK hP 9 0 rfl rfl (k := c) (by omega) (by omega) dX5_isRight_20 ?_
    have b_2 := hcu c
    refine nr_icmp_lt (x := cy_carry rt wc ch (cz_fill cn ar wc ro wt ch) wt c) (y := cu c) (tgt := 40) hx hb (by omega) (by omega) dX5_isRight_21 (by decide) (fun h1 => ?_) (fun h1 => ?_)
    · refine lv_iconst (v := nI 0) hx hb dX5_isRight_40 (by decide) ?_
      have e9 : cs_rg cn ar rt oh cu wc wl ro wt lim ch c = false := decide_eq_false (by omega)
      rw [hQ]
      exact ct_zret hx hb hr hlocks hP hD hS dX5_isRight_41 (by first | exact Or.inl rfl | exact Or.inr rfl) ⟨rfl, by rw [e9]; rfl⟩
    · refine lv_aload_n hx hb dX5_isRight_24 rfl (lv_at hl 0 rfl) ?_
      refine lv_iload_n hx hb dX5_isRight_25 rfl (lv_at hl 1 rfl) ?_
      refine ct_Vi (wc := (pM g cI cB th n en le ro sn ar rt oh cn no ot cu lim fa wy lo ch bd)) (wr := ([] : va_W)) (As := [.int (nI c)]) (rest := []) ⟨hx, hb, hml, hown, hbw⟩ (EN_E D _) hEN (kX5_drop l D cI cG cL cB g th n en le ro sn ar rt oh cn no ot cu lim fa wy lo ch bd wc wl wt c hc hz hy hch hlim he) (cwV (C := "CableSizesModel") 1 hbw (gV m_641 m_643 m_16 m_23 m_644) rfl rfl rfl (by decide +kernel) ⟨Nat.le_of_ble_eq_true rfl, Nat.le_of_ble_eq_true rfl⟩) (va_recv hK hP (ci := 5) (q0 := 0) rfl rfl) hP hD hS hA [0, 1, 2, 3, 4, 5, 6, 7, 8, 9, 10, 11, 12, 13, 14] [] rfl rfl (by decide) (by decide) (by decide) rfl hl.1 rfl (Nat.le_of_ble_eq_true rfl) dX5_isRight_26 ⟨Nat.le_of_ble_eq_true rfl, Nat.le_of_ble_eq_true rfl⟩ (fun r_3 w_3 H locs hw hP hD hS => ?_)
      obtain ⟨rfl, rfl⟩ := hw
      have hP := hP.sub (ws' := (pM g cI cB th n en le ro sn ar rt oh cn no ot cu lim fa wy lo ch bd)) [0, 1, 2, 3, 4, 5, 6, 7, 8, 9, 10, 11, 12, 13, 14] rfl
      have hD := hD.sub (ws' := (pM g cI cB th n en le ro sn ar rt oh cn no ot cu lim fa wy lo ch bd)) [0, 1, 2, 3, 4, 5, 6, 7, 8, 9, 10, 11, 12, 13, 14] (by decide) rfl
      refine lv_aload_n hx hb dX5_isRight_29 rfl (lv_at hl 0 rfl) ?_
      refine va_get (ci := 5) (v := .int (nI lim)) (C := RX5) (T := TX5) (N := 19) hx hb hbw in_X5 hown hK hP 0 rfl rfl 13 (by decide) (hbw _ m_501) (fun _ h9 => h9) rfl dX5_isRight_30 ?_
      refine nr_icmp_gt (x := cz_drop oh cu wl ch c) (y := lim) (tgt := 40) hx hb (by omega) (by omega) dX5_isRight_33 (by decide) (fun h2 => ?_) (fun h2 => ?_)
      · refine lv_iconst (v := nI 0) hx hb dX5_isRight_40 (by decide) ?_
        have e9 : cs_rg cn ar rt oh cu wc wl ro wt lim ch c = false := decide_eq_false (by omega)
        rw [hQ]
        exact ct_zret hx hb hr hlocks hP hD hS dX5_isRight_41 (by first | exact Or.inl rfl | exact Or.inr rfl) ⟨rfl, by rw [e9]; rfl⟩
      · refine lv_iconst (v := nI 1) hx hb dX5_isRight_36 (by decide) ?_
        refine lv_goto (tgt := 41) hx hb dX5_isRight_37 (by decide) ?_
        have e9 : cs_rg cn ar rt oh cu wc wl ro wt lim ch c = true := decide_eq_true (Or.inr ⟨h1, h2⟩)
        rw [hQ]
        exact ct_zret hx hb hr hlocks hP hD hS dX5_isRight_41 (by first | exact Or.inl rfl | exact Or.inr rfl) ⟨rfl, by rw [e9]; rfl⟩
