/-- the bounds of sizes and cables -/
def okZ (sn : Nat) (ar rt oh : Nat → Nat) (cn : Nat) (cu wc wl : Nat → Nat) (wt : Nat → Nat → Nat) : Prop := sn ≤ 6 ∧ (∀ j, ar j ≤ 100) ∧ (∀ j, rt j ≤ 1000) ∧ (∀ j, oh j ≤ 1000) ∧ cn ≤ 20 ∧ (∀ j, cu j ≤ 1000) ∧ (∀ j, wc j ≤ 9) ∧ (∀ j, wl j ≤ 900) ∧ ∀ i j, wt i j < 15
/-- the least factor on the first k trays of cable c, the fills given -/
def cz_mg (fi : Nat → Nat) (wt : Nat → Nat → Nat) (c : Nat) : Nat → Nat
  | 0 => 1000
  | k + 1 => min (cz_mg fi wt c k) (cz_fac (fi (wt c k)))
theorem cz_mg_le (fi : Nat → Nat) (wt : Nat → Nat → Nat) (c : Nat) : ∀ k, cz_mg fi wt c k ≤ 1000
  | 0 => Nat.le_refl _
  | k + 1 => by
    have := cz_mg_le fi wt c k
    show min _ _ ≤ 1000
    omega
def cy_carry (rt wc pk fi : Nat → Nat) (wt : Nat → Nat → Nat) (c : Nat) : Nat := rt (pk c) * cz_mg fi wt c (wc c) / 1000
def cy_right (rt oh cu wc wl pk fi : Nat → Nat) (wt : Nat → Nat → Nat) (lim c : Nat) : Bool := decide (wc c = 0 ∨ (cu c ≤ cy_carry rt wc pk fi wt c ∧ cz_drop oh cu wl pk c ≤ lim))
theorem cy_right_congr {rt oh cu wc wl pk pk' fi : Nat → Nat} {wt : Nat → Nat → Nat} {lim c : Nat} (h : pk' c = pk c) : cy_right rt oh cu wc wl pk' fi wt lim c = cy_right rt oh cu wc wl pk fi wt lim c := by
  unfold cy_right cy_carry cz_drop
  rw [h]
theorem cz_drop_bd {oh cu wl pk : Nat → Nat} {c : Nat} (h1 : cu c ≤ 1000) (h2 : oh (pk c) ≤ 1000) (h3 : wl c ≤ 900) : cu c * oh (pk c) * wl c ≤ 900000000 ∧ cz_drop oh cu wl pk c ≤ 900000 := by
  have a1 : cu c * oh (pk c) ≤ 1000 * 1000 := Nat.mul_le_mul h1 h2
  have a2 : cu c * oh (pk c) * wl c ≤ 1000 * 1000 * 900 := Nat.mul_le_mul a1 h3
  refine ⟨by omega, ?_⟩
  unfold cz_drop
  omega
theorem cy_carry_bd {rt wc pk fi : Nat → Nat} {wt : Nat → Nat → Nat} {c : Nat} (h1 : rt (pk c) ≤ 1000) : rt (pk c) * cz_mg fi wt c (wc c) ≤ 1000000 ∧ cy_carry rt wc pk fi wt c ≤ 1000 := by
  have a1 : rt (pk c) * cz_mg fi wt c (wc c) ≤ 1000 * 1000 := Nat.mul_le_mul h1 (cz_mg_le fi wt c (wc c))
  refine ⟨by omega, ?_⟩
  unfold cy_carry
  omega
theorem nr_min {x y : Nat} (h1 : x < 2 ^ 31) (h2 : y < 2 ^ 31) : (if nI y < nI x then nI y else nI x) = nI (min x y) := by
  by_cases h : y < x
  · rw [if_pos ((nI_ltI h2 h1).mpr h), Nat.min_eq_right (by omega)]
  · rw [if_neg (fun q => h ((nI_ltI h2 h1).mp q)), Nat.min_eq_left (by omega)]
set_option maxHeartbeats 4000000 in
set_option maxRecDepth 100000 in
/-- Sizing.factorOf -/
theorem kX2_factorOf (l : Launch) (D : va_G) (cI cG cL cB : ClassId) (z0 z1 z2 : Nat) (q : Nat → Nat) (pk fi : Nat → Nat) (t : Nat) (ht : t < 15) (hfi : ∀ j, fi j ≤ 18000000) : ct_i l yX2_factorOf (.code yX2_factorOf cX2_factorOf 3 (some .int) :: bw) ({ frames := 0, cells := 0, slots := 0, locals := 0 }) (EN D (tyL cI cG cL cB)) D vwCl (pZ z0 z1 z2 q cI pk fi) [.ref z0, .int (nI t)] (fun v W => W = pZ z0 z1 z2 q cI pk fi ∧ v = nI (cz_fac (fi t))) 0 0 := by
  refine ct_ofi (by decide) (Nat.le_of_ble_eq_true rfl) ?_
  intro p e s m below meth cd A H locs av Q ls hx hb hr hml hown hlocks hnm hbw hEN hQ hP hD hS hA hl
  have hown : s.vm.findClass RX2 = some m.cls := hown
  have hK := hEN.1
  have hl : lv_has ls 3 [(0, .ref z0), (1, .int (nI t))] := hl
  refine lv_aload_n hx hb dX2_factorOf_0 rfl (lv_at hl 0 rfl) ?_
  refine va_get (ci := 2) (v := .ref z2) (C := RX2) (T := TX2) (N := 5) hx hb hbw in_X2 hown hK hP 0 rfl rfl 4 (by decide) (hbw _ m_146) (fun _ h9 => h9) rfl dX2_factorOf_1 ?_
  refine lv_iload_n hx hb dX2_factorOf_4 rfl (lv_at hl 1 rfl) ?_
  refine nr_iald hx hb hK hP 2 0 rfl rfl (k := t) (by omega) (by omega) dX2_factorOf_5 ?_
  have b_1 := hfi t
  refine lv_istore_n (lv' := [(2, .int (nI (fi t))), (0, .ref z0), (1, .int (nI t))]) hx hb dX2_factorOf_6 rfl hl (by decide) rfl (fun ls hl => ?_)
  refine lv_iload_n hx hb dX2_factorOf_7 rfl (lv_at hl 0 rfl) ?_
  refine lv_sipush (v := nI 200) hx hb dX2_factorOf_8 (by decide) ?_
  refine nr_icmp_gt (x := fi t) (y := 200) (tgt := 18) hx hb (by omega) (by omega) dX2_factorOf_11 (by decide) (fun h0 => ?_) (fun h0 => ?_)
  · refine lv_iload_n hx hb dX2_factorOf_18 rfl (lv_at hl 0 rfl) ?_
    refine lv_sipush (v := nI 400) hx hb dX2_factorOf_19 (by decide) ?_
    refine nr_icmp_gt (x := fi t) (y := 400) (tgt := 29) hx hb (by omega) (by omega) dX2_factorOf_22 (by decide) (fun h1 => ?_) (fun h1 => ?_)
    · refine lv_iload_n hx hb dX2_factorOf_29 rfl (lv_at hl 0 rfl) ?_
      refine lv_sipush (v := nI 600) hx hb dX2_factorOf_30 (by decide) ?_
      refine nr_icmp_gt (x := fi t) (y := 600) (tgt := 40) hx hb (by omega) (by omega) dX2_factorOf_33 (by decide) (fun h2 => ?_) (fun h2 => ?_)
      · refine lv_iload_n hx hb dX2_factorOf_40 rfl (lv_at hl 0 rfl) ?_
        refine lv_sipush (v := nI 800) hx hb dX2_factorOf_41 (by decide) ?_
        refine nr_icmp_gt (x := fi t) (y := 800) (tgt := 51) hx hb (by omega) (by omega) dX2_factorOf_44 (by decide) (fun h3 => ?_) (fun h3 => ?_)
        · refine lv_iload_n hx hb dX2_factorOf_51 rfl (lv_at hl 0 rfl) ?_
          refine lv_sipush (v := nI 1000) hx hb dX2_factorOf_52 (by decide) ?_
          refine nr_icmp_gt (x := fi t) (y := 1000) (tgt := 64) hx hb (by omega) (by omega) dX2_factorOf_55 (by decide) (fun h4 => ?_) (fun h4 => ?_)
          · refine lv_iconst (v := nI 0) hx hb dX2_factorOf_64 (by decide) ?_
            have e1 : cz_fac (fi t) = 0 := by unfold cz_fac; rw [if_neg (by omega), if_neg (by omega), if_neg (by omega), if_neg (by omega), if_neg (by omega)]
            rw [hQ]
            exact ct_iret hx hb hr hlocks hP hD hS dX2_factorOf_65 ⟨rfl, by rw [e1]⟩
          · refine lv_sipush (v := nI 500) hx hb dX2_factorOf_58 (by decide) ?_
            refine lv_goto (tgt := 65) hx hb dX2_factorOf_61 (by decide) ?_
            have e1 : cz_fac (fi t) = 500 := by unfold cz_fac; rw [if_neg (by omega), if_neg (by omega), if_neg (by omega), if_neg (by omega), if_pos (by omega)]
            rw [hQ]
            exact ct_iret hx hb hr hlocks hP hD hS dX2_factorOf_65 ⟨rfl, by rw [e1]⟩
        · refine lv_sipush (v := nI 550) hx hb dX2_factorOf_47 (by decide) ?_
          have e1 : cz_fac (fi t) = 550 := by unfold cz_fac; rw [if_neg (by omega), if_neg (by omega), if_neg (by omega), if_pos (by omega)]
          rw [hQ]
          exact ct_iret hx hb hr hlocks hP hD hS dX2_factorOf_50 ⟨rfl, by rw [e1]⟩
      · refine lv_sipush (v := nI 650) hx hb dX2_factorOf_36 (by decide) ?_
        have e1 : cz_fac (fi t) = 650 := by unfold cz_fac; rw [if_neg (by omega), if_neg (by omega), if_pos (by omega)]
        rw [hQ]
        exact ct_iret hx hb hr hlocks hP hD hS dX2_factorOf_39 ⟨rfl, by rw [e1]⟩
    · refine lv_sipush (v := nI 800) hx hb dX2_factorOf_25 (by decide) ?_
      have e1 : cz_fac (fi t) = 800 := by unfold cz_fac; rw [if_neg (by omega), if_pos (by omega)]
      rw [hQ]
      exact ct_iret hx hb hr hlocks hP hD hS dX2_factorOf_28 ⟨rfl, by rw [e1]⟩
  · refine lv_sipush (v := nI 1000) hx hb dX2_factorOf_14 (by decide) ?_
    have e1 : cz_fac (fi t) = 1000 := by unfold cz_fac; rw [if_pos (by omega)]
    rw [hQ]
    exact ct_iret hx hb hr hlocks hP hD hS dX2_factorOf_17 ⟨rfl, by rw [e1]⟩
set_option maxHeartbeats 4000000 in
set_option maxRecDepth 100000 in
/-- Sizing.dropOf -/
theorem kX2_dropOf (l : Launch) (D : va_G) (cI cG cL cB : ClassId) (z0 z1 z2 : Nat) (q r : Nat → Nat) (pk fi : Nat → Nat) (sn : Nat) (ar rt oh : Nat → Nat) (cn : Nat) (no ot cu wc wl : Nat → Nat) (wt : Nat → Nat → Nat) (c : Nat) (hc : c < 20) (hz : okZ sn ar rt oh cn cu wc wl wt) (hpk : ∀ j, pk j < 6) (hfi : ∀ j, fi j ≤ 18000000) : ct_i l yX2_dropOf (.code yX2_dropOf cX2_dropOf 2 (some .int) :: bw) ({ frames := 0, cells := 0, slots := 0, locals := 0 }) (EN D (tyL cI cG cL cB)) D vwCl (pZ z0 z1 z2 q cI pk fi ++ pS q cI sn ar rt oh ++ pC q r cI cG cn no ot cu wc wl) [.ref z0, .int (nI c)] (fun v W => W = pZ z0 z1 z2 q cI pk fi ++ pS q cI sn ar rt oh ++ pC q r cI cG cn no ot cu wc wl ∧ v = nI (cz_drop oh cu wl pk c)) 0 0 := by
  refine ct_ofi (by decide) (Nat.le_of_ble_eq_true rfl) ?_
  intro p e s m below meth cd A H locs av Q ls hx hb hr hml hown hlocks hnm hbw hEN hQ hP hD hS hA hl
  have hown : s.vm.findClass RX2 = some m.cls := hown
  have hK := hEN.1
  have hl : lv_has ls 2 [(0, .ref z0), (1, .int (nI c))] := hl
  obtain ⟨hsn, har, hrt, hoh, hcn, hcu, hwc, hwl, hwt⟩ := id hz
  have hb9 := cz_drop_bd (oh := oh) (cu := cu) (wl := wl) (pk := pk) (c := c) (hcu c) (hoh (pk c)) (hwl c)
  refine lv_aload_n hx hb dX2_dropOf_0 rfl (lv_at hl 0 rfl) ?_
  refine va_get (ci := 2) (v := .ref (q 11)) (C := RX2) (T := TX2) (N := 5) hx hb hbw in_X2 hown hK hP 0 rfl rfl 2 (by decide) (hbw _ m_143) (fun _ h9 => h9) rfl dX2_dropOf_1 ?_
  refine va_getN (ci := 0) (v := .ref (q 14)) (C := RX0) (T := TX0) (N := 7) hx hb hbw in_X0 hown hK hP 7 rfl rfl 3 (by decide) (va_Nw.use rfl (hEN.2 _ (List.mem_filter.mpr ⟨mn_93, rfl⟩))) (fun _ h9 => h9) rfl dX2_dropOf_4 ?_
  refine lv_iload_n hx hb dX2_dropOf_7 rfl (lv_at hl 1 rfl) ?_
  refine nr_iald hx hb hK hP 10 0 rfl rfl (k := c) (by omega) (by omega) dX2_dropOf_8 ?_
  have b_1 := hcu c
  refine lv_aload_n hx hb dX2_dropOf_9 rfl (lv_at hl 0 rfl) ?_
  refine va_get (ci := 2) (v := .ref (q 7)) (C := RX2) (T := TX2) (N := 5) hx hb hbw in_X2 hown hK hP 0 rfl rfl 1 (by decide) (hbw _ m_142) (fun _ h9 => h9) rfl dX2_dropOf_10 ?_
  refine va_getN (ci := 1) (v := .ref (q 10)) (C := RX1) (T := TX1) (N := 4) hx hb hbw in_X1 hown hK hP 3 rfl rfl 3 (by decide) (va_Nw.use rfl (hEN.2 _ (List.mem_filter.mpr ⟨mn_68, rfl⟩))) (fun _ h9 => h9) rfl dX2_dropOf_13 ?_
  refine lv_aload_n hx hb dX2_dropOf_16 rfl (lv_at hl 0 rfl) ?_
  refine va_get (ci := 2) (v := .ref z1) (C := RX2) (T := TX2) (N := 5) hx hb hbw in_X2 hown hK hP 0 rfl rfl 3 (by decide) (hbw _ m_144) (fun _ h9 => h9) rfl dX2_dropOf_17 ?_
  refine lv_iload_n hx hb dX2_dropOf_20 rfl (lv_at hl 1 rfl) ?_
  refine nr_iald hx hb hK hP 1 0 rfl rfl (k := c) (by omega) (by omega) dX2_dropOf_21 ?_
  have b_2 := hpk c
  refine nr_iald hx hb hK hP 6 0 rfl rfl (k := pk c) (by omega) (by omega) dX2_dropOf_22 ?_
  have b_3 := hoh (pk c)
  refine nr_imul hx hb dX2_dropOf_23 ?_
  refine lv_aload_n hx hb dX2_dropOf_24 rfl (lv_at hl 0 rfl) ?_
  refine va_get (ci := 2) (v := .ref (q 11)) (C := RX2) (T := TX2) (N := 5) hx hb hbw in_X2 hown hK hP 0 rfl rfl 2 (by decide) (hbw _ m_143) (fun _ h9 => h9) rfl dX2_dropOf_25 ?_
  refine va_getN (ci := 0) (v := .ref (q 16)) (C := RX0) (T := TX0) (N := 7) hx hb hbw in_X0 hown hK hP 7 rfl rfl 5 (by decide) (va_Nw.use rfl (hEN.2 _ (List.mem_filter.mpr ⟨mn_98, rfl⟩))) (fun _ h9 => h9) rfl dX2_dropOf_28 ?_
  refine lv_iload_n hx hb dX2_dropOf_31 rfl (lv_at hl 1 rfl) ?_
  refine nr_iald hx hb hK hP 12 0 rfl rfl (k := c) (by omega) (by omega) dX2_dropOf_32 ?_
  have b_4 := hwl c
  refine nr_imul hx hb dX2_dropOf_33 ?_
  refine lv_sipush (v := nI 1000) hx hb dX2_dropOf_34 (by decide) ?_
  refine nr_idiv hx hb (by omega) (by omega) (by omega) dX2_dropOf_37 ?_
  rw [hQ]
  exact ct_iret hx hb hr hlocks hP hD hS dX2_dropOf_38 ⟨rfl, rfl⟩
set_option maxHeartbeats 4000000 in
set_option maxRecDepth 100000 in
/-- Sizing.carriedBy -/
theorem kX2_carriedBy (l : Launch) (D : va_G) (cI cG cL cB : ClassId) (z0 z1 z2 : Nat) (q r : Nat → Nat) (pk fi : Nat → Nat) (sn : Nat) (ar rt oh : Nat → Nat) (cn : Nat) (no ot cu wc wl : Nat → Nat) (wt : Nat → Nat → Nat) (c : Nat) (hc : c < 20) (hz : okZ sn ar rt oh cn cu wc wl wt) (hpk : ∀ j, pk j < 6) (hfi : ∀ j, fi j ≤ 18000000) : ct_i l yX2_carriedBy (.code yX2_carriedBy cX2_carriedBy 4 (some .int) :: bw) ({ frames := 1, cells := 0, slots := 0, locals := 22 }) (EN D (tyL cI cG cL cB)) D vwCl (pZ z0 z1 z2 q cI pk fi ++ pS q cI sn ar rt oh ++ pC q r cI cG cn no ot cu wc wl ++ pR r cI wt) [.ref z0, .int (nI c)] (fun v W => W = pZ z0 z1 z2 q cI pk fi ++ pS q cI sn ar rt oh ++ pC q r cI cG cn no ot cu wc wl ++ pR r cI wt ∧ v = nI (cy_carry rt wc pk fi wt c)) 0 0 := by
  refine ct_ofi (by decide) (Nat.le_of_ble_eq_true rfl) ?_
  intro p e s m below meth cd A H locs av Q ls hx hb hr hml hown hlocks hnm hbw hEN hQ hP hD hS hA hl
  have hown : s.vm.findClass RX2 = some m.cls := hown
  have hK := hEN.1
  have hl : lv_has ls 4 [(0, .ref z0), (1, .int (nI c))] := hl
  obtain ⟨hsn, har, hrt, hoh, hcn, hcu, hwc, hwl, hwt⟩ := id hz
  have b_0 := hwc c
  have hb9 := cy_carry_bd (rt := rt) (wc := wc) (pk := pk) (fi := fi) (wt := wt) (c := c) (hrt (pk c))
  refine lv_sipush (v := nI 1000) hx hb dX2_carriedBy_0 (by decide) ?_
  refine lv_istore_n (lv' := [(2, .int (nI 1000)), (0, .ref z0), (1, .int (nI c))]) hx hb dX2_carriedBy_3 rfl hl (by decide) rfl (fun ls hl => ?_)
  refine lv_iconst (v := nI 0) hx hb dX2_carriedBy_4 (by decide) ?_
  refine lv_istore_n (lv' := [(3, .int (nI 0)), (2, .int (nI 1000)), (0, .ref z0), (1, .int (nI c))]) hx hb dX2_carriedBy_5 rfl hl (by decide) rfl (fun ls hl => ?_)
  have lp : ∀ (k : Nat) (k0 : Nat), (hk : 9 < k0 + k) → (hi : k0 ≤ wc c) → ∀ (H : Heap) (locs : List Loc) (ls : Array Slot), va_P D vwCl (pZ z0 z1 z2 q cI pk fi ++ pS q cI sn ar rt oh ++ pC q r cI cG cn no ot cu wc wl ++ pR r cI wt) H → va_D A (pZ z0 z1 z2 q cI pk fi ++ pS q cI sn ar rt oh ++ pC q r cI cG cn no ot cu wc wl ++ pR r cI wt) → va_S A s.heap H locs → lv_has ls 4 [(0, .ref z0), (1, .int (nI c)), (2, .int (nI (cz_mg fi wt c k0))), (3, .int (nI k0))] → W p l e ({ frames := 1, cells := 0, slots := 0, locals := 22 }) s m av below meth cd H locs 0 0 Q (F0 m 6 ls []) := by
    intro k
    induction k with
    | zero => intro k0 hk hi; exact absurd hk (by omega)
    | succ k ih =>
      intro k0 hk hi H locs ls hP hD hS hl
      refine lv_iload_n hx hb dX2_carriedBy_6 rfl (lv_at hl 3 rfl) ?_
      refine lv_aload_n hx hb dX2_carriedBy_7 rfl (lv_at hl 0 rfl) ?_
      refine va_get (ci := 2) (v := .ref (q 11)) (C := RX2) (T := TX2) (N := 5) hx hb hbw in_X2 hown hK hP 0 rfl rfl 2 (by decide) (hbw _ m_143) (fun _ h9 => h9) rfl dX2_carriedBy_8 ?_
      refine va_getN (ci := 0) (v := .ref (q 15)) (C := RX0) (T := TX0) (N := 7) hx hb hbw in_X0 hown hK hP 7 rfl rfl 4 (by decide) (va_Nw.use rfl (hEN.2 _ (List.mem_filter.mpr ⟨mn_95, rfl⟩))) (fun _ h9 => h9) rfl dX2_carriedBy_11 ?_
      refine lv_iload_n hx hb dX2_carriedBy_14 rfl (lv_at hl 1 rfl) ?_
      refine nr_iald hx hb hK hP 11 0 rfl rfl (k := c) (by omega) (by omega) dX2_carriedBy_15 ?_
      have b_1 := hwc c
      refine nr_icmp_ge (x := k0) (y := wc c) (tgt := 45) hx hb (by omega) (by omega) dX2_carriedBy_16 (by decide) (fun h1 => ?_) (fun h1 => ?_)
      · obtain rfl : k0 = wc c := by omega
        refine lv_aload_n hx hb dX2_carriedBy_45 rfl (lv_at hl 0 rfl) ?_
        refine va_get (ci := 2) (v := .ref (q 7)) (C := RX2) (T := TX2) (N := 5) hx hb hbw in_X2 hown hK hP 0 rfl rfl 1 (by decide) (hbw _ m_142) (fun _ h9 => h9) rfl dX2_carriedBy_46 ?_
        refine va_getN (ci := 1) (v := .ref (q 9)) (C := RX1) (T := TX1) (N := 4) hx hb hbw in_X1 hown hK hP 3 rfl rfl 2 (by decide) (va_Nw.use rfl (hEN.2 _ (List.mem_filter.mpr ⟨mn_66, rfl⟩))) (fun _ h9 => h9) rfl dX2_carriedBy_49 ?_
        refine lv_aload_n hx hb dX2_carriedBy_52 rfl (lv_at hl 0 rfl) ?_
        refine va_get (ci := 2) (v := .ref z1) (C := RX2) (T := TX2) (N := 5) hx hb hbw in_X2 hown hK hP 0 rfl rfl 3 (by decide) (hbw _ m_144) (fun _ h9 => h9) rfl dX2_carriedBy_53 ?_
        refine lv_iload_n hx hb dX2_carriedBy_56 rfl (lv_at hl 1 rfl) ?_
        refine nr_iald hx hb hK hP 1 0 rfl rfl (k := c) (by omega) (by omega) dX2_carriedBy_57 ?_
        have b_2 := hpk c
        refine nr_iald hx hb hK hP 5 0 rfl rfl (k := pk c) (by omega) (by omega) dX2_carriedBy_58 ?_
        have b_3 := hrt (pk c)
        refine lv_iload_n hx hb dX2_carriedBy_59 rfl (lv_at hl 2 rfl) ?_
        refine nr_imul hx hb dX2_carriedBy_60 ?_
        refine lv_sipush (v := nI 1000) hx hb dX2_carriedBy_61 (by decide) ?_
        refine nr_idiv hx hb (by omega) (by omega) (by omega) dX2_carriedBy_64 ?_
        rw [hQ]
        exact ct_iret hx hb hr hlocks hP hD hS dX2_carriedBy_65 ⟨rfl, rfl⟩
      · refine lv_iload_n hx hb dX2_carriedBy_19 rfl (lv_at hl 2 rfl) ?_
        refine lv_aload_n hx hb dX2_carriedBy_20 rfl (lv_at hl 0 rfl) ?_
        refine lv_aload_n hx hb dX2_carriedBy_21 rfl (lv_at hl 0 rfl) ?_
        refine va_get (ci := 2) (v := .ref (q 11)) (C := RX2) (T := TX2) (N := 5) hx hb hbw in_X2 hown hK hP 0 rfl rfl 2 (by decide) (hbw _ m_143) (fun _ h9 => h9) rfl dX2_carriedBy_22 ?_
        refine va_getN (ci := 0) (v := .ref (q 17)) (C := RX0) (T := TX0) (N := 7) hx hb hbw in_X0 hown hK hP 7 rfl rfl 6 (by decide) (va_Nw.use rfl (hEN.2 _ (List.mem_filter.mpr ⟨mn_101, rfl⟩))) (fun _ h9 => h9) rfl dX2_carriedBy_25 ?_
        refine lv_iload_n hx hb dX2_carriedBy_28 rfl (lv_at hl 1 rfl) ?_
        refine gr_ald hx hb hK hP 13 1 rfl rfl (k := c) (by omega) dX2_carriedBy_29 ?_
        refine lv_iload_n hx hb dX2_carriedBy_30 rfl (lv_at hl 3 rfl) ?_
        refine gr_iald hx hb hK hP 0 rfl (i := c) (k := k0) (by omega) (by omega) dX2_carriedBy_31 ?_
        have b_4 := hwt c k0
        refine ct_Vi (wc := (pZ z0 z1 z2 q cI pk fi)) (wr := (pS q cI sn ar rt oh ++ pC q r cI cG cn no ot cu wc wl ++ pR r cI wt)) (As := [.int (nI (wt c k0))]) (rest := [.int (nI (cz_mg fi wt c k0))]) ⟨hx, hb, hml, hown, hbw⟩ (EN_E D _) hEN (kX2_factorOf l D cI cG cL cB z0 z1 z2 q pk fi (wt c k0) (hwt c k0) hfi) (cwV (C := "CableSizes$Sizing") 1 hbw (gV m_220 m_221 m_222 m_22 m_223) rfl rfl rfl (by decide +kernel) ⟨Nat.le_of_ble_eq_true rfl, Nat.le_of_ble_eq_true rfl⟩) (va_recv hK hP (ci := 2) (q0 := 0) rfl rfl) hP hD hS hA [0, 1, 2] [3, 4, 5, 6, 7, 8, 9, 10, 11, 12, 13, 14, 15, 16, 17, 18, 19, 20, 21, 22, 23, 24, 25, 26, 27, 28, 29, 30, 31, 32, 33] rfl rfl (by decide) (by decide) (by decide) rfl hl.1 rfl (Nat.le_of_ble_eq_true rfl) dX2_carriedBy_32 ⟨Nat.le_of_ble_eq_true rfl, Nat.le_of_ble_eq_true rfl⟩ (fun r_5 w_5 H locs hw hP hD hS => ?_)
        obtain ⟨rfl, rfl⟩ := hw
        have hP := hP.sub (ws' := (pZ z0 z1 z2 q cI pk fi ++ pS q cI sn ar rt oh ++ pC q r cI cG cn no ot cu wc wl ++ pR r cI wt)) [31, 32, 33, 0, 1, 2, 3, 4, 5, 6, 7, 8, 9, 10, 11, 12, 13, 14, 15, 16, 17, 18, 19, 20, 21, 22, 23, 24, 25, 26, 27, 28, 29, 30] rfl
        have hD := hD.sub (ws' := (pZ z0 z1 z2 q cI pk fi ++ pS q cI sn ar rt oh ++ pC q r cI cG cn no ot cu wc wl ++ pR r cI wt)) [31, 32, 33, 0, 1, 2, 3, 4, 5, 6, 7, 8, 9, 10, 11, 12, 13, 14, 15, 16, 17, 18, 19, 20, 21, 22, 23, 24, 25, 26, 27, 28, 29, 30] (by decide) rfl
        have b_1 := cz_mg_le fi wt c k0
        have b_2 := cz_fac_le (fi (wt c k0))
        refine va_mmin (x := nI (cz_mg fi wt c k0)) (y := nI (cz_fac (fi (wt c k0)))) hx hb (hml.trans hl.1.symm) hown (hbw _ m_224) (hbw _ m_225) (hbw _ m_30) (hbw _ m_226) (Nat.le_of_ble_eq_true rfl) (Nat.le_of_ble_eq_true rfl) (Nat.le_of_ble_eq_true rfl) (Nat.le_of_ble_eq_true rfl) dX2_carriedBy_35 ?_
        rw [nr_min (by omega) (by omega)]
        refine lv_istore_n (lv' := [(2, .int (nI (min (cz_mg fi wt c k0) (cz_fac (fi (wt c k0)))))), (0, .ref z0), (1, .int (nI c)), (3, .int (nI k0))]) hx hb dX2_carriedBy_38 rfl hl (by decide) rfl (fun ls hl => ?_)
        refine lv_iinc (v := nI (k0 + 1)) (lv' := [(3, .int (nI (k0 + 1))), (2, .int (nI (min (cz_mg fi wt c k0) (cz_fac (fi (wt c k0)))))), (0, .ref z0), (1, .int (nI c))]) hx hb dX2_carriedBy_39 hl (k := 3) rfl (nI_1 _) (by decide) rfl (fun ls hl => ?_)
        refine lv_goto (tgt := 6) hx hb dX2_carriedBy_42 (by decide) ?_
        exact ih (k0 + 1) (by omega) (by omega) _ _ _ hP hD hS (lv_sub hl [2, 3, 1, 0] rfl)
  exact lp 10 0 (by omega) (Nat.zero_le _) H locs ls hP hD hS (lv_sub hl [2, 3, 1, 0] rfl)
set_option maxHeartbeats 4000000 in
set_option maxRecDepth 100000 in
/-- Sizing.isRightAt -/
theorem kX2_isRightAt (l : Launch) (D : va_G) (cI cG cL cB : ClassId) (z0 z1 z2 : Nat) (q r : Nat → Nat) (pk fi : Nat → Nat) (sn : Nat) (ar rt oh : Nat → Nat) (cn : Nat) (no ot cu wc wl : Nat → Nat) (wt : Nat → Nat → Nat) (c lim : Nat) (hc : c < 20) (hlim : lim ≤ 1000000) (hz : okZ sn ar rt oh cn cu wc wl wt) (hpk : ∀ j, pk j < 6) (hfi : ∀ j, fi j ≤ 18000000) : ct_i l yX2_isRightAt (.code yX2_isRightAt cX2_isRightAt 3 (some .boolean) :: bw) ({ frames := 2, cells := 0, slots := 0, locals := 45 }) (EN D (tyL cI cG cL cB)) D vwCl (pZ z0 z1 z2 q cI pk fi ++ pS q cI sn ar rt oh ++ pC q r cI cG cn no ot cu wc wl ++ pR r cI wt) [.ref z0, .int (nI c), .int (nI lim)] (fun v W => W = pZ z0 z1 z2 q cI pk fi ++ pS q cI sn ar rt oh ++ pC q r cI cG cn no ot cu wc wl ++ pR r cI wt ∧ v = nI (bN (cy_right rt oh cu wc wl pk fi wt lim c))) 0 0 := by
  refine ct_ofi (by decide) (Nat.le_of_ble_eq_true rfl) ?_
  intro p e s m below meth cd A H locs av Q ls hx hb hr hml hown hlocks hnm hbw hEN hQ hP hD hS hA hl
  have hown : s.vm.findClass RX2 = some m.cls := hown
  have hK := hEN.1
  have hl : lv_has ls 3 [(0, .ref z0), (1, .int (nI c)), (2, .int (nI lim))] := hl
  obtain ⟨hsn, har, hrt, hoh, hcn, hcu, hwc, hwl, hwt⟩ := id hz
  have hb8 := cz_drop_bd (oh := oh) (cu := cu) (wl := wl) (pk := pk) (c := c) (hcu c) (hoh (pk c)) (hwl c)
  have hb9 := cy_carry_bd (rt := rt) (wc := wc) (pk := pk) (fi := fi) (wt := wt) (c := c) (hrt (pk c))
  refine lv_aload_n hx hb dX2_isRightAt_0 rfl (lv_at hl 0 rfl) ?_
  refine va_get (ci := 2) (v := .ref (q 11)) (C := RX2) (T := TX2) (N := 5) hx hb hbw in_X2 hown hK hP 0 rfl rfl 2 (by decide) (hbw _ m_143) (fun _ h9 => h9) rfl dX2_isRightAt_1 ?_
  refine lv_iload_n hx hb dX2_isRightAt_4 rfl (lv_at hl 1 rfl) ?_
  refine ct_Vi (wc := (pC q r cI cG cn no ot cu wc wl)) (wr := (pZ z0 z1 z2 q cI pk fi ++ pS q cI sn ar rt oh ++ pR r cI wt)) (As := [.int (nI c)]) (rest := []) ⟨hx, hb, hml, hown, hbw⟩ (EN_E D _) hEN (kX0_isLoose l D cI cG cL cB q r cn no ot cu wc wl c hc hwc) (cwV (C := "CableSizes$Cables") 1 hbw (gV m_212 m_213 m_214 m_21 m_215) rfl rfl rfl (by decide +kernel) ⟨Nat.le_of_ble_eq_true rfl, Nat.le_of_ble_eq_true rfl⟩) (va_recv hK hP (ci := 0) (q0 := 7) rfl rfl) hP hD hS hA [7, 8, 9, 10, 11, 12, 13] [0, 1, 2, 3, 4, 5, 6, 14, 15, 16, 17, 18, 19, 20, 21, 22, 23, 24, 25, 26, 27, 28, 29, 30, 31, 32, 33] rfl rfl (by decide) (by decide) (by decide) rfl hl.1 rfl (Nat.le_of_ble_eq_true rfl) dX2_isRightAt_5 ⟨Nat.le_of_ble_eq_true rfl, Nat.le_of_ble_eq_true rfl⟩ (fun r_1 w_1 H locs hw hP hD hS => ?_)
  obtain ⟨rfl, rfl⟩ := hw
  have hP := hP.sub (ws' := (pZ z0 z1 z2 q cI pk fi ++ pS q cI sn ar rt oh ++ pC q r cI cG cn no ot cu wc wl ++ pR r cI wt)) [0, 1, 2, 3, 4, 5, 6, 27, 28, 29, 30, 31, 32, 33, 7, 8, 9, 10, 11, 12, 13, 14, 15, 16, 17, 18, 19, 20, 21, 22, 23, 24, 25, 26] rfl
  have hD := hD.sub (ws' := (pZ z0 z1 z2 q cI pk fi ++ pS q cI sn ar rt oh ++ pC q r cI cG cn no ot cu wc wl ++ pR r cI wt)) [0, 1, 2, 3, 4, 5, 6, 27, 28, 29, 30, 31, 32, 33, 7, 8, 9, 10, 11, 12, 13, 14, 15, 16, 17, 18, 19, 20, 21, 22, 23, 24, 25, 26] (by decide) rfl
  refine nr_if_eq (x := bN (decide (wc c = 0))) (tgt := 13) hx hb (by unfold bN; split <;> omega) dX2_isRightAt_8 (by decide) (fun h1 => ?_) (fun h1 => ?_)
  · have h0 := of_decide_eq_false (bN_f h1)
    refine lv_aload_n hx hb dX2_isRightAt_13 rfl (lv_at hl 0 rfl) ?_
    refine lv_iload_n hx hb dX2_isRightAt_14 rfl (lv_at hl 1 rfl) ?_
    refine ct_Vi (wc := (pZ z0 z1 z2 q cI pk fi ++ pS q cI sn ar rt oh ++ pC q r cI cG cn no ot cu wc wl ++ pR r cI wt)) (wr := ([] : va_W)) (As := [.int (nI c)]) (rest := []) ⟨hx, hb, hml, hown, hbw⟩ (EN_E D _) hEN (kX2_carriedBy l D cI cG cL cB z0 z1 z2 q r pk fi sn ar rt oh cn no ot cu wc wl wt c hc hz hpk hfi) (cwV (C := "CableSizes$Sizing") 1 hbw (gV m_216 m_217 m_218 m_22 m_219) rfl rfl rfl (by decide +kernel) ⟨Nat.le_of_ble_eq_true rfl, Nat.le_of_ble_eq_true rfl⟩) (va_recv hK hP (ci := 2) (q0 := 0) rfl rfl) hP hD hS hA [0, 1, 2, 3, 4, 5, 6, 7, 8, 9, 10, 11, 12, 13, 14, 15, 16, 17, 18, 19, 20, 21, 22, 23, 24, 25, 26, 27, 28, 29, 30, 31, 32, 33] [] rfl rfl (by decide) (by decide) (by decide) rfl hl.1 rfl (Nat.le_of_ble_eq_true rfl) dX2_isRightAt_15 ⟨Nat.le_of_ble_eq_true rfl, Nat.le_of_ble_eq_true rfl⟩ (fun r_2 w_2 H locs hw hP hD hS => ?_)
    obtain ⟨rfl, rfl⟩ := hw
    have hP := hP.sub (ws' := (pZ z0 z1 z2 q cI pk fi ++ pS q cI sn ar rt oh ++ pC q r cI cG cn no ot cu wc wl ++ pR r cI wt)) [0, 1, 2, 3, 4, 5, 6, 7, 8, 9, 10, 11, 12, 13, 14, 15, 16, 17, 18, 19, 20, 21, 22, 23, 24, 25, 26, 27, 28, 29, 30, 31, 32, 33] rfl
    have hD := hD.sub (ws' := (pZ z0 z1 z2 q cI pk fi ++ pS q cI sn ar rt oh ++ pC q r cI cG cn no ot cu wc wl ++ pR r cI wt)) [0, 1, 2, 3, 4, 5, 6, 7, 8, 9, 10, 11, 12, 13, 14, 15, 16, 17, 18, 19, 20, 21, 22, 23, 24, 25, 26, 27, 28, 29, 30, 31, 32, 33] (by decide) rfl
    refine lv_aload_n hx hb dX2_isRightAt_18 rfl (lv_at hl 0 rfl) ?_
    refine va_get (ci := 2) (v := .ref (q 11)) (C := RX2) (T := TX2) (N := 5) hx hb hbw in_X2 hown hK hP 0 rfl rfl 2 (by decide) (hbw _ m_143) (fun _ h9 => h9) rfl dX2_isRightAt_19 ?_
    refine va_getN (ci := 0) (v := .ref (q 14)) (C := RX0) (T := TX0) (N := 7) hx hb hbw in_X0 hown hK hP 7 rfl rfl 3 (by decide) (va_Nw.use rfl (hEN.2 _ (List.mem_filter.mpr ⟨mn_93, rfl⟩))) (fun _ h9 => h9) rfl dX2_isRightAt_22 ?_
    refine lv_iload_n hx hb dX2_isRightAt_25 rfl (lv_at hl 1 rfl) ?_
    refine nr_iald hx hb hK hP 10 0 rfl rfl (k := c) (by omega) (by omega) dX2_isRightAt_26 ?_
    have b_3 := hcu c
    refine nr_icmp_lt (x := cy_carry rt wc pk fi wt c) (y := cu c) (tgt := 43) hx hb (by omega) (by omega) dX2_isRightAt_27 (by decide) (fun h2 => ?_) (fun h2 => ?_)
    · refine lv_iconst (v := nI 0) hx hb dX2_isRightAt_43 (by decide) ?_
      have e1 : cy_right rt oh cu wc wl pk fi wt lim c = false := decide_eq_false (by omega)
      rw [hQ]
      exact ct_zret hx hb hr hlocks hP hD hS dX2_isRightAt_44 (by first | exact Or.inl rfl | exact Or.inr rfl) ⟨rfl, by rw [e1]; rfl⟩
    · refine lv_aload_n hx hb dX2_isRightAt_30 rfl (lv_at hl 0 rfl) ?_
      refine lv_iload_n hx hb dX2_isRightAt_31 rfl (lv_at hl 1 rfl) ?_
      refine ct_Vi (wc := (pZ z0 z1 z2 q cI pk fi ++ pS q cI sn ar rt oh ++ pC q r cI cG cn no ot cu wc wl)) (wr := (pR r cI wt)) (As := [.int (nI c)]) (rest := []) ⟨hx, hb, hml, hown, hbw⟩ (EN_E D _) hEN (kX2_dropOf l D cI cG cL cB z0 z1 z2 q r pk fi sn ar rt oh cn no ot cu wc wl wt c hc hz hpk hfi) (cwV (C := "CableSizes$Sizing") 1 hbw (gV m_227 m_228 m_229 m_22 m_230) rfl rfl rfl (by decide +kernel) ⟨Nat.le_of_ble_eq_true rfl, Nat.le_of_ble_eq_true rfl⟩) (va_recv hK hP (ci := 2) (q0 := 0) rfl rfl) hP hD hS hA [0, 1, 2, 3, 4, 5, 6, 7, 8, 9, 10, 11, 12, 13] [14, 15, 16, 17, 18, 19, 20, 21, 22, 23, 24, 25, 26, 27, 28, 29, 30, 31, 32, 33] rfl rfl (by decide) (by decide) (by decide) rfl hl.1 rfl (Nat.le_of_ble_eq_true rfl) dX2_isRightAt_32 ⟨Nat.le_of_ble_eq_true rfl, Nat.le_of_ble_eq_true rfl⟩ (fun r_4 w_4 H locs hw hP hD hS => ?_)
      obtain ⟨rfl, rfl⟩ := hw
      have hP := hP.sub (ws' := (pZ z0 z1 z2 q cI pk fi ++ pS q cI sn ar rt oh ++ pC q r cI cG cn no ot cu wc wl ++ pR r cI wt)) [20, 21, 22, 23, 24, 25, 26, 27, 28, 29, 30, 31, 32, 33, 0, 1, 2, 3, 4, 5, 6, 7, 8, 9, 10, 11, 12, 13, 14, 15, 16, 17, 18, 19] rfl
      have hD := hD.sub (ws' := (pZ z0 z1 z2 q cI pk fi ++ pS q cI sn ar rt oh ++ pC q r cI cG cn no ot cu wc wl ++ pR r cI wt)) [20, 21, 22, 23, 24, 25, 26, 27, 28, 29, 30, 31, 32, 33, 0, 1, 2, 3, 4, 5, 6, 7, 8, 9, 10, 11, 12, 13, 14, 15, 16, 17, 18, 19] (by decide) rfl
      refine lv_iload_n hx hb dX2_isRightAt_35 rfl (lv_at hl 2 rfl) ?_
      refine nr_icmp_gt (x := cz_drop oh cu wl pk c) (y := lim) (tgt := 43) hx hb (by omega) (by omega) dX2_isRightAt_36 (by decide) (fun h3 => ?_) (fun h3 => ?_)
      · refine lv_iconst (v := nI 0) hx hb dX2_isRightAt_43 (by decide) ?_
        have e1 : cy_right rt oh cu wc wl pk fi wt lim c = false := decide_eq_false (by omega)
        rw [hQ]
        exact ct_zret hx hb hr hlocks hP hD hS dX2_isRightAt_44 (by first | exact Or.inl rfl | exact Or.inr rfl) ⟨rfl, by rw [e1]; rfl⟩
      · refine lv_iconst (v := nI 1) hx hb dX2_isRightAt_39 (by decide) ?_
        refine lv_goto (tgt := 44) hx hb dX2_isRightAt_40 (by decide) ?_
        have e1 : cy_right rt oh cu wc wl pk fi wt lim c = true := decide_eq_true (by omega)
        rw [hQ]
        exact ct_zret hx hb hr hlocks hP hD hS dX2_isRightAt_44 (by first | exact Or.inl rfl | exact Or.inr rfl) ⟨rfl, by rw [e1]; rfl⟩
  · refine lv_iconst (v := nI 1) hx hb dX2_isRightAt_11 (by decide) ?_
    have e1 : cy_right rt oh cu wc wl pk fi wt lim c = true := decide_eq_true (Or.inl (of_decide_eq_true (bN_t h1)))
    rw [hQ]
    exact ct_zret hx hb hr hlocks hP hD hS dX2_isRightAt_12 (by first | exact Or.inl rfl | exact Or.inr rfl) ⟨rfl, by rw [e1]; rfl⟩
set_option maxHeartbeats 4000000 in
set_option maxRecDepth 100000 in
/-- Sizing.allAreRight -/
theorem kX2_allAreRight (l : Launch) (D : va_G) (cI cG cL cB : ClassId) (z0 z1 z2 : Nat) (q r : Nat → Nat) (pk fi : Nat → Nat) (sn : Nat) (ar rt oh : Nat → Nat) (cn : Nat) (no ot cu wc wl : Nat → Nat) (wt : Nat → Nat → Nat) (lim : Nat) (hlim : lim ≤ 1000000) (hz : okZ sn ar rt oh cn cu wc wl wt) (hpk : ∀ j, pk j < 6) (hfi : ∀ j, fi j ≤ 18000000) : ct_i l yX2_allAreRight (.code yX2_allAreRight cX2_allAreRight 3 (some .boolean) :: bw) ({ frames := 3, cells := 0, slots := 0, locals := 67 }) (EN D (tyL cI cG cL cB)) D vwCl (pZ z0 z1 z2 q cI pk fi ++ pS q cI sn ar rt oh ++ pC q r cI cG cn no ot cu wc wl ++ pR r cI wt) [.ref z0, .int (nI lim)] (fun v W => W = pZ z0 z1 z2 q cI pk fi ++ pS q cI sn ar rt oh ++ pC q r cI cG cn no ot cu wc wl ++ pR r cI wt ∧ ((v = nI 1 ∧ ∀ c, c < cn → cy_right rt oh cu wc wl pk fi wt lim c = true) ∨ (v = nI 0 ∧ ∃ c, c < cn ∧ cy_right rt oh cu wc wl pk fi wt lim c = false))) 0 0 := by
  refine ct_ofi (by decide) (Nat.le_of_ble_eq_true rfl) ?_
  intro p e s m below meth cd A H locs av Q ls hx hb hr hml hown hlocks hnm hbw hEN hQ hP hD hS hA hl
  have hown : s.vm.findClass RX2 = some m.cls := hown
  have hK := hEN.1
  have hl : lv_has ls 3 [(0, .ref z0), (1, .int (nI lim))] := hl
  obtain ⟨hsn, har, hrt, hoh, hcn, hcu, hwc, hwl, hwt⟩ := id hz
  refine lv_iconst (v := nI 0) hx hb dX2_allAreRight_0 (by decide) ?_
  refine lv_istore_n (lv' := [(2, .int (nI 0)), (0, .ref z0), (1, .int (nI lim))]) hx hb dX2_allAreRight_1 rfl hl (by decide) rfl (fun ls hl => ?_)
  have lp : ∀ (k : Nat) (i : Nat), (hk : cn < i + k) → (hi : i ≤ cn) → (hv : ∀ c, c < i → cy_right rt oh cu wc wl pk fi wt lim c = true) → ∀ (H : Heap) (locs : List Loc) (ls : Array Slot), va_P D vwCl (pZ z0 z1 z2 q cI pk fi ++ pS q cI sn ar rt oh ++ pC q r cI cG cn no ot cu wc wl ++ pR r cI wt) H → va_D A (pZ z0 z1 z2 q cI pk fi ++ pS q cI sn ar rt oh ++ pC q r cI cG cn no ot cu wc wl ++ pR r cI wt) → va_S A s.heap H locs → lv_has ls 3 [(0, .ref z0), (1, .int (nI lim)), (2, .int (nI i))] → W p l e ({ frames := 3, cells := 0, slots := 0, locals := 67 }) s m av below meth cd H locs 0 0 Q (F0 m 2 ls []) := by
    intro k
    induction k with
    | zero => intro i hk hi hv; exact absurd hk (by omega)
    | succ k ih =>
      intro i hk hi hv H locs ls hP hD hS hl
      refine lv_iload_n hx hb dX2_allAreRight_2 rfl (lv_at hl 2 rfl) ?_
      refine lv_aload_n hx hb dX2_allAreRight_3 rfl (lv_at hl 0 rfl) ?_
      refine va_get (ci := 2) (v := .ref (q 11)) (C := RX2) (T := TX2) (N := 5) hx hb hbw in_X2 hown hK hP 0 rfl rfl 2 (by decide) (hbw _ m_143) (fun _ h9 => h9) rfl dX2_allAreRight_4 ?_
      refine va_getN (ci := 0) (v := .int (nI cn)) (C := RX0) (T := TX0) (N := 7) hx hb hbw in_X0 hown hK hP 7 rfl rfl 0 (by decide) (va_Nw.use rfl (hEN.2 _ (List.mem_filter.mpr ⟨mn_87, rfl⟩))) (fun _ h9 => h9) rfl dX2_allAreRight_7 ?_
      refine nr_icmp_ge (x := i) (y := cn) (tgt := 30) hx hb (by omega) (by omega) dX2_allAreRight_10 (by decide) (fun h1 => ?_) (fun h1 => ?_)
      · obtain rfl : i = cn := by omega
        refine lv_iconst (v := nI 1) hx hb dX2_allAreRight_30 (by decide) ?_
        rw [hQ]
        exact ct_zret hx hb hr hlocks hP hD hS dX2_allAreRight_31 (by first | exact Or.inl rfl | exact Or.inr rfl) ⟨rfl, Or.inl ⟨rfl, hv⟩⟩
      · refine lv_aload_n hx hb dX2_allAreRight_13 rfl (lv_at hl 0 rfl) ?_
        refine lv_iload_n hx hb dX2_allAreRight_14 rfl (lv_at hl 2 rfl) ?_
        refine lv_iload_n hx hb dX2_allAreRight_15 rfl (lv_at hl 1 rfl) ?_
        refine ct_Vi (wc := (pZ z0 z1 z2 q cI pk fi ++ pS q cI sn ar rt oh ++ pC q r cI cG cn no ot cu wc wl ++ pR r cI wt)) (wr := ([] : va_W)) (As := [.int (nI i), .int (nI lim)]) (rest := []) ⟨hx, hb, hml, hown, hbw⟩ (EN_E D _) hEN (kX2_isRightAt l D cI cG cL cB z0 z1 z2 q r pk fi sn ar rt oh cn no ot cu wc wl wt i lim (by omega) hlim hz hpk hfi) (cwV (C := "CableSizes$Sizing") 2 hbw (gV m_208 m_210 m_1 m_22 m_211) rfl rfl rfl (by decide +kernel) ⟨Nat.le_of_ble_eq_true rfl, Nat.le_of_ble_eq_true rfl⟩) (va_recv hK hP (ci := 2) (q0 := 0) rfl rfl) hP hD hS hA [0, 1, 2, 3, 4, 5, 6, 7, 8, 9, 10, 11, 12, 13, 14, 15, 16, 17, 18, 19, 20, 21, 22, 23, 24, 25, 26, 27, 28, 29, 30, 31, 32, 33] [] rfl rfl (by decide) (by decide) (by decide) rfl hl.1 rfl (Nat.le_of_ble_eq_true rfl) dX2_allAreRight_16 ⟨Nat.le_of_ble_eq_true rfl, Nat.le_of_ble_eq_true rfl⟩ (fun r_1 w_1 H locs hw hP hD hS => ?_)
        obtain ⟨rfl, rfl⟩ := hw
        have hP := hP.sub (ws' := (pZ z0 z1 z2 q cI pk fi ++ pS q cI sn ar rt oh ++ pC q r cI cG cn no ot cu wc wl ++ pR r cI wt)) [0, 1, 2, 3, 4, 5, 6, 7, 8, 9, 10, 11, 12, 13, 14, 15, 16, 17, 18, 19, 20, 21, 22, 23, 24, 25, 26, 27, 28, 29, 30, 31, 32, 33] rfl
        have hD := hD.sub (ws' := (pZ z0 z1 z2 q cI pk fi ++ pS q cI sn ar rt oh ++ pC q r cI cG cn no ot cu wc wl ++ pR r cI wt)) [0, 1, 2, 3, 4, 5, 6, 7, 8, 9, 10, 11, 12, 13, 14, 15, 16, 17, 18, 19, 20, 21, 22, 23, 24, 25, 26, 27, 28, 29, 30, 31, 32, 33] (by decide) rfl
        refine nr_if_ne (x := bN (cy_right rt oh cu wc wl pk fi wt lim i)) (tgt := 24) hx hb (by unfold bN; split <;> omega) dX2_allAreRight_19 (by decide) (fun h2 => ?_) (fun h2 => ?_)
        · refine lv_iinc (v := nI (i + 1)) (lv' := [(2, .int (nI (i + 1))), (0, .ref z0), (1, .int (nI lim))]) hx hb dX2_allAreRight_24 hl (k := 2) rfl (nI_1 _) (by decide) rfl (fun ls hl => ?_)
          refine lv_goto (tgt := 2) hx hb dX2_allAreRight_27 (by decide) ?_
          exact ih (i + 1) (by omega) (by omega) (lt_s hv (bN_t h2)) _ _ _ hP hD hS (lv_sub hl [1, 2, 0] rfl)
        · refine lv_iconst (v := nI 0) hx hb dX2_allAreRight_22 (by decide) ?_
          rw [hQ]
          exact ct_zret hx hb hr hlocks hP hD hS dX2_allAreRight_23 (by first | exact Or.inl rfl | exact Or.inr rfl) ⟨rfl, Or.inr ⟨rfl, i, h1, bN_f h2⟩⟩
  exact lp (cn + 1) 0 (by omega) (Nat.zero_le cn) (lt_0) H locs ls hP hD hS (lv_sub hl [1, 2, 0] rfl)
/-- the sizes behind a raising of the wrong ones among the first i cables -/
def cy_up (rg : Nat → Bool) (pk : Nat → Nat) (i : Nat) : Nat → Nat := fun j => if j < i ∧ rg j = false then pk j + 1 else pk j
theorem cy_up_0 (rg : Nat → Bool) (pk : Nat → Nat) : cy_up rg pk 0 = pk := by
  funext j
  unfold cy_up
  rw [if_neg (by omega)]
theorem cy_up_at (rg : Nat → Bool) (pk : Nat → Nat) (i : Nat) : cy_up rg pk i i = pk i := by
  unfold cy_up
  rw [if_neg (by omega)]
theorem cy_up_r {rg : Nat → Bool} {pk : Nat → Nat} {i : Nat} (h : rg i = true) : cy_up rg pk (i + 1) = cy_up rg pk i := by
  funext j
  unfold cy_up
  by_cases e : j = i
  · subst e; rw [if_neg (by rw [h]; simp), if_neg (by omega)]
  · by_cases e2 : j < i
    · simp [e2, Nat.lt_succ_of_lt e2]
    · rw [if_neg (by omega), if_neg (by omega)]
theorem cy_up_w {rg : Nat → Bool} {pk : Nat → Nat} {i : Nat} (h : rg i = false) : nr_up (cy_up rg pk i) i (cy_up rg pk i i + 1) = cy_up rg pk (i + 1) := by
  funext j
  rw [cy_up_at]
  unfold nr_up cy_up
  by_cases e : j = i
  · subst e; rw [if_pos rfl, if_pos ⟨Nat.lt_succ_self _, h⟩]
  · rw [if_neg e]
    by_cases e2 : j < i
    · simp [e2, Nat.lt_succ_of_lt e2]
    · rw [if_neg (by omega), if_neg (by omega)]
set_option maxHeartbeats 4000000 in
set_option maxRecDepth 100000 in
/-- Sizing.raiseWrongOnes -/
theorem kX2_raiseWrongOnes (l : Launch) (D : va_G) (cI cG cL cB : ClassId) (z0 z1 z2 : Nat) (q r : Nat → Nat) (pk fi : Nat → Nat) (sn : Nat) (ar rt oh : Nat → Nat) (cn : Nat) (no ot cu wc wl : Nat → Nat) (wt : Nat → Nat → Nat) (lim : Nat) (hlim : lim ≤ 1000000) (hz : okZ sn ar rt oh cn cu wc wl wt) (hpk : ∀ j, pk j < 6) (hfi : ∀ j, fi j ≤ 18000000) : ct_i l yX2_raiseWrongOnes (.code yX2_raiseWrongOnes cX2_raiseWrongOnes 3 (some .boolean) :: bw) ({ frames := 3, cells := 0, slots := 0, locals := 67 }) (EN D (tyL cI cG cL cB)) D vwCl (pZ z0 z1 z2 q cI pk fi ++ pS q cI sn ar rt oh ++ pC q r cI cG cn no ot cu wc wl ++ pR r cI wt) [.ref z0, .int (nI lim)] (fun v W => ∃ pk', W = pZ z0 z1 z2 q cI pk' fi ++ pS q cI sn ar rt oh ++ pC q r cI cG cn no ot cu wc wl ++ pR r cI wt ∧ (∀ j, pk' j < 6) ∧ ((v = nI 1 ∧ pk' = cy_up (cy_right rt oh cu wc wl pk fi wt lim) pk cn ∧ ∀ c, c < cn → cy_right rt oh cu wc wl pk fi wt lim c = false → pk c + 1 < sn) ∨ (v = nI 0 ∧ ∃ c, c < cn ∧ cy_right rt oh cu wc wl pk fi wt lim c = false ∧ sn ≤ pk c + 1))) 0 0 := by
  refine ct_ofi (by decide) (Nat.le_of_ble_eq_true rfl) ?_
  intro p e s m below meth cd A H locs av Q ls hx hb hr hml hown hlocks hnm hbw hEN hQ hP hD hS hA hl
  have hown : s.vm.findClass RX2 = some m.cls := hown
  have hK := hEN.1
  have hl : lv_has ls 3 [(0, .ref z0), (1, .int (nI lim))] := hl
  obtain ⟨hsn, har, hrt, hoh, hcn, hcu, hwc, hwl, hwt⟩ := id hz
  have hP : va_P D vwCl (pZ z0 z1 z2 q cI (cy_up (cy_right rt oh cu wc wl pk fi wt lim) pk 0) fi ++ pS q cI sn ar rt oh ++ pC q r cI cG cn no ot cu wc wl ++ pR r cI wt) H := by rw [cy_up_0]; exact hP
  have hD : va_D A (pZ z0 z1 z2 q cI (cy_up (cy_right rt oh cu wc wl pk fi wt lim) pk 0) fi ++ pS q cI sn ar rt oh ++ pC q r cI cG cn no ot cu wc wl ++ pR r cI wt) := by rw [cy_up_0]; exact hD
  refine lv_iconst (v := nI 0) hx hb dX2_raiseWrongOnes_0 (by decide) ?_
  refine lv_istore_n (lv' := [(2, .int (nI 0)), (0, .ref z0), (1, .int (nI lim))]) hx hb dX2_raiseWrongOnes_1 rfl hl (by decide) rfl (fun ls hl => ?_)
  have lp : ∀ (k : Nat) (i : Nat), (hk : cn < i + k) → (hi : i ≤ cn) → (hv : ∀ c, c < i → cy_right rt oh cu wc wl pk fi wt lim c = false → pk c + 1 < sn) → (hp6 : ∀ j, cy_up (cy_right rt oh cu wc wl pk fi wt lim) pk i j < 6) → ∀ (H : Heap) (locs : List Loc) (ls : Array Slot), va_P D vwCl (pZ z0 z1 z2 q cI (cy_up (cy_right rt oh cu wc wl pk fi wt lim) pk i) fi ++ pS q cI sn ar rt oh ++ pC q r cI cG cn no ot cu wc wl ++ pR r cI wt) H → va_D A (pZ z0 z1 z2 q cI (cy_up (cy_right rt oh cu wc wl pk fi wt lim) pk i) fi ++ pS q cI sn ar rt oh ++ pC q r cI cG cn no ot cu wc wl ++ pR r cI wt) → va_S A s.heap H locs → lv_has ls 3 [(0, .ref z0), (1, .int (nI lim)), (2, .int (nI i))] → W p l e ({ frames := 3, cells := 0, slots := 0, locals := 67 }) s m av below meth cd H locs 0 0 Q (F0 m 2 ls []) := by
    intro k
    induction k with
    | zero => intro i hk hi hv hp6; exact absurd hk (by omega)
    | succ k ih =>
      intro i hk hi hv hp6 H locs ls hP hD hS hl
      refine lv_iload_n hx hb dX2_raiseWrongOnes_2 rfl (lv_at hl 2 rfl) ?_
      refine lv_aload_n hx hb dX2_raiseWrongOnes_3 rfl (lv_at hl 0 rfl) ?_
      refine va_get (ci := 2) (v := .ref (q 11)) (C := RX2) (T := TX2) (N := 5) hx hb hbw in_X2 hown hK hP 0 rfl rfl 2 (by decide) (hbw _ m_143) (fun _ h9 => h9) rfl dX2_raiseWrongOnes_4 ?_
      refine va_getN (ci := 0) (v := .int (nI cn)) (C := RX0) (T := TX0) (N := 7) hx hb hbw in_X0 hown hK hP 7 rfl rfl 0 (by decide) (va_Nw.use rfl (hEN.2 _ (List.mem_filter.mpr ⟨mn_87, rfl⟩))) (fun _ h9 => h9) rfl dX2_raiseWrongOnes_7 ?_
      refine nr_icmp_ge (x := i) (y := cn) (tgt := 58) hx hb (by omega) (by omega) dX2_raiseWrongOnes_10 (by decide) (fun h1 => ?_) (fun h1 => ?_)
      · obtain rfl : i = cn := by omega
        refine lv_iconst (v := nI 1) hx hb dX2_raiseWrongOnes_58 (by decide) ?_
        rw [hQ]
        exact ct_zret hx hb hr hlocks hP hD hS dX2_raiseWrongOnes_59 (by first | exact Or.inl rfl | exact Or.inr rfl) ⟨_, rfl, hp6, Or.inl ⟨rfl, rfl, hv⟩⟩
      · refine lv_aload_n hx hb dX2_raiseWrongOnes_13 rfl (lv_at hl 0 rfl) ?_
        refine lv_iload_n hx hb dX2_raiseWrongOnes_14 rfl (lv_at hl 2 rfl) ?_
        refine lv_iload_n hx hb dX2_raiseWrongOnes_15 rfl (lv_at hl 1 rfl) ?_
        have e0 : cy_right rt oh cu wc wl (cy_up (cy_right rt oh cu wc wl pk fi wt lim) pk i) fi wt lim i = cy_right rt oh cu wc wl pk fi wt lim i := cy_right_congr (cy_up_at _ _ _)
        refine ct_Vi (wc := (pZ z0 z1 z2 q cI (cy_up (cy_right rt oh cu wc wl pk fi wt lim) pk i) fi ++ pS q cI sn ar rt oh ++ pC q r cI cG cn no ot cu wc wl ++ pR r cI wt)) (wr := ([] : va_W)) (As := [.int (nI i), .int (nI lim)]) (rest := []) ⟨hx, hb, hml, hown, hbw⟩ (EN_E D _) hEN (kX2_isRightAt l D cI cG cL cB z0 z1 z2 q r (cy_up (cy_right rt oh cu wc wl pk fi wt lim) pk i) fi sn ar rt oh cn no ot cu wc wl wt i lim (by omega) hlim hz hp6 hfi) (cwV (C := "CableSizes$Sizing") 2 hbw (gV m_208 m_210 m_1 m_22 m_211) rfl rfl rfl (by decide +kernel) ⟨Nat.le_of_ble_eq_true rfl, Nat.le_of_ble_eq_true rfl⟩) (va_recv hK hP (ci := 2) (q0 := 0) rfl rfl) hP hD hS hA [0, 1, 2, 3, 4, 5, 6, 7, 8, 9, 10, 11, 12, 13, 14, 15, 16, 17, 18, 19, 20, 21, 22, 23, 24, 25, 26, 27, 28, 29, 30, 31, 32, 33] [] rfl rfl (by decide) (by decide) (by decide) rfl hl.1 rfl (Nat.le_of_ble_eq_true rfl) dX2_raiseWrongOnes_16 ⟨Nat.le_of_ble_eq_true rfl, Nat.le_of_ble_eq_true rfl⟩ (fun r_1 w_1 H locs hw hP hD hS => ?_)
        obtain ⟨rfl, rfl⟩ := hw
        have hP := hP.sub (ws' := (pZ z0 z1 z2 q cI (cy_up (cy_right rt oh cu wc wl pk fi wt lim) pk i) fi ++ pS q cI sn ar rt oh ++ pC q r cI cG cn no ot cu wc wl ++ pR r cI wt)) [0, 1, 2, 3, 4, 5, 6, 7, 8, 9, 10, 11, 12, 13, 14, 15, 16, 17, 18, 19, 20, 21, 22, 23, 24, 25, 26, 27, 28, 29, 30, 31, 32, 33] rfl
        have hD := hD.sub (ws' := (pZ z0 z1 z2 q cI (cy_up (cy_right rt oh cu wc wl pk fi wt lim) pk i) fi ++ pS q cI sn ar rt oh ++ pC q r cI cG cn no ot cu wc wl ++ pR r cI wt)) [0, 1, 2, 3, 4, 5, 6, 7, 8, 9, 10, 11, 12, 13, 14, 15, 16, 17, 18, 19, 20, 21, 22, 23, 24, 25, 26, 27, 28, 29, 30, 31, 32, 33] (by decide) rfl
        refine nr_if_ne (x := bN (cy_right rt oh cu wc wl (cy_up (cy_right rt oh cu wc wl pk fi wt lim) pk i) fi wt lim i)) (tgt := 52) hx hb (by unfold bN; split <;> omega) dX2_raiseWrongOnes_19 (by decide) (fun h2 => ?_) (fun h2 => ?_)
        · have e1 := (e0.symm.trans (bN_t h2))
          refine lv_iinc (v := nI (i + 1)) (lv' := [(2, .int (nI (i + 1))), (0, .ref z0), (1, .int (nI lim))]) hx hb dX2_raiseWrongOnes_52 hl (k := 2) rfl (nI_1 _) (by decide) rfl (fun ls hl => ?_)
          refine lv_goto (tgt := 2) hx hb dX2_raiseWrongOnes_55 (by decide) ?_
          rw [← cy_up_r e1] at hP hD
          exact ih (i + 1) (by omega) (by omega) (lt_s hv (fun h => by rw [e1] at h; cases h)) (by rw [cy_up_r e1]; exact hp6) _ _ _ hP hD hS (lv_sub hl [1, 2, 0] rfl)
        · have e1 := (e0.symm.trans (bN_f h2))
          have e2 := cy_up_at (cy_right rt oh cu wc wl pk fi wt lim) pk i
          refine lv_aload_n hx hb dX2_raiseWrongOnes_22 rfl (lv_at hl 0 rfl) ?_
          refine va_get (ci := 2) (v := .ref z1) (C := RX2) (T := TX2) (N := 5) hx hb hbw in_X2 hown hK hP 0 rfl rfl 3 (by decide) (hbw _ m_144) (fun _ h9 => h9) rfl dX2_raiseWrongOnes_23 ?_
          refine lv_iload_n hx hb dX2_raiseWrongOnes_26 rfl (lv_at hl 2 rfl) ?_
          refine nr_iald hx hb hK hP 1 0 rfl rfl (k := i) (by omega) (by omega) dX2_raiseWrongOnes_27 ?_
          have b_2 := hp6 i
          refine lv_iconst (v := nI 1) hx hb dX2_raiseWrongOnes_28 (by decide) ?_
          refine nr_iadd hx hb dX2_raiseWrongOnes_29 ?_
          refine lv_aload_n hx hb dX2_raiseWrongOnes_30 rfl (lv_at hl 0 rfl) ?_
          refine va_get (ci := 2) (v := .ref (q 7)) (C := RX2) (T := TX2) (N := 5) hx hb hbw in_X2 hown hK hP 0 rfl rfl 1 (by decide) (hbw _ m_142) (fun _ h9 => h9) rfl dX2_raiseWrongOnes_31 ?_
          refine va_getN (ci := 1) (v := .int (nI sn)) (C := RX1) (T := TX1) (N := 4) hx hb hbw in_X1 hown hK hP 3 rfl rfl 0 (by decide) (va_Nw.use rfl (hEN.2 _ (List.mem_filter.mpr ⟨mn_61, rfl⟩))) (fun _ h9 => h9) rfl dX2_raiseWrongOnes_34 ?_
          refine nr_icmp_lt (x := ((cy_up (cy_right rt oh cu wc wl pk fi wt lim) pk i) i) + 1) (y := sn) (tgt := 42) hx hb (by omega) (by omega) dX2_raiseWrongOnes_37 (by decide) (fun h3 => ?_) (fun h3 => ?_)
          · refine lv_aload_n hx hb dX2_raiseWrongOnes_42 rfl (lv_at hl 0 rfl) ?_
            refine va_get (ci := 2) (v := .ref z1) (C := RX2) (T := TX2) (N := 5) hx hb hbw in_X2 hown hK hP 0 rfl rfl 3 (by decide) (hbw _ m_144) (fun _ h9 => h9) rfl dX2_raiseWrongOnes_43 ?_
            refine lv_iload_n hx hb dX2_raiseWrongOnes_46 rfl (lv_at hl 2 rfl) ?_
            refine lv_dup2_11 hx hb dX2_raiseWrongOnes_47 rfl rfl ?_
            refine nr_iald hx hb hK hP 1 0 rfl rfl (k := i) (by omega) (by omega) dX2_raiseWrongOnes_48 ?_
            have b_3 := hp6 i
            refine lv_iconst (v := nI 1) hx hb dX2_raiseWrongOnes_49 (by decide) ?_
            refine nr_iadd hx hb dX2_raiseWrongOnes_50 ?_
            refine nr_iast hx hb hK hP hD hS 1 0 rfl rfl (k := i) (v := ((cy_up (cy_right rt oh cu wc wl pk fi wt lim) pk i) i) + 1) (by omega) (by omega) dX2_raiseWrongOnes_51 (fun H locs hP hD hS => ?_)
            have hP : va_P D vwCl (pZ z0 z1 z2 q cI (nr_up (cy_up (cy_right rt oh cu wc wl pk fi wt lim) pk i) i (((cy_up (cy_right rt oh cu wc wl pk fi wt lim) pk i) i) + 1)) fi ++ pS q cI sn ar rt oh ++ pC q r cI cG cn no ot cu wc wl ++ pR r cI wt) H := hP
            have hD : va_D A (pZ z0 z1 z2 q cI (nr_up (cy_up (cy_right rt oh cu wc wl pk fi wt lim) pk i) i (((cy_up (cy_right rt oh cu wc wl pk fi wt lim) pk i) i) + 1)) fi ++ pS q cI sn ar rt oh ++ pC q r cI cG cn no ot cu wc wl ++ pR r cI wt) := hD
            rw [cy_up_w e1] at hP hD
            refine lv_iinc (v := nI (i + 1)) (lv' := [(2, .int (nI (i + 1))), (0, .ref z0), (1, .int (nI lim))]) hx hb dX2_raiseWrongOnes_52 hl (k := 2) rfl (nI_1 _) (by decide) rfl (fun ls hl => ?_)
            refine lv_goto (tgt := 2) hx hb dX2_raiseWrongOnes_55 (by decide) ?_
            exact ih (i + 1) (by omega) (by omega) (lt_s hv (fun _ => by omega)) (fun j => by by_cases e : j = i; rw [e, ← cy_up_w e1, nr_up_s]; omega; rw [← cy_up_w e1, nr_up_n _ _ e]; exact hp6 j) _ _ _ hP hD hS (lv_sub hl [1, 2, 0] rfl)
          · refine lv_iconst (v := nI 0) hx hb dX2_raiseWrongOnes_40 (by decide) ?_
            rw [hQ]
            exact ct_zret hx hb hr hlocks hP hD hS dX2_raiseWrongOnes_41 (by first | exact Or.inl rfl | exact Or.inr rfl) ⟨_, rfl, hp6, Or.inr ⟨rfl, i, h1, e1, by omega⟩⟩
  exact lp (cn + 1) 0 (by omega) (Nat.zero_le cn) (lt_0) (by rw [cy_up_0]; exact hpk) H locs ls hP hD hS (lv_sub hl [1, 2, 0] rfl)
set_option maxHeartbeats 4000000 in
set_option maxRecDepth 100000 in
/-- Sizing.sumOfCopper -/
theorem kX2_sumOfCopper (l : Launch) (D : va_G) (cI cG cL cB : ClassId) (z0 z1 z2 : Nat) (q r : Nat → Nat) (pk fi : Nat → Nat) (sn : Nat) (ar rt oh : Nat → Nat) (cn : Nat) (no ot cu wc wl : Nat → Nat) (wt : Nat → Nat → Nat) (hz : okZ sn ar rt oh cn cu wc wl wt) (hpk : ∀ j, pk j < 6) (hfi : ∀ j, fi j ≤ 18000000) : ct_i l yX2_sumOfCopper (.code yX2_sumOfCopper cX2_sumOfCopper 3 (some .int) :: bw) ({ frames := 0, cells := 0, slots := 0, locals := 0 }) (EN D (tyL cI cG cL cB)) D vwCl (pZ z0 z1 z2 q cI pk fi ++ pS q cI sn ar rt oh ++ pC q r cI cG cn no ot cu wc wl) [.ref z0] (fun v W => W = pZ z0 z1 z2 q cI pk fi ++ pS q cI sn ar rt oh ++ pC q r cI cG cn no ot cu wc wl ∧ v = nI (cz_sum (fun c => ar (pk c) * wl c) cn)) 0 0 := by
  refine ct_ofi (by decide) (Nat.le_of_ble_eq_true rfl) ?_
  intro p e s m below meth cd A H locs av Q ls hx hb hr hml hown hlocks hnm hbw hEN hQ hP hD hS hA hl
  have hown : s.vm.findClass RX2 = some m.cls := hown
  have hK := hEN.1
  have hl : lv_has ls 3 [(0, .ref z0)] := hl
  obtain ⟨hsn, har, hrt, hoh, hcn, hcu, hwc, hwl, hwt⟩ := id hz
  refine lv_iconst (v := nI 0) hx hb dX2_sumOfCopper_0 (by decide) ?_
  refine lv_istore_n (lv' := [(1, .int (nI 0)), (0, .ref z0)]) hx hb dX2_sumOfCopper_1 rfl hl (by decide) rfl (fun ls hl => ?_)
  refine lv_iconst (v := nI 0) hx hb dX2_sumOfCopper_2 (by decide) ?_
  refine lv_istore_n (lv' := [(2, .int (nI 0)), (1, .int (nI 0)), (0, .ref z0)]) hx hb dX2_sumOfCopper_3 rfl hl (by decide) rfl (fun ls hl => ?_)
  have lp : ∀ (k : Nat) (i : Nat), (hk : cn < i + k) → (hi : i ≤ cn) → ∀ (H : Heap) (locs : List Loc) (ls : Array Slot), va_P D vwCl (pZ z0 z1 z2 q cI pk fi ++ pS q cI sn ar rt oh ++ pC q r cI cG cn no ot cu wc wl) H → va_D A (pZ z0 z1 z2 q cI pk fi ++ pS q cI sn ar rt oh ++ pC q r cI cG cn no ot cu wc wl) → va_S A s.heap H locs → lv_has ls 3 [(0, .ref z0), (1, .int (nI (cz_sum (fun c => ar (pk c) * wl c) i))), (2, .int (nI i))] → W p l e ({ frames := 0, cells := 0, slots := 0, locals := 0 }) s m av below meth cd H locs 0 0 Q (F0 m 4 ls []) := by
    intro k
    induction k with
    | zero => intro i hk hi; exact absurd hk (by omega)
    | succ k ih =>
      intro i hk hi H locs ls hP hD hS hl
      refine lv_iload_n hx hb dX2_sumOfCopper_4 rfl (lv_at hl 2 rfl) ?_
      refine lv_aload_n hx hb dX2_sumOfCopper_5 rfl (lv_at hl 0 rfl) ?_
      refine va_get (ci := 2) (v := .ref (q 11)) (C := RX2) (T := TX2) (N := 5) hx hb hbw in_X2 hown hK hP 0 rfl rfl 2 (by decide) (hbw _ m_143) (fun _ h9 => h9) rfl dX2_sumOfCopper_6 ?_
      refine va_getN (ci := 0) (v := .int (nI cn)) (C := RX0) (T := TX0) (N := 7) hx hb hbw in_X0 hown hK hP 7 rfl rfl 0 (by decide) (va_Nw.use rfl (hEN.2 _ (List.mem_filter.mpr ⟨mn_87, rfl⟩))) (fun _ h9 => h9) rfl dX2_sumOfCopper_9 ?_
      refine nr_icmp_ge (x := i) (y := cn) (tgt := 48) hx hb (by omega) (by omega) dX2_sumOfCopper_12 (by decide) (fun h1 => ?_) (fun h1 => ?_)
      · obtain rfl : i = cn := by omega
        refine lv_iload_n hx hb dX2_sumOfCopper_48 rfl (lv_at hl 1 rfl) ?_
        rw [hQ]
        exact ct_iret hx hb hr hlocks hP hD hS dX2_sumOfCopper_49 ⟨rfl, rfl⟩
      · refine lv_iload_n hx hb dX2_sumOfCopper_15 rfl (lv_at hl 1 rfl) ?_
        refine lv_aload_n hx hb dX2_sumOfCopper_16 rfl (lv_at hl 0 rfl) ?_
        refine va_get (ci := 2) (v := .ref (q 7)) (C := RX2) (T := TX2) (N := 5) hx hb hbw in_X2 hown hK hP 0 rfl rfl 1 (by decide) (hbw _ m_142) (fun _ h9 => h9) rfl dX2_sumOfCopper_17 ?_
        refine va_getN (ci := 1) (v := .ref (q 8)) (C := RX1) (T := TX1) (N := 4) hx hb hbw in_X1 hown hK hP 3 rfl rfl 1 (by decide) (va_Nw.use rfl (hEN.2 _ (List.mem_filter.mpr ⟨mn_64, rfl⟩))) (fun _ h9 => h9) rfl dX2_sumOfCopper_20 ?_
        refine lv_aload_n hx hb dX2_sumOfCopper_23 rfl (lv_at hl 0 rfl) ?_
        refine va_get (ci := 2) (v := .ref z1) (C := RX2) (T := TX2) (N := 5) hx hb hbw in_X2 hown hK hP 0 rfl rfl 3 (by decide) (hbw _ m_144) (fun _ h9 => h9) rfl dX2_sumOfCopper_24 ?_
        refine lv_iload_n hx hb dX2_sumOfCopper_27 rfl (lv_at hl 2 rfl) ?_
        refine nr_iald hx hb hK hP 1 0 rfl rfl (k := i) (by omega) (by omega) dX2_sumOfCopper_28 ?_
        have b_1 := hpk i
        refine nr_iald hx hb hK hP 4 0 rfl rfl (k := pk i) (by omega) (by omega) dX2_sumOfCopper_29 ?_
        have b_2 := har (pk i)
        refine lv_aload_n hx hb dX2_sumOfCopper_30 rfl (lv_at hl 0 rfl) ?_
        refine va_get (ci := 2) (v := .ref (q 11)) (C := RX2) (T := TX2) (N := 5) hx hb hbw in_X2 hown hK hP 0 rfl rfl 2 (by decide) (hbw _ m_143) (fun _ h9 => h9) rfl dX2_sumOfCopper_31 ?_
        refine va_getN (ci := 0) (v := .ref (q 16)) (C := RX0) (T := TX0) (N := 7) hx hb hbw in_X0 hown hK hP 7 rfl rfl 5 (by decide) (va_Nw.use rfl (hEN.2 _ (List.mem_filter.mpr ⟨mn_98, rfl⟩))) (fun _ h9 => h9) rfl dX2_sumOfCopper_34 ?_
        refine lv_iload_n hx hb dX2_sumOfCopper_37 rfl (lv_at hl 2 rfl) ?_
        refine nr_iald hx hb hK hP 12 0 rfl rfl (k := i) (by omega) (by omega) dX2_sumOfCopper_38 ?_
        have b_3 := hwl i
        refine nr_imul hx hb dX2_sumOfCopper_39 ?_
        refine nr_iadd hx hb dX2_sumOfCopper_40 ?_
        refine lv_istore_n (lv' := [(1, .int (nI ((cz_sum (fun c => ar (pk c) * wl c) i) + ((ar (pk i)) * (wl i))))), (0, .ref z0), (2, .int (nI i))]) hx hb dX2_sumOfCopper_41 rfl hl (by decide) rfl (fun ls hl => ?_)
        refine lv_iinc (v := nI (i + 1)) (lv' := [(2, .int (nI (i + 1))), (1, .int (nI ((cz_sum (fun c => ar (pk c) * wl c) i) + ((ar (pk i)) * (wl i))))), (0, .ref z0)]) hx hb dX2_sumOfCopper_42 hl (k := 2) rfl (nI_1 _) (by decide) rfl (fun ls hl => ?_)
        refine lv_goto (tgt := 4) hx hb dX2_sumOfCopper_45 (by decide) ?_
        exact ih (i + 1) (by omega) (by omega) _ _ _ hP hD hS (lv_sub hl [2, 1, 0] rfl)
  exact lp (cn + 1) 0 (by omega) (Nat.zero_le cn) H locs ls hP hD hS (lv_sub hl [2, 1, 0] rfl)
