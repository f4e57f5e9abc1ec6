set_option maxHeartbeats 4000000 in
set_option maxRecDepth 100000 in
/-- X4_current -/
theorem kX4_current (l : Launch) (hl9 : l.stackTraces = false) (D : va_G) (cI cG cL cB : ClassId) (o0 z0 z1 z2 y0 y1 y2 : Nat) (q r : Nat → Nat) (pj fj : Nat → Nat) (lim kn ex : Nat) (pk fi : Nat → Nat) (n : Nat) (a b le ro di : Nat → Nat) (sn : Nat) (ar rt oh : Nat → Nat) (cn : Nat) (no ot cu wc wl : Nat → Nat) (wt : Nat → Nat → Nat) (x0 x1 : Int32) (hT : okT n a b le ro) (hz : okZ sn ar rt oh cn cu wc wl wt) (hC : okC n a b le cn no ot wc wl wt) (hL : okL n ro sn ar rt oh cn cu wc wl wt lim kn ex pk fi) (hlim : lim ≤ 1000000) : tx_i l yX4_current (.code yX4_current cX4_current 4 (some .int) :: bw) ({ frames := 7, cells := 2, slots := 12, locals := 112 }) (EX D (tyL cI cG cL cB)) D vwCl (pO o0 z0 y0 q lim kn ex ++ pZ z0 z1 z2 q cI pk fi ++ pZ y0 y1 y2 q cI pj fj ++ pT q cI n a b le ro di ++ pS q cI sn ar rt oh ++ pC q r cI cG cn no ot cu wc wl ++ pR r cI wt) [.ref o0, .int x0, .int x1] (fun v W => ∃ k a1, (k < cn ∧ x0 = nI k ∧ x1 = nI a1 ∧ 1 ≤ a1 ∧ a1 ≤ 1000) ∧ v = nI (cu k) ∧ W = (pO o0 z0 y0 q lim 0 ex ++ pZ z0 z1 z2 q cI pk fi ++ pZ y0 y1 y2 q cI pj fj ++ pT q cI n a b le ro di ++ pS q cI sn ar rt oh ++ pC q r cI cG cn no ot (nr_up cu k a1) wc wl ++ pR r cI wt)) (fun E W => E = sIAE ∧ ¬ ((∃ k, k < cn ∧ x0 = nI k) ∧ inB x1 1 1000) ∧ W = (pO o0 z0 y0 q lim kn ex ++ pZ z0 z1 z2 q cI pk fi ++ pZ y0 y1 y2 q cI pj fj ++ pT q cI n a b le ro di ++ pS q cI sn ar rt oh ++ pC q r cI cG cn no ot cu wc wl ++ pR r cI wt)) 2 12 := by
  refine tx_ofi (by decide) (Nat.le_of_ble_eq_true rfl) ?_
  intro p e s m below meth cd A H locs av Q ls hx hb hr hml hown hlocks hex hbw hEX hZ hQ hP hD hS hA hl
  have hown : s.vm.findClass RX4 = some m.cls := hown
  have hEN := hEX.1
  have hK := hEN.1
  have hl : lv_has ls 4 [(0, .ref o0), (1, .int x0), (2, .int x1)] := hl
  obtain ⟨hn, hok, ha0, hb0, hl0, hro, hro1⟩ := id hT
  obtain ⟨hsn, har, hrt, hoh, hcn, hcu, hwc, hwl, hwt⟩ := id hz
  have hy := okY_of hT hC
  obtain ⟨hkn, hpk, hfi, hkl⟩ := id hL
  refine lv_iload_n hx hb dX4_current_0 rfl (lv_at hl 1 rfl) ?_
  refine lv_aload_n hx hb dX4_current_1 rfl (lv_at hl 0 rfl) ?_
  refine va_get (ci := 4) (v := .ref (q 11)) (C := RX4) (T := TX4) (N := 8) hx hb hbw in_X4 hown hK hP 0 rfl rfl 2 (by decide) (hbw _ m_162) (fun _ h9 => h9) rfl dX4_current_2 ?_
  refine va_getN (ci := 0) (v := .int (nI cn)) (C := RX0) (T := TX0) (N := 7) hx hb hbw in_X0 hown hK hP 17 rfl rfl 0 (by decide) (va_Nw.use rfl (hEN.2 _ (List.mem_filter.mpr ⟨mn_88, rfl⟩))) (fun _ h9 => h9) rfl dX4_current_5 ?_
  rw [hQ]
  refine tx_Sv (wc := ([] : va_W)) (wr := (pO o0 z0 y0 q lim kn ex ++ pZ z0 z1 z2 q cI pk fi ++ pZ y0 y1 y2 q cI pj fj ++ pT q cI n a b le ro di ++ pS q cI sn ar rt oh ++ pC q r cI cG cn no ot cu wc wl ++ pR r cI wt)) (As := [.int x0, .int (nI cn)]) (rest := []) ⟨hx, hb, hml, hown, hbw⟩ (EX_E D _) hEX hZ hex hlocks (kX4_checkNumber l hl9 D cI cG cL cB x0 cn (by omega)) (gS 2 hbw m_406 m_407 m_18 m_408 rfl rfl (by decide +kernel) ⟨Nat.le_of_ble_eq_true rfl, Nat.le_of_ble_eq_true rfl⟩) hP hD hS hA [] [0, 1, 2, 3, 4, 5, 6, 7, 8, 9, 10, 11, 12, 13, 14, 15, 16, 17, 18, 19, 20, 21, 22, 23, 24, 25, 26, 27, 28, 29, 30, 31, 32, 33, 34, 35, 36, 37, 38, 39, 40, 41, 42, 43] rfl rfl (by decide) (by decide) (by decide) rfl hl.1 rfl (Nat.le_of_ble_eq_true rfl) dX4_current_8 ⟨Nat.le_of_ble_eq_true rfl, Nat.le_of_ble_eq_true rfl⟩ (Nat.le_of_ble_eq_true rfl) (Nat.le_of_ble_eq_true rfl) (fun E w1 hp => ⟨hp.1, fun h => hp.2.2 h.1, by rw [hp.2.1, List.append_nil]⟩) (fun w1 H locs hw hP hD hS => ?_)
  rw [← hQ]
  obtain ⟨rfl, k, hk, hx0⟩ := hw
  rw [List.append_nil] at hP hD
  subst hx0
  refine lv_iload_n hx hb dX4_current_11 rfl (lv_at hl 2 rfl) ?_
  refine lv_iconst (v := nI 1) hx hb dX4_current_12 (by decide) ?_
  refine lv_sipush (v := nI 1000) hx hb dX4_current_13 (by decide) ?_
  rw [hQ]
  refine tx_Sv (wc := ([] : va_W)) (wr := (pO o0 z0 y0 q lim kn ex ++ pZ z0 z1 z2 q cI pk fi ++ pZ y0 y1 y2 q cI pj fj ++ pT q cI n a b le ro di ++ pS q cI sn ar rt oh ++ pC q r cI cG cn no ot cu wc wl ++ pR r cI wt)) (As := [.int x1, .int (nI 1), .int (nI 1000)]) (rest := []) ⟨hx, hb, hml, hown, hbw⟩ (EX_E D _) hEX hZ hex hlocks (kX4_checkBounds l hl9 D cI cG cL cB x1 1 1000 (by omega) (by omega)) (gS 3 hbw m_255 m_256 m_18 m_257 rfl rfl (by decide +kernel) ⟨Nat.le_of_ble_eq_true rfl, Nat.le_of_ble_eq_true rfl⟩) hP hD hS hA [] [0, 1, 2, 3, 4, 5, 6, 7, 8, 9, 10, 11, 12, 13, 14, 15, 16, 17, 18, 19, 20, 21, 22, 23, 24, 25, 26, 27, 28, 29, 30, 31, 32, 33, 34, 35, 36, 37, 38, 39, 40, 41, 42, 43] rfl rfl (by decide) (by decide) (by decide) rfl hl.1 rfl (Nat.le_of_ble_eq_true rfl) dX4_current_16 ⟨Nat.le_of_ble_eq_true rfl, Nat.le_of_ble_eq_true rfl⟩ (Nat.le_of_ble_eq_true rfl) (Nat.le_of_ble_eq_true rfl) (fun E w1 hp => ⟨hp.1, fun h => hp.2.2 h.2, by rw [hp.2.1, List.append_nil]⟩) (fun w1 H locs hw hP hD hS => ?_)
  rw [← hQ]
  obtain ⟨rfl, a1, hx1, hb1, hb2⟩ := hw
  rw [List.append_nil] at hP hD
  subst hx1
  refine lv_aload_n hx hb dX4_current_19 rfl (lv_at hl 0 rfl) ?_
  refine va_get (ci := 4) (v := .ref (q 11)) (C := RX4) (T := TX4) (N := 8) hx hb hbw in_X4 hown hK hP 0 rfl rfl 2 (by decide) (hbw _ m_162) (fun _ h9 => h9) rfl dX4_current_20 ?_
  refine va_getN (ci := 0) (v := .ref (q 14)) (C := RX0) (T := TX0) (N := 7) hx hb hbw in_X0 hown hK hP 17 rfl rfl 3 (by decide) (va_Nw.use rfl (hEN.2 _ (List.mem_filter.mpr ⟨mn_92, rfl⟩))) (fun _ h9 => h9) rfl dX4_current_23 ?_
  refine lv_iload_n hx hb dX4_current_26 rfl (lv_at hl 1 rfl) ?_
  refine nr_iald hx hb hK hP 20 0 rfl rfl (k := k) (by omega) (by omega) dX4_current_27 ?_
  have b_1 := hcu k
  refine lv_istore_n (lv' := [(3, .int (nI (cu k))), (0, .ref o0), (1, .int (nI k)), (2, .int (nI a1))]) hx hb dX4_current_28 rfl hl (by decide) rfl (fun ls hl => ?_)
  refine lv_aload_n hx hb dX4_current_29 rfl (lv_at hl 1 rfl) ?_
  refine va_get (ci := 4) (v := .ref (q 11)) (C := RX4) (T := TX4) (N := 8) hx hb hbw in_X4 hown hK hP 0 rfl rfl 2 (by decide) (hbw _ m_162) (fun _ h9 => h9) rfl dX4_current_30 ?_
  refine va_getN (ci := 0) (v := .ref (q 14)) (C := RX0) (T := TX0) (N := 7) hx hb hbw in_X0 hown hK hP 17 rfl rfl 3 (by decide) (va_Nw.use rfl (hEN.2 _ (List.mem_filter.mpr ⟨mn_92, rfl⟩))) (fun _ h9 => h9) rfl dX4_current_33 ?_
  refine lv_iload_n hx hb dX4_current_36 rfl (lv_at hl 2 rfl) ?_
  refine lv_iload_n hx hb dX4_current_37 rfl (lv_at hl 3 rfl) ?_
  refine nr_iast hx hb hK hP hD hS 20 0 rfl rfl (k := k) (v := a1) (by omega) (by omega) dX4_current_38 (fun H locs hP hD hS => ?_)
  have hP : va_P D vwCl (pO o0 z0 y0 q lim kn ex ++ pZ z0 z1 z2 q cI pk fi ++ pZ y0 y1 y2 q cI pj fj ++ pT q cI n a b le ro di ++ pS q cI sn ar rt oh ++ pC q r cI cG cn no ot (nr_up cu k a1) wc wl ++ pR r cI wt) H := hP
  have hD : va_D A (pO o0 z0 y0 q lim kn ex ++ pZ z0 z1 z2 q cI pk fi ++ pZ y0 y1 y2 q cI pj fj ++ pT q cI n a b le ro di ++ pS q cI sn ar rt oh ++ pC q r cI cG cn no ot (nr_up cu k a1) wc wl ++ pR r cI wt) := hD
  refine lv_aload_n hx hb dX4_current_39 rfl (lv_at hl 1 rfl) ?_
  refine lv_iconst (v := nI 0) hx hb dX4_current_40 (by decide) ?_
  refine va_put (ci := 4) (v := .int (nI 0)) (ty := .boolean) (C := RX4) (T := TX4) (N := 8) hx hb hbw in_X4 tyX4 tyX4_ok nmX4 hown hK hP hD hS 0 rfl rfl 6 (by decide) (hbw _ m_166) (fun _ h9 => h9) rfl (by decide +kernel) rfl rfl (Nat.le_of_ble_eq_true rfl) dX4_current_41 (fun H locs hP hD hS => ?_)
  have hP : va_P D vwCl (pO o0 z0 y0 q lim 0 ex ++ pZ z0 z1 z2 q cI pk fi ++ pZ y0 y1 y2 q cI pj fj ++ pT q cI n a b le ro di ++ pS q cI sn ar rt oh ++ pC q r cI cG cn no ot (nr_up cu k a1) wc wl ++ pR r cI wt) H := hP
  have hD : va_D A (pO o0 z0 y0 q lim 0 ex ++ pZ z0 z1 z2 q cI pk fi ++ pZ y0 y1 y2 q cI pj fj ++ pT q cI n a b le ro di ++ pS q cI sn ar rt oh ++ pC q r cI cG cn no ot (nr_up cu k a1) wc wl ++ pR r cI wt) := hD
  refine lv_iload_n hx hb dX4_current_44 rfl (lv_at hl 0 rfl) ?_
  rw [hQ]
  exact tx_iret hx hb hr hlocks hP hD hS dX4_current_45 (Nat.le_of_ble_eq_true rfl) (Nat.le_of_ble_eq_true rfl) ⟨k, a1, ⟨hk, rfl, rfl, hb1, hb2⟩, rfl, rfl⟩
set_option maxHeartbeats 4000000 in
set_option maxRecDepth 100000 in
/-- X4_room -/
theorem kX4_room (l : Launch) (hl9 : l.stackTraces = false) (D : va_G) (cI cG cL cB : ClassId) (o0 z0 z1 z2 y0 y1 y2 : Nat) (q r : Nat → Nat) (pj fj : Nat → Nat) (lim kn ex : Nat) (pk fi : Nat → Nat) (n : Nat) (a b le ro di : Nat → Nat) (sn : Nat) (ar rt oh : Nat → Nat) (cn : Nat) (no ot cu wc wl : Nat → Nat) (wt : Nat → Nat → Nat) (x0 x1 : Int32) (hT : okT n a b le ro) (hz : okZ sn ar rt oh cn cu wc wl wt) (hC : okC n a b le cn no ot wc wl wt) (hL : okL n ro sn ar rt oh cn cu wc wl wt lim kn ex pk fi) (hlim : lim ≤ 1000000) : tx_i l yX4_room (.code yX4_room cX4_room 4 (some .int) :: bw) ({ frames := 7, cells := 2, slots := 12, locals := 112 }) (EX D (tyL cI cG cL cB)) D vwCl (pO o0 z0 y0 q lim kn ex ++ pZ z0 z1 z2 q cI pk fi ++ pZ y0 y1 y2 q cI pj fj ++ pT q cI n a b le ro di ++ pS q cI sn ar rt oh ++ pC q r cI cG cn no ot cu wc wl ++ pR r cI wt) [.ref o0, .int x0, .int x1] (fun v W => ∃ k a1, (k < n ∧ x0 = nI k ∧ x1 = nI a1 ∧ 1 ≤ a1 ∧ a1 ≤ 1000) ∧ v = nI (ro k) ∧ W = (pO o0 z0 y0 q lim 0 ex ++ pZ z0 z1 z2 q cI pk fi ++ pZ y0 y1 y2 q cI pj fj ++ pT q cI n a b le (nr_up ro k a1) di ++ pS q cI sn ar rt oh ++ pC q r cI cG cn no ot cu wc wl ++ pR r cI wt)) (fun E W => E = sIAE ∧ ¬ ((∃ k, k < n ∧ x0 = nI k) ∧ inB x1 1 1000) ∧ W = (pO o0 z0 y0 q lim kn ex ++ pZ z0 z1 z2 q cI pk fi ++ pZ y0 y1 y2 q cI pj fj ++ pT q cI n a b le ro di ++ pS q cI sn ar rt oh ++ pC q r cI cG cn no ot cu wc wl ++ pR r cI wt)) 2 12 := by
  refine tx_ofi (by decide) (Nat.le_of_ble_eq_true rfl) ?_
  intro p e s m below meth cd A H locs av Q ls hx hb hr hml hown hlocks hex hbw hEX hZ hQ hP hD hS hA hl
  have hown : s.vm.findClass RX4 = some m.cls := hown
  have hEN := hEX.1
  have hK := hEN.1
  have hl : lv_has ls 4 [(0, .ref o0), (1, .int x0), (2, .int x1)] := hl
  obtain ⟨hn, hok, ha0, hb0, hl0, hro, hro1⟩ := id hT
  obtain ⟨hsn, har, hrt, hoh, hcn, hcu, hwc, hwl, hwt⟩ := id hz
  have hy := okY_of hT hC
  obtain ⟨hkn, hpk, hfi, hkl⟩ := id hL
  refine lv_iload_n hx hb dX4_room_0 rfl (lv_at hl 1 rfl) ?_
  refine lv_aload_n hx hb dX4_room_1 rfl (lv_at hl 0 rfl) ?_
  refine va_get (ci := 4) (v := .ref (q 1)) (C := RX4) (T := TX4) (N := 8) hx hb hbw in_X4 hown hK hP 0 rfl rfl 0 (by decide) (hbw _ m_160) (fun _ h9 => h9) rfl dX4_room_2 ?_
  refine va_getN (ci := 3) (v := .int (nI n)) (C := RX3) (T := TX3) (N := 6) hx hb hbw in_X3 hown hK hP 7 rfl rfl 0 (by decide) (va_Nw.use rfl (hEN.2 _ (List.mem_filter.mpr ⟨mn_29, rfl⟩))) (fun _ h9 => h9) rfl dX4_room_5 ?_
  rw [hQ]
  refine tx_Sv (wc := ([] : va_W)) (wr := (pO o0 z0 y0 q lim kn ex ++ pZ z0 z1 z2 q cI pk fi ++ pZ y0 y1 y2 q cI pj fj ++ pT q cI n a b le ro di ++ pS q cI sn ar rt oh ++ pC q r cI cG cn no ot cu wc wl ++ pR r cI wt)) (As := [.int x0, .int (nI n)]) (rest := []) ⟨hx, hb, hml, hown, hbw⟩ (EX_E D _) hEX hZ hex hlocks (kX4_checkNumber l hl9 D cI cG cL cB x0 n (by omega)) (gS 2 hbw m_406 m_407 m_18 m_408 rfl rfl (by decide +kernel) ⟨Nat.le_of_ble_eq_true rfl, Nat.le_of_ble_eq_true rfl⟩) hP hD hS hA [] [0, 1, 2, 3, 4, 5, 6, 7, 8, 9, 10, 11, 12, 13, 14, 15, 16, 17, 18, 19, 20, 21, 22, 23, 24, 25, 26, 27, 28, 29, 30, 31, 32, 33, 34, 35, 36, 37, 38, 39, 40, 41, 42, 43] rfl rfl (by decide) (by decide) (by decide) rfl hl.1 rfl (Nat.le_of_ble_eq_true rfl) dX4_room_8 ⟨Nat.le_of_ble_eq_true rfl, Nat.le_of_ble_eq_true rfl⟩ (Nat.le_of_ble_eq_true rfl) (Nat.le_of_ble_eq_true rfl) (fun E w1 hp => ⟨hp.1, fun h => hp.2.2 h.1, by rw [hp.2.1, List.append_nil]⟩) (fun w1 H locs hw hP hD hS => ?_)
  rw [← hQ]
  obtain ⟨rfl, k, hk, hx0⟩ := hw
  rw [List.append_nil] at hP hD
  subst hx0
  refine lv_iload_n hx hb dX4_room_11 rfl (lv_at hl 2 rfl) ?_
  refine lv_iconst (v := nI 1) hx hb dX4_room_12 (by decide) ?_
  refine lv_sipush (v := nI 1000) hx hb dX4_room_13 (by decide) ?_
  rw [hQ]
  refine tx_Sv (wc := ([] : va_W)) (wr := (pO o0 z0 y0 q lim kn ex ++ pZ z0 z1 z2 q cI pk fi ++ pZ y0 y1 y2 q cI pj fj ++ pT q cI n a b le ro di ++ pS q cI sn ar rt oh ++ pC q r cI cG cn no ot cu wc wl ++ pR r cI wt)) (As := [.int x1, .int (nI 1), .int (nI 1000)]) (rest := []) ⟨hx, hb, hml, hown, hbw⟩ (EX_E D _) hEX hZ hex hlocks (kX4_checkBounds l hl9 D cI cG cL cB x1 1 1000 (by omega) (by omega)) (gS 3 hbw m_255 m_256 m_18 m_257 rfl rfl (by decide +kernel) ⟨Nat.le_of_ble_eq_true rfl, Nat.le_of_ble_eq_true rfl⟩) hP hD hS hA [] [0, 1, 2, 3, 4, 5, 6, 7, 8, 9, 10, 11, 12, 13, 14, 15, 16, 17, 18, 19, 20, 21, 22, 23, 24, 25, 26, 27, 28, 29, 30, 31, 32, 33, 34, 35, 36, 37, 38, 39, 40, 41, 42, 43] rfl rfl (by decide) (by decide) (by decide) rfl hl.1 rfl (Nat.le_of_ble_eq_true rfl) dX4_room_16 ⟨Nat.le_of_ble_eq_true rfl, Nat.le_of_ble_eq_true rfl⟩ (Nat.le_of_ble_eq_true rfl) (Nat.le_of_ble_eq_true rfl) (fun E w1 hp => ⟨hp.1, fun h => hp.2.2 h.2, by rw [hp.2.1, List.append_nil]⟩) (fun w1 H locs hw hP hD hS => ?_)
  rw [← hQ]
  obtain ⟨rfl, a1, hx1, hb1, hb2⟩ := hw
  rw [List.append_nil] at hP hD
  subst hx1
  refine lv_aload_n hx hb dX4_room_19 rfl (lv_at hl 0 rfl) ?_
  refine va_get (ci := 4) (v := .ref (q 1)) (C := RX4) (T := TX4) (N := 8) hx hb hbw in_X4 hown hK hP 0 rfl rfl 0 (by decide) (hbw _ m_160) (fun _ h9 => h9) rfl dX4_room_20 ?_
  refine va_getN (ci := 3) (v := .ref (q 5)) (C := RX3) (T := TX3) (N := 6) hx hb hbw in_X3 hown hK hP 7 rfl rfl 4 (by decide) (va_Nw.use rfl (hEN.2 _ (List.mem_filter.mpr ⟨mn_37, rfl⟩))) (fun _ h9 => h9) rfl dX4_room_23 ?_
  refine lv_iload_n hx hb dX4_room_26 rfl (lv_at hl 1 rfl) ?_
  refine nr_iald hx hb hK hP 11 0 rfl rfl (k := k) (by omega) (by omega) dX4_room_27 ?_
  have b_1 := hro k
  refine lv_istore_n (lv' := [(3, .int (nI (ro k))), (0, .ref o0), (1, .int (nI k)), (2, .int (nI a1))]) hx hb dX4_room_28 rfl hl (by decide) rfl (fun ls hl => ?_)
  refine lv_aload_n hx hb dX4_room_29 rfl (lv_at hl 1 rfl) ?_
  refine va_get (ci := 4) (v := .ref (q 1)) (C := RX4) (T := TX4) (N := 8) hx hb hbw in_X4 hown hK hP 0 rfl rfl 0 (by decide) (hbw _ m_160) (fun _ h9 => h9) rfl dX4_room_30 ?_
  refine va_getN (ci := 3) (v := .ref (q 5)) (C := RX3) (T := TX3) (N := 6) hx hb hbw in_X3 hown hK hP 7 rfl rfl 4 (by decide) (va_Nw.use rfl (hEN.2 _ (List.mem_filter.mpr ⟨mn_37, rfl⟩))) (fun _ h9 => h9) rfl dX4_room_33 ?_
  refine lv_iload_n hx hb dX4_room_36 rfl (lv_at hl 2 rfl) ?_
  refine lv_iload_n hx hb dX4_room_37 rfl (lv_at hl 3 rfl) ?_
  refine nr_iast hx hb hK hP hD hS 11 0 rfl rfl (k := k) (v := a1) (by omega) (by omega) dX4_room_38 (fun H locs hP hD hS => ?_)
  have hP : va_P D vwCl (pO o0 z0 y0 q lim kn ex ++ pZ z0 z1 z2 q cI pk fi ++ pZ y0 y1 y2 q cI pj fj ++ pT q cI n a b le (nr_up ro k a1) di ++ pS q cI sn ar rt oh ++ pC q r cI cG cn no ot cu wc wl ++ pR r cI wt) H := hP
  have hD : va_D A (pO o0 z0 y0 q lim kn ex ++ pZ z0 z1 z2 q cI pk fi ++ pZ y0 y1 y2 q cI pj fj ++ pT q cI n a b le (nr_up ro k a1) di ++ pS q cI sn ar rt oh ++ pC q r cI cG cn no ot cu wc wl ++ pR r cI wt) := hD
  refine lv_aload_n hx hb dX4_room_39 rfl (lv_at hl 1 rfl) ?_
  refine lv_iconst (v := nI 0) hx hb dX4_room_40 (by decide) ?_
  refine va_put (ci := 4) (v := .int (nI 0)) (ty := .boolean) (C := RX4) (T := TX4) (N := 8) hx hb hbw in_X4 tyX4 tyX4_ok nmX4 hown hK hP hD hS 0 rfl rfl 6 (by decide) (hbw _ m_166) (fun _ h9 => h9) rfl (by decide +kernel) rfl rfl (Nat.le_of_ble_eq_true rfl) dX4_room_41 (fun H locs hP hD hS => ?_)
  have hP : va_P D vwCl (pO o0 z0 y0 q lim 0 ex ++ pZ z0 z1 z2 q cI pk fi ++ pZ y0 y1 y2 q cI pj fj ++ pT q cI n a b le (nr_up ro k a1) di ++ pS q cI sn ar rt oh ++ pC q r cI cG cn no ot cu wc wl ++ pR r cI wt) H := hP
  have hD : va_D A (pO o0 z0 y0 q lim 0 ex ++ pZ z0 z1 z2 q cI pk fi ++ pZ y0 y1 y2 q cI pj fj ++ pT q cI n a b le (nr_up ro k a1) di ++ pS q cI sn ar rt oh ++ pC q r cI cG cn no ot cu wc wl ++ pR r cI wt) := hD
  refine lv_iload_n hx hb dX4_room_44 rfl (lv_at hl 0 rfl) ?_
  rw [hQ]
  exact tx_iret hx hb hr hlocks hP hD hS dX4_room_45 (Nat.le_of_ble_eq_true rfl) (Nat.le_of_ble_eq_true rfl) ⟨k, a1, ⟨hk, rfl, rfl, hb1, hb2⟩, rfl, rfl⟩
set_option maxHeartbeats 4000000 in
set_option maxRecDepth 100000 in
/-- limit -/
theorem kX4_limit (l : Launch) (hl9 : l.stackTraces = false) (D : va_G) (cI cG cL cB : ClassId) (o0 z0 z1 z2 y0 y1 y2 : Nat) (q r : Nat → Nat) (pj fj : Nat → Nat) (lim kn ex : Nat) (pk fi : Nat → Nat) (n : Nat) (a b le ro di : Nat → Nat) (sn : Nat) (ar rt oh : Nat → Nat) (cn : Nat) (no ot cu wc wl : Nat → Nat) (wt : Nat → Nat → Nat) (x0 : Int32) (hT : okT n a b le ro) (hz : okZ sn ar rt oh cn cu wc wl wt) (hC : okC n a b le cn no ot wc wl wt) (hL : okL n ro sn ar rt oh cn cu wc wl wt lim kn ex pk fi) (hlim : lim ≤ 1000000) : tx_i l yX4_limit (.code yX4_limit cX4_limit 3 (some .int) :: bw) ({ frames := 7, cells := 1, slots := 6, locals := 112 }) (EX D (tyL cI cG cL cB)) D vwCl (pO o0 z0 y0 q lim kn ex ++ pZ z0 z1 z2 q cI pk fi ++ pZ y0 y1 y2 q cI pj fj ++ pT q cI n a b le ro di ++ pS q cI sn ar rt oh ++ pC q r cI cG cn no ot cu wc wl ++ pR r cI wt) [.ref o0, .int x0] (fun v W => ∃ a1, (x0 = nI a1 ∧ a1 ≤ 1000000) ∧ v = nI lim ∧ W = (pO o0 z0 y0 q a1 0 ex ++ pZ z0 z1 z2 q cI pk fi ++ pZ y0 y1 y2 q cI pj fj ++ pT q cI n a b le ro di ++ pS q cI sn ar rt oh ++ pC q r cI cG cn no ot cu wc wl ++ pR r cI wt)) (fun E W => E = sIAE ∧ ¬ inB x0 0 1000000 ∧ W = (pO o0 z0 y0 q lim kn ex ++ pZ z0 z1 z2 q cI pk fi ++ pZ y0 y1 y2 q cI pj fj ++ pT q cI n a b le ro di ++ pS q cI sn ar rt oh ++ pC q r cI cG cn no ot cu wc wl ++ pR r cI wt)) 1 6 := by
  refine tx_ofi (by decide) (Nat.le_of_ble_eq_true rfl) ?_
  intro p e s m below meth cd A H locs av Q ls hx hb hr hml hown hlocks hex hbw hEX hZ hQ hP hD hS hA hl
  have hown : s.vm.findClass RX4 = some m.cls := hown
  have hEN := hEX.1
  have hK := hEN.1
  have hl : lv_has ls 3 [(0, .ref o0), (1, .int x0)] := hl
  refine lv_iload_n hx hb dX4_limit_0 rfl (lv_at hl 1 rfl) ?_
  refine lv_iconst (v := nI 0) hx hb dX4_limit_1 (by decide) ?_
  refine lv_ldc (v := nI 1000000) hx hb hown (hbw _ m_424) dX4_limit_2 ?_
  rw [hQ]
  refine tx_Sv (wc := ([] : va_W)) (wr := (pO o0 z0 y0 q lim kn ex ++ pZ z0 z1 z2 q cI pk fi ++ pZ y0 y1 y2 q cI pj fj ++ pT q cI n a b le ro di ++ pS q cI sn ar rt oh ++ pC q r cI cG cn no ot cu wc wl ++ pR r cI wt)) (As := [.int x0, .int (nI 0), .int (nI 1000000)]) (rest := []) ⟨hx, hb, hml, hown, hbw⟩ (EX_E D _) hEX hZ hex hlocks (kX4_checkBounds l hl9 D cI cG cL cB x0 0 1000000 (by omega) (by omega)) (gS 3 hbw m_255 m_256 m_18 m_257 rfl rfl (by decide +kernel) ⟨Nat.le_of_ble_eq_true rfl, Nat.le_of_ble_eq_true rfl⟩) hP hD hS hA [] [0, 1, 2, 3, 4, 5, 6, 7, 8, 9, 10, 11, 12, 13, 14, 15, 16, 17, 18, 19, 20, 21, 22, 23, 24, 25, 26, 27, 28, 29, 30, 31, 32, 33, 34, 35, 36, 37, 38, 39, 40, 41, 42, 43] rfl rfl (by decide) (by decide) (by decide) rfl hl.1 rfl (Nat.le_of_ble_eq_true rfl) dX4_limit_4 ⟨Nat.le_of_ble_eq_true rfl, Nat.le_of_ble_eq_true rfl⟩ (Nat.le_of_ble_eq_true rfl) (Nat.le_of_ble_eq_true rfl) (fun E w1 hp => ⟨hp.1, hp.2.2, by rw [hp.2.1, List.append_nil]⟩) (fun w1 H locs hw hP hD hS => ?_)
  rw [← hQ]
  obtain ⟨rfl, a1, hx0, hb1, hb2⟩ := hw
  rw [List.append_nil] at hP hD
  subst hx0
  refine lv_aload_n hx hb dX4_limit_7 rfl (lv_at hl 0 rfl) ?_
  refine va_get (ci := 4) (v := .int (nI lim)) (C := RX4) (T := TX4) (N := 8) hx hb hbw in_X4 hown hK hP 0 rfl rfl 5 (by decide) (hbw _ m_165) (fun _ h9 => h9) rfl dX4_limit_8 ?_
  refine lv_istore_n (lv' := [(2, .int (nI lim)), (0, .ref o0), (1, .int (nI a1))]) hx hb dX4_limit_11 rfl hl (by decide) rfl (fun ls hl => ?_)
  refine lv_aload_n hx hb dX4_limit_12 rfl (lv_at hl 1 rfl) ?_
  refine lv_iload_n hx hb dX4_limit_13 rfl (lv_at hl 2 rfl) ?_
  refine va_put (ci := 4) (v := .int (nI a1)) (ty := .int) (C := RX4) (T := TX4) (N := 8) hx hb hbw in_X4 tyX4 tyX4_ok nmX4 hown hK hP hD hS 0 rfl rfl 5 (by decide) (hbw _ m_165) (fun _ h9 => h9) rfl (by decide +kernel) rfl rfl (Nat.le_of_ble_eq_true rfl) dX4_limit_14 (fun H locs hP hD hS => ?_)
  have hP : va_P D vwCl (pO o0 z0 y0 q a1 kn ex ++ pZ z0 z1 z2 q cI pk fi ++ pZ y0 y1 y2 q cI pj fj ++ pT q cI n a b le ro di ++ pS q cI sn ar rt oh ++ pC q r cI cG cn no ot cu wc wl ++ pR r cI wt) H := hP
  have hD : va_D A (pO o0 z0 y0 q a1 kn ex ++ pZ z0 z1 z2 q cI pk fi ++ pZ y0 y1 y2 q cI pj fj ++ pT q cI n a b le ro di ++ pS q cI sn ar rt oh ++ pC q r cI cG cn no ot cu wc wl ++ pR r cI wt) := hD
  refine lv_aload_n hx hb dX4_limit_17 rfl (lv_at hl 1 rfl) ?_
  refine lv_iconst (v := nI 0) hx hb dX4_limit_18 (by decide) ?_
  refine va_put (ci := 4) (v := .int (nI 0)) (ty := .boolean) (C := RX4) (T := TX4) (N := 8) hx hb hbw in_X4 tyX4 tyX4_ok nmX4 hown hK hP hD hS 0 rfl rfl 6 (by decide) (hbw _ m_166) (fun _ h9 => h9) rfl (by decide +kernel) rfl rfl (Nat.le_of_ble_eq_true rfl) dX4_limit_19 (fun H locs hP hD hS => ?_)
  have hP : va_P D vwCl (pO o0 z0 y0 q a1 0 ex ++ pZ z0 z1 z2 q cI pk fi ++ pZ y0 y1 y2 q cI pj fj ++ pT q cI n a b le ro di ++ pS q cI sn ar rt oh ++ pC q r cI cG cn no ot cu wc wl ++ pR r cI wt) H := hP
  have hD : va_D A (pO o0 z0 y0 q a1 0 ex ++ pZ z0 z1 z2 q cI pk fi ++ pZ y0 y1 y2 q cI pj fj ++ pT q cI n a b le ro di ++ pS q cI sn ar rt oh ++ pC q r cI cG cn no ot cu wc wl ++ pR r cI wt) := hD
  refine lv_iload_n hx hb dX4_limit_22 rfl (lv_at hl 0 rfl) ?_
  rw [hQ]
  exact tx_iret hx hb hr hlocks hP hD hS dX4_limit_23 (Nat.le_of_ble_eq_true rfl) (Nat.le_of_ble_eq_true rfl) ⟨a1, ⟨rfl, hb2⟩, rfl, rfl⟩
set_option maxHeartbeats 4000000 in
set_option maxRecDepth 100000 in
/-- size -/
theorem kX4_size (l : Launch) (hl9 : l.stackTraces = false) (D : va_G) (cI cG cL cB : ClassId) (o0 z0 z1 z2 y0 y1 y2 : Nat) (q r : Nat → Nat) (pj fj : Nat → Nat) (lim kn ex : Nat) (pk fi : Nat → Nat) (n : Nat) (a b le ro di : Nat → Nat) (sn : Nat) (ar rt oh : Nat → Nat) (cn : Nat) (no ot cu wc wl : Nat → Nat) (wt : Nat → Nat → Nat) (x0 x1 x2 : Int32) (hT : okT n a b le ro) (hz : okZ sn ar rt oh cn cu wc wl wt) (hC : okC n a b le cn no ot wc wl wt) (hL : okL n ro sn ar rt oh cn cu wc wl wt lim kn ex pk fi) (hlim : lim ≤ 1000000) : tx_i l yX4_size (.code yX4_size cX4_size 4 (some .int) :: bw) ({ frames := 7, cells := 4, slots := 24, locals := 112 }) (EX D (tyL cI cG cL cB)) D vwCl (pO o0 z0 y0 q lim kn ex ++ pZ z0 z1 z2 q cI pk fi ++ pZ y0 y1 y2 q cI pj fj ++ pT q cI n a b le ro di ++ pS q cI sn ar rt oh ++ pC q r cI cG cn no ot cu wc wl ++ pR r cI wt) [.ref o0, .int x0, .int x1, .int x2] (fun v W => ∃ x y z, (x0 = nI x ∧ x1 = nI y ∧ x2 = nI z ∧ 1 ≤ x ∧ x ≤ 100 ∧ 1 ≤ y ∧ y ≤ 1000 ∧ z ≤ 1000) ∧ sn < 6 ∧ cz_fol sn ar rt oh x y z = true ∧ v = nI sn ∧ W = (pO o0 z0 y0 q lim 0 ex ++ pZ z0 z1 z2 q cI pk fi ++ pZ y0 y1 y2 q cI pj fj ++ pT q cI n a b le ro di ++ pS q cI (sn + 1) (nr_up ar sn x) (nr_up rt sn y) (nr_up oh sn z) ++ pC q r cI cG cn no ot cu wc wl ++ pR r cI wt)) (fun E W => W = (pO o0 z0 y0 q lim kn ex ++ pZ z0 z1 z2 q cI pk fi ++ pZ y0 y1 y2 q cI pj fj ++ pT q cI n a b le ro di ++ pS q cI sn ar rt oh ++ pC q r cI cG cn no ot cu wc wl ++ pR r cI wt) ∧ ((E = sIAE ∧ ¬ (inB x0 1 100 ∧ inB x1 1 1000 ∧ inB x2 0 1000)) ∨ (E = sISE ∧ ∃ x y z, (x0 = nI x ∧ x1 = nI y ∧ x2 = nI z ∧ 1 ≤ x ∧ x ≤ 100 ∧ 1 ≤ y ∧ y ≤ 1000 ∧ z ≤ 1000) ∧ ¬ (sn < 6 ∧ cz_fol sn ar rt oh x y z = true)))) 4 24 := by
  refine tx_ofi (by decide) (Nat.le_of_ble_eq_true rfl) ?_
  intro p e s m below meth cd A H locs av Q ls hx hb hr hml hown hlocks hex hbw hEX hZ hQ hP hD hS hA hl
  have hown : s.vm.findClass RX4 = some m.cls := hown
  have hEN := hEX.1
  have hK := hEN.1
  have hl : lv_has ls 4 [(0, .ref o0), (1, .int x0), (2, .int x1), (3, .int x2)] := hl
  obtain ⟨hn, hok, ha0, hb0, hl0, hro, hro1⟩ := id hT
  obtain ⟨hsn, har, hrt, hoh, hcn, hcu, hwc, hwl, hwt⟩ := id hz
  have hy := okY_of hT hC
  obtain ⟨hkn, hpk, hfi, hkl⟩ := id hL
  have har1 : ∀ j, ar j ≤ 1000 := fun j => Nat.le_trans (har j) (by omega)
  refine lv_iload_n hx hb dX4_size_0 rfl (lv_at hl 1 rfl) ?_
  refine lv_iconst (v := nI 1) hx hb dX4_size_1 (by decide) ?_
  refine lv_bipush (v := nI 100) hx hb dX4_size_2 (by decide) ?_
  rw [hQ]
  refine tx_Sv (wc := ([] : va_W)) (wr := (pO o0 z0 y0 q lim kn ex ++ pZ z0 z1 z2 q cI pk fi ++ pZ y0 y1 y2 q cI pj fj ++ pT q cI n a b le ro di ++ pS q cI sn ar rt oh ++ pC q r cI cG cn no ot cu wc wl ++ pR r cI wt)) (As := [.int x0, .int (nI 1), .int (nI 100)]) (rest := []) ⟨hx, hb, hml, hown, hbw⟩ (EX_E D _) hEX hZ hex hlocks (kX4_checkBounds l hl9 D cI cG cL cB x0 1 100 (by omega) (by omega)) (gS 3 hbw m_255 m_256 m_18 m_257 rfl rfl (by decide +kernel) ⟨Nat.le_of_ble_eq_true rfl, Nat.le_of_ble_eq_true rfl⟩) hP hD hS hA [] [0, 1, 2, 3, 4, 5, 6, 7, 8, 9, 10, 11, 12, 13, 14, 15, 16, 17, 18, 19, 20, 21, 22, 23, 24, 25, 26, 27, 28, 29, 30, 31, 32, 33, 34, 35, 36, 37, 38, 39, 40, 41, 42, 43] rfl rfl (by decide) (by decide) (by decide) rfl hl.1 rfl (Nat.le_of_ble_eq_true rfl) dX4_size_4 ⟨Nat.le_of_ble_eq_true rfl, Nat.le_of_ble_eq_true rfl⟩ (Nat.le_of_ble_eq_true rfl) (Nat.le_of_ble_eq_true rfl) (fun E w1 hp => ⟨by rw [hp.2.1, List.append_nil], Or.inl ⟨hp.1, fun h => hp.2.2 h.1⟩⟩) (fun w1 H locs hw hP hD hS => ?_)
  rw [← hQ]
  obtain ⟨rfl, x, hx0, hb1, hb2⟩ := hw
  rw [List.append_nil] at hP hD
  subst hx0
  refine lv_iload_n hx hb dX4_size_7 rfl (lv_at hl 2 rfl) ?_
  refine lv_iconst (v := nI 1) hx hb dX4_size_8 (by decide) ?_
  refine lv_sipush (v := nI 1000) hx hb dX4_size_9 (by decide) ?_
  rw [hQ]
  refine tx_Sv (wc := ([] : va_W)) (wr := (pO o0 z0 y0 q lim kn ex ++ pZ z0 z1 z2 q cI pk fi ++ pZ y0 y1 y2 q cI pj fj ++ pT q cI n a b le ro di ++ pS q cI sn ar rt oh ++ pC q r cI cG cn no ot cu wc wl ++ pR r cI wt)) (As := [.int x1, .int (nI 1), .int (nI 1000)]) (rest := []) ⟨hx, hb, hml, hown, hbw⟩ (EX_E D _) hEX hZ hex hlocks (kX4_checkBounds l hl9 D cI cG cL cB x1 1 1000 (by omega) (by omega)) (gS 3 hbw m_255 m_256 m_18 m_257 rfl rfl (by decide +kernel) ⟨Nat.le_of_ble_eq_true rfl, Nat.le_of_ble_eq_true rfl⟩) hP hD hS hA [] [0, 1, 2, 3, 4, 5, 6, 7, 8, 9, 10, 11, 12, 13, 14, 15, 16, 17, 18, 19, 20, 21, 22, 23, 24, 25, 26, 27, 28, 29, 30, 31, 32, 33, 34, 35, 36, 37, 38, 39, 40, 41, 42, 43] rfl rfl (by decide) (by decide) (by decide) rfl hl.1 rfl (Nat.le_of_ble_eq_true rfl) dX4_size_12 ⟨Nat.le_of_ble_eq_true rfl, Nat.le_of_ble_eq_true rfl⟩ (Nat.le_of_ble_eq_true rfl) (Nat.le_of_ble_eq_true rfl) (fun E w1 hp => ⟨by rw [hp.2.1, List.append_nil], Or.inl ⟨hp.1, fun h => hp.2.2 h.2.1⟩⟩) (fun w1 H locs hw hP hD hS => ?_)
  rw [← hQ]
  obtain ⟨rfl, y, hx1, hb3, hb4⟩ := hw
  rw [List.append_nil] at hP hD
  subst hx1
  refine lv_iload_n hx hb dX4_size_15 rfl (lv_at hl 3 rfl) ?_
  refine lv_iconst (v := nI 0) hx hb dX4_size_16 (by decide) ?_
  refine lv_sipush (v := nI 1000) hx hb dX4_size_17 (by decide) ?_
  rw [hQ]
  refine tx_Sv (wc := ([] : va_W)) (wr := (pO o0 z0 y0 q lim kn ex ++ pZ z0 z1 z2 q cI pk fi ++ pZ y0 y1 y2 q cI pj fj ++ pT q cI n a b le ro di ++ pS q cI sn ar rt oh ++ pC q r cI cG cn no ot cu wc wl ++ pR r cI wt)) (As := [.int x2, .int (nI 0), .int (nI 1000)]) (rest := []) ⟨hx, hb, hml, hown, hbw⟩ (EX_E D _) hEX hZ hex hlocks (kX4_checkBounds l hl9 D cI cG cL cB x2 0 1000 (by omega) (by omega)) (gS 3 hbw m_255 m_256 m_18 m_257 rfl rfl (by decide +kernel) ⟨Nat.le_of_ble_eq_true rfl, Nat.le_of_ble_eq_true rfl⟩) hP hD hS hA [] [0, 1, 2, 3, 4, 5, 6, 7, 8, 9, 10, 11, 12, 13, 14, 15, 16, 17, 18, 19, 20, 21, 22, 23, 24, 25, 26, 27, 28, 29, 30, 31, 32, 33, 34, 35, 36, 37, 38, 39, 40, 41, 42, 43] rfl rfl (by decide) (by decide) (by decide) rfl hl.1 rfl (Nat.le_of_ble_eq_true rfl) dX4_size_20 ⟨Nat.le_of_ble_eq_true rfl, Nat.le_of_ble_eq_true rfl⟩ (Nat.le_of_ble_eq_true rfl) (Nat.le_of_ble_eq_true rfl) (fun E w1 hp => ⟨by rw [hp.2.1, List.append_nil], Or.inl ⟨hp.1, fun h => hp.2.2 h.2.2⟩⟩) (fun w1 H locs hw hP hD hS => ?_)
  rw [← hQ]
  obtain ⟨rfl, z, hx2, hb5, hb6⟩ := hw
  rw [List.append_nil] at hP hD
  subst hx2
  refine lv_aload_n hx hb dX4_size_23 rfl (lv_at hl 0 rfl) ?_
  refine va_get (ci := 4) (v := .ref (q 7)) (C := RX4) (T := TX4) (N := 8) hx hb hbw in_X4 hown hK hP 0 rfl rfl 1 (by decide) (hbw _ m_161) (fun _ h9 => h9) rfl dX4_size_24 ?_
  refine va_getN (ci := 1) (v := .int (nI sn)) (C := RX1) (T := TX1) (N := 4) hx hb hbw in_X1 hown hK hP 13 rfl rfl 0 (by decide) (va_Nw.use rfl (hEN.2 _ (List.mem_filter.mpr ⟨mn_62, rfl⟩))) (fun _ h9 => h9) rfl dX4_size_27 ?_
  refine lv_bipush (v := nI 6) hx hb dX4_size_30 (by decide) ?_
  refine nr_icmp_lt (x := sn) (y := 6) (tgt := 45) hx hb (by omega) (by omega) dX4_size_32 (by decide) (fun h1 => ?_) (fun h1 => ?_)
  · refine lv_aload_n hx hb dX4_size_45 rfl (lv_at hl 0 rfl) ?_
    refine va_get (ci := 4) (v := .ref (q 7)) (C := RX4) (T := TX4) (N := 8) hx hb hbw in_X4 hown hK hP 0 rfl rfl 1 (by decide) (hbw _ m_161) (fun _ h9 => h9) rfl dX4_size_46 ?_
    refine lv_iload_n hx hb dX4_size_49 rfl (lv_at hl 1 rfl) ?_
    refine lv_iload_n hx hb dX4_size_50 rfl (lv_at hl 2 rfl) ?_
    refine lv_iload_n hx hb dX4_size_51 rfl (lv_at hl 3 rfl) ?_
    refine ct_Vi (wc := (pS q cI sn ar rt oh)) (wr := (pO o0 z0 y0 q lim kn ex ++ pZ z0 z1 z2 q cI pk fi ++ pZ y0 y1 y2 q cI pj fj ++ pT q cI n a b le ro di ++ pC q r cI cG cn no ot cu wc wl ++ pR r cI wt)) (As := [.int (nI x), .int (nI y), .int (nI z)]) (rest := []) ⟨hx, hb, hml, hown, hbw⟩ (EN_E D _) hEN (kX1_mayFollow l D cI cG cL cB q sn ar rt oh x y z (by omega) (by omega) (by omega) (by omega) har1 hrt hoh) (cwV (C := "CableSizes$Sizes") 3 hbw (gV m_378 m_379 m_380 m_20 m_381) rfl rfl rfl (by decide +kernel) ⟨Nat.le_of_ble_eq_true rfl, Nat.le_of_ble_eq_true rfl⟩) (va_recv hK hP (ci := 1) (q0 := 13) rfl rfl) hP hD hS hA [13, 14, 15, 16] [0, 1, 2, 3, 4, 5, 6, 7, 8, 9, 10, 11, 12, 17, 18, 19, 20, 21, 22, 23, 24, 25, 26, 27, 28, 29, 30, 31, 32, 33, 34, 35, 36, 37, 38, 39, 40, 41, 42, 43] rfl rfl (by decide) (by decide) (by decide) rfl hl.1 rfl (Nat.le_of_ble_eq_true rfl) dX4_size_52 ⟨Nat.le_of_ble_eq_true rfl, Nat.le_of_ble_eq_true rfl⟩ (fun r_1 w_1 H locs hw hP hD hS => ?_)
    obtain ⟨rfl, rfl⟩ := hw
    have hP := hP.sub (ws' := (pO o0 z0 y0 q lim kn ex ++ pZ z0 z1 z2 q cI pk fi ++ pZ y0 y1 y2 q cI pj fj ++ pT q cI n a b le ro di ++ pS q cI sn ar rt oh ++ pC q r cI cG cn no ot cu wc wl ++ pR r cI wt)) [0, 1, 2, 3, 4, 5, 6, 7, 8, 9, 10, 11, 12, 40, 41, 42, 43, 13, 14, 15, 16, 17, 18, 19, 20, 21, 22, 23, 24, 25, 26, 27, 28, 29, 30, 31, 32, 33, 34, 35, 36, 37, 38, 39] rfl
    have hD := hD.sub (ws' := (pO o0 z0 y0 q lim kn ex ++ pZ z0 z1 z2 q cI pk fi ++ pZ y0 y1 y2 q cI pj fj ++ pT q cI n a b le ro di ++ pS q cI sn ar rt oh ++ pC q r cI cG cn no ot cu wc wl ++ pR r cI wt)) [0, 1, 2, 3, 4, 5, 6, 7, 8, 9, 10, 11, 12, 40, 41, 42, 43, 13, 14, 15, 16, 17, 18, 19, 20, 21, 22, 23, 24, 25, 26, 27, 28, 29, 30, 31, 32, 33, 34, 35, 36, 37, 38, 39] (by decide) rfl
    refine nr_if_ne (x := bN (cz_fol sn ar rt oh x y z)) (tgt := 68) hx hb (by unfold bN; split <;> omega) dX4_size_55 (by decide) (fun h2 => ?_) (fun h2 => ?_)
    · refine lv_aload_n hx hb dX4_size_68 rfl (lv_at hl 0 rfl) ?_
      refine lv_iconst (v := nI 0) hx hb dX4_size_69 (by decide) ?_
      refine va_put (ci := 4) (v := .int (nI 0)) (ty := .boolean) (C := RX4) (T := TX4) (N := 8) hx hb hbw in_X4 tyX4 tyX4_ok nmX4 hown hK hP hD hS 0 rfl rfl 6 (by decide) (hbw _ m_166) (fun _ h9 => h9) rfl (by decide +kernel) rfl rfl (Nat.le_of_ble_eq_true rfl) dX4_size_70 (fun H locs hP hD hS => ?_)
      have hP : va_P D vwCl (pO o0 z0 y0 q lim 0 ex ++ pZ z0 z1 z2 q cI pk fi ++ pZ y0 y1 y2 q cI pj fj ++ pT q cI n a b le ro di ++ pS q cI sn ar rt oh ++ pC q r cI cG cn no ot cu wc wl ++ pR r cI wt) H := hP
      have hD : va_D A (pO o0 z0 y0 q lim 0 ex ++ pZ z0 z1 z2 q cI pk fi ++ pZ y0 y1 y2 q cI pj fj ++ pT q cI n a b le ro di ++ pS q cI sn ar rt oh ++ pC q r cI cG cn no ot cu wc wl ++ pR r cI wt) := hD
      refine lv_aload_n hx hb dX4_size_73 rfl (lv_at hl 0 rfl) ?_
      refine va_get (ci := 4) (v := .ref (q 7)) (C := RX4) (T := TX4) (N := 8) hx hb hbw in_X4 hown hK hP 0 rfl rfl 1 (by decide) (hbw _ m_161) (fun _ h9 => h9) rfl dX4_size_74 ?_
      refine lv_iload_n hx hb dX4_size_77 rfl (lv_at hl 1 rfl) ?_
      refine lv_iload_n hx hb dX4_size_78 rfl (lv_at hl 2 rfl) ?_
      refine lv_iload_n hx hb dX4_size_79 rfl (lv_at hl 3 rfl) ?_
      refine ct_Vi (wc := (pS q cI sn ar rt oh)) (wr := (pO o0 z0 y0 q lim 0 ex ++ pZ z0 z1 z2 q cI pk fi ++ pZ y0 y1 y2 q cI pj fj ++ pT q cI n a b le ro di ++ pC q r cI cG cn no ot cu wc wl ++ pR r cI wt)) (As := [.int (nI x), .int (nI y), .int (nI z)]) (rest := []) ⟨hx, hb, hml, hown, hbw⟩ (EN_E D _) hEN (kX1_add l D cI cG cL cB q sn ar rt oh x y z h1) (cwV (C := "CableSizes$Sizes") 3 hbw (gV m_383 m_384 m_385 m_20 m_386) rfl rfl rfl (by decide +kernel) ⟨Nat.le_of_ble_eq_true rfl, Nat.le_of_ble_eq_true rfl⟩) (va_recv hK hP (ci := 1) (q0 := 13) rfl rfl) hP hD hS hA [13, 14, 15, 16] [0, 1, 2, 3, 4, 5, 6, 7, 8, 9, 10, 11, 12, 17, 18, 19, 20, 21, 22, 23, 24, 25, 26, 27, 28, 29, 30, 31, 32, 33, 34, 35, 36, 37, 38, 39, 40, 41, 42, 43] rfl rfl (by decide) (by decide) (by decide) rfl hl.1 rfl (Nat.le_of_ble_eq_true rfl) dX4_size_80 ⟨Nat.le_of_ble_eq_true rfl, Nat.le_of_ble_eq_true rfl⟩ (fun r_2 w_2 H locs hw hP hD hS => ?_)
      obtain ⟨rfl, rfl⟩ := hw
      have hP := hP.sub (ws' := (pO o0 z0 y0 q lim 0 ex ++ pZ z0 z1 z2 q cI pk fi ++ pZ y0 y1 y2 q cI pj fj ++ pT q cI n a b le ro di ++ pS q cI (sn + 1) (nr_up ar sn x) (nr_up rt sn y) (nr_up oh sn z) ++ pC q r cI cG cn no ot cu wc wl ++ pR r cI wt)) [0, 1, 2, 3, 4, 5, 6, 7, 8, 9, 10, 11, 12, 40, 41, 42, 43, 13, 14, 15, 16, 17, 18, 19, 20, 21, 22, 23, 24, 25, 26, 27, 28, 29, 30, 31, 32, 33, 34, 35, 36, 37, 38, 39] rfl
      have hD := hD.sub (ws' := (pO o0 z0 y0 q lim 0 ex ++ pZ z0 z1 z2 q cI pk fi ++ pZ y0 y1 y2 q cI pj fj ++ pT q cI n a b le ro di ++ pS q cI (sn + 1) (nr_up ar sn x) (nr_up rt sn y) (nr_up oh sn z) ++ pC q r cI cG cn no ot cu wc wl ++ pR r cI wt)) [0, 1, 2, 3, 4, 5, 6, 7, 8, 9, 10, 11, 12, 40, 41, 42, 43, 13, 14, 15, 16, 17, 18, 19, 20, 21, 22, 23, 24, 25, 26, 27, 28, 29, 30, 31, 32, 33, 34, 35, 36, 37, 38, 39] (by decide) rfl
      rw [hQ]
      exact tx_iret hx hb hr hlocks hP hD hS dX4_size_83 (Nat.le_of_ble_eq_true rfl) (Nat.le_of_ble_eq_true rfl) ⟨x, y, z, ⟨rfl, rfl, rfl, hb1, hb2, hb3, hb4, hb6⟩, h1, bN_t h2, rfl, rfl⟩
    · rw [hQ]
      exact tx_throw (w := (pO o0 z0 y0 q lim kn ex ++ pZ z0 z1 z2 q cI pk fi ++ pZ y0 y1 y2 q cI pj fj ++ pT q cI n a b le ro di ++ pS q cI sn ar rt oh ++ pC q r cI cG cn no ot cu wc wl ++ pR r cI wt)) hx hb hl9 hown (by decide +kernel) hbw hEX hZ xk_ISE xi_ISE xs_88 x1_ISE x2_ISE xg_ISE hP hD hS (hl.1.trans hml.symm) dX4_size_58 dX4_size_61 dX4_size_62 dX4_size_64 dX4_size_67 hex (Nat.le_of_ble_eq_true rfl) (Nat.le_of_ble_eq_true rfl) (Nat.le_of_ble_eq_true rfl) (Nat.le_of_ble_eq_true rfl) hlocks (Nat.le_of_ble_eq_true rfl) (Nat.le_of_ble_eq_true rfl) ⟨rfl, Or.inr ⟨rfl, x, y, z, ⟨rfl, rfl, rfl, hb1, hb2, hb3, hb4, hb6⟩, fun q => by rw [bN_f h2] at q; cases q.2⟩⟩
  · rw [hQ]
    exact tx_throw (w := (pO o0 z0 y0 q lim kn ex ++ pZ z0 z1 z2 q cI pk fi ++ pZ y0 y1 y2 q cI pj fj ++ pT q cI n a b le ro di ++ pS q cI sn ar rt oh ++ pC q r cI cG cn no ot cu wc wl ++ pR r cI wt)) hx hb hl9 hown (by decide +kernel) hbw hEX hZ xk_ISE xi_ISE xs_82 x1_ISE x2_ISE xg_ISE hP hD hS (hl.1.trans hml.symm) dX4_size_35 dX4_size_38 dX4_size_39 dX4_size_41 dX4_size_44 hex (Nat.le_of_ble_eq_true rfl) (Nat.le_of_ble_eq_true rfl) (Nat.le_of_ble_eq_true rfl) (Nat.le_of_ble_eq_true rfl) hlocks (Nat.le_of_ble_eq_true rfl) (Nat.le_of_ble_eq_true rfl) ⟨rfl, Or.inr ⟨rfl, x, y, z, ⟨rfl, rfl, rfl, hb1, hb2, hb3, hb4, hb6⟩, fun q => by omega⟩⟩
set_option maxHeartbeats 4000000 in
set_option maxRecDepth 100000 in
/-- cable -/
theorem kX4_cable (l : Launch) (hl9 : l.stackTraces = false) (D : va_G) (cI cG cL cB : ClassId) (o0 z0 z1 z2 y0 y1 y2 : Nat) (q r : Nat → Nat) (pj fj : Nat → Nat) (lim kn ex : Nat) (pk fi : Nat → Nat) (n : Nat) (a b le ro di : Nat → Nat) (sn : Nat) (ar rt oh : Nat → Nat) (cn : Nat) (no ot cu wc wl : Nat → Nat) (wt : Nat → Nat → Nat) (x0 x1 x2 : Int32) (hT : okT n a b le ro) (hz : okZ sn ar rt oh cn cu wc wl wt) (hC : okC n a b le cn no ot wc wl wt) (hL : okL n ro sn ar rt oh cn cu wc wl wt lim kn ex pk fi) (hlim : lim ≤ 1000000) : tx_i l yX4_cable (.code yX4_cable cX4_cable 5 (some .int) :: bw) ({ frames := 8, cells := 5, slots := 30, locals := 133 }) (EX D (tyL cI cG cL cB)) D vwCl (pO o0 z0 y0 q lim kn ex ++ pZ z0 z1 z2 q cI pk fi ++ pZ y0 y1 y2 q cI pj fj ++ pT q cI n a b le ro di ++ pS q cI sn ar rt oh ++ pC q r cI cG cn no ot cu wc wl ++ pR r cI wt) [.ref o0, .int x0, .int x1, .int x2] (fun v W => ∃ u v0 I, (x0 = nI u ∧ x1 = nI v0 ∧ x2 = nI I ∧ u < 10 ∧ v0 < 10 ∧ u ≠ v0 ∧ 1 ≤ I ∧ I ≤ 1000) ∧ cn < 20 ∧ v = nI cn ∧ ∃ d k f L, W = (pO o0 z0 y0 q lim 0 ex ++ pZ z0 z1 z2 q cI pk fi ++ pZ y0 y1 y2 q cI pj fj ++ pT q cI n a b le ro d ++ pS q cI sn ar rt oh ++ pC q r cI cG (cn + 1) (nr_up no cn u) (nr_up ot cn v0) (nr_up cu cn I) (nr_up wc cn k) (nr_up wl cn L) ++ pR r cI (pR_up wt cn f)) ∧ cw_W n a b le u v0 k f L ∧ ∀ j, f j < 15) (fun E W => W = (pO o0 z0 y0 q lim kn ex ++ pZ z0 z1 z2 q cI pk fi ++ pZ y0 y1 y2 q cI pj fj ++ pT q cI n a b le ro di ++ pS q cI sn ar rt oh ++ pC q r cI cG cn no ot cu wc wl ++ pR r cI wt) ∧ ((E = sIAE ∧ ¬ (inB x0 0 9 ∧ inB x1 0 9 ∧ x0 ≠ x1 ∧ inB x2 1 1000)) ∨ (E = sISE ∧ (inB x0 0 9 ∧ inB x1 0 9 ∧ x0 ≠ x1 ∧ inB x2 1 1000) ∧ cn = 20))) 5 30 := by
  refine tx_ofi (by decide) (Nat.le_of_ble_eq_true rfl) ?_
  intro p e s m below meth cd A H locs av Q ls hx hb hr hml hown hlocks hex hbw hEX hZ hQ hP hD hS hA hl
  have hown : s.vm.findClass RX4 = some m.cls := hown
  have hEN := hEX.1
  have hK := hEN.1
  have hl : lv_has ls 5 [(0, .ref o0), (1, .int x0), (2, .int x1), (3, .int x2)] := hl
  obtain ⟨hn, hok, ha0, hb0, hl0, hro, hro1⟩ := id hT
  obtain ⟨hsn, har, hrt, hoh, hcn, hcu, hwc, hwl, hwt⟩ := id hz
  have hy := okY_of hT hC
  obtain ⟨hkn, hpk, hfi, hkl⟩ := id hL
  refine lv_iload_n hx hb dX4_cable_0 rfl (lv_at hl 1 rfl) ?_
  refine lv_iload_n hx hb dX4_cable_1 rfl (lv_at hl 2 rfl) ?_
  rw [hQ]
  refine tx_Sv (wc := ([] : va_W)) (wr := (pO o0 z0 y0 q lim kn ex ++ pZ z0 z1 z2 q cI pk fi ++ pZ y0 y1 y2 q cI pj fj ++ pT q cI n a b le ro di ++ pS q cI sn ar rt oh ++ pC q r cI cG cn no ot cu wc wl ++ pR r cI wt)) (As := [.int x0, .int x1]) (rest := []) ⟨hx, hb, hml, hown, hbw⟩ (EX_E D _) hEX hZ hex hlocks (kX4_checkNodes l hl9 D cI cG cL cB x0 x1) (gS 2 hbw m_252 m_253 m_18 m_254 rfl rfl (by decide +kernel) ⟨Nat.le_of_ble_eq_true rfl, Nat.le_of_ble_eq_true rfl⟩) hP hD hS hA [] [0, 1, 2, 3, 4, 5, 6, 7, 8, 9, 10, 11, 12, 13, 14, 15, 16, 17, 18, 19, 20, 21, 22, 23, 24, 25, 26, 27, 28, 29, 30, 31, 32, 33, 34, 35, 36, 37, 38, 39, 40, 41, 42, 43] rfl rfl (by decide) (by decide) (by decide) rfl hl.1 rfl (Nat.le_of_ble_eq_true rfl) dX4_cable_2 ⟨Nat.le_of_ble_eq_true rfl, Nat.le_of_ble_eq_true rfl⟩ (Nat.le_of_ble_eq_true rfl) (Nat.le_of_ble_eq_true rfl) (fun E w1 hp => ⟨by rw [hp.2.1, List.append_nil], Or.inl ⟨hp.1, fun h => hp.2.2 ⟨h.1, h.2.1, h.2.2.1⟩⟩⟩) (fun w1 H locs hw hP hD hS => ?_)
  rw [← hQ]
  obtain ⟨rfl, ⟨u, hx0, -, hu9⟩, ⟨v0, hx1, -, hv9⟩, huv⟩ := hw
  rw [List.append_nil] at hP hD
  subst hx0; subst hx1
  have huv : u ≠ v0 := fun e => huv (by rw [e])
  refine lv_iload_n hx hb dX4_cable_5 rfl (lv_at hl 3 rfl) ?_
  refine lv_iconst (v := nI 1) hx hb dX4_cable_6 (by decide) ?_
  refine lv_sipush (v := nI 1000) hx hb dX4_cable_7 (by decide) ?_
  rw [hQ]
  refine tx_Sv (wc := ([] : va_W)) (wr := (pO o0 z0 y0 q lim kn ex ++ pZ z0 z1 z2 q cI pk fi ++ pZ y0 y1 y2 q cI pj fj ++ pT q cI n a b le ro di ++ pS q cI sn ar rt oh ++ pC q r cI cG cn no ot cu wc wl ++ pR r cI wt)) (As := [.int x2, .int (nI 1), .int (nI 1000)]) (rest := []) ⟨hx, hb, hml, hown, hbw⟩ (EX_E D _) hEX hZ hex hlocks (kX4_checkBounds l hl9 D cI cG cL cB x2 1 1000 (by omega) (by omega)) (gS 3 hbw m_255 m_256 m_18 m_257 rfl rfl (by decide +kernel) ⟨Nat.le_of_ble_eq_true rfl, Nat.le_of_ble_eq_true rfl⟩) hP hD hS hA [] [0, 1, 2, 3, 4, 5, 6, 7, 8, 9, 10, 11, 12, 13, 14, 15, 16, 17, 18, 19, 20, 21, 22, 23, 24, 25, 26, 27, 28, 29, 30, 31, 32, 33, 34, 35, 36, 37, 38, 39, 40, 41, 42, 43] rfl rfl (by decide) (by decide) (by decide) rfl hl.1 rfl (Nat.le_of_ble_eq_true rfl) dX4_cable_10 ⟨Nat.le_of_ble_eq_true rfl, Nat.le_of_ble_eq_true rfl⟩ (Nat.le_of_ble_eq_true rfl) (Nat.le_of_ble_eq_true rfl) (fun E w1 hp => ⟨by rw [hp.2.1, List.append_nil], Or.inl ⟨hp.1, fun h => hp.2.2 h.2.2.2⟩⟩) (fun w1 H locs hw hP hD hS => ?_)
  rw [← hQ]
  obtain ⟨rfl, I, hx2, hb1, hb2⟩ := hw
  rw [List.append_nil] at hP hD
  subst hx2
  refine lv_aload_n hx hb dX4_cable_13 rfl (lv_at hl 0 rfl) ?_
  refine va_get (ci := 4) (v := .ref (q 11)) (C := RX4) (T := TX4) (N := 8) hx hb hbw in_X4 hown hK hP 0 rfl rfl 2 (by decide) (hbw _ m_162) (fun _ h9 => h9) rfl dX4_cable_14 ?_
  refine va_getN (ci := 0) (v := .int (nI cn)) (C := RX0) (T := TX0) (N := 7) hx hb hbw in_X0 hown hK hP 17 rfl rfl 0 (by decide) (va_Nw.use rfl (hEN.2 _ (List.mem_filter.mpr ⟨mn_88, rfl⟩))) (fun _ h9 => h9) rfl dX4_cable_17 ?_
  refine lv_bipush (v := nI 20) hx hb dX4_cable_20 (by decide) ?_
  refine nr_icmp_lt (x := cn) (y := 20) (tgt := 35) hx hb (by omega) (by omega) dX4_cable_22 (by decide) (fun h1 => ?_) (fun h1 => ?_)
  · refine lv_aload_n hx hb dX4_cable_35 rfl (lv_at hl 0 rfl) ?_
    refine va_get (ci := 4) (v := .ref (q 11)) (C := RX4) (T := TX4) (N := 8) hx hb hbw in_X4 hown hK hP 0 rfl rfl 2 (by decide) (hbw _ m_162) (fun _ h9 => h9) rfl dX4_cable_36 ?_
    refine lv_iload_n hx hb dX4_cable_39 rfl (lv_at hl 1 rfl) ?_
    refine lv_iload_n hx hb dX4_cable_40 rfl (lv_at hl 2 rfl) ?_
    refine lv_iload_n hx hb dX4_cable_41 rfl (lv_at hl 3 rfl) ?_
    refine ct_Vi (wc := (pC q r cI cG cn no ot cu wc wl)) (wr := (pO o0 z0 y0 q lim kn ex ++ pZ z0 z1 z2 q cI pk fi ++ pZ y0 y1 y2 q cI pj fj ++ pT q cI n a b le ro di ++ pS q cI sn ar rt oh ++ pR r cI wt)) (As := [.int (nI u), .int (nI v0), .int (nI I)]) (rest := []) ⟨hx, hb, hml, hown, hbw⟩ (EN_E D _) hEN (kX0_add l D cI cG cL cB q r cn no ot cu wc wl u v0 I h1) (cwV (C := "CableSizes$Cables") 3 hbw (gV m_395 m_396 m_397 m_21 m_398) rfl rfl rfl (by decide +kernel) ⟨Nat.le_of_ble_eq_true rfl, Nat.le_of_ble_eq_true rfl⟩) (va_recv hK hP (ci := 0) (q0 := 17) rfl rfl) hP hD hS hA [17, 18, 19, 20, 21, 22, 23] [0, 1, 2, 3, 4, 5, 6, 7, 8, 9, 10, 11, 12, 13, 14, 15, 16, 24, 25, 26, 27, 28, 29, 30, 31, 32, 33, 34, 35, 36, 37, 38, 39, 40, 41, 42, 43] rfl rfl (by decide) (by decide) (by decide) rfl hl.1 rfl (Nat.le_of_ble_eq_true rfl) dX4_cable_42 ⟨Nat.le_of_ble_eq_true rfl, Nat.le_of_ble_eq_true rfl⟩ (fun r_1 w_1 H locs hw hP hD hS => ?_)
    obtain ⟨rfl, rfl⟩ := hw
    have hP := hP.sub (ws' := (pO o0 z0 y0 q lim kn ex ++ pZ z0 z1 z2 q cI pk fi ++ pZ y0 y1 y2 q cI pj fj ++ pT q cI n a b le ro di ++ pS q cI sn ar rt oh ++ pC q r cI cG (cn + 1) (nr_up no cn u) (nr_up ot cn v0) (nr_up cu cn I) wc wl ++ pR r cI wt)) [0, 1, 2, 3, 4, 5, 6, 7, 8, 9, 10, 11, 12, 13, 14, 15, 16, 37, 38, 39, 40, 41, 42, 43, 17, 18, 19, 20, 21, 22, 23, 24, 25, 26, 27, 28, 29, 30, 31, 32, 33, 34, 35, 36] rfl
    have hD := hD.sub (ws' := (pO o0 z0 y0 q lim kn ex ++ pZ z0 z1 z2 q cI pk fi ++ pZ y0 y1 y2 q cI pj fj ++ pT q cI n a b le ro di ++ pS q cI sn ar rt oh ++ pC q r cI cG (cn + 1) (nr_up no cn u) (nr_up ot cn v0) (nr_up cu cn I) wc wl ++ pR r cI wt)) [0, 1, 2, 3, 4, 5, 6, 7, 8, 9, 10, 11, 12, 13, 14, 15, 16, 37, 38, 39, 40, 41, 42, 43, 17, 18, 19, 20, 21, 22, 23, 24, 25, 26, 27, 28, 29, 30, 31, 32, 33, 34, 35, 36] (by decide) rfl
    refine lv_istore (lv' := [(4, .int (nI cn)), (0, .ref o0), (1, .int (nI u)), (2, .int (nI v0)), (3, .int (nI I))]) hx hb dX4_cable_45 hl (by decide) rfl (fun ls hl => ?_)
    refine lv_aload_n hx hb dX4_cable_47 rfl (lv_at hl 1 rfl) ?_
    refine va_get (ci := 4) (v := .ref (q 11)) (C := RX4) (T := TX4) (N := 8) hx hb hbw in_X4 hown hK hP 0 rfl rfl 2 (by decide) (hbw _ m_162) (fun _ h9 => h9) rfl dX4_cable_48 ?_
    refine lv_iload hx hb dX4_cable_51 (lv_at hl 0 rfl) ?_
    refine lv_aload_n hx hb dX4_cable_53 rfl (lv_at hl 1 rfl) ?_
    refine va_get (ci := 4) (v := .ref (q 1)) (C := RX4) (T := TX4) (N := 8) hx hb hbw in_X4 hown hK hP 0 rfl rfl 0 (by decide) (hbw _ m_160) (fun _ h9 => h9) rfl dX4_cable_54 ?_
    refine ct_Vv (wc := (pC q r cI cG (cn + 1) (nr_up no cn u) (nr_up ot cn v0) (nr_up cu cn I) wc wl ++ pT q cI n a b le ro di ++ pR r cI wt)) (wr := (pO o0 z0 y0 q lim kn ex ++ pZ z0 z1 z2 q cI pk fi ++ pZ y0 y1 y2 q cI pj fj ++ pS q cI sn ar rt oh)) (As := [.int (nI cn), .ref (q 1)]) (rest := []) ⟨hx, hb, hml, hown, hbw⟩ (EN_E D _) hEN (kX0_findWay l D cI cG cL cB q r (cn + 1) (nr_up no cn u) (nr_up ot cn v0) (nr_up cu cn I) wc wl n a b le ro di wt cn h1 (by rw [nr_up_s]; omega) (by rw [nr_up_s]; omega) hwt hn hok ha0 hb0 hl0) (cwV (C := "CableSizes$Cables") 2 hbw (gV m_346 m_347 m_348 m_21 m_349) rfl rfl rfl (by decide +kernel) ⟨Nat.le_of_ble_eq_true rfl, Nat.le_of_ble_eq_true rfl⟩) (va_recv hK hP (ci := 0) (q0 := 17) rfl rfl) hP hD hS hA [17, 18, 19, 20, 21, 22, 23, 7, 8, 9, 10, 11, 12, 24, 25, 26, 27, 28, 29, 30, 31, 32, 33, 34, 35, 36, 37, 38, 39, 40, 41, 42, 43] [0, 1, 2, 3, 4, 5, 6, 13, 14, 15, 16] rfl rfl (by decide) (by decide) (by decide) rfl hl.1 rfl (Nat.le_of_ble_eq_true rfl) dX4_cable_57 ⟨Nat.le_of_ble_eq_true rfl, Nat.le_of_ble_eq_true rfl⟩ (fun w_2 H locs hw hP hD hS => ?_)
    obtain ⟨d, k, ff, L, rfl, hW, hff⟩ := hw
    have hP := hP.sub (ws' := (pO o0 z0 y0 q lim kn ex ++ pZ z0 z1 z2 q cI pk fi ++ pZ y0 y1 y2 q cI pj fj ++ pT q cI n a b le ro d ++ pS q cI sn ar rt oh ++ pC q r cI cG (cn + 1) (nr_up no cn u) (nr_up ot cn v0) (nr_up cu cn I) (nr_up wc cn k) (nr_up wl cn L) ++ pR r cI (pR_up wt cn ff))) [0, 1, 2, 3, 4, 5, 6, 18, 19, 20, 21, 22, 23, 7, 8, 9, 10, 11, 12, 13, 14, 15, 16, 17, 24, 25, 26, 27, 28, 29, 30, 31, 32, 33, 34, 35, 36, 37, 38, 39, 40, 41, 42, 43] rfl
    have hD := hD.sub (ws' := (pO o0 z0 y0 q lim kn ex ++ pZ z0 z1 z2 q cI pk fi ++ pZ y0 y1 y2 q cI pj fj ++ pT q cI n a b le ro d ++ pS q cI sn ar rt oh ++ pC q r cI cG (cn + 1) (nr_up no cn u) (nr_up ot cn v0) (nr_up cu cn I) (nr_up wc cn k) (nr_up wl cn L) ++ pR r cI (pR_up wt cn ff))) [0, 1, 2, 3, 4, 5, 6, 18, 19, 20, 21, 22, 23, 7, 8, 9, 10, 11, 12, 13, 14, 15, 16, 17, 24, 25, 26, 27, 28, 29, 30, 31, 32, 33, 34, 35, 36, 37, 38, 39, 40, 41, 42, 43] (by decide) rfl
    refine lv_aload_n hx hb dX4_cable_60 rfl (lv_at hl 1 rfl) ?_
    refine lv_iconst (v := nI 0) hx hb dX4_cable_61 (by decide) ?_
    refine va_put (ci := 4) (v := .int (nI 0)) (ty := .boolean) (C := RX4) (T := TX4) (N := 8) hx hb hbw in_X4 tyX4 tyX4_ok nmX4 hown hK hP hD hS 0 rfl rfl 6 (by decide) (hbw _ m_166) (fun _ h9 => h9) rfl (by decide +kernel) rfl rfl (Nat.le_of_ble_eq_true rfl) dX4_cable_62 (fun H locs hP hD hS => ?_)
    have hP : va_P D vwCl (pO o0 z0 y0 q lim 0 ex ++ pZ z0 z1 z2 q cI pk fi ++ pZ y0 y1 y2 q cI pj fj ++ pT q cI n a b le ro d ++ pS q cI sn ar rt oh ++ pC q r cI cG (cn + 1) (nr_up no cn u) (nr_up ot cn v0) (nr_up cu cn I) (nr_up wc cn k) (nr_up wl cn L) ++ pR r cI (pR_up wt cn ff)) H := hP
    have hD : va_D A (pO o0 z0 y0 q lim 0 ex ++ pZ z0 z1 z2 q cI pk fi ++ pZ y0 y1 y2 q cI pj fj ++ pT q cI n a b le ro d ++ pS q cI sn ar rt oh ++ pC q r cI cG (cn + 1) (nr_up no cn u) (nr_up ot cn v0) (nr_up cu cn I) (nr_up wc cn k) (nr_up wl cn L) ++ pR r cI (pR_up wt cn ff)) := hD
    refine lv_iload hx hb dX4_cable_65 (lv_at hl 0 rfl) ?_
    rw [hQ]
    exact tx_iret hx hb hr hlocks hP hD hS dX4_cable_67 (Nat.le_of_ble_eq_true rfl) (Nat.le_of_ble_eq_true rfl) ⟨u, v0, I, ⟨rfl, rfl, rfl, by omega, by omega, huv, hb1, hb2⟩, h1, rfl, d, k, ff, L, rfl, by rw [nr_up_s, nr_up_s] at hW; exact hW, hff⟩
  · rw [hQ]
    exact tx_throw (w := (pO o0 z0 y0 q lim kn ex ++ pZ z0 z1 z2 q cI pk fi ++ pZ y0 y1 y2 q cI pj fj ++ pT q cI n a b le ro di ++ pS q cI sn ar rt oh ++ pC q r cI cG cn no ot cu wc wl ++ pR r cI wt)) hx hb hl9 hown (by decide +kernel) hbw hEX hZ xk_ISE xi_ISE xs_93 x1_ISE x2_ISE xg_ISE hP hD hS (hl.1.trans hml.symm) dX4_cable_25 dX4_cable_28 dX4_cable_29 dX4_cable_31 dX4_cable_34 hex (Nat.le_of_ble_eq_true rfl) (Nat.le_of_ble_eq_true rfl) (Nat.le_of_ble_eq_true rfl) (Nat.le_of_ble_eq_true rfl) hlocks (Nat.le_of_ble_eq_true rfl) (Nat.le_of_ble_eq_true rfl) ⟨rfl, Or.inr ⟨rfl, ⟨⟨u, rfl, by omega, hu9⟩, ⟨v0, rfl, by omega, hv9⟩, (fun e => huv ((nI_eq (by omega) (by omega)).mp e)), ⟨I, rfl, hb1, hb2⟩⟩, by omega⟩⟩
set_option maxHeartbeats 4000000 in
set_option maxRecDepth 100000 in
/-- tray -/
theorem kX4_tray (l : Launch) (hl9 : l.stackTraces = false) (D : va_G) (cI cG cL cB : ClassId) (o0 z0 z1 z2 y0 y1 y2 : Nat) (q r : Nat → Nat) (pj fj : Nat → Nat) (lim kn ex : Nat) (pk fi : Nat → Nat) (n : Nat) (a b le ro di : Nat → Nat) (sn : Nat) (ar rt oh : Nat → Nat) (cn : Nat) (no ot cu wc wl : Nat → Nat) (wt : Nat → Nat → Nat) (x0 x1 x2 x3 : Int32) (hT : okT n a b le ro) (hz : okZ sn ar rt oh cn cu wc wl wt) (hC : okC n a b le cn no ot wc wl wt) (hL : okL n ro sn ar rt oh cn cu wc wl wt lim kn ex pk fi) (hlim : lim ≤ 1000000) : tx_i l yX4_tray (.code yX4_tray cX4_tray 7 (some .int) :: bw) ({ frames := 8, cells := 6, slots := 36, locals := 133 }) (EX D (tyL cI cG cL cB)) D vwCl (pO o0 z0 y0 q lim kn ex ++ pZ z0 z1 z2 q cI pk fi ++ pZ y0 y1 y2 q cI pj fj ++ pT q cI n a b le ro di ++ pS q cI sn ar rt oh ++ pC q r cI cG cn no ot cu wc wl ++ pR r cI wt) [.ref o0, .int x0, .int x1, .int x2, .int x3] (fun v W => ∃ u v0 L R, (x0 = nI u ∧ x1 = nI v0 ∧ x2 = nI L ∧ x3 = nI R ∧ u < 10 ∧ v0 < 10 ∧ u ≠ v0 ∧ 1 ≤ L ∧ L ≤ 100 ∧ 1 ≤ R ∧ R ≤ 1000) ∧ n < 15 ∧ v = nI n ∧ ∃ d wc' wl' wt', W = (pO o0 z0 y0 q lim 0 ex ++ pZ z0 z1 z2 q cI pk fi ++ pZ y0 y1 y2 q cI pj fj ++ pT q cI (n + 1) (nr_up a n u) (nr_up b n v0) (nr_up le n L) (nr_up ro n R) d ++ pS q cI sn ar rt oh ++ pC q r cI cG cn no ot cu wc' wl' ++ pR r cI wt') ∧ (∀ j, wc' j ≤ 9) ∧ (∀ j, wl' j ≤ 900) ∧ (∀ i j, wt' i j < 15) ∧ ∀ c, c < cn → cw_W (n + 1) (nr_up a n u) (nr_up b n v0) (nr_up le n L) (no c) (ot c) (wc' c) (wt' c) (wl' c)) (fun E W => W = (pO o0 z0 y0 q lim kn ex ++ pZ z0 z1 z2 q cI pk fi ++ pZ y0 y1 y2 q cI pj fj ++ pT q cI n a b le ro di ++ pS q cI sn ar rt oh ++ pC q r cI cG cn no ot cu wc wl ++ pR r cI wt) ∧ ((E = sIAE ∧ ¬ (inB x0 0 9 ∧ inB x1 0 9 ∧ x0 ≠ x1 ∧ inB x2 1 100 ∧ inB x3 1 1000)) ∨ (E = sISE ∧ (inB x0 0 9 ∧ inB x1 0 9 ∧ x0 ≠ x1 ∧ inB x2 1 100 ∧ inB x3 1 1000) ∧ n = 15))) 6 36 := by
  refine tx_ofi (by decide) (Nat.le_of_ble_eq_true rfl) ?_
  intro p e s m below meth cd A H locs av Q ls hx hb hr hml hown hlocks hex hbw hEX hZ hQ hP hD hS hA hl
  have hown : s.vm.findClass RX4 = some m.cls := hown
  have hEN := hEX.1
  have hK := hEN.1
  have hl : lv_has ls 7 [(0, .ref o0), (1, .int x0), (2, .int x1), (3, .int x2), (4, .int x3)] := hl
  obtain ⟨hn, hok, ha0, hb0, hl0, hro, hro1⟩ := id hT
  obtain ⟨hsn, har, hrt, hoh, hcn, hcu, hwc, hwl, hwt⟩ := id hz
  have hy := okY_of hT hC
  obtain ⟨hkn, hpk, hfi, hkl⟩ := id hL
  refine lv_iload_n hx hb dX4_tray_0 rfl (lv_at hl 1 rfl) ?_
  refine lv_iload_n hx hb dX4_tray_1 rfl (lv_at hl 2 rfl) ?_
  rw [hQ]
  refine tx_Sv (wc := ([] : va_W)) (wr := (pO o0 z0 y0 q lim kn ex ++ pZ z0 z1 z2 q cI pk fi ++ pZ y0 y1 y2 q cI pj fj ++ pT q cI n a b le ro di ++ pS q cI sn ar rt oh ++ pC q r cI cG cn no ot cu wc wl ++ pR r cI wt)) (As := [.int x0, .int x1]) (rest := []) ⟨hx, hb, hml, hown, hbw⟩ (EX_E D _) hEX hZ hex hlocks (kX4_checkNodes l hl9 D cI cG cL cB x0 x1) (gS 2 hbw m_252 m_253 m_18 m_254 rfl rfl (by decide +kernel) ⟨Nat.le_of_ble_eq_true rfl, Nat.le_of_ble_eq_true rfl⟩) hP hD hS hA [] [0, 1, 2, 3, 4, 5, 6, 7, 8, 9, 10, 11, 12, 13, 14, 15, 16, 17, 18, 19, 20, 21, 22, 23, 24, 25, 26, 27, 28, 29, 30, 31, 32, 33, 34, 35, 36, 37, 38, 39, 40, 41, 42, 43] rfl rfl (by decide) (by decide) (by decide) rfl hl.1 rfl (Nat.le_of_ble_eq_true rfl) dX4_tray_2 ⟨Nat.le_of_ble_eq_true rfl, Nat.le_of_ble_eq_true rfl⟩ (Nat.le_of_ble_eq_true rfl) (Nat.le_of_ble_eq_true rfl) (fun E w1 hp => ⟨by rw [hp.2.1, List.append_nil], Or.inl ⟨hp.1, fun h => hp.2.2 ⟨h.1, h.2.1, h.2.2.1⟩⟩⟩) (fun w1 H locs hw hP hD hS => ?_)
  rw [← hQ]
  obtain ⟨rfl, ⟨u, hx0, -, hu9⟩, ⟨v0, hx1, -, hv9⟩, huv⟩ := hw
  rw [List.append_nil] at hP hD
  subst hx0; subst hx1
  have huv : u ≠ v0 := fun e => huv (by rw [e])
  refine lv_iload_n hx hb dX4_tray_5 rfl (lv_at hl 3 rfl) ?_
  refine lv_iconst (v := nI 1) hx hb dX4_tray_6 (by decide) ?_
  refine lv_bipush (v := nI 100) hx hb dX4_tray_7 (by decide) ?_
  rw [hQ]
  refine tx_Sv (wc := ([] : va_W)) (wr := (pO o0 z0 y0 q lim kn ex ++ pZ z0 z1 z2 q cI pk fi ++ pZ y0 y1 y2 q cI pj fj ++ pT q cI n a b le ro di ++ pS q cI sn ar rt oh ++ pC q r cI cG cn no ot cu wc wl ++ pR r cI wt)) (As := [.int x2, .int (nI 1), .int (nI 100)]) (rest := []) ⟨hx, hb, hml, hown, hbw⟩ (EX_E D _) hEX hZ hex hlocks (kX4_checkBounds l hl9 D cI cG cL cB x2 1 100 (by omega) (by omega)) (gS 3 hbw m_255 m_256 m_18 m_257 rfl rfl (by decide +kernel) ⟨Nat.le_of_ble_eq_true rfl, Nat.le_of_ble_eq_true rfl⟩) hP hD hS hA [] [0, 1, 2, 3, 4, 5, 6, 7, 8, 9, 10, 11, 12, 13, 14, 15, 16, 17, 18, 19, 20, 21, 22, 23, 24, 25, 26, 27, 28, 29, 30, 31, 32, 33, 34, 35, 36, 37, 38, 39, 40, 41, 42, 43] rfl rfl (by decide) (by decide) (by decide) rfl hl.1 rfl (Nat.le_of_ble_eq_true rfl) dX4_tray_9 ⟨Nat.le_of_ble_eq_true rfl, Nat.le_of_ble_eq_true rfl⟩ (Nat.le_of_ble_eq_true rfl) (Nat.le_of_ble_eq_true rfl) (fun E w1 hp => ⟨by rw [hp.2.1, List.append_nil], Or.inl ⟨hp.1, fun h => hp.2.2 h.2.2.2.1⟩⟩) (fun w1 H locs hw hP hD hS => ?_)
  rw [← hQ]
  obtain ⟨rfl, L, hx2, hb1, hb2⟩ := hw
  rw [List.append_nil] at hP hD
  subst hx2
  refine lv_iload hx hb dX4_tray_12 (lv_at hl 4 rfl) ?_
  refine lv_iconst (v := nI 1) hx hb dX4_tray_14 (by decide) ?_
  refine lv_sipush (v := nI 1000) hx hb dX4_tray_15 (by decide) ?_
  rw [hQ]
  refine tx_Sv (wc := ([] : va_W)) (wr := (pO o0 z0 y0 q lim kn ex ++ pZ z0 z1 z2 q cI pk fi ++ pZ y0 y1 y2 q cI pj fj ++ pT q cI n a b le ro di ++ pS q cI sn ar rt oh ++ pC q r cI cG cn no ot cu wc wl ++ pR r cI wt)) (As := [.int x3, .int (nI 1), .int (nI 1000)]) (rest := []) ⟨hx, hb, hml, hown, hbw⟩ (EX_E D _) hEX hZ hex hlocks (kX4_checkBounds l hl9 D cI cG cL cB x3 1 1000 (by omega) (by omega)) (gS 3 hbw m_255 m_256 m_18 m_257 rfl rfl (by decide +kernel) ⟨Nat.le_of_ble_eq_true rfl, Nat.le_of_ble_eq_true rfl⟩) hP hD hS hA [] [0, 1, 2, 3, 4, 5, 6, 7, 8, 9, 10, 11, 12, 13, 14, 15, 16, 17, 18, 19, 20, 21, 22, 23, 24, 25, 26, 27, 28, 29, 30, 31, 32, 33, 34, 35, 36, 37, 38, 39, 40, 41, 42, 43] rfl rfl (by decide) (by decide) (by decide) rfl hl.1 rfl (Nat.le_of_ble_eq_true rfl) dX4_tray_18 ⟨Nat.le_of_ble_eq_true rfl, Nat.le_of_ble_eq_true rfl⟩ (Nat.le_of_ble_eq_true rfl) (Nat.le_of_ble_eq_true rfl) (fun E w1 hp => ⟨by rw [hp.2.1, List.append_nil], Or.inl ⟨hp.1, fun h => hp.2.2 h.2.2.2.2⟩⟩) (fun w1 H locs hw hP hD hS => ?_)
  rw [← hQ]
  obtain ⟨rfl, R, hx3, hb3, hb4⟩ := hw
  rw [List.append_nil] at hP hD
  subst hx3
  refine lv_aload_n hx hb dX4_tray_21 rfl (lv_at hl 0 rfl) ?_
  refine va_get (ci := 4) (v := .ref (q 1)) (C := RX4) (T := TX4) (N := 8) hx hb hbw in_X4 hown hK hP 0 rfl rfl 0 (by decide) (hbw _ m_160) (fun _ h9 => h9) rfl dX4_tray_22 ?_
  refine va_getN (ci := 3) (v := .int (nI n)) (C := RX3) (T := TX3) (N := 6) hx hb hbw in_X3 hown hK hP 7 rfl rfl 0 (by decide) (va_Nw.use rfl (hEN.2 _ (List.mem_filter.mpr ⟨mn_29, rfl⟩))) (fun _ h9 => h9) rfl dX4_tray_25 ?_
  refine lv_bipush (v := nI 15) hx hb dX4_tray_28 (by decide) ?_
  refine nr_icmp_lt (x := n) (y := 15) (tgt := 43) hx hb (by omega) (by omega) dX4_tray_30 (by decide) (fun h1 => ?_) (fun h1 => ?_)
  · refine lv_aload_n hx hb dX4_tray_43 rfl (lv_at hl 0 rfl) ?_
    refine va_get (ci := 4) (v := .ref (q 1)) (C := RX4) (T := TX4) (N := 8) hx hb hbw in_X4 hown hK hP 0 rfl rfl 0 (by decide) (hbw _ m_160) (fun _ h9 => h9) rfl dX4_tray_44 ?_
    refine lv_iload_n hx hb dX4_tray_47 rfl (lv_at hl 1 rfl) ?_
    refine lv_iload_n hx hb dX4_tray_48 rfl (lv_at hl 2 rfl) ?_
    refine lv_iload_n hx hb dX4_tray_49 rfl (lv_at hl 3 rfl) ?_
    refine lv_iload hx hb dX4_tray_50 (lv_at hl 4 rfl) ?_
    refine ct_Vi (wc := (pT q cI n a b le ro di)) (wr := (pO o0 z0 y0 q lim kn ex ++ pZ z0 z1 z2 q cI pk fi ++ pZ y0 y1 y2 q cI pj fj ++ pS q cI sn ar rt oh ++ pC q r cI cG cn no ot cu wc wl ++ pR r cI wt)) (As := [.int (nI u), .int (nI v0), .int (nI L), .int (nI R)]) (rest := []) ⟨hx, hb, hml, hown, hbw⟩ (EN_E D _) hEN (kX3_add l D cI cG cL cB q n a b le ro di u v0 L R h1) (cwV (C := "CableSizes$Trays") 4 hbw (gV m_342 m_343 m_344 m_19 m_345) rfl rfl rfl (by decide +kernel) ⟨Nat.le_of_ble_eq_true rfl, Nat.le_of_ble_eq_true rfl⟩) (va_recv hK hP (ci := 3) (q0 := 7) rfl rfl) hP hD hS hA [7, 8, 9, 10, 11, 12] [0, 1, 2, 3, 4, 5, 6, 13, 14, 15, 16, 17, 18, 19, 20, 21, 22, 23, 24, 25, 26, 27, 28, 29, 30, 31, 32, 33, 34, 35, 36, 37, 38, 39, 40, 41, 42, 43] rfl rfl (by decide) (by decide) (by decide) rfl hl.1 rfl (Nat.le_of_ble_eq_true rfl) dX4_tray_52 ⟨Nat.le_of_ble_eq_true rfl, Nat.le_of_ble_eq_true rfl⟩ (fun r_1 w_1 H locs hw hP hD hS => ?_)
    obtain ⟨rfl, rfl⟩ := hw
    have hP := hP.sub (ws' := (pO o0 z0 y0 q lim kn ex ++ pZ z0 z1 z2 q cI pk fi ++ pZ y0 y1 y2 q cI pj fj ++ pT q cI (n + 1) (nr_up a n u) (nr_up b n v0) (nr_up le n L) (nr_up ro n R) di ++ pS q cI sn ar rt oh ++ pC q r cI cG cn no ot cu wc wl ++ pR r cI wt)) [0, 1, 2, 3, 4, 5, 6, 38, 39, 40, 41, 42, 43, 7, 8, 9, 10, 11, 12, 13, 14, 15, 16, 17, 18, 19, 20, 21, 22, 23, 24, 25, 26, 27, 28, 29, 30, 31, 32, 33, 34, 35, 36, 37] rfl
    have hD := hD.sub (ws' := (pO o0 z0 y0 q lim kn ex ++ pZ z0 z1 z2 q cI pk fi ++ pZ y0 y1 y2 q cI pj fj ++ pT q cI (n + 1) (nr_up a n u) (nr_up b n v0) (nr_up le n L) (nr_up ro n R) di ++ pS q cI sn ar rt oh ++ pC q r cI cG cn no ot cu wc wl ++ pR r cI wt)) [0, 1, 2, 3, 4, 5, 6, 38, 39, 40, 41, 42, 43, 7, 8, 9, 10, 11, 12, 13, 14, 15, 16, 17, 18, 19, 20, 21, 22, 23, 24, 25, 26, 27, 28, 29, 30, 31, 32, 33, 34, 35, 36, 37] (by decide) rfl
    have hT2 := okT_add hT h1 (show u < 10 by omega) (show v0 < 10 by omega) huv hb1 hb2 hb3 hb4
    obtain ⟨kn1, kok, ka0, kb0, kl0, -, -⟩ := id hT2
    obtain ⟨hno, hot, hne, -⟩ := id hC
    refine lv_istore (lv' := [(5, .int (nI n)), (0, .ref o0), (1, .int (nI u)), (2, .int (nI v0)), (3, .int (nI L)), (4, .int (nI R))]) hx hb dX4_tray_55 hl (by decide) rfl (fun ls hl => ?_)
    refine lv_iconst (v := nI 0) hx hb dX4_tray_57 (by decide) ?_
    refine lv_istore (lv' := [(6, .int (nI 0)), (5, .int (nI n)), (0, .ref o0), (1, .int (nI u)), (2, .int (nI v0)), (3, .int (nI L)), (4, .int (nI R))]) hx hb dX4_tray_58 hl (by decide) rfl (fun ls hl => ?_)
    have lp : ∀ (k : Nat) (c : Nat) (di : Nat → Nat) (wc : Nat → Nat) (wl : Nat → Nat) (wt : Nat → Nat → Nat), (hk : cn < c + k) → (hi : c ≤ cn) → (hwc : ∀ j, wc j ≤ 9) → (hwl : ∀ j, wl j ≤ 900) → (hwt : ∀ i j, wt i j < 15) → (hcw : ∀ j, j < c → cw_W (n + 1) (nr_up a n u) (nr_up b n v0) (nr_up le n L) (no j) (ot j) (wc j) (wt j) (wl j)) → ∀ (H : Heap) (locs : List Loc) (ls : Array Slot), va_P D vwCl (pO o0 z0 y0 q lim kn ex ++ pZ z0 z1 z2 q cI pk fi ++ pZ y0 y1 y2 q cI pj fj ++ pT q cI (n + 1) (nr_up a n u) (nr_up b n v0) (nr_up le n L) (nr_up ro n R) di ++ pS q cI sn ar rt oh ++ pC q r cI cG cn no ot cu wc wl ++ pR r cI wt) H → va_D A (pO o0 z0 y0 q lim kn ex ++ pZ z0 z1 z2 q cI pk fi ++ pZ y0 y1 y2 q cI pj fj ++ pT q cI (n + 1) (nr_up a n u) (nr_up b n v0) (nr_up le n L) (nr_up ro n R) di ++ pS q cI sn ar rt oh ++ pC q r cI cG cn no ot cu wc wl ++ pR r cI wt) → va_S A s.heap H locs → lv_has ls 7 [(0, .ref o0), (5, .int (nI n)), (6, .int (nI c))] → W p l e ({ frames := 8, cells := 6, slots := 36, locals := 133 }) s m av below meth cd H locs 5 30 Q (F0 m 60 ls []) := by
      intro k
      induction k with
      | zero => intro c di wc wl wt hk hi hwc hwl hwt hcw; exact absurd hk (by omega)
      | succ k ih =>
        intro c di wc wl wt hk hi hwc hwl hwt hcw H locs ls hP hD hS hl
        refine lv_iload hx hb dX4_tray_60 (lv_at hl 2 rfl) ?_
        refine lv_aload_n hx hb dX4_tray_62 rfl (lv_at hl 0 rfl) ?_
        refine va_get (ci := 4) (v := .ref (q 11)) (C := RX4) (T := TX4) (N := 8) hx hb hbw in_X4 hown hK hP 0 rfl rfl 2 (by decide) (hbw _ m_162) (fun _ h9 => h9) rfl dX4_tray_63 ?_
        refine va_getN (ci := 0) (v := .int (nI cn)) (C := RX0) (T := TX0) (N := 7) hx hb hbw in_X0 hown hK hP 17 rfl rfl 0 (by decide) (va_Nw.use rfl (hEN.2 _ (List.mem_filter.mpr ⟨mn_88, rfl⟩))) (fun _ h9 => h9) rfl dX4_tray_66 ?_
        refine nr_icmp_ge (x := c) (y := cn) (tgt := 91) hx hb (by omega) (by omega) dX4_tray_69 (by decide) (fun h2 => ?_) (fun h2 => ?_)
        · have ec : c = cn := by omega
          refine lv_aload_n hx hb dX4_tray_91 rfl (lv_at hl 0 rfl) ?_
          refine lv_iconst (v := nI 0) hx hb dX4_tray_92 (by decide) ?_
          refine va_put (ci := 4) (v := .int (nI 0)) (ty := .boolean) (C := RX4) (T := TX4) (N := 8) hx hb hbw in_X4 tyX4 tyX4_ok nmX4 hown hK hP hD hS 0 rfl rfl 6 (by decide) (hbw _ m_166) (fun _ h9 => h9) rfl (by decide +kernel) rfl rfl (Nat.le_of_ble_eq_true rfl) dX4_tray_93 (fun H locs hP hD hS => ?_)
          have hP : va_P D vwCl (pO o0 z0 y0 q lim 0 ex ++ pZ z0 z1 z2 q cI pk fi ++ pZ y0 y1 y2 q cI pj fj ++ pT q cI (n + 1) (nr_up a n u) (nr_up b n v0) (nr_up le n L) (nr_up ro n R) di ++ pS q cI sn ar rt oh ++ pC q r cI cG cn no ot cu wc wl ++ pR r cI wt) H := hP
          have hD : va_D A (pO o0 z0 y0 q lim 0 ex ++ pZ z0 z1 z2 q cI pk fi ++ pZ y0 y1 y2 q cI pj fj ++ pT q cI (n + 1) (nr_up a n u) (nr_up b n v0) (nr_up le n L) (nr_up ro n R) di ++ pS q cI sn ar rt oh ++ pC q r cI cG cn no ot cu wc wl ++ pR r cI wt) := hD
          refine lv_iload hx hb dX4_tray_96 (lv_at hl 1 rfl) ?_
          rw [hQ]
          exact tx_iret hx hb hr hlocks hP hD hS dX4_tray_98 (Nat.le_of_ble_eq_true rfl) (Nat.le_of_ble_eq_true rfl) ⟨u, v0, L, R, ⟨rfl, rfl, rfl, rfl, by omega, by omega, huv, hb1, hb2, hb3, hb4⟩, h1, rfl, di, wc, wl, wt, rfl, hwc, hwl, hwt, by rw [← ec]; exact hcw⟩
        · refine lv_aload_n hx hb dX4_tray_72 rfl (lv_at hl 0 rfl) ?_
          refine va_get (ci := 4) (v := .ref (q 11)) (C := RX4) (T := TX4) (N := 8) hx hb hbw in_X4 hown hK hP 0 rfl rfl 2 (by decide) (hbw _ m_162) (fun _ h9 => h9) rfl dX4_tray_73 ?_
          refine lv_iload hx hb dX4_tray_76 (lv_at hl 2 rfl) ?_
          refine lv_aload_n hx hb dX4_tray_78 rfl (lv_at hl 0 rfl) ?_
          refine va_get (ci := 4) (v := .ref (q 1)) (C := RX4) (T := TX4) (N := 8) hx hb hbw in_X4 hown hK hP 0 rfl rfl 0 (by decide) (hbw _ m_160) (fun _ h9 => h9) rfl dX4_tray_79 ?_
          refine ct_Vv (wc := (pC q r cI cG cn no ot cu wc wl ++ pT q cI (n + 1) (nr_up a n u) (nr_up b n v0) (nr_up le n L) (nr_up ro n R) di ++ pR r cI wt)) (wr := (pO o0 z0 y0 q lim kn ex ++ pZ z0 z1 z2 q cI pk fi ++ pZ y0 y1 y2 q cI pj fj ++ pS q cI sn ar rt oh)) (As := [.int (nI c), .ref (q 1)]) (rest := []) ⟨hx, hb, hml, hown, hbw⟩ (EN_E D _) hEN (kX0_findWay l D cI cG cL cB q r cn no ot cu wc wl (n + 1) (nr_up a n u) (nr_up b n v0) (nr_up le n L) (nr_up ro n R) di wt c (by omega) (hno c) (hot c) hwt kn1 kok ka0 kb0 kl0) (cwV (C := "CableSizes$Cables") 2 hbw (gV m_346 m_347 m_348 m_21 m_349) rfl rfl rfl (by decide +kernel) ⟨Nat.le_of_ble_eq_true rfl, Nat.le_of_ble_eq_true rfl⟩) (va_recv hK hP (ci := 0) (q0 := 17) rfl rfl) hP hD hS hA [17, 18, 19, 20, 21, 22, 23, 7, 8, 9, 10, 11, 12, 24, 25, 26, 27, 28, 29, 30, 31, 32, 33, 34, 35, 36, 37, 38, 39, 40, 41, 42, 43] [0, 1, 2, 3, 4, 5, 6, 13, 14, 15, 16] rfl rfl (by decide) (by decide) (by decide) rfl hl.1 rfl (Nat.le_of_ble_eq_true rfl) dX4_tray_82 ⟨Nat.le_of_ble_eq_true rfl, Nat.le_of_ble_eq_true rfl⟩ (fun w_2 H locs hw hP hD hS => ?_)
          obtain ⟨d, k3, ff, L3, rfl, hW, hff⟩ := hw
          have hP := hP.sub (ws' := (pO o0 z0 y0 q lim kn ex ++ pZ z0 z1 z2 q cI pk fi ++ pZ y0 y1 y2 q cI pj fj ++ pT q cI (n + 1) (nr_up a n u) (nr_up b n v0) (nr_up le n L) (nr_up ro n R) d ++ pS q cI sn ar rt oh ++ pC q r cI cG cn no ot cu (nr_up wc c k3) (nr_up wl c L3) ++ pR r cI (pR_up wt c ff))) [0, 1, 2, 3, 4, 5, 6, 18, 19, 20, 21, 22, 23, 7, 8, 9, 10, 11, 12, 13, 14, 15, 16, 17, 24, 25, 26, 27, 28, 29, 30, 31, 32, 33, 34, 35, 36, 37, 38, 39, 40, 41, 42, 43] rfl
          have hD := hD.sub (ws' := (pO o0 z0 y0 q lim kn ex ++ pZ z0 z1 z2 q cI pk fi ++ pZ y0 y1 y2 q cI pj fj ++ pT q cI (n + 1) (nr_up a n u) (nr_up b n v0) (nr_up le n L) (nr_up ro n R) d ++ pS q cI sn ar rt oh ++ pC q r cI cG cn no ot cu (nr_up wc c k3) (nr_up wl c L3) ++ pR r cI (pR_up wt c ff))) [0, 1, 2, 3, 4, 5, 6, 18, 19, 20, 21, 22, 23, 7, 8, 9, 10, 11, 12, 13, 14, 15, 16, 17, 24, 25, 26, 27, 28, 29, 30, 31, 32, 33, 34, 35, 36, 37, 38, 39, 40, 41, 42, 43] (by decide) rfl
          obtain ⟨w1, w2, -, -⟩ := cw_W_facts kok kl0 hW
          refine lv_iinc (v := nI (c + 1)) (lv' := [(6, .int (nI (c + 1))), (0, .ref o0), (5, .int (nI n))]) hx hb dX4_tray_85 hl (k := 2) rfl (nI_1 _) (by decide) rfl (fun ls hl => ?_)
          refine lv_goto (tgt := 60) hx hb dX4_tray_88 (by decide) ?_
          exact ih (c + 1) d (nr_up wc c k3) (nr_up wl c L3) (pR_up wt c ff) (by omega) (by omega) (fun j => by by_cases e : j = c; rw [e, nr_up_s]; exact w1; rw [nr_up_n _ _ e]; exact hwc j) (fun j => by by_cases e : j = c; rw [e, nr_up_s]; exact w2; rw [nr_up_n _ _ e]; exact hwl j) (fun i j => by by_cases e : i = c; rw [e, pR_up_s]; exact hff j; rw [pR_up_n _ _ e]; exact hwt i j) (lt_s (fun j hj => by rw [nr_up_n _ _ (Nat.ne_of_lt hj), nr_up_n _ _ (Nat.ne_of_lt hj), pR_up_n _ _ (Nat.ne_of_lt hj)]; exact hcw j hj) (by rw [nr_up_s, nr_up_s, pR_up_s]; exact hW)) _ _ _ hP hD hS (lv_sub hl [1, 2, 0] rfl)
    exact lp (cn + 1) 0 di wc wl wt (by omega) (Nat.zero_le cn) hwc hwl hwt (lt_0) _ _ _ hP hD hS (lv_sub hl [2, 1, 0] rfl)
  · rw [hQ]
    exact tx_throw (w := (pO o0 z0 y0 q lim kn ex ++ pZ z0 z1 z2 q cI pk fi ++ pZ y0 y1 y2 q cI pj fj ++ pT q cI n a b le ro di ++ pS q cI sn ar rt oh ++ pC q r cI cG cn no ot cu wc wl ++ pR r cI wt)) hx hb hl9 hown (by decide +kernel) hbw hEX hZ xk_ISE xi_ISE xs_67 x1_ISE x2_ISE xg_ISE hP hD hS (hl.1.trans hml.symm) dX4_tray_33 dX4_tray_36 dX4_tray_37 dX4_tray_39 dX4_tray_42 hex (Nat.le_of_ble_eq_true rfl) (Nat.le_of_ble_eq_true rfl) (Nat.le_of_ble_eq_true rfl) (Nat.le_of_ble_eq_true rfl) hlocks (Nat.le_of_ble_eq_true rfl) (Nat.le_of_ble_eq_true rfl) ⟨rfl, Or.inr ⟨rfl, ⟨⟨u, rfl, by omega, hu9⟩, ⟨v0, rfl, by omega, hv9⟩, (fun e => huv ((nI_eq (by omega) (by omega)).mp e)), ⟨L, rfl, hb1, hb2⟩, ⟨R, rfl, hb3, hb4⟩⟩, by omega⟩⟩
