set_option maxHeartbeats 4000000 in
set_option maxRecDepth 100000 in
/-- findLeast -/
theorem kX4_findLeast (l : Launch) (D : va_G) (cI cG cL cB : ClassId) (o0 z0 z1 z2 : Nat) (q r : Nat → Nat) (y0 : Nat) (lim kn ex : Nat) (pk fi : Nat → Nat) (n : Nat) (a b le ro di : Nat → Nat) (sn : Nat) (ar rt oh : Nat → Nat) (cn : Nat) (no ot cu wc wl : Nat → Nat) (wt : Nat → Nat → Nat) (hT : okT n a b le ro) (hz : okZ sn ar rt oh cn cu wc wl wt) (hC : okC n a b le cn no ot wc wl wt) (hL : okL n ro sn ar rt oh cn cu wc wl wt lim kn ex pk fi) (hlim : lim ≤ 1000000) : ct_v l yX4_findLeast (.code yX4_findLeast cX4_findLeast 1 none :: bw) ({ frames := 5, cells := 0, slots := 0, locals := 111 }) (EN D (tyL cI cG cL cB)) D vwCl (pO o0 z0 y0 q lim kn ex ++ pZ z0 z1 z2 q cI pk fi ++ pT q cI n a b le ro di ++ pS q cI sn ar rt oh ++ pC q r cI cG cn no ot cu wc wl ++ pR r cI wt) [.ref o0] (fun W => ∃ pk' fi' bb, W = (pO o0 z0 y0 q lim 1 (bN bb) ++ pZ z0 z1 z2 q cI pk' fi' ++ pT q cI n a b le ro di ++ pS q cI sn ar rt oh ++ pC q r cI cG cn no ot cu wc wl ++ pR r cI wt) ∧ (∀ j, pk' j < 6) ∧ (∀ j, fi' j ≤ 18000000) ∧ cs_ans cn sn ar rt oh cu wc wl ro wt lim bb pk' ∧ (bb = true → ∀ t, t < n → fi' t = cz_fill cn ar wc ro wt pk' t)) 0 0 := by
  refine ct_ofv (by decide) (Nat.le_of_ble_eq_true rfl) ?_
  intro p e s m below meth cd A H locs av Q ls hx hb hr hml hown hlocks hnm hbw hEN hQ hP hD hS hA hl
  have hown : s.vm.findClass RX4 = some m.cls := hown
  have hK := hEN.1
  have hl : lv_has ls 1 [(0, .ref o0)] := hl
  obtain ⟨hn, hok, ha0, hb0, hl0, hro, hro1⟩ := id hT
  obtain ⟨hsn, har, hrt, hoh, hcn, hcu, hwc, hwl, hwt⟩ := id hz
  have hy := okY_of hT hC
  obtain ⟨hkn, hpk, hfi, hkl⟩ := id hL
  refine lv_aload_n hx hb dX4_findLeast_0 rfl (lv_at hl 0 rfl) ?_
  refine va_get (ci := 4) (v := .int (nI kn)) (C := RX4) (T := TX4) (N := 8) hx hb hbw in_X4 hown hK hP 0 rfl rfl 6 (by decide) (hbw _ m_166) (fun _ h9 => h9) rfl dX4_findLeast_1 ?_
  refine nr_if_ne (x := kn) (tgt := 27) hx hb (by omega) dX4_findLeast_4 (by decide) (fun h1 => ?_) (fun h1 => ?_)
  · have hk1 : kn = 1 := by omega
    obtain ⟨bb, hbb, hans, hfl⟩ := hkl hk1
    subst hk1; subst hbb
    rw [hQ]
    exact ct_vret hx hb hr hlocks hP hD hS dX4_findLeast_27 ⟨pk, fi, bb, rfl, hpk, hfi, hans, hfl⟩
  · refine lv_aload_n hx hb dX4_findLeast_7 rfl (lv_at hl 0 rfl) ?_
    refine lv_aload_n hx hb dX4_findLeast_8 rfl (lv_at hl 0 rfl) ?_
    refine va_get (ci := 4) (v := .ref z0) (C := RX4) (T := TX4) (N := 8) hx hb hbw in_X4 hown hK hP 0 rfl rfl 3 (by decide) (hbw _ m_163) (fun _ h9 => h9) rfl dX4_findLeast_9 ?_
    refine lv_aload_n hx hb dX4_findLeast_12 rfl (lv_at hl 0 rfl) ?_
    refine va_get (ci := 4) (v := .int (nI lim)) (C := RX4) (T := TX4) (N := 8) hx hb hbw in_X4 hown hK hP 0 rfl rfl 5 (by decide) (hbw _ m_165) (fun _ h9 => h9) rfl dX4_findLeast_13 ?_
    refine ct_Vi (wc := (pZ z0 z1 z2 q cI pk fi ++ pT q cI n a b le ro di ++ pS q cI sn ar rt oh ++ pC q r cI cG cn no ot cu wc wl ++ pR r cI wt)) (wr := (pO o0 z0 y0 q lim kn ex)) (As := [.int (nI lim)]) (rest := [.ref o0]) ⟨hx, hb, hml, hown, hbw⟩ (EN_E D _) hEN (kX2_climb l D cI cG cL cB z0 z1 z2 q r pk fi sn ar rt oh cn no ot cu wc wl wt n a b le ro di lim hlim hy.2.2.2.1 hz hfi hn hro hro1) (cwV (C := "CableSizes$Sizing") 1 hbw (gV m_193 m_194 m_195 m_22 m_196) rfl rfl rfl (by decide +kernel) ⟨Nat.le_of_ble_eq_true rfl, Nat.le_of_ble_eq_true rfl⟩) (va_recv hK hP (ci := 2) (q0 := 1) rfl rfl) hP hD hS hA [1, 2, 3, 4, 5, 6, 7, 8, 9, 10, 11, 12, 13, 14, 15, 16, 17, 18, 19, 20, 21, 22, 23, 24, 25, 26, 27, 28, 29, 30, 31, 32, 33, 34, 35, 36, 37, 38, 39, 40] [0] rfl rfl (by decide) (by decide) (by decide) rfl hl.1 rfl (Nat.le_of_ble_eq_true rfl) dX4_findLeast_16 ⟨Nat.le_of_ble_eq_true rfl, Nat.le_of_ble_eq_true rfl⟩ (fun r_1 w_1 H locs hw hP hD hS => ?_)
    obtain ⟨pk', fi', rfl, hp6, hf6, hres⟩ := hw
    have hP := hP.sub (ws' := (pO o0 z0 y0 q lim kn ex ++ pZ z0 z1 z2 q cI pk' fi' ++ pT q cI n a b le ro di ++ pS q cI sn ar rt oh ++ pC q r cI cG cn no ot cu wc wl ++ pR r cI wt)) [0, 1, 2, 3, 4, 5, 6, 7, 8, 9, 10, 11, 12, 13, 14, 15, 16, 17, 18, 19, 20, 21, 22, 23, 24, 25, 26, 27, 28, 29, 30, 31, 32, 33, 34, 35, 36, 37, 38, 39, 40] rfl
    have hD := hD.sub (ws' := (pO o0 z0 y0 q lim kn ex ++ pZ z0 z1 z2 q cI pk' fi' ++ pT q cI n a b le ro di ++ pS q cI sn ar rt oh ++ pC q r cI cG cn no ot cu wc wl ++ pR r cI wt)) [0, 1, 2, 3, 4, 5, 6, 7, 8, 9, 10, 11, 12, 13, 14, 15, 16, 17, 18, 19, 20, 21, 22, 23, 24, 25, 26, 27, 28, 29, 30, 31, 32, 33, 34, 35, 36, 37, 38, 39, 40] (by decide) rfl
    obtain ⟨bb, hbb, hans, hfl⟩ : ∃ bb, r_1 = nI (bN bb) ∧ cs_ans cn sn ar rt oh cu wc wl ro wt lim bb pk' ∧ (bb = true → ∀ t, t < n → fi' t = cz_fill cn ar wc ro wt pk' t) := by
      rcases hres with ⟨q1, q2, m', q3, q4, q5, q6⟩ | ⟨q1, q2⟩
      · exact ⟨true, q1, Or.inl ⟨rfl, q2, m', fun c _ => by rw [q3], q4, q5⟩, fun _ => q6⟩
      · exact ⟨false, q1, Or.inr ⟨rfl, q2⟩, fun h => by cases h⟩
    subst hbb
    cases bb with
    | true =>
      refine va_put (ci := 4) (v := .int (nI (bN true))) (ty := .boolean) (C := RX4) (T := TX4) (N := 8) hx hb hbw in_X4 tyX4 tyX4_ok nmX4 hown hK hP hD hS 0 rfl rfl 7 (by decide) (hbw _ m_167) (fun _ h9 => h9) rfl (by decide +kernel) rfl rfl (Nat.le_of_ble_eq_true rfl) dX4_findLeast_19 (fun H locs hP hD hS => ?_)
      have hP : va_P D vwCl (pO o0 z0 y0 q lim kn (bN true) ++ pZ z0 z1 z2 q cI pk' fi' ++ pT q cI n a b le ro di ++ pS q cI sn ar rt oh ++ pC q r cI cG cn no ot cu wc wl ++ pR r cI wt) H := hP
      have hD : va_D A (pO o0 z0 y0 q lim kn (bN true) ++ pZ z0 z1 z2 q cI pk' fi' ++ pT q cI n a b le ro di ++ pS q cI sn ar rt oh ++ pC q r cI cG cn no ot cu wc wl ++ pR r cI wt) := hD
      refine lv_aload_n hx hb dX4_findLeast_22 rfl (lv_at hl 0 rfl) ?_
      refine lv_iconst (v := nI 1) hx hb dX4_findLeast_23 (by decide) ?_
      refine va_put (ci := 4) (v := .int (nI 1)) (ty := .boolean) (C := RX4) (T := TX4) (N := 8) hx hb hbw in_X4 tyX4 tyX4_ok nmX4 hown hK hP hD hS 0 rfl rfl 6 (by decide) (hbw _ m_166) (fun _ h9 => h9) rfl (by decide +kernel) rfl rfl (Nat.le_of_ble_eq_true rfl) dX4_findLeast_24 (fun H locs hP hD hS => ?_)
      have hP : va_P D vwCl (pO o0 z0 y0 q lim 1 (bN true) ++ pZ z0 z1 z2 q cI pk' fi' ++ pT q cI n a b le ro di ++ pS q cI sn ar rt oh ++ pC q r cI cG cn no ot cu wc wl ++ pR r cI wt) H := hP
      have hD : va_D A (pO o0 z0 y0 q lim 1 (bN true) ++ pZ z0 z1 z2 q cI pk' fi' ++ pT q cI n a b le ro di ++ pS q cI sn ar rt oh ++ pC q r cI cG cn no ot cu wc wl ++ pR r cI wt) := hD
      rw [hQ]
      exact ct_vret hx hb hr hlocks hP hD hS dX4_findLeast_27 ⟨pk', fi', true, rfl, hp6, hf6, hans, hfl⟩
    | false =>
      refine va_put (ci := 4) (v := .int (nI (bN false))) (ty := .boolean) (C := RX4) (T := TX4) (N := 8) hx hb hbw in_X4 tyX4 tyX4_ok nmX4 hown hK hP hD hS 0 rfl rfl 7 (by decide) (hbw _ m_167) (fun _ h9 => h9) rfl (by decide +kernel) rfl rfl (Nat.le_of_ble_eq_true rfl) dX4_findLeast_19 (fun H locs hP hD hS => ?_)
      have hP : va_P D vwCl (pO o0 z0 y0 q lim kn (bN false) ++ pZ z0 z1 z2 q cI pk' fi' ++ pT q cI n a b le ro di ++ pS q cI sn ar rt oh ++ pC q r cI cG cn no ot cu wc wl ++ pR r cI wt) H := hP
      have hD : va_D A (pO o0 z0 y0 q lim kn (bN false) ++ pZ z0 z1 z2 q cI pk' fi' ++ pT q cI n a b le ro di ++ pS q cI sn ar rt oh ++ pC q r cI cG cn no ot cu wc wl ++ pR r cI wt) := hD
      refine lv_aload_n hx hb dX4_findLeast_22 rfl (lv_at hl 0 rfl) ?_
      refine lv_iconst (v := nI 1) hx hb dX4_findLeast_23 (by decide) ?_
      refine va_put (ci := 4) (v := .int (nI 1)) (ty := .boolean) (C := RX4) (T := TX4) (N := 8) hx hb hbw in_X4 tyX4 tyX4_ok nmX4 hown hK hP hD hS 0 rfl rfl 6 (by decide) (hbw _ m_166) (fun _ h9 => h9) rfl (by decide +kernel) rfl rfl (Nat.le_of_ble_eq_true rfl) dX4_findLeast_24 (fun H locs hP hD hS => ?_)
      have hP : va_P D vwCl (pO o0 z0 y0 q lim 1 (bN false) ++ pZ z0 z1 z2 q cI pk' fi' ++ pT q cI n a b le ro di ++ pS q cI sn ar rt oh ++ pC q r cI cG cn no ot cu wc wl ++ pR r cI wt) H := hP
      have hD : va_D A (pO o0 z0 y0 q lim 1 (bN false) ++ pZ z0 z1 z2 q cI pk' fi' ++ pT q cI n a b le ro di ++ pS q cI sn ar rt oh ++ pC q r cI cG cn no ot cu wc wl ++ pR r cI wt) := hD
      rw [hQ]
      exact ct_vret hx hb hr hlocks hP hD hS dX4_findLeast_27 ⟨pk', fi', false, rfl, hp6, hf6, hans, hfl⟩
set_option maxHeartbeats 4000000 in
set_option maxRecDepth 100000 in
/-- settled -/
theorem kX4_settled (l : Launch) (D : va_G) (cI cG cL cB : ClassId) (o0 z0 z1 z2 y0 y1 y2 : Nat) (q r : Nat → Nat) (pj fj : Nat → Nat) (lim kn ex : Nat) (pk fi : Nat → Nat) (n : Nat) (a b le ro di : Nat → Nat) (sn : Nat) (ar rt oh : Nat → Nat) (cn : Nat) (no ot cu wc wl : Nat → Nat) (wt : Nat → Nat → Nat) (hT : okT n a b le ro) (hz : okZ sn ar rt oh cn cu wc wl wt) (hC : okC n a b le cn no ot wc wl wt) (hL : okL n ro sn ar rt oh cn cu wc wl wt lim kn ex pk fi) (hlim : lim ≤ 1000000) : ct_i l yX4_settled (.code yX4_settled cX4_settled 1 (some .boolean) :: bw) ({ frames := 6, cells := 0, slots := 0, locals := 131 }) (EN D (tyL cI cG cL cB)) D vwCl (pO o0 z0 y0 q lim kn ex ++ pZ z0 z1 z2 q cI pk fi ++ pZ y0 y1 y2 q cI pj fj ++ pT q cI n a b le ro di ++ pS q cI sn ar rt oh ++ pC q r cI cG cn no ot cu wc wl ++ pR r cI wt) [.ref o0] (fun v W => ∃ bb p, v = nI (bN bb) ∧ cs_ans cn sn ar rt oh cu wc wl ro wt lim bb p ∧ (∃ pk' fi' kn' ex', W = (pO o0 z0 y0 q lim kn' ex' ++ pZ z0 z1 z2 q cI pk' fi' ++ pZ y0 y1 y2 q cI pj fj ++ pT q cI n a b le ro di ++ pS q cI sn ar rt oh ++ pC q r cI cG cn no ot cu wc wl ++ pR r cI wt) ∧ okL n ro sn ar rt oh cn cu wc wl wt lim kn' ex' pk' fi')) 0 0 := by
  refine ct_ofi (by decide) (Nat.le_of_ble_eq_true rfl) ?_
  intro p e s m below meth cd A H locs av Q ls hx hb hr hml hown hlocks hnm hbw hEN hQ hP hD hS hA hl
  have hown : s.vm.findClass RX4 = some m.cls := hown
  have hK := hEN.1
  have hl : lv_has ls 1 [(0, .ref o0)] := hl
  refine lv_aload_n hx hb dX4_settled_0 rfl (lv_at hl 0 rfl) ?_
  refine ct_Vv (wc := (pO o0 z0 y0 q lim kn ex ++ pZ z0 z1 z2 q cI pk fi ++ pT q cI n a b le ro di ++ pS q cI sn ar rt oh ++ pC q r cI cG cn no ot cu wc wl ++ pR r cI wt)) (wr := (pZ y0 y1 y2 q cI pj fj)) (As := []) (rest := []) ⟨hx, hb, hml, hown, hbw⟩ (EN_E D _) hEN (kX4_findLeast l D cI cG cL cB o0 z0 z1 z2 q r y0 lim kn ex pk fi n a b le ro di sn ar rt oh cn no ot cu wc wl wt hT hz hC hL hlim) (cwV (C := "CableSizes") 0 hbw (gV m_189 m_191 m_0 m_18 m_192) rfl rfl rfl (by decide +kernel) ⟨Nat.le_of_ble_eq_true rfl, Nat.le_of_ble_eq_true rfl⟩) (va_recv hK hP (ci := 4) (q0 := 0) rfl rfl) hP hD hS hA [0, 1, 2, 3, 7, 8, 9, 10, 11, 12, 13, 14, 15, 16, 17, 18, 19, 20, 21, 22, 23, 24, 25, 26, 27, 28, 29, 30, 31, 32, 33, 34, 35, 36, 37, 38, 39, 40, 41, 42, 43] [4, 5, 6] rfl rfl (by decide) (by decide) (by decide) rfl hl.1 rfl (Nat.le_of_ble_eq_true rfl) dX4_settled_1 ⟨Nat.le_of_ble_eq_true rfl, Nat.le_of_ble_eq_true rfl⟩ (fun w_1 H locs hw hP hD hS => ?_)
  obtain ⟨pk', fi', bb, rfl, hp6, hf6, hans, hfl⟩ := hw
  have hP := hP.sub (ws' := (pO o0 z0 y0 q lim 1 (bN bb) ++ pZ z0 z1 z2 q cI pk' fi' ++ pZ y0 y1 y2 q cI pj fj ++ pT q cI n a b le ro di ++ pS q cI sn ar rt oh ++ pC q r cI cG cn no ot cu wc wl ++ pR r cI wt)) [3, 4, 5, 6, 0, 1, 2, 7, 8, 9, 10, 11, 12, 13, 14, 15, 16, 17, 18, 19, 20, 21, 22, 23, 24, 25, 26, 27, 28, 29, 30, 31, 32, 33, 34, 35, 36, 37, 38, 39, 40, 41, 42, 43] rfl
  have hD := hD.sub (ws' := (pO o0 z0 y0 q lim 1 (bN bb) ++ pZ z0 z1 z2 q cI pk' fi' ++ pZ y0 y1 y2 q cI pj fj ++ pT q cI n a b le ro di ++ pS q cI sn ar rt oh ++ pC q r cI cG cn no ot cu wc wl ++ pR r cI wt)) [3, 4, 5, 6, 0, 1, 2, 7, 8, 9, 10, 11, 12, 13, 14, 15, 16, 17, 18, 19, 20, 21, 22, 23, 24, 25, 26, 27, 28, 29, 30, 31, 32, 33, 34, 35, 36, 37, 38, 39, 40, 41, 42, 43] (by decide) rfl
  refine lv_aload_n hx hb dX4_settled_4 rfl (lv_at hl 0 rfl) ?_
  refine va_get (ci := 4) (v := .int (nI (bN bb))) (C := RX4) (T := TX4) (N := 8) hx hb hbw in_X4 hown hK hP 0 rfl rfl 7 (by decide) (hbw _ m_167) (fun _ h9 => h9) rfl dX4_settled_5 ?_
  rw [hQ]
  exact ct_zret hx hb hr hlocks hP hD hS dX4_settled_8 (by cases bb; exact Or.inl rfl; exact Or.inr rfl) ⟨bb, pk', rfl, hans, ⟨pk', fi', 1, bN bb, rfl, by omega, hp6, hf6, fun _ => ⟨bb, rfl, hans, hfl⟩⟩⟩
set_option maxHeartbeats 4000000 in
set_option maxRecDepth 100000 in
/-- copper -/
theorem kX4_copper (l : Launch) (D : va_G) (cI cG cL cB : ClassId) (o0 z0 z1 z2 y0 y1 y2 : Nat) (q r : Nat → Nat) (pj fj : Nat → Nat) (lim kn ex : Nat) (pk fi : Nat → Nat) (n : Nat) (a b le ro di : Nat → Nat) (sn : Nat) (ar rt oh : Nat → Nat) (cn : Nat) (no ot cu wc wl : Nat → Nat) (wt : Nat → Nat → Nat) (hT : okT n a b le ro) (hz : okZ sn ar rt oh cn cu wc wl wt) (hC : okC n a b le cn no ot wc wl wt) (hL : okL n ro sn ar rt oh cn cu wc wl wt lim kn ex pk fi) (hlim : lim ≤ 1000000) : ct_i l yX4_copper (.code yX4_copper cX4_copper 1 (some .int) :: bw) ({ frames := 6, cells := 0, slots := 0, locals := 131 }) (EN D (tyL cI cG cL cB)) D vwCl (pO o0 z0 y0 q lim kn ex ++ pZ z0 z1 z2 q cI pk fi ++ pZ y0 y1 y2 q cI pj fj ++ pT q cI n a b le ro di ++ pS q cI sn ar rt oh ++ pC q r cI cG cn no ot cu wc wl ++ pR r cI wt) [.ref o0] (fun v W => (∃ bb p, v = (if bb = true then nI (cz_sum (fun c => ar (p c) * wl c) cn) else -1) ∧ cs_ans cn sn ar rt oh cu wc wl ro wt lim bb p) ∧ (∃ pk' fi' kn' ex', W = (pO o0 z0 y0 q lim kn' ex' ++ pZ z0 z1 z2 q cI pk' fi' ++ pZ y0 y1 y2 q cI pj fj ++ pT q cI n a b le ro di ++ pS q cI sn ar rt oh ++ pC q r cI cG cn no ot cu wc wl ++ pR r cI wt) ∧ okL n ro sn ar rt oh cn cu wc wl wt lim kn' ex' pk' fi')) 0 0 := by
  refine ct_ofi (by decide) (Nat.le_of_ble_eq_true rfl) ?_
  intro p e s m below meth cd A H locs av Q ls hx hb hr hml hown hlocks hnm hbw hEN hQ hP hD hS hA hl
  have hown : s.vm.findClass RX4 = some m.cls := hown
  have hK := hEN.1
  have hl : lv_has ls 1 [(0, .ref o0)] := hl
  refine lv_aload_n hx hb dX4_copper_0 rfl (lv_at hl 0 rfl) ?_
  refine ct_Vv (wc := (pO o0 z0 y0 q lim kn ex ++ pZ z0 z1 z2 q cI pk fi ++ pT q cI n a b le ro di ++ pS q cI sn ar rt oh ++ pC q r cI cG cn no ot cu wc wl ++ pR r cI wt)) (wr := (pZ y0 y1 y2 q cI pj fj)) (As := []) (rest := []) ⟨hx, hb, hml, hown, hbw⟩ (EN_E D _) hEN (kX4_findLeast l D cI cG cL cB o0 z0 z1 z2 q r y0 lim kn ex pk fi n a b le ro di sn ar rt oh cn no ot cu wc wl wt hT hz hC hL hlim) (cwV (C := "CableSizes") 0 hbw (gV m_189 m_191 m_0 m_18 m_192) rfl rfl rfl (by decide +kernel) ⟨Nat.le_of_ble_eq_true rfl, Nat.le_of_ble_eq_true rfl⟩) (va_recv hK hP (ci := 4) (q0 := 0) rfl rfl) hP hD hS hA [0, 1, 2, 3, 7, 8, 9, 10, 11, 12, 13, 14, 15, 16, 17, 18, 19, 20, 21, 22, 23, 24, 25, 26, 27, 28, 29, 30, 31, 32, 33, 34, 35, 36, 37, 38, 39, 40, 41, 42, 43] [4, 5, 6] rfl rfl (by decide) (by decide) (by decide) rfl hl.1 rfl (Nat.le_of_ble_eq_true rfl) dX4_copper_1 ⟨Nat.le_of_ble_eq_true rfl, Nat.le_of_ble_eq_true rfl⟩ (fun w_1 H locs hw hP hD hS => ?_)
  obtain ⟨pk', fi', bb, rfl, hp6, hf6, hans, hfl⟩ := hw
  have hP := hP.sub (ws' := (pO o0 z0 y0 q lim 1 (bN bb) ++ pZ z0 z1 z2 q cI pk' fi' ++ pZ y0 y1 y2 q cI pj fj ++ pT q cI n a b le ro di ++ pS q cI sn ar rt oh ++ pC q r cI cG cn no ot cu wc wl ++ pR r cI wt)) [3, 4, 5, 6, 0, 1, 2, 7, 8, 9, 10, 11, 12, 13, 14, 15, 16, 17, 18, 19, 20, 21, 22, 23, 24, 25, 26, 27, 28, 29, 30, 31, 32, 33, 34, 35, 36, 37, 38, 39, 40, 41, 42, 43] rfl
  have hD := hD.sub (ws' := (pO o0 z0 y0 q lim 1 (bN bb) ++ pZ z0 z1 z2 q cI pk' fi' ++ pZ y0 y1 y2 q cI pj fj ++ pT q cI n a b le ro di ++ pS q cI sn ar rt oh ++ pC q r cI cG cn no ot cu wc wl ++ pR r cI wt)) [3, 4, 5, 6, 0, 1, 2, 7, 8, 9, 10, 11, 12, 13, 14, 15, 16, 17, 18, 19, 20, 21, 22, 23, 24, 25, 26, 27, 28, 29, 30, 31, 32, 33, 34, 35, 36, 37, 38, 39, 40, 41, 42, 43] (by decide) rfl
  refine lv_aload_n hx hb dX4_copper_4 rfl (lv_at hl 0 rfl) ?_
  refine va_get (ci := 4) (v := .int (nI (bN bb))) (C := RX4) (T := TX4) (N := 8) hx hb hbw in_X4 hown hK hP 0 rfl rfl 7 (by decide) (hbw _ m_167) (fun _ h9 => h9) rfl dX4_copper_5 ?_
  refine nr_if_eq (x := bN bb) (tgt := 21) hx hb (by unfold bN; split <;> omega) dX4_copper_8 (by decide) (fun h1 => ?_) (fun h1 => ?_)
  · have eb := bN_f h1
    refine lv_iconst (v := (-1)) hx hb dX4_copper_21 (by decide) ?_
    rw [hQ]
    exact ct_iret hx hb hr hlocks hP hD hS dX4_copper_22 ⟨⟨bb, pk', by rw [eb]; rfl, hans⟩, ⟨pk', fi', 1, bN bb, rfl, by omega, hp6, hf6, fun _ => ⟨bb, rfl, hans, hfl⟩⟩⟩
  · have eb := bN_t h1
    refine lv_aload_n hx hb dX4_copper_11 rfl (lv_at hl 0 rfl) ?_
    refine va_get (ci := 4) (v := .ref z0) (C := RX4) (T := TX4) (N := 8) hx hb hbw in_X4 hown hK hP 0 rfl rfl 3 (by decide) (hbw _ m_163) (fun _ h9 => h9) rfl dX4_copper_12 ?_
    refine ct_Vi (wc := (pZ z0 z1 z2 q cI pk' fi' ++ pS q cI sn ar rt oh ++ pC q r cI cG cn no ot cu wc wl)) (wr := (pO o0 z0 y0 q lim 1 (bN bb) ++ pZ y0 y1 y2 q cI pj fj ++ pT q cI n a b le ro di ++ pR r cI wt)) (As := []) (rest := []) ⟨hx, hb, hml, hown, hbw⟩ (EN_E D _) hEN (kX2_sumOfCopper l D cI cG cL cB z0 z1 z2 q r pk' fi' sn ar rt oh cn no ot cu wc wl wt hz hp6 hf6) (cwV (C := "CableSizes$Sizing") 0 hbw (gV m_239 m_240 m_241 m_22 m_242) rfl rfl rfl (by decide +kernel) ⟨Nat.le_of_ble_eq_true rfl, Nat.le_of_ble_eq_true rfl⟩) (va_recv hK hP (ci := 2) (q0 := 1) rfl rfl) hP hD hS hA [1, 2, 3, 13, 14, 15, 16, 17, 18, 19, 20, 21, 22, 23] [0, 4, 5, 6, 7, 8, 9, 10, 11, 12, 24, 25, 26, 27, 28, 29, 30, 31, 32, 33, 34, 35, 36, 37, 38, 39, 40, 41, 42, 43] rfl rfl (by decide) (by decide) (by decide) rfl hl.1 rfl (Nat.le_of_ble_eq_true rfl) dX4_copper_15 ⟨Nat.le_of_ble_eq_true rfl, Nat.le_of_ble_eq_true rfl⟩ (fun r_2 w_2 H locs hw hP hD hS => ?_)
    obtain ⟨rfl, rfl⟩ := hw
    have hP := hP.sub (ws' := (pO o0 z0 y0 q lim 1 (bN bb) ++ pZ z0 z1 z2 q cI pk' fi' ++ pZ y0 y1 y2 q cI pj fj ++ pT q cI n a b le ro di ++ pS q cI sn ar rt oh ++ pC q r cI cG cn no ot cu wc wl ++ pR r cI wt)) [0, 30, 31, 32, 1, 2, 3, 4, 5, 6, 7, 8, 9, 33, 34, 35, 36, 37, 38, 39, 40, 41, 42, 43, 10, 11, 12, 13, 14, 15, 16, 17, 18, 19, 20, 21, 22, 23, 24, 25, 26, 27, 28, 29] rfl
    have hD := hD.sub (ws' := (pO o0 z0 y0 q lim 1 (bN bb) ++ pZ z0 z1 z2 q cI pk' fi' ++ pZ y0 y1 y2 q cI pj fj ++ pT q cI n a b le ro di ++ pS q cI sn ar rt oh ++ pC q r cI cG cn no ot cu wc wl ++ pR r cI wt)) [0, 30, 31, 32, 1, 2, 3, 4, 5, 6, 7, 8, 9, 33, 34, 35, 36, 37, 38, 39, 40, 41, 42, 43, 10, 11, 12, 13, 14, 15, 16, 17, 18, 19, 20, 21, 22, 23, 24, 25, 26, 27, 28, 29] (by decide) rfl
    refine lv_goto (tgt := 22) hx hb dX4_copper_18 (by decide) ?_
    rw [hQ]
    exact ct_iret hx hb hr hlocks hP hD hS dX4_copper_22 ⟨⟨bb, pk', by rw [eb]; rfl, hans⟩, ⟨pk', fi', 1, bN bb, rfl, by omega, hp6, hf6, fun _ => ⟨bb, rfl, hans, hfl⟩⟩⟩
set_option maxHeartbeats 4000000 in
set_option maxRecDepth 100000 in
/-- chosen -/
theorem kX4_chosen (l : Launch) (hl9 : l.stackTraces = false) (D : va_G) (cI cG cL cB : ClassId) (o0 z0 z1 z2 y0 y1 y2 : Nat) (q r : Nat → Nat) (pj fj : Nat → Nat) (lim kn ex : Nat) (pk fi : Nat → Nat) (n : Nat) (a b le ro di : Nat → Nat) (sn : Nat) (ar rt oh : Nat → Nat) (cn : Nat) (no ot cu wc wl : Nat → Nat) (wt : Nat → Nat → Nat) (x0 : Int32) (hT : okT n a b le ro) (hz : okZ sn ar rt oh cn cu wc wl wt) (hC : okC n a b le cn no ot wc wl wt) (hL : okL n ro sn ar rt oh cn cu wc wl wt lim kn ex pk fi) (hlim : lim ≤ 1000000) : tx_i l yX4_chosen (.code yX4_chosen cX4_chosen 2 (some .int) :: bw) ({ frames := 7, cells := 1, slots := 6, locals := 131 }) (EX D (tyL cI cG cL cB)) D vwCl (pO o0 z0 y0 q lim kn ex ++ pZ z0 z1 z2 q cI pk fi ++ pZ y0 y1 y2 q cI pj fj ++ pT q cI n a b le ro di ++ pS q cI sn ar rt oh ++ pC q r cI cG cn no ot cu wc wl ++ pR r cI wt) [.ref o0, .int x0] (fun v W => ∃ k, (k < cn ∧ x0 = nI k) ∧ (∃ bb p, v = (if bb = true then nI (p k) else -1) ∧ cs_ans cn sn ar rt oh cu wc wl ro wt lim bb p) ∧ (∃ pk' fi' kn' ex', W = (pO o0 z0 y0 q lim kn' ex' ++ pZ z0 z1 z2 q cI pk' fi' ++ pZ y0 y1 y2 q cI pj fj ++ pT q cI n a b le ro di ++ pS q cI sn ar rt oh ++ pC q r cI cG cn no ot cu wc wl ++ pR r cI wt) ∧ okL n ro sn ar rt oh cn cu wc wl wt lim kn' ex' pk' fi')) (fun E W => E = sIAE ∧ (¬ ∃ k, k < cn ∧ x0 = nI k) ∧ W = (pO o0 z0 y0 q lim kn ex ++ pZ z0 z1 z2 q cI pk fi ++ pZ y0 y1 y2 q cI pj fj ++ pT q cI n a b le ro di ++ pS q cI sn ar rt oh ++ pC q r cI cG cn no ot cu wc wl ++ pR r cI wt)) 1 6 := by
  refine tx_ofi (by decide) (Nat.le_of_ble_eq_true rfl) ?_
  intro p e s m below meth cd A H locs av Q ls hx hb hr hml hown hlocks hex hbw hEX hZ hQ hP hD hS hA hl
  have hown : s.vm.findClass RX4 = some m.cls := hown
  have hEN := hEX.1
  have hK := hEN.1
  have hl : lv_has ls 2 [(0, .ref o0), (1, .int x0)] := hl
  obtain ⟨hn, hok, ha0, hb0, hl0, hro, hro1⟩ := id hT
  obtain ⟨hsn, har, hrt, hoh, hcn, hcu, hwc, hwl, hwt⟩ := id hz
  have hy := okY_of hT hC
  obtain ⟨hkn, hpk, hfi, hkl⟩ := id hL
  refine lv_iload_n hx hb dX4_chosen_0 rfl (lv_at hl 1 rfl) ?_
  refine lv_aload_n hx hb dX4_chosen_1 rfl (lv_at hl 0 rfl) ?_
  refine va_get (ci := 4) (v := .ref (q 11)) (C := RX4) (T := TX4) (N := 8) hx hb hbw in_X4 hown hK hP 0 rfl rfl 2 (by decide) (hbw _ m_162) (fun _ h9 => h9) rfl dX4_chosen_2 ?_
  refine va_getN (ci := 0) (v := .int (nI cn)) (C := RX0) (T := TX0) (N := 7) hx hb hbw in_X0 hown hK hP 17 rfl rfl 0 (by decide) (va_Nw.use rfl (hEN.2 _ (List.mem_filter.mpr ⟨mn_88, rfl⟩))) (fun _ h9 => h9) rfl dX4_chosen_5 ?_
  rw [hQ]
  refine tx_Sv (wc := ([] : va_W)) (wr := (pO o0 z0 y0 q lim kn ex ++ pZ z0 z1 z2 q cI pk fi ++ pZ y0 y1 y2 q cI pj fj ++ pT q cI n a b le ro di ++ pS q cI sn ar rt oh ++ pC q r cI cG cn no ot cu wc wl ++ pR r cI wt)) (As := [.int x0, .int (nI cn)]) (rest := []) ⟨hx, hb, hml, hown, hbw⟩ (EX_E D _) hEX hZ hex hlocks (kX4_checkNumber l hl9 D cI cG cL cB x0 cn (by omega)) (gS 2 hbw m_406 m_407 m_18 m_408 rfl rfl (by decide +kernel) ⟨Nat.le_of_ble_eq_true rfl, Nat.le_of_ble_eq_true rfl⟩) hP hD hS hA [] [0, 1, 2, 3, 4, 5, 6, 7, 8, 9, 10, 11, 12, 13, 14, 15, 16, 17, 18, 19, 20, 21, 22, 23, 24, 25, 26, 27, 28, 29, 30, 31, 32, 33, 34, 35, 36, 37, 38, 39, 40, 41, 42, 43] rfl rfl (by decide) (by decide) (by decide) rfl hl.1 rfl (Nat.le_of_ble_eq_true rfl) dX4_chosen_8 ⟨Nat.le_of_ble_eq_true rfl, Nat.le_of_ble_eq_true rfl⟩ (Nat.le_of_ble_eq_true rfl) (Nat.le_of_ble_eq_true rfl) (fun E w1 hp => ⟨hp.1, hp.2.2, by rw [hp.2.1, List.append_nil]⟩) (fun w1 H locs hw hP hD hS => ?_)
  rw [← hQ]
  obtain ⟨rfl, k, hk, hx0⟩ := hw
  rw [List.append_nil] at hP hD
  subst hx0
  refine lv_aload_n hx hb dX4_chosen_11 rfl (lv_at hl 0 rfl) ?_
  refine ct_Vv (wc := (pO o0 z0 y0 q lim kn ex ++ pZ z0 z1 z2 q cI pk fi ++ pT q cI n a b le ro di ++ pS q cI sn ar rt oh ++ pC q r cI cG cn no ot cu wc wl ++ pR r cI wt)) (wr := (pZ y0 y1 y2 q cI pj fj)) (As := []) (rest := []) ⟨hx, hb, hml, hown, hbw⟩ (EN_E D _) hEN (kX4_findLeast l D cI cG cL cB o0 z0 z1 z2 q r y0 lim kn ex pk fi n a b le ro di sn ar rt oh cn no ot cu wc wl wt hT hz hC hL hlim) (cwV (C := "CableSizes") 0 hbw (gV m_189 m_191 m_0 m_18 m_192) rfl rfl rfl (by decide +kernel) ⟨Nat.le_of_ble_eq_true rfl, Nat.le_of_ble_eq_true rfl⟩) (va_recv hK hP (ci := 4) (q0 := 0) rfl rfl) hP hD hS hA [0, 1, 2, 3, 7, 8, 9, 10, 11, 12, 13, 14, 15, 16, 17, 18, 19, 20, 21, 22, 23, 24, 25, 26, 27, 28, 29, 30, 31, 32, 33, 34, 35, 36, 37, 38, 39, 40, 41, 42, 43] [4, 5, 6] rfl rfl (by decide) (by decide) (by decide) rfl hl.1 rfl (Nat.le_of_ble_eq_true rfl) dX4_chosen_12 ⟨Nat.le_of_ble_eq_true rfl, Nat.le_of_ble_eq_true rfl⟩ (fun w_1 H locs hw hP hD hS => ?_)
  obtain ⟨pk', fi', bb, rfl, hp6, hf6, hans, hfl⟩ := hw
  have hP := hP.sub (ws' := (pO o0 z0 y0 q lim 1 (bN bb) ++ pZ z0 z1 z2 q cI pk' fi' ++ pZ y0 y1 y2 q cI pj fj ++ pT q cI n a b le ro di ++ pS q cI sn ar rt oh ++ pC q r cI cG cn no ot cu wc wl ++ pR r cI wt)) [3, 4, 5, 6, 0, 1, 2, 7, 8, 9, 10, 11, 12, 13, 14, 15, 16, 17, 18, 19, 20, 21, 22, 23, 24, 25, 26, 27, 28, 29, 30, 31, 32, 33, 34, 35, 36, 37, 38, 39, 40, 41, 42, 43] rfl
  have hD := hD.sub (ws' := (pO o0 z0 y0 q lim 1 (bN bb) ++ pZ z0 z1 z2 q cI pk' fi' ++ pZ y0 y1 y2 q cI pj fj ++ pT q cI n a b le ro di ++ pS q cI sn ar rt oh ++ pC q r cI cG cn no ot cu wc wl ++ pR r cI wt)) [3, 4, 5, 6, 0, 1, 2, 7, 8, 9, 10, 11, 12, 13, 14, 15, 16, 17, 18, 19, 20, 21, 22, 23, 24, 25, 26, 27, 28, 29, 30, 31, 32, 33, 34, 35, 36, 37, 38, 39, 40, 41, 42, 43] (by decide) rfl
  refine lv_aload_n hx hb dX4_chosen_15 rfl (lv_at hl 0 rfl) ?_
  refine va_get (ci := 4) (v := .int (nI (bN bb))) (C := RX4) (T := TX4) (N := 8) hx hb hbw in_X4 hown hK hP 0 rfl rfl 7 (by decide) (hbw _ m_167) (fun _ h9 => h9) rfl dX4_chosen_16 ?_
  refine nr_if_eq (x := bN bb) (tgt := 34) hx hb (by unfold bN; split <;> omega) dX4_chosen_19 (by decide) (fun h1 => ?_) (fun h1 => ?_)
  · have eb := bN_f h1
    refine lv_iconst (v := (-1)) hx hb dX4_chosen_34 (by decide) ?_
    rw [hQ]
    exact tx_iret hx hb hr hlocks hP hD hS dX4_chosen_35 (Nat.le_of_ble_eq_true rfl) (Nat.le_of_ble_eq_true rfl) ⟨k, ⟨hk, rfl⟩, ⟨bb, pk', by rw [eb]; rfl, hans⟩, ⟨pk', fi', 1, bN bb, rfl, by omega, hp6, hf6, fun _ => ⟨bb, rfl, hans, hfl⟩⟩⟩
  · have eb := bN_t h1
    refine lv_aload_n hx hb dX4_chosen_22 rfl (lv_at hl 0 rfl) ?_
    refine va_get (ci := 4) (v := .ref z0) (C := RX4) (T := TX4) (N := 8) hx hb hbw in_X4 hown hK hP 0 rfl rfl 3 (by decide) (hbw _ m_163) (fun _ h9 => h9) rfl dX4_chosen_23 ?_
    refine va_getN (ci := 2) (v := .ref z1) (C := RX2) (T := TX2) (N := 5) hx hb hbw in_X2 hown hK hP 1 rfl rfl 3 (by decide) (va_Nw.use rfl (hEN.2 _ (List.mem_filter.mpr ⟨mn_128, rfl⟩))) (fun _ h9 => h9) rfl dX4_chosen_26 ?_
    refine lv_iload_n hx hb dX4_chosen_29 rfl (lv_at hl 1 rfl) ?_
    refine nr_iald hx hb hK hP 2 0 rfl rfl (k := k) (by omega) (by omega) dX4_chosen_30 ?_
    have b_2 := hp6 k
    refine lv_goto (tgt := 35) hx hb dX4_chosen_31 (by decide) ?_
    rw [hQ]
    exact tx_iret hx hb hr hlocks hP hD hS dX4_chosen_35 (Nat.le_of_ble_eq_true rfl) (Nat.le_of_ble_eq_true rfl) ⟨k, ⟨hk, rfl⟩, ⟨bb, pk', by rw [eb]; rfl, hans⟩, ⟨pk', fi', 1, bN bb, rfl, by omega, hp6, hf6, fun _ => ⟨bb, rfl, hans, hfl⟩⟩⟩
set_option maxHeartbeats 4000000 in
set_option maxRecDepth 100000 in
/-- way -/
theorem kX4_way (l : Launch) (hl9 : l.stackTraces = false) (D : va_G) (cI cG cL cB : ClassId) (o0 z0 z1 z2 y0 y1 y2 : Nat) (q r : Nat → Nat) (pj fj : Nat → Nat) (lim kn ex : Nat) (pk fi : Nat → Nat) (n : Nat) (a b le ro di : Nat → Nat) (sn : Nat) (ar rt oh : Nat → Nat) (cn : Nat) (no ot cu wc wl : Nat → Nat) (wt : Nat → Nat → Nat) (x0 : Int32) (hT : okT n a b le ro) (hz : okZ sn ar rt oh cn cu wc wl wt) (hC : okC n a b le cn no ot wc wl wt) (hL : okL n ro sn ar rt oh cn cu wc wl wt lim kn ex pk fi) (hlim : lim ≤ 1000000) : tx_i l yX4_way (.code yX4_way cX4_way 2 (some .int) :: bw) ({ frames := 7, cells := 1, slots := 6, locals := 111 }) (EX D (tyL cI cG cL cB)) D vwCl (pO o0 z0 y0 q lim kn ex ++ pZ z0 z1 z2 q cI pk fi ++ pZ y0 y1 y2 q cI pj fj ++ pT q cI n a b le ro di ++ pS q cI sn ar rt oh ++ pC q r cI cG cn no ot cu wc wl ++ pR r cI wt) [.ref o0, .int x0] (fun v W => ∃ k, (k < cn ∧ x0 = nI k) ∧ v = mI (if wc k = 0 then 0 else wl k + 1) ∧ W = (pO o0 z0 y0 q lim kn ex ++ pZ z0 z1 z2 q cI pk fi ++ pZ y0 y1 y2 q cI pj fj ++ pT q cI n a b le ro di ++ pS q cI sn ar rt oh ++ pC q r cI cG cn no ot cu wc wl ++ pR r cI wt)) (fun E W => E = sIAE ∧ (¬ ∃ k, k < cn ∧ x0 = nI k) ∧ W = (pO o0 z0 y0 q lim kn ex ++ pZ z0 z1 z2 q cI pk fi ++ pZ y0 y1 y2 q cI pj fj ++ pT q cI n a b le ro di ++ pS q cI sn ar rt oh ++ pC q r cI cG cn no ot cu wc wl ++ pR r cI wt)) 1 6 := by
  refine tx_ofi (by decide) (Nat.le_of_ble_eq_true rfl) ?_
  intro p e s m below meth cd A H locs av Q ls hx hb hr hml hown hlocks hex hbw hEX hZ hQ hP hD hS hA hl
  have hown : s.vm.findClass RX4 = some m.cls := hown
  have hEN := hEX.1
  have hK := hEN.1
  have hl : lv_has ls 2 [(0, .ref o0), (1, .int x0)] := hl
  obtain ⟨hn, hok, ha0, hb0, hl0, hro, hro1⟩ := id hT
  obtain ⟨hsn, har, hrt, hoh, hcn, hcu, hwc, hwl, hwt⟩ := id hz
  have hy := okY_of hT hC
  obtain ⟨hkn, hpk, hfi, hkl⟩ := id hL
  refine lv_iload_n hx hb dX4_way_0 rfl (lv_at hl 1 rfl) ?_
  refine lv_aload_n hx hb dX4_way_1 rfl (lv_at hl 0 rfl) ?_
  refine va_get (ci := 4) (v := .ref (q 11)) (C := RX4) (T := TX4) (N := 8) hx hb hbw in_X4 hown hK hP 0 rfl rfl 2 (by decide) (hbw _ m_162) (fun _ h9 => h9) rfl dX4_way_2 ?_
  refine va_getN (ci := 0) (v := .int (nI cn)) (C := RX0) (T := TX0) (N := 7) hx hb hbw in_X0 hown hK hP 17 rfl rfl 0 (by decide) (va_Nw.use rfl (hEN.2 _ (List.mem_filter.mpr ⟨mn_88, rfl⟩))) (fun _ h9 => h9) rfl dX4_way_5 ?_
  rw [hQ]
  refine tx_Sv (wc := ([] : va_W)) (wr := (pO o0 z0 y0 q lim kn ex ++ pZ z0 z1 z2 q cI pk fi ++ pZ y0 y1 y2 q cI pj fj ++ pT q cI n a b le ro di ++ pS q cI sn ar rt oh ++ pC q r cI cG cn no ot cu wc wl ++ pR r cI wt)) (As := [.int x0, .int (nI cn)]) (rest := []) ⟨hx, hb, hml, hown, hbw⟩ (EX_E D _) hEX hZ hex hlocks (kX4_checkNumber l hl9 D cI cG cL cB x0 cn (by omega)) (gS 2 hbw m_406 m_407 m_18 m_408 rfl rfl (by decide +kernel) ⟨Nat.le_of_ble_eq_true rfl, Nat.le_of_ble_eq_true rfl⟩) hP hD hS hA [] [0, 1, 2, 3, 4, 5, 6, 7, 8, 9, 10, 11, 12, 13, 14, 15, 16, 17, 18, 19, 20, 21, 22, 23, 24, 25, 26, 27, 28, 29, 30, 31, 32, 33, 34, 35, 36, 37, 38, 39, 40, 41, 42, 43] rfl rfl (by decide) (by decide) (by decide) rfl hl.1 rfl (Nat.le_of_ble_eq_true rfl) dX4_way_8 ⟨Nat.le_of_ble_eq_true rfl, Nat.le_of_ble_eq_true rfl⟩ (Nat.le_of_ble_eq_true rfl) (Nat.le_of_ble_eq_true rfl) (fun E w1 hp => ⟨hp.1, hp.2.2, by rw [hp.2.1, List.append_nil]⟩) (fun w1 H locs hw hP hD hS => ?_)
  rw [← hQ]
  obtain ⟨rfl, k, hk, hx0⟩ := hw
  rw [List.append_nil] at hP hD
  subst hx0
  refine lv_aload_n hx hb dX4_way_11 rfl (lv_at hl 0 rfl) ?_
  refine va_get (ci := 4) (v := .ref (q 11)) (C := RX4) (T := TX4) (N := 8) hx hb hbw in_X4 hown hK hP 0 rfl rfl 2 (by decide) (hbw _ m_162) (fun _ h9 => h9) rfl dX4_way_12 ?_
  refine lv_iload_n hx hb dX4_way_15 rfl (lv_at hl 1 rfl) ?_
  refine ct_Vi (wc := (pC q r cI cG cn no ot cu wc wl)) (wr := (pO o0 z0 y0 q lim kn ex ++ pZ z0 z1 z2 q cI pk fi ++ pZ y0 y1 y2 q cI pj fj ++ pT q cI n a b le ro di ++ pS q cI sn ar rt oh ++ pR r cI wt)) (As := [.int (nI k)]) (rest := []) ⟨hx, hb, hml, hown, hbw⟩ (EN_E D _) hEN (kX0_isLoose l D cI cG cL cB q r cn no ot cu wc wl k (by omega) hwc) (cwV (C := "CableSizes$Cables") 1 hbw (gV m_432 m_213 m_214 m_21 m_215) rfl rfl rfl (by decide +kernel) ⟨Nat.le_of_ble_eq_true rfl, Nat.le_of_ble_eq_true rfl⟩) (va_recv hK hP (ci := 0) (q0 := 17) rfl rfl) hP hD hS hA [17, 18, 19, 20, 21, 22, 23] [0, 1, 2, 3, 4, 5, 6, 7, 8, 9, 10, 11, 12, 13, 14, 15, 16, 24, 25, 26, 27, 28, 29, 30, 31, 32, 33, 34, 35, 36, 37, 38, 39, 40, 41, 42, 43] rfl rfl (by decide) (by decide) (by decide) rfl hl.1 rfl (Nat.le_of_ble_eq_true rfl) dX4_way_16 ⟨Nat.le_of_ble_eq_true rfl, Nat.le_of_ble_eq_true rfl⟩ (fun r_1 w_1 H locs hw hP hD hS => ?_)
  obtain ⟨rfl, rfl⟩ := hw
  have hP := hP.sub (ws' := (pO o0 z0 y0 q lim kn ex ++ pZ z0 z1 z2 q cI pk fi ++ pZ y0 y1 y2 q cI pj fj ++ pT q cI n a b le ro di ++ pS q cI sn ar rt oh ++ pC q r cI cG cn no ot cu wc wl ++ pR r cI wt)) [0, 1, 2, 3, 4, 5, 6, 7, 8, 9, 10, 11, 12, 13, 14, 15, 16, 37, 38, 39, 40, 41, 42, 43, 17, 18, 19, 20, 21, 22, 23, 24, 25, 26, 27, 28, 29, 30, 31, 32, 33, 34, 35, 36] rfl
  have hD := hD.sub (ws' := (pO o0 z0 y0 q lim kn ex ++ pZ z0 z1 z2 q cI pk fi ++ pZ y0 y1 y2 q cI pj fj ++ pT q cI n a b le ro di ++ pS q cI sn ar rt oh ++ pC q r cI cG cn no ot cu wc wl ++ pR r cI wt)) [0, 1, 2, 3, 4, 5, 6, 7, 8, 9, 10, 11, 12, 13, 14, 15, 16, 37, 38, 39, 40, 41, 42, 43, 17, 18, 19, 20, 21, 22, 23, 24, 25, 26, 27, 28, 29, 30, 31, 32, 33, 34, 35, 36] (by decide) rfl
  refine nr_if_eq (x := bN (decide (wc k = 0))) (tgt := 26) hx hb (by unfold bN; split <;> omega) dX4_way_19 (by decide) (fun h1 => ?_) (fun h1 => ?_)
  · have e0 := of_decide_eq_false (bN_f h1)
    refine lv_aload_n hx hb dX4_way_26 rfl (lv_at hl 0 rfl) ?_
    refine va_get (ci := 4) (v := .ref (q 11)) (C := RX4) (T := TX4) (N := 8) hx hb hbw in_X4 hown hK hP 0 rfl rfl 2 (by decide) (hbw _ m_162) (fun _ h9 => h9) rfl dX4_way_27 ?_
    refine va_getN (ci := 0) (v := .ref (q 16)) (C := RX0) (T := TX0) (N := 7) hx hb hbw in_X0 hown hK hP 17 rfl rfl 5 (by decide) (va_Nw.use rfl (hEN.2 _ (List.mem_filter.mpr ⟨mn_99, rfl⟩))) (fun _ h9 => h9) rfl dX4_way_30 ?_
    refine lv_iload_n hx hb dX4_way_33 rfl (lv_at hl 1 rfl) ?_
    refine nr_iald hx hb hK hP 22 0 rfl rfl (k := k) (by omega) (by omega) dX4_way_34 ?_
    rw [hQ]
    exact tx_iret hx hb hr hlocks hP hD hS dX4_way_35 (Nat.le_of_ble_eq_true rfl) (Nat.le_of_ble_eq_true rfl) ⟨k, ⟨hk, rfl⟩, by rw [if_neg e0]; rfl, rfl⟩
  · have e0 := of_decide_eq_true (bN_t h1)
    refine lv_iconst (v := (-1)) hx hb dX4_way_22 (by decide) ?_
    refine lv_goto (tgt := 35) hx hb dX4_way_23 (by decide) ?_
    rw [hQ]
    exact tx_iret hx hb hr hlocks hP hD hS dX4_way_35 (Nat.le_of_ble_eq_true rfl) (Nat.le_of_ble_eq_true rfl) ⟨k, ⟨hk, rfl⟩, by rw [if_pos e0]; rfl, rfl⟩
set_option maxHeartbeats 4000000 in
set_option maxRecDepth 100000 in
/-- way -/
theorem kX4_way2 (l : Launch) (hl9 : l.stackTraces = false) (D : va_G) (cI cG cL cB : ClassId) (o0 z0 z1 z2 y0 y1 y2 : Nat) (q r : Nat → Nat) (pj fj : Nat → Nat) (lim kn ex : Nat) (pk fi : Nat → Nat) (n : Nat) (a b le ro di : Nat → Nat) (sn : Nat) (ar rt oh : Nat → Nat) (cn : Nat) (no ot cu wc wl : Nat → Nat) (wt : Nat → Nat → Nat) (x0 x1 : Int32) (hT : okT n a b le ro) (hz : okZ sn ar rt oh cn cu wc wl wt) (hC : okC n a b le cn no ot wc wl wt) (hL : okL n ro sn ar rt oh cn cu wc wl wt lim kn ex pk fi) (hlim : lim ≤ 1000000) : tx_i l yX4_way2 (.code yX4_way2 cX4_way2 3 (some .int) :: bw) ({ frames := 7, cells := 2, slots := 12, locals := 111 }) (EX D (tyL cI cG cL cB)) D vwCl (pO o0 z0 y0 q lim kn ex ++ pZ z0 z1 z2 q cI pk fi ++ pZ y0 y1 y2 q cI pj fj ++ pT q cI n a b le ro di ++ pS q cI sn ar rt oh ++ pC q r cI cG cn no ot cu wc wl ++ pR r cI wt) [.ref o0, .int x0, .int x1] (fun v W => ∃ k j, (k < cn ∧ x0 = nI k ∧ x1 = nI j ∧ j < 2 ^ 31) ∧ v = (if j < wc k then nI (wt k j) else -1) ∧ W = (pO o0 z0 y0 q lim kn ex ++ pZ z0 z1 z2 q cI pk fi ++ pZ y0 y1 y2 q cI pj fj ++ pT q cI n a b le ro di ++ pS q cI sn ar rt oh ++ pC q r cI cG cn no ot cu wc wl ++ pR r cI wt)) (fun E W => E = sIAE ∧ ¬ ((∃ k, k < cn ∧ x0 = nI k) ∧ ¬ x1 < 0) ∧ W = (pO o0 z0 y0 q lim kn ex ++ pZ z0 z1 z2 q cI pk fi ++ pZ y0 y1 y2 q cI pj fj ++ pT q cI n a b le ro di ++ pS q cI sn ar rt oh ++ pC q r cI cG cn no ot cu wc wl ++ pR r cI wt)) 2 12 := by
  refine tx_ofi (by decide) (Nat.le_of_ble_eq_true rfl) ?_
  intro p e s m below meth cd A H locs av Q ls hx hb hr hml hown hlocks hex hbw hEX hZ hQ hP hD hS hA hl
  have hown : s.vm.findClass RX4 = some m.cls := hown
  have hEN := hEX.1
  have hK := hEN.1
  have hl : lv_has ls 3 [(0, .ref o0), (1, .int x0), (2, .int x1)] := hl
  obtain ⟨hn, hok, ha0, hb0, hl0, hro, hro1⟩ := id hT
  obtain ⟨hsn, har, hrt, hoh, hcn, hcu, hwc, hwl, hwt⟩ := id hz
  have hy := okY_of hT hC
  obtain ⟨hkn, hpk, hfi, hkl⟩ := id hL
  refine lv_iload_n hx hb dX4_way2_0 rfl (lv_at hl 1 rfl) ?_
  refine lv_aload_n hx hb dX4_way2_1 rfl (lv_at hl 0 rfl) ?_
  refine va_get (ci := 4) (v := .ref (q 11)) (C := RX4) (T := TX4) (N := 8) hx hb hbw in_X4 hown hK hP 0 rfl rfl 2 (by decide) (hbw _ m_162) (fun _ h9 => h9) rfl dX4_way2_2 ?_
  refine va_getN (ci := 0) (v := .int (nI cn)) (C := RX0) (T := TX0) (N := 7) hx hb hbw in_X0 hown hK hP 17 rfl rfl 0 (by decide) (va_Nw.use rfl (hEN.2 _ (List.mem_filter.mpr ⟨mn_88, rfl⟩))) (fun _ h9 => h9) rfl dX4_way2_5 ?_
  rw [hQ]
  refine tx_Sv (wc := ([] : va_W)) (wr := (pO o0 z0 y0 q lim kn ex ++ pZ z0 z1 z2 q cI pk fi ++ pZ y0 y1 y2 q cI pj fj ++ pT q cI n a b le ro di ++ pS q cI sn ar rt oh ++ pC q r cI cG cn no ot cu wc wl ++ pR r cI wt)) (As := [.int x0, .int (nI cn)]) (rest := []) ⟨hx, hb, hml, hown, hbw⟩ (EX_E D _) hEX hZ hex hlocks (kX4_checkNumber l hl9 D cI cG cL cB x0 cn (by omega)) (gS 2 hbw m_406 m_407 m_18 m_408 rfl rfl (by decide +kernel) ⟨Nat.le_of_ble_eq_true rfl, Nat.le_of_ble_eq_true rfl⟩) hP hD hS hA [] [0, 1, 2, 3, 4, 5, 6, 7, 8, 9, 10, 11, 12, 13, 14, 15, 16, 17, 18, 19, 20, 21, 22, 23, 24, 25, 26, 27, 28, 29, 30, 31, 32, 33, 34, 35, 36, 37, 38, 39, 40, 41, 42, 43] rfl rfl (by decide) (by decide) (by decide) rfl hl.1 rfl (Nat.le_of_ble_eq_true rfl) dX4_way2_8 ⟨Nat.le_of_ble_eq_true rfl, Nat.le_of_ble_eq_true rfl⟩ (Nat.le_of_ble_eq_true rfl) (Nat.le_of_ble_eq_true rfl) (fun E w1 hp => ⟨hp.1, fun h => hp.2.2 h.1, by rw [hp.2.1, List.append_nil]⟩) (fun w1 H locs hw hP hD hS => ?_)
  rw [← hQ]
  obtain ⟨rfl, k, hk, hx0⟩ := hw
  rw [List.append_nil] at hP hD
  subst hx0
  refine lv_iload_n hx hb dX4_way2_11 rfl (lv_at hl 2 rfl) ?_
  refine lv_if_ge (tgt := 25) hx hb dX4_way2_12 (by decide) (fun h1 => ?_) (fun h1 => ?_)
  · have g3 : ¬ x1 < 0 := Int32.not_lt.mpr h1
    obtain ⟨j, hj, rfl⟩ := nI_of g3
    have b_w := hwc k
    refine lv_iload_n hx hb dX4_way2_25 rfl (lv_at hl 2 rfl) ?_
    refine lv_aload_n hx hb dX4_way2_26 rfl (lv_at hl 0 rfl) ?_
    refine va_get (ci := 4) (v := .ref (q 11)) (C := RX4) (T := TX4) (N := 8) hx hb hbw in_X4 hown hK hP 0 rfl rfl 2 (by decide) (hbw _ m_162) (fun _ h9 => h9) rfl dX4_way2_27 ?_
    refine va_getN (ci := 0) (v := .ref (q 15)) (C := RX0) (T := TX0) (N := 7) hx hb hbw in_X0 hown hK hP 17 rfl rfl 4 (by decide) (va_Nw.use rfl (hEN.2 _ (List.mem_filter.mpr ⟨mn_96, rfl⟩))) (fun _ h9 => h9) rfl dX4_way2_30 ?_
    refine lv_iload_n hx hb dX4_way2_33 rfl (lv_at hl 1 rfl) ?_
    refine nr_iald hx hb hK hP 21 0 rfl rfl (k := k) (by omega) (by omega) dX4_way2_34 ?_
    refine nr_icmp_ge (x := j) (y := wc k) (tgt := 52) hx hb (by omega) (by omega) dX4_way2_35 (by decide) (fun h2 => ?_) (fun h2 => ?_)
    · refine lv_iconst (v := (-1)) hx hb dX4_way2_52 (by decide) ?_
      rw [hQ]
      exact tx_iret hx hb hr hlocks hP hD hS dX4_way2_53 (Nat.le_of_ble_eq_true rfl) (Nat.le_of_ble_eq_true rfl) ⟨k, j, ⟨hk, rfl, rfl, hj⟩, by rw [if_neg (by omega)], rfl⟩
    · refine lv_aload_n hx hb dX4_way2_38 rfl (lv_at hl 0 rfl) ?_
      refine va_get (ci := 4) (v := .ref (q 11)) (C := RX4) (T := TX4) (N := 8) hx hb hbw in_X4 hown hK hP 0 rfl rfl 2 (by decide) (hbw _ m_162) (fun _ h9 => h9) rfl dX4_way2_39 ?_
      refine va_getN (ci := 0) (v := .ref (q 17)) (C := RX0) (T := TX0) (N := 7) hx hb hbw in_X0 hown hK hP 17 rfl rfl 6 (by decide) (va_Nw.use rfl (hEN.2 _ (List.mem_filter.mpr ⟨mn_102, rfl⟩))) (fun _ h9 => h9) rfl dX4_way2_42 ?_
      refine lv_iload_n hx hb dX4_way2_45 rfl (lv_at hl 1 rfl) ?_
      refine gr_ald hx hb hK hP 23 1 rfl rfl (k := k) (by omega) dX4_way2_46 ?_
      refine lv_iload_n hx hb dX4_way2_47 rfl (lv_at hl 2 rfl) ?_
      refine gr_iald hx hb hK hP 0 rfl (i := k) (k := j) (by omega) (by omega) dX4_way2_48 ?_
      refine lv_goto (tgt := 53) hx hb dX4_way2_49 (by decide) ?_
      rw [hQ]
      exact tx_iret hx hb hr hlocks hP hD hS dX4_way2_53 (Nat.le_of_ble_eq_true rfl) (Nat.le_of_ble_eq_true rfl) ⟨k, j, ⟨hk, rfl, rfl, hj⟩, by rw [if_pos h2], rfl⟩
  · have g3 : x1 < 0 := Int32.not_le.mp h1
    rw [hQ]
    exact tx_throw (w := (pO o0 z0 y0 q lim kn ex ++ pZ z0 z1 z2 q cI pk fi ++ pZ y0 y1 y2 q cI pj fj ++ pT q cI n a b le ro di ++ pS q cI sn ar rt oh ++ pC q r cI cG cn no ot cu wc wl ++ pR r cI wt)) hx hb hl9 hown (by decide +kernel) hbw hEX hZ xk_IAE xi_IAE xs_116 x1_IAE x2_IAE xg_IAE hP hD hS (hl.1.trans hml.symm) dX4_way2_15 dX4_way2_18 dX4_way2_19 dX4_way2_21 dX4_way2_24 hex (Nat.le_of_ble_eq_true rfl) (Nat.le_of_ble_eq_true rfl) (Nat.le_of_ble_eq_true rfl) (Nat.le_of_ble_eq_true rfl) hlocks (Nat.le_of_ble_eq_true rfl) (Nat.le_of_ble_eq_true rfl) ⟨rfl, fun h => h.2 g3, rfl⟩
set_option maxHeartbeats 4000000 in
set_option maxRecDepth 100000 in
/-- told -/
theorem kX4_told (l : Launch) (hl9 : l.stackTraces = false) (D : va_G) (cI cG cL cB : ClassId) (o0 z0 z1 z2 y0 y1 y2 : Nat) (q r : Nat → Nat) (pj fj : Nat → Nat) (lim kn ex : Nat) (pk fi : Nat → Nat) (n : Nat) (a b le ro di : Nat → Nat) (sn : Nat) (ar rt oh : Nat → Nat) (cn : Nat) (no ot cu wc wl : Nat → Nat) (wt : Nat → Nat → Nat) (x0 x1 : Int32) (hT : okT n a b le ro) (hz : okZ sn ar rt oh cn cu wc wl wt) (hC : okC n a b le cn no ot wc wl wt) (hL : okL n ro sn ar rt oh cn cu wc wl wt lim kn ex pk fi) (hlim : lim ≤ 1000000) : tx_i l yX4_told (.code yX4_told cX4_told 3 (some .int) :: bw) ({ frames := 7, cells := 2, slots := 12, locals := 131 }) (EX D (tyL cI cG cL cB)) D vwCl (pO o0 z0 y0 q lim kn ex ++ pZ z0 z1 z2 q cI pk fi ++ pZ y0 y1 y2 q cI pj fj ++ pT q cI n a b le ro di ++ pS q cI sn ar rt oh ++ pC q r cI cG cn no ot cu wc wl ++ pR r cI wt) [.ref o0, .int x0, .int x1] (fun v W => ∃ k j, (k < n ∧ x0 = nI k ∧ x1 = nI j ∧ j ≤ 2) ∧ ((j = 2 ∧ v = nI (cz_sum (fun c => cz_occ wc wt c k) cn)) ∨ (j ≠ 2 ∧ ∃ bb p, v = (if j = 2 then nI (cz_sum (fun c => cz_occ wc wt c k) cn) else if bb = true then (if j = 0 then nI (cz_fill cn ar wc ro wt p k) else nI (cz_fac (cz_fill cn ar wc ro wt p k))) else -1) ∧ cs_ans cn sn ar rt oh cu wc wl ro wt lim bb p)) ∧ (∃ pk' fi' kn' ex', W = (pO o0 z0 y0 q lim kn' ex' ++ pZ z0 z1 z2 q cI pk' fi' ++ pZ y0 y1 y2 q cI pj fj ++ pT q cI n a b le ro di ++ pS q cI sn ar rt oh ++ pC q r cI cG cn no ot cu wc wl ++ pR r cI wt) ∧ okL n ro sn ar rt oh cn cu wc wl wt lim kn' ex' pk' fi')) (fun E W => E = sIAE ∧ ¬ ((∃ k, k < n ∧ x0 = nI k) ∧ inB x1 0 2) ∧ W = (pO o0 z0 y0 q lim kn ex ++ pZ z0 z1 z2 q cI pk fi ++ pZ y0 y1 y2 q cI pj fj ++ pT q cI n a b le ro di ++ pS q cI sn ar rt oh ++ pC q r cI cG cn no ot cu wc wl ++ pR r cI wt)) 2 12 := by
  refine tx_ofi (by decide) (Nat.le_of_ble_eq_true rfl) ?_
  intro p e s m below meth cd A H locs av Q ls hx hb hr hml hown hlocks hex hbw hEX hZ hQ hP hD hS hA hl
  have hown : s.vm.findClass RX4 = some m.cls := hown
  have hEN := hEX.1
  have hK := hEN.1
  have hl : lv_has ls 3 [(0, .ref o0), (1, .int x0), (2, .int x1)] := hl
  obtain ⟨hn, hok, ha0, hb0, hl0, hro, hro1⟩ := id hT
  obtain ⟨hsn, har, hrt, hoh, hcn, hcu, hwc, hwl, hwt⟩ := id hz
  have hy := okY_of hT hC
  obtain ⟨hkn, hpk, hfi, hkl⟩ := id hL
  refine lv_iload_n hx hb dX4_told_0 rfl (lv_at hl 1 rfl) ?_
  refine lv_aload_n hx hb dX4_told_1 rfl (lv_at hl 0 rfl) ?_
  refine va_get (ci := 4) (v := .ref (q 1)) (C := RX4) (T := TX4) (N := 8) hx hb hbw in_X4 hown hK hP 0 rfl rfl 0 (by decide) (hbw _ m_160) (fun _ h9 => h9) rfl dX4_told_2 ?_
  refine va_getN (ci := 3) (v := .int (nI n)) (C := RX3) (T := TX3) (N := 6) hx hb hbw in_X3 hown hK hP 7 rfl rfl 0 (by decide) (va_Nw.use rfl (hEN.2 _ (List.mem_filter.mpr ⟨mn_29, rfl⟩))) (fun _ h9 => h9) rfl dX4_told_5 ?_
  rw [hQ]
  refine tx_Sv (wc := ([] : va_W)) (wr := (pO o0 z0 y0 q lim kn ex ++ pZ z0 z1 z2 q cI pk fi ++ pZ y0 y1 y2 q cI pj fj ++ pT q cI n a b le ro di ++ pS q cI sn ar rt oh ++ pC q r cI cG cn no ot cu wc wl ++ pR r cI wt)) (As := [.int x0, .int (nI n)]) (rest := []) ⟨hx, hb, hml, hown, hbw⟩ (EX_E D _) hEX hZ hex hlocks (kX4_checkNumber l hl9 D cI cG cL cB x0 n (by omega)) (gS 2 hbw m_406 m_407 m_18 m_408 rfl rfl (by decide +kernel) ⟨Nat.le_of_ble_eq_true rfl, Nat.le_of_ble_eq_true rfl⟩) hP hD hS hA [] [0, 1, 2, 3, 4, 5, 6, 7, 8, 9, 10, 11, 12, 13, 14, 15, 16, 17, 18, 19, 20, 21, 22, 23, 24, 25, 26, 27, 28, 29, 30, 31, 32, 33, 34, 35, 36, 37, 38, 39, 40, 41, 42, 43] rfl rfl (by decide) (by decide) (by decide) rfl hl.1 rfl (Nat.le_of_ble_eq_true rfl) dX4_told_8 ⟨Nat.le_of_ble_eq_true rfl, Nat.le_of_ble_eq_true rfl⟩ (Nat.le_of_ble_eq_true rfl) (Nat.le_of_ble_eq_true rfl) (fun E w1 hp => ⟨hp.1, fun h => hp.2.2 h.1, by rw [hp.2.1, List.append_nil]⟩) (fun w1 H locs hw hP hD hS => ?_)
  rw [← hQ]
  obtain ⟨rfl, k, hk, hx0⟩ := hw
  rw [List.append_nil] at hP hD
  subst hx0
  refine lv_iload_n hx hb dX4_told_11 rfl (lv_at hl 2 rfl) ?_
  refine lv_iconst (v := nI 0) hx hb dX4_told_12 (by decide) ?_
  refine lv_iconst (v := nI 2) hx hb dX4_told_13 (by decide) ?_
  rw [hQ]
  refine tx_Sv (wc := ([] : va_W)) (wr := (pO o0 z0 y0 q lim kn ex ++ pZ z0 z1 z2 q cI pk fi ++ pZ y0 y1 y2 q cI pj fj ++ pT q cI n a b le ro di ++ pS q cI sn ar rt oh ++ pC q r cI cG cn no ot cu wc wl ++ pR r cI wt)) (As := [.int x1, .int (nI 0), .int (nI 2)]) (rest := []) ⟨hx, hb, hml, hown, hbw⟩ (EX_E D _) hEX hZ hex hlocks (kX4_checkBounds l hl9 D cI cG cL cB x1 0 2 (by omega) (by omega)) (gS 3 hbw m_255 m_256 m_18 m_257 rfl rfl (by decide +kernel) ⟨Nat.le_of_ble_eq_true rfl, Nat.le_of_ble_eq_true rfl⟩) hP hD hS hA [] [0, 1, 2, 3, 4, 5, 6, 7, 8, 9, 10, 11, 12, 13, 14, 15, 16, 17, 18, 19, 20, 21, 22, 23, 24, 25, 26, 27, 28, 29, 30, 31, 32, 33, 34, 35, 36, 37, 38, 39, 40, 41, 42, 43] rfl rfl (by decide) (by decide) (by decide) rfl hl.1 rfl (Nat.le_of_ble_eq_true rfl) dX4_told_14 ⟨Nat.le_of_ble_eq_true rfl, Nat.le_of_ble_eq_true rfl⟩ (Nat.le_of_ble_eq_true rfl) (Nat.le_of_ble_eq_true rfl) (fun E w1 hp => ⟨hp.1, fun h => hp.2.2 h.2, by rw [hp.2.1, List.append_nil]⟩) (fun w1 H locs hw hP hD hS => ?_)
  rw [← hQ]
  obtain ⟨rfl, j, hx1, hb1, hb2⟩ := hw
  rw [List.append_nil] at hP hD
  subst hx1
  refine lv_iload_n hx hb dX4_told_17 rfl (lv_at hl 2 rfl) ?_
  refine lv_iconst (v := nI 2) hx hb dX4_told_18 (by decide) ?_
  refine nr_icmp_ne (x := j) (y := 2) (tgt := 31) hx hb (by omega) (by omega) dX4_told_19 (by decide) (fun h1 => ?_) (fun h1 => ?_)
  · refine lv_aload_n hx hb dX4_told_31 rfl (lv_at hl 0 rfl) ?_
    refine ct_Vv (wc := (pO o0 z0 y0 q lim kn ex ++ pZ z0 z1 z2 q cI pk fi ++ pT q cI n a b le ro di ++ pS q cI sn ar rt oh ++ pC q r cI cG cn no ot cu wc wl ++ pR r cI wt)) (wr := (pZ y0 y1 y2 q cI pj fj)) (As := []) (rest := []) ⟨hx, hb, hml, hown, hbw⟩ (EN_E D _) hEN (kX4_findLeast l D cI cG cL cB o0 z0 z1 z2 q r y0 lim kn ex pk fi n a b le ro di sn ar rt oh cn no ot cu wc wl wt hT hz hC hL hlim) (cwV (C := "CableSizes") 0 hbw (gV m_189 m_191 m_0 m_18 m_192) rfl rfl rfl (by decide +kernel) ⟨Nat.le_of_ble_eq_true rfl, Nat.le_of_ble_eq_true rfl⟩) (va_recv hK hP (ci := 4) (q0 := 0) rfl rfl) hP hD hS hA [0, 1, 2, 3, 7, 8, 9, 10, 11, 12, 13, 14, 15, 16, 17, 18, 19, 20, 21, 22, 23, 24, 25, 26, 27, 28, 29, 30, 31, 32, 33, 34, 35, 36, 37, 38, 39, 40, 41, 42, 43] [4, 5, 6] rfl rfl (by decide) (by decide) (by decide) rfl hl.1 rfl (Nat.le_of_ble_eq_true rfl) dX4_told_32 ⟨Nat.le_of_ble_eq_true rfl, Nat.le_of_ble_eq_true rfl⟩ (fun w_1 H locs hw hP hD hS => ?_)
    obtain ⟨pk', fi', bb, rfl, hp6, hf6, hans, hfl⟩ := hw
    have hP := hP.sub (ws' := (pO o0 z0 y0 q lim 1 (bN bb) ++ pZ z0 z1 z2 q cI pk' fi' ++ pZ y0 y1 y2 q cI pj fj ++ pT q cI n a b le ro di ++ pS q cI sn ar rt oh ++ pC q r cI cG cn no ot cu wc wl ++ pR r cI wt)) [3, 4, 5, 6, 0, 1, 2, 7, 8, 9, 10, 11, 12, 13, 14, 15, 16, 17, 18, 19, 20, 21, 22, 23, 24, 25, 26, 27, 28, 29, 30, 31, 32, 33, 34, 35, 36, 37, 38, 39, 40, 41, 42, 43] rfl
    have hD := hD.sub (ws' := (pO o0 z0 y0 q lim 1 (bN bb) ++ pZ z0 z1 z2 q cI pk' fi' ++ pZ y0 y1 y2 q cI pj fj ++ pT q cI n a b le ro di ++ pS q cI sn ar rt oh ++ pC q r cI cG cn no ot cu wc wl ++ pR r cI wt)) [3, 4, 5, 6, 0, 1, 2, 7, 8, 9, 10, 11, 12, 13, 14, 15, 16, 17, 18, 19, 20, 21, 22, 23, 24, 25, 26, 27, 28, 29, 30, 31, 32, 33, 34, 35, 36, 37, 38, 39, 40, 41, 42, 43] (by decide) rfl
    refine lv_aload_n hx hb dX4_told_35 rfl (lv_at hl 0 rfl) ?_
    refine va_get (ci := 4) (v := .int (nI (bN bb))) (C := RX4) (T := TX4) (N := 8) hx hb hbw in_X4 hown hK hP 0 rfl rfl 7 (by decide) (hbw _ m_167) (fun _ h9 => h9) rfl dX4_told_36 ?_
    refine nr_if_ne (x := bN bb) (tgt := 44) hx hb (by unfold bN; split <;> omega) dX4_told_39 (by decide) (fun h2 => ?_) (fun h2 => ?_)
    · have eb := bN_t h2
      have ef := hfl eb k hk
      refine lv_iload_n hx hb dX4_told_44 rfl (lv_at hl 2 rfl) ?_
      refine lv_iconst (v := nI 1) hx hb dX4_told_45 (by decide) ?_
      refine nr_icmp_ne (x := j) (y := 1) (tgt := 60) hx hb (by omega) (by omega) dX4_told_46 (by decide) (fun h3 => ?_) (fun h3 => ?_)
      · refine lv_aload_n hx hb dX4_told_60 rfl (lv_at hl 0 rfl) ?_
        refine va_get (ci := 4) (v := .ref z0) (C := RX4) (T := TX4) (N := 8) hx hb hbw in_X4 hown hK hP 0 rfl rfl 3 (by decide) (hbw _ m_163) (fun _ h9 => h9) rfl dX4_told_61 ?_
        refine va_getN (ci := 2) (v := .ref z2) (C := RX2) (T := TX2) (N := 5) hx hb hbw in_X2 hown hK hP 1 rfl rfl 4 (by decide) (va_Nw.use rfl (hEN.2 _ (List.mem_filter.mpr ⟨mn_130, rfl⟩))) (fun _ h9 => h9) rfl dX4_told_64 ?_
        refine lv_iload_n hx hb dX4_told_67 rfl (lv_at hl 1 rfl) ?_
        refine nr_iald hx hb hK hP 3 0 rfl rfl (k := k) (by omega) (by omega) dX4_told_68 ?_
        have b_2 := hf6 k
        rw [hQ]
        exact tx_iret hx hb hr hlocks hP hD hS dX4_told_69 (Nat.le_of_ble_eq_true rfl) (Nat.le_of_ble_eq_true rfl) ⟨k, j, ⟨hk, rfl, rfl, hb2⟩, Or.inr ⟨h1, bb, pk', by rw [if_neg h1, if_pos eb, if_pos (by omega), ef], hans⟩, ⟨pk', fi', 1, bN bb, rfl, by omega, hp6, hf6, fun _ => ⟨bb, rfl, hans, hfl⟩⟩⟩
      · refine lv_aload_n hx hb dX4_told_49 rfl (lv_at hl 0 rfl) ?_
        refine va_get (ci := 4) (v := .ref z0) (C := RX4) (T := TX4) (N := 8) hx hb hbw in_X4 hown hK hP 0 rfl rfl 3 (by decide) (hbw _ m_163) (fun _ h9 => h9) rfl dX4_told_50 ?_
        refine lv_iload_n hx hb dX4_told_53 rfl (lv_at hl 1 rfl) ?_
        refine ct_Vi (wc := (pZ z0 z1 z2 q cI pk' fi')) (wr := (pO o0 z0 y0 q lim 1 (bN bb) ++ pZ y0 y1 y2 q cI pj fj ++ pT q cI n a b le ro di ++ pS q cI sn ar rt oh ++ pC q r cI cG cn no ot cu wc wl ++ pR r cI wt)) (As := [.int (nI k)]) (rest := []) ⟨hx, hb, hml, hown, hbw⟩ (EN_E D _) hEN (kX2_factorOf l D cI cG cL cB z0 z1 z2 q pk' fi' k (by omega) hf6) (cwV (C := "CableSizes$Sizing") 1 hbw (gV m_459 m_221 m_222 m_22 m_223) rfl rfl rfl (by decide +kernel) ⟨Nat.le_of_ble_eq_true rfl, Nat.le_of_ble_eq_true rfl⟩) (va_recv hK hP (ci := 2) (q0 := 1) rfl rfl) hP hD hS hA [1, 2, 3] [0, 4, 5, 6, 7, 8, 9, 10, 11, 12, 13, 14, 15, 16, 17, 18, 19, 20, 21, 22, 23, 24, 25, 26, 27, 28, 29, 30, 31, 32, 33, 34, 35, 36, 37, 38, 39, 40, 41, 42, 43] rfl rfl (by decide) (by decide) (by decide) rfl hl.1 rfl (Nat.le_of_ble_eq_true rfl) dX4_told_54 ⟨Nat.le_of_ble_eq_true rfl, Nat.le_of_ble_eq_true rfl⟩ (fun r_3 w_3 H locs hw hP hD hS => ?_)
        obtain ⟨rfl, rfl⟩ := hw
        have hP := hP.sub (ws' := (pO o0 z0 y0 q lim 1 (bN bb) ++ pZ z0 z1 z2 q cI pk' fi' ++ pZ y0 y1 y2 q cI pj fj ++ pT q cI n a b le ro di ++ pS q cI sn ar rt oh ++ pC q r cI cG cn no ot cu wc wl ++ pR r cI wt)) [0, 41, 42, 43, 1, 2, 3, 4, 5, 6, 7, 8, 9, 10, 11, 12, 13, 14, 15, 16, 17, 18, 19, 20, 21, 22, 23, 24, 25, 26, 27, 28, 29, 30, 31, 32, 33, 34, 35, 36, 37, 38, 39, 40] rfl
        have hD := hD.sub (ws' := (pO o0 z0 y0 q lim 1 (bN bb) ++ pZ z0 z1 z2 q cI pk' fi' ++ pZ y0 y1 y2 q cI pj fj ++ pT q cI n a b le ro di ++ pS q cI sn ar rt oh ++ pC q r cI cG cn no ot cu wc wl ++ pR r cI wt)) [0, 41, 42, 43, 1, 2, 3, 4, 5, 6, 7, 8, 9, 10, 11, 12, 13, 14, 15, 16, 17, 18, 19, 20, 21, 22, 23, 24, 25, 26, 27, 28, 29, 30, 31, 32, 33, 34, 35, 36, 37, 38, 39, 40] (by decide) rfl
        refine lv_goto (tgt := 69) hx hb dX4_told_57 (by decide) ?_
        rw [hQ]
        exact tx_iret hx hb hr hlocks hP hD hS dX4_told_69 (Nat.le_of_ble_eq_true rfl) (Nat.le_of_ble_eq_true rfl) ⟨k, j, ⟨hk, rfl, rfl, hb2⟩, Or.inr ⟨h1, bb, pk', by rw [if_neg h1, if_pos eb, if_neg (by omega), ef], hans⟩, ⟨pk', fi', 1, bN bb, rfl, by omega, hp6, hf6, fun _ => ⟨bb, rfl, hans, hfl⟩⟩⟩
    · have eb := bN_f h2
      refine lv_iconst (v := (-1)) hx hb dX4_told_42 (by decide) ?_
      rw [hQ]
      exact tx_iret hx hb hr hlocks hP hD hS dX4_told_43 (Nat.le_of_ble_eq_true rfl) (Nat.le_of_ble_eq_true rfl) ⟨k, j, ⟨hk, rfl, rfl, hb2⟩, Or.inr ⟨h1, bb, pk', by rw [if_neg h1, eb]; rfl, hans⟩, ⟨pk', fi', 1, bN bb, rfl, by omega, hp6, hf6, fun _ => ⟨bb, rfl, hans, hfl⟩⟩⟩
  · refine lv_aload_n hx hb dX4_told_22 rfl (lv_at hl 0 rfl) ?_
    refine va_get (ci := 4) (v := .ref (q 11)) (C := RX4) (T := TX4) (N := 8) hx hb hbw in_X4 hown hK hP 0 rfl rfl 2 (by decide) (hbw _ m_162) (fun _ h9 => h9) rfl dX4_told_23 ?_
    refine lv_iload_n hx hb dX4_told_26 rfl (lv_at hl 1 rfl) ?_
    refine ct_Vi (wc := (pC q r cI cG cn no ot cu wc wl ++ pR r cI wt)) (wr := (pO o0 z0 y0 q lim kn ex ++ pZ z0 z1 z2 q cI pk fi ++ pZ y0 y1 y2 q cI pj fj ++ pT q cI n a b le ro di ++ pS q cI sn ar rt oh)) (As := [.int (nI k)]) (rest := []) ⟨hx, hb, hml, hown, hbw⟩ (EN_E D _) hEN (kX0_countThrough l D cI cG cL cB q r cn no ot cu wc wl wt k hcn (by omega) hwc hwt) (cwV (C := "CableSizes$Cables") 1 hbw (gV m_455 m_456 m_457 m_21 m_458) rfl rfl rfl (by decide +kernel) ⟨Nat.le_of_ble_eq_true rfl, Nat.le_of_ble_eq_true rfl⟩) (va_recv hK hP (ci := 0) (q0 := 17) rfl rfl) hP hD hS hA [17, 18, 19, 20, 21, 22, 23, 24, 25, 26, 27, 28, 29, 30, 31, 32, 33, 34, 35, 36, 37, 38, 39, 40, 41, 42, 43] [0, 1, 2, 3, 4, 5, 6, 7, 8, 9, 10, 11, 12, 13, 14, 15, 16] rfl rfl (by decide) (by decide) (by decide) rfl hl.1 rfl (Nat.le_of_ble_eq_true rfl) dX4_told_27 ⟨Nat.le_of_ble_eq_true rfl, Nat.le_of_ble_eq_true rfl⟩ (fun r_4 w_4 H locs hw hP hD hS => ?_)
    obtain ⟨rfl, rfl⟩ := hw
    have hP := hP.sub (ws' := (pO o0 z0 y0 q lim kn ex ++ pZ z0 z1 z2 q cI pk fi ++ pZ y0 y1 y2 q cI pj fj ++ pT q cI n a b le ro di ++ pS q cI sn ar rt oh ++ pC q r cI cG cn no ot cu wc wl ++ pR r cI wt)) [0, 1, 2, 3, 4, 5, 6, 7, 8, 9, 10, 11, 12, 13, 14, 15, 16, 17, 18, 19, 20, 21, 22, 23, 24, 25, 26, 27, 28, 29, 30, 31, 32, 33, 34, 35, 36, 37, 38, 39, 40, 41, 42, 43] rfl
    have hD := hD.sub (ws' := (pO o0 z0 y0 q lim kn ex ++ pZ z0 z1 z2 q cI pk fi ++ pZ y0 y1 y2 q cI pj fj ++ pT q cI n a b le ro di ++ pS q cI sn ar rt oh ++ pC q r cI cG cn no ot cu wc wl ++ pR r cI wt)) [0, 1, 2, 3, 4, 5, 6, 7, 8, 9, 10, 11, 12, 13, 14, 15, 16, 17, 18, 19, 20, 21, 22, 23, 24, 25, 26, 27, 28, 29, 30, 31, 32, 33, 34, 35, 36, 37, 38, 39, 40, 41, 42, 43] (by decide) rfl
    rw [hQ]
    exact tx_iret hx hb hr hlocks hP hD hS dX4_told_30 (Nat.le_of_ble_eq_true rfl) (Nat.le_of_ble_eq_true rfl) ⟨k, j, ⟨hk, rfl, rfl, hb2⟩, Or.inl ⟨h1, rfl⟩, ⟨pk, fi, kn, ex, rfl, hL⟩⟩
set_option maxHeartbeats 4000000 in
set_option maxRecDepth 100000 in
/-- cableAt -/
theorem kX4_cableAt (l : Launch) (hl9 : l.stackTraces = false) (D : va_G) (cI cG cL cB : ClassId) (o0 z0 z1 z2 y0 y1 y2 : Nat) (q r : Nat → Nat) (pj fj : Nat → Nat) (lim kn ex : Nat) (pk fi : Nat → Nat) (n : Nat) (a b le ro di : Nat → Nat) (sn : Nat) (ar rt oh : Nat → Nat) (cn : Nat) (no ot cu wc wl : Nat → Nat) (wt : Nat → Nat → Nat) (x0 x1 : Int32) (hT : okT n a b le ro) (hz : okZ sn ar rt oh cn cu wc wl wt) (hC : okC n a b le cn no ot wc wl wt) (hL : okL n ro sn ar rt oh cn cu wc wl wt lim kn ex pk fi) (hlim : lim ≤ 1000000) : tx_i l yX4_cableAt (.code yX4_cableAt cX4_cableAt 3 (some .int) :: bw) ({ frames := 7, cells := 2, slots := 12, locals := 131 }) (EX D (tyL cI cG cL cB)) D vwCl (pO o0 z0 y0 q lim kn ex ++ pZ z0 z1 z2 q cI pk fi ++ pZ y0 y1 y2 q cI pj fj ++ pT q cI n a b le ro di ++ pS q cI sn ar rt oh ++ pC q r cI cG cn no ot cu wc wl ++ pR r cI wt) [.ref o0, .int x0, .int x1] (fun v W => ∃ k j, (k < cn ∧ x0 = nI k ∧ x1 = nI j ∧ j ≤ 1) ∧ (∃ bb p, v = (if bb = true then (if j = 0 then nI (cz_drop oh cu wl p k) else nI (cy_carry rt wc p (cz_fill cn ar wc ro wt p) wt k)) else -1) ∧ cs_ans cn sn ar rt oh cu wc wl ro wt lim bb p) ∧ (∃ pk' fi' kn' ex', W = (pO o0 z0 y0 q lim kn' ex' ++ pZ z0 z1 z2 q cI pk' fi' ++ pZ y0 y1 y2 q cI pj fj ++ pT q cI n a b le ro di ++ pS q cI sn ar rt oh ++ pC q r cI cG cn no ot cu wc wl ++ pR r cI wt) ∧ okL n ro sn ar rt oh cn cu wc wl wt lim kn' ex' pk' fi')) (fun E W => E = sIAE ∧ ¬ ((∃ k, k < cn ∧ x0 = nI k) ∧ inB x1 0 1) ∧ W = (pO o0 z0 y0 q lim kn ex ++ pZ z0 z1 z2 q cI pk fi ++ pZ y0 y1 y2 q cI pj fj ++ pT q cI n a b le ro di ++ pS q cI sn ar rt oh ++ pC q r cI cG cn no ot cu wc wl ++ pR r cI wt)) 2 12 := by
  refine tx_ofi (by decide) (Nat.le_of_ble_eq_true rfl) ?_
  intro p e s m below meth cd A H locs av Q ls hx hb hr hml hown hlocks hex hbw hEX hZ hQ hP hD hS hA hl
  have hown : s.vm.findClass RX4 = some m.cls := hown
  have hEN := hEX.1
  have hK := hEN.1
  have hl : lv_has ls 3 [(0, .ref o0), (1, .int x0), (2, .int x1)] := hl
  obtain ⟨hn, hok, ha0, hb0, hl0, hro, hro1⟩ := id hT
  obtain ⟨hsn, har, hrt, hoh, hcn, hcu, hwc, hwl, hwt⟩ := id hz
  have hy := okY_of hT hC
  obtain ⟨hkn, hpk, hfi, hkl⟩ := id hL
  refine lv_iload_n hx hb dX4_cableAt_0 rfl (lv_at hl 1 rfl) ?_
  refine lv_aload_n hx hb dX4_cableAt_1 rfl (lv_at hl 0 rfl) ?_
  refine va_get (ci := 4) (v := .ref (q 11)) (C := RX4) (T := TX4) (N := 8) hx hb hbw in_X4 hown hK hP 0 rfl rfl 2 (by decide) (hbw _ m_162) (fun _ h9 => h9) rfl dX4_cableAt_2 ?_
  refine va_getN (ci := 0) (v := .int (nI cn)) (C := RX0) (T := TX0) (N := 7) hx hb hbw in_X0 hown hK hP 17 rfl rfl 0 (by decide) (va_Nw.use rfl (hEN.2 _ (List.mem_filter.mpr ⟨mn_88, rfl⟩))) (fun _ h9 => h9) rfl dX4_cableAt_5 ?_
  rw [hQ]
  refine tx_Sv (wc := ([] : va_W)) (wr := (pO o0 z0 y0 q lim kn ex ++ pZ z0 z1 z2 q cI pk fi ++ pZ y0 y1 y2 q cI pj fj ++ pT q cI n a b le ro di ++ pS q cI sn ar rt oh ++ pC q r cI cG cn no ot cu wc wl ++ pR r cI wt)) (As := [.int x0, .int (nI cn)]) (rest := []) ⟨hx, hb, hml, hown, hbw⟩ (EX_E D _) hEX hZ hex hlocks (kX4_checkNumber l hl9 D cI cG cL cB x0 cn (by omega)) (gS 2 hbw m_406 m_407 m_18 m_408 rfl rfl (by decide +kernel) ⟨Nat.le_of_ble_eq_true rfl, Nat.le_of_ble_eq_true rfl⟩) hP hD hS hA [] [0, 1, 2, 3, 4, 5, 6, 7, 8, 9, 10, 11, 12, 13, 14, 15, 16, 17, 18, 19, 20, 21, 22, 23, 24, 25, 26, 27, 28, 29, 30, 31, 32, 33, 34, 35, 36, 37, 38, 39, 40, 41, 42, 43] rfl rfl (by decide) (by decide) (by decide) rfl hl.1 rfl (Nat.le_of_ble_eq_true rfl) dX4_cableAt_8 ⟨Nat.le_of_ble_eq_true rfl, Nat.le_of_ble_eq_true rfl⟩ (Nat.le_of_ble_eq_true rfl) (Nat.le_of_ble_eq_true rfl) (fun E w1 hp => ⟨hp.1, fun h => hp.2.2 h.1, by rw [hp.2.1, List.append_nil]⟩) (fun w1 H locs hw hP hD hS => ?_)
  rw [← hQ]
  obtain ⟨rfl, k, hk, hx0⟩ := hw
  rw [List.append_nil] at hP hD
  subst hx0
  refine lv_iload_n hx hb dX4_cableAt_11 rfl (lv_at hl 2 rfl) ?_
  refine lv_iconst (v := nI 0) hx hb dX4_cableAt_12 (by decide) ?_
  refine lv_iconst (v := nI 1) hx hb dX4_cableAt_13 (by decide) ?_
  rw [hQ]
  refine tx_Sv (wc := ([] : va_W)) (wr := (pO o0 z0 y0 q lim kn ex ++ pZ z0 z1 z2 q cI pk fi ++ pZ y0 y1 y2 q cI pj fj ++ pT q cI n a b le ro di ++ pS q cI sn ar rt oh ++ pC q r cI cG cn no ot cu wc wl ++ pR r cI wt)) (As := [.int x1, .int (nI 0), .int (nI 1)]) (rest := []) ⟨hx, hb, hml, hown, hbw⟩ (EX_E D _) hEX hZ hex hlocks (kX4_checkBounds l hl9 D cI cG cL cB x1 0 1 (by omega) (by omega)) (gS 3 hbw m_255 m_256 m_18 m_257 rfl rfl (by decide +kernel) ⟨Nat.le_of_ble_eq_true rfl, Nat.le_of_ble_eq_true rfl⟩) hP hD hS hA [] [0, 1, 2, 3, 4, 5, 6, 7, 8, 9, 10, 11, 12, 13, 14, 15, 16, 17, 18, 19, 20, 21, 22, 23, 24, 25, 26, 27, 28, 29, 30, 31, 32, 33, 34, 35, 36, 37, 38, 39, 40, 41, 42, 43] rfl rfl (by decide) (by decide) (by decide) rfl hl.1 rfl (Nat.le_of_ble_eq_true rfl) dX4_cableAt_14 ⟨Nat.le_of_ble_eq_true rfl, Nat.le_of_ble_eq_true rfl⟩ (Nat.le_of_ble_eq_true rfl) (Nat.le_of_ble_eq_true rfl) (fun E w1 hp => ⟨hp.1, fun h => hp.2.2 h.2, by rw [hp.2.1, List.append_nil]⟩) (fun w1 H locs hw hP hD hS => ?_)
  rw [← hQ]
  obtain ⟨rfl, j, hx1, hb1, hb2⟩ := hw
  rw [List.append_nil] at hP hD
  subst hx1
  refine lv_aload_n hx hb dX4_cableAt_17 rfl (lv_at hl 0 rfl) ?_
  refine ct_Vv (wc := (pO o0 z0 y0 q lim kn ex ++ pZ z0 z1 z2 q cI pk fi ++ pT q cI n a b le ro di ++ pS q cI sn ar rt oh ++ pC q r cI cG cn no ot cu wc wl ++ pR r cI wt)) (wr := (pZ y0 y1 y2 q cI pj fj)) (As := []) (rest := []) ⟨hx, hb, hml, hown, hbw⟩ (EN_E D _) hEN (kX4_findLeast l D cI cG cL cB o0 z0 z1 z2 q r y0 lim kn ex pk fi n a b le ro di sn ar rt oh cn no ot cu wc wl wt hT hz hC hL hlim) (cwV (C := "CableSizes") 0 hbw (gV m_189 m_191 m_0 m_18 m_192) rfl rfl rfl (by decide +kernel) ⟨Nat.le_of_ble_eq_true rfl, Nat.le_of_ble_eq_true rfl⟩) (va_recv hK hP (ci := 4) (q0 := 0) rfl rfl) hP hD hS hA [0, 1, 2, 3, 7, 8, 9, 10, 11, 12, 13, 14, 15, 16, 17, 18, 19, 20, 21, 22, 23, 24, 25, 26, 27, 28, 29, 30, 31, 32, 33, 34, 35, 36, 37, 38, 39, 40, 41, 42, 43] [4, 5, 6] rfl rfl (by decide) (by decide) (by decide) rfl hl.1 rfl (Nat.le_of_ble_eq_true rfl) dX4_cableAt_18 ⟨Nat.le_of_ble_eq_true rfl, Nat.le_of_ble_eq_true rfl⟩ (fun w_1 H locs hw hP hD hS => ?_)
  obtain ⟨pk', fi', bb, rfl, hp6, hf6, hans, hfl⟩ := hw
  have hP := hP.sub (ws' := (pO o0 z0 y0 q lim 1 (bN bb) ++ pZ z0 z1 z2 q cI pk' fi' ++ pZ y0 y1 y2 q cI pj fj ++ pT q cI n a b le ro di ++ pS q cI sn ar rt oh ++ pC q r cI cG cn no ot cu wc wl ++ pR r cI wt)) [3, 4, 5, 6, 0, 1, 2, 7, 8, 9, 10, 11, 12, 13, 14, 15, 16, 17, 18, 19, 20, 21, 22, 23, 24, 25, 26, 27, 28, 29, 30, 31, 32, 33, 34, 35, 36, 37, 38, 39, 40, 41, 42, 43] rfl
  have hD := hD.sub (ws' := (pO o0 z0 y0 q lim 1 (bN bb) ++ pZ z0 z1 z2 q cI pk' fi' ++ pZ y0 y1 y2 q cI pj fj ++ pT q cI n a b le ro di ++ pS q cI sn ar rt oh ++ pC q r cI cG cn no ot cu wc wl ++ pR r cI wt)) [3, 4, 5, 6, 0, 1, 2, 7, 8, 9, 10, 11, 12, 13, 14, 15, 16, 17, 18, 19, 20, 21, 22, 23, 24, 25, 26, 27, 28, 29, 30, 31, 32, 33, 34, 35, 36, 37, 38, 39, 40, 41, 42, 43] (by decide) rfl
  refine lv_aload_n hx hb dX4_cableAt_21 rfl (lv_at hl 0 rfl) ?_
  refine va_get (ci := 4) (v := .int (nI (bN bb))) (C := RX4) (T := TX4) (N := 8) hx hb hbw in_X4 hown hK hP 0 rfl rfl 7 (by decide) (hbw _ m_167) (fun _ h9 => h9) rfl dX4_cableAt_22 ?_
  refine nr_if_ne (x := bN bb) (tgt := 30) hx hb (by unfold bN; split <;> omega) dX4_cableAt_25 (by decide) (fun h2 => ?_) (fun h2 => ?_)
  · have eb := bN_t h2
    refine lv_iload_n hx hb dX4_cableAt_30 rfl (lv_at hl 2 rfl) ?_
    refine nr_if_ne (x := j) (tgt := 45) hx hb (by omega) dX4_cableAt_31 (by decide) (fun h3 => ?_) (fun h3 => ?_)
    · refine lv_aload_n hx hb dX4_cableAt_45 rfl (lv_at hl 0 rfl) ?_
      refine va_get (ci := 4) (v := .ref z0) (C := RX4) (T := TX4) (N := 8) hx hb hbw in_X4 hown hK hP 0 rfl rfl 3 (by decide) (hbw _ m_163) (fun _ h9 => h9) rfl dX4_cableAt_46 ?_
      refine lv_iload_n hx hb dX4_cableAt_49 rfl (lv_at hl 1 rfl) ?_
      refine ct_Vi (wc := (pZ z0 z1 z2 q cI pk' fi' ++ pS q cI sn ar rt oh ++ pC q r cI cG cn no ot cu wc wl ++ pR r cI wt)) (wr := (pO o0 z0 y0 q lim 1 (bN bb) ++ pZ y0 y1 y2 q cI pj fj ++ pT q cI n a b le ro di)) (As := [.int (nI k)]) (rest := []) ⟨hx, hb, hml, hown, hbw⟩ (EN_E D _) hEN (kX2_carriedBy l D cI cG cL cB z0 z1 z2 q r pk' fi' sn ar rt oh cn no ot cu wc wl wt k (by omega) hz hp6 hf6) (cwV (C := "CableSizes$Sizing") 1 hbw (gV m_468 m_217 m_218 m_22 m_219) rfl rfl rfl (by decide +kernel) ⟨Nat.le_of_ble_eq_true rfl, Nat.le_of_ble_eq_true rfl⟩) (va_recv hK hP (ci := 2) (q0 := 1) rfl rfl) hP hD hS hA [1, 2, 3, 13, 14, 15, 16, 17, 18, 19, 20, 21, 22, 23, 24, 25, 26, 27, 28, 29, 30, 31, 32, 33, 34, 35, 36, 37, 38, 39, 40, 41, 42, 43] [0, 4, 5, 6, 7, 8, 9, 10, 11, 12] rfl rfl (by decide) (by decide) (by decide) rfl hl.1 rfl (Nat.le_of_ble_eq_true rfl) dX4_cableAt_50 ⟨Nat.le_of_ble_eq_true rfl, Nat.le_of_ble_eq_true rfl⟩ (fun r_2 w_2 H locs hw hP hD hS => ?_)
      obtain ⟨rfl, rfl⟩ := hw
      have hP := hP.sub (ws' := (pO o0 z0 y0 q lim 1 (bN bb) ++ pZ z0 z1 z2 q cI pk' fi' ++ pZ y0 y1 y2 q cI pj fj ++ pT q cI n a b le ro di ++ pS q cI sn ar rt oh ++ pC q r cI cG cn no ot cu wc wl ++ pR r cI wt)) [0, 10, 11, 12, 1, 2, 3, 4, 5, 6, 7, 8, 9, 13, 14, 15, 16, 17, 18, 19, 20, 21, 22, 23, 24, 25, 26, 27, 28, 29, 30, 31, 32, 33, 34, 35, 36, 37, 38, 39, 40, 41, 42, 43] rfl
      have hD := hD.sub (ws' := (pO o0 z0 y0 q lim 1 (bN bb) ++ pZ z0 z1 z2 q cI pk' fi' ++ pZ y0 y1 y2 q cI pj fj ++ pT q cI n a b le ro di ++ pS q cI sn ar rt oh ++ pC q r cI cG cn no ot cu wc wl ++ pR r cI wt)) [0, 10, 11, 12, 1, 2, 3, 4, 5, 6, 7, 8, 9, 13, 14, 15, 16, 17, 18, 19, 20, 21, 22, 23, 24, 25, 26, 27, 28, 29, 30, 31, 32, 33, 34, 35, 36, 37, 38, 39, 40, 41, 42, 43] (by decide) rfl
      have ec : cy_carry rt wc pk' fi' wt k = cy_carry rt wc pk' (cz_fill cn ar wc ro wt pk') wt k := by unfold cy_carry; rw [cz_mg_congr (fun i hi => hfl eb _ (hy.2.2.2.1 k hk i hi))]
      rw [hQ]
      exact tx_iret hx hb hr hlocks hP hD hS dX4_cableAt_53 (Nat.le_of_ble_eq_true rfl) (Nat.le_of_ble_eq_true rfl) ⟨k, j, ⟨hk, rfl, rfl, hb2⟩, ⟨bb, pk', by rw [if_pos eb, if_neg (by omega), ec], hans⟩, ⟨pk', fi', 1, bN bb, rfl, by omega, hp6, hf6, fun _ => ⟨bb, rfl, hans, hfl⟩⟩⟩
    · refine lv_aload_n hx hb dX4_cableAt_34 rfl (lv_at hl 0 rfl) ?_
      refine va_get (ci := 4) (v := .ref z0) (C := RX4) (T := TX4) (N := 8) hx hb hbw in_X4 hown hK hP 0 rfl rfl 3 (by decide) (hbw _ m_163) (fun _ h9 => h9) rfl dX4_cableAt_35 ?_
      refine lv_iload_n hx hb dX4_cableAt_38 rfl (lv_at hl 1 rfl) ?_
      refine ct_Vi (wc := (pZ z0 z1 z2 q cI pk' fi' ++ pS q cI sn ar rt oh ++ pC q r cI cG cn no ot cu wc wl)) (wr := (pO o0 z0 y0 q lim 1 (bN bb) ++ pZ y0 y1 y2 q cI pj fj ++ pT q cI n a b le ro di ++ pR r cI wt)) (As := [.int (nI k)]) (rest := []) ⟨hx, hb, hml, hown, hbw⟩ (EN_E D _) hEN (kX2_dropOf l D cI cG cL cB z0 z1 z2 q r pk' fi' sn ar rt oh cn no ot cu wc wl wt k (by omega) hz hp6 hf6) (cwV (C := "CableSizes$Sizing") 1 hbw (gV m_467 m_228 m_229 m_22 m_230) rfl rfl rfl (by decide +kernel) ⟨Nat.le_of_ble_eq_true rfl, Nat.le_of_ble_eq_true rfl⟩) (va_recv hK hP (ci := 2) (q0 := 1) rfl rfl) hP hD hS hA [1, 2, 3, 13, 14, 15, 16, 17, 18, 19, 20, 21, 22, 23] [0, 4, 5, 6, 7, 8, 9, 10, 11, 12, 24, 25, 26, 27, 28, 29, 30, 31, 32, 33, 34, 35, 36, 37, 38, 39, 40, 41, 42, 43] rfl rfl (by decide) (by decide) (by decide) rfl hl.1 rfl (Nat.le_of_ble_eq_true rfl) dX4_cableAt_39 ⟨Nat.le_of_ble_eq_true rfl, Nat.le_of_ble_eq_true rfl⟩ (fun r_3 w_3 H locs hw hP hD hS => ?_)
      obtain ⟨rfl, rfl⟩ := hw
      have hP := hP.sub (ws' := (pO o0 z0 y0 q lim 1 (bN bb) ++ pZ z0 z1 z2 q cI pk' fi' ++ pZ y0 y1 y2 q cI pj fj ++ pT q cI n a b le ro di ++ pS q cI sn ar rt oh ++ pC q r cI cG cn no ot cu wc wl ++ pR r cI wt)) [0, 30, 31, 32, 1, 2, 3, 4, 5, 6, 7, 8, 9, 33, 34, 35, 36, 37, 38, 39, 40, 41, 42, 43, 10, 11, 12, 13, 14, 15, 16, 17, 18, 19, 20, 21, 22, 23, 24, 25, 26, 27, 28, 29] rfl
      have hD := hD.sub (ws' := (pO o0 z0 y0 q lim 1 (bN bb) ++ pZ z0 z1 z2 q cI pk' fi' ++ pZ y0 y1 y2 q cI pj fj ++ pT q cI n a b le ro di ++ pS q cI sn ar rt oh ++ pC q r cI cG cn no ot cu wc wl ++ pR r cI wt)) [0, 30, 31, 32, 1, 2, 3, 4, 5, 6, 7, 8, 9, 33, 34, 35, 36, 37, 38, 39, 40, 41, 42, 43, 10, 11, 12, 13, 14, 15, 16, 17, 18, 19, 20, 21, 22, 23, 24, 25, 26, 27, 28, 29] (by decide) rfl
      refine lv_goto (tgt := 53) hx hb dX4_cableAt_42 (by decide) ?_
      rw [hQ]
      exact tx_iret hx hb hr hlocks hP hD hS dX4_cableAt_53 (Nat.le_of_ble_eq_true rfl) (Nat.le_of_ble_eq_true rfl) ⟨k, j, ⟨hk, rfl, rfl, hb2⟩, ⟨bb, pk', by rw [if_pos eb, if_pos h3], hans⟩, ⟨pk', fi', 1, bN bb, rfl, by omega, hp6, hf6, fun _ => ⟨bb, rfl, hans, hfl⟩⟩⟩
  · have eb := bN_f h2
    refine lv_iconst (v := (-1)) hx hb dX4_cableAt_28 (by decide) ?_
    rw [hQ]
    exact tx_iret hx hb hr hlocks hP hD hS dX4_cableAt_29 (Nat.le_of_ble_eq_true rfl) (Nat.le_of_ble_eq_true rfl) ⟨k, j, ⟨hk, rfl, rfl, hb2⟩, ⟨bb, pk', by rw [eb]; rfl, hans⟩, ⟨pk', fi', 1, bN bb, rfl, by omega, hp6, hf6, fun _ => ⟨bb, rfl, hans, hfl⟩⟩⟩
