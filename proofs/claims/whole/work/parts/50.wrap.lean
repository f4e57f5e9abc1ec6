/-! the law's wrappers -/
set_option maxHeartbeats 4000000 in
set_option maxRecDepth 100000 in
theorem kL_tray {l : Launch} {D : va_G} {cI cG cL cB : ClassId} {ws : va_W} {rm : Room} {b oo : Nat} {fs : List Value} {f : Nat → Int64} {x0 x1 x2 x3 : Int32} {post : Int32 → va_W → Prop} {pX : String → va_W → Prop} {mc ms : Nat} (hM : tx_i l yX4_tray (.code yX4_tray cX4_tray 7 (some .int) :: bw) rm (EX D (tyL cI cG cL cB)) D vwCl ws [.ref b, .int x0, .int x1, .int x2, .int x3] post pX mc ms) (hrc : rm.cells = mc) (hrs : rm.slots = ms) (hb0 : ws[0]? = some (b, .inr (4, fs))) (hX : ∀ E w, pX E w → E = sIAE ∨ E = sISE) :
    tw_i l yL_tray (.codeWith yL_tray cL_tray 7 (some .int) [(0, 14, 17, 13), (0, 14, 21, 15)] :: bw) ({ frames := rm.frames + 1, cells := mc, slots := ms, locals := 8 + (7 + 11) + rm.locals }) (EW D (tyL cI cG cL cB)) D vwCl (lA oo cL f :: ws) [.ref b, .int x0, .int x1, .int x2, .int x3, .ref oo] (fun k W => (k = 0 ∧ ∃ v w1 f', post v w1 ∧ f' 0 = v.toInt64 ∧ W = lA oo cL f' :: w1) ∨ (k = 1 ∧ ∃ w1, pX sIAE w1 ∧ W = lA oo cL f :: w1) ∨ (k = 2 ∧ ∃ w1, pX sISE w1 ∧ W = lA oo cL f :: w1)) mc ms := by
  refine tw_of (by decide) (Nat.le_of_ble_eq_true rfl) ?_
  intro p e s m below meth cd A H locs av Q ls hx hb hr hml hown hlocks hex hbw hEW hZ hQ hP hD hS hA hl
  have hown : s.vm.findClass RL = some m.cls := hown
  have hEX := hEW.1
  have hK := hEX.1.1
  have hl : lv_has ls 7 [(0, .ref b), (1, .int x0), (2, .int x1), (3, .int x2), (4, .int x3), (5, .ref oo)] := hl
  refine lv_aload hx hb dL_tray_0 (lv_at hl 5 rfl) ?_
  refine lv_iconst (v := nI 0) hx hb dL_tray_2 (by decide) ?_
  refine lv_aload_n hx hb dL_tray_3 rfl (lv_at hl 0 rfl) ?_
  refine lv_iload_n hx hb dL_tray_4 rfl (lv_at hl 1 rfl) ?_
  refine lv_iload_n hx hb dL_tray_5 rfl (lv_at hl 2 rfl) ?_
  refine lv_iload_n hx hb dL_tray_6 rfl (lv_at hl 3 rfl) ?_
  refine lv_iload hx hb dL_tray_7 (lv_at hl 4 rfl) ?_
  refine tw_Vi (As := [.int x0, .int x1, .int x2, .int x3]) (rest := [.int (nI 0), .ref oo]) ⟨hx, hb, hml, hown, hbw⟩ (EX_E D _) hEX hZ hM (cwV (C := "CableSizes") 4 hbw (gV m_248 m_249 m_250 m_18 m_251) rfl hrc hrs (by decide +kernel) ⟨Nat.le_refl _, Nat.le_refl _⟩) (va_recv hK hP (ci := 4) (q0 := 1) rfl hb0) hP hD hS hA rfl hl.1 rfl (Nat.le_of_ble_eq_true rfl) dL_tray_9 ⟨Nat.le_of_eq (Nat.zero_add _), Nat.le_of_eq (Nat.zero_add _)⟩ (fun E ce q9 w1 H locs hp hP hD hS hce hcv hcl => ?_) (fun v w1 H locs hw hP hD hS => ?_)
  · rcases hX E w1 hp with rfl | rfl
    · refine tw_iae (x := ⟨0, 14, 17, 13⟩) hown hbw hEX hex rfl rfl hce hcv hcl ?_
      refine lv_astore (lv' := [(6, .ref q9), (0, .ref b), (1, .int x0), (2, .int x1), (3, .int x2), (4, .int x3), (5, .ref oo)]) hx hb dL_tray_17 hl (by decide) rfl (fun ls hl => ?_)
      refine lv_iconst (v := nI 1) hx hb dL_tray_19 (by decide) ?_
      rw [hQ]
      exact W.widen (Nat.le_of_eq (Nat.zero_add _)) (Nat.le_of_eq (Nat.zero_add _)) (ct_iret hx hb hr hlocks hP hD hS dL_tray_20 (Or.inr (Or.inl ⟨rfl, w1, hp, rfl⟩)))
    · refine tw_ise (z := ⟨0, 14, 17, 13⟩) (x := ⟨0, 14, 21, 15⟩) hown hbw hEW hex rfl rfl rfl hce hcv hcl ?_
      refine lv_astore (lv' := [(6, .ref q9), (0, .ref b), (1, .int x0), (2, .int x1), (3, .int x2), (4, .int x3), (5, .ref oo)]) hx hb dL_tray_21 hl (by decide) rfl (fun ls hl => ?_)
      refine lv_iconst (v := nI 2) hx hb dL_tray_23 (by decide) ?_
      rw [hQ]
      exact W.widen (Nat.le_of_eq (Nat.zero_add _)) (Nat.le_of_eq (Nat.zero_add _)) (ct_iret hx hb hr hlocks hP hD hS dL_tray_24 (Or.inr (Or.inr ⟨rfl, w1, hp, rfl⟩)))
  · refine lv_i2l (v := v.toInt64) hx hb dL_tray_12 rfl ?_
    refine va_last (n := 1) hx hb hK hP hD hS 0 2 rfl rfl (i := nI 0) (x := v.toInt64) (vp_in_nI (by omega) (by omega)) dL_tray_13 (fun H locs hP hD hS => ?_)
    refine lv_goto (tgt := 25) hx hb dL_tray_14 (by decide) ?_
    refine lv_iconst (v := nI 0) hx hb dL_tray_25 (by decide) ?_
    rw [hQ]
    exact W.widen (Nat.le_of_eq (Nat.zero_add _)) (Nat.le_of_eq (Nat.zero_add _)) (ct_iret hx hb hr hlocks hP hD hS dL_tray_26 (Or.inl ⟨rfl, v, w1, vp_updL f 0 v.toInt64, hw, tw_up f _, rfl⟩))
set_option maxHeartbeats 4000000 in
set_option maxRecDepth 100000 in
theorem kL_size {l : Launch} {D : va_G} {cI cG cL cB : ClassId} {ws : va_W} {rm : Room} {b oo : Nat} {fs : List Value} {f : Nat → Int64} {x0 x1 x2 : Int32} {post : Int32 → va_W → Prop} {pX : String → va_W → Prop} {mc ms : Nat} (hM : tx_i l yX4_size (.code yX4_size cX4_size 4 (some .int) :: bw) rm (EX D (tyL cI cG cL cB)) D vwCl ws [.ref b, .int x0, .int x1, .int x2] post pX mc ms) (hrc : rm.cells = mc) (hrs : rm.slots = ms) (hb0 : ws[0]? = some (b, .inr (4, fs))) (hX : ∀ E w, pX E w → E = sIAE ∨ E = sISE) :
    tw_i l yL_size (.codeWith yL_size cL_size 6 (some .int) [(0, 12, 15, 13), (0, 12, 19, 15)] :: bw) ({ frames := rm.frames + 1, cells := mc, slots := ms, locals := 8 + (4 + 11) + rm.locals }) (EW D (tyL cI cG cL cB)) D vwCl (lA oo cL f :: ws) [.ref b, .int x0, .int x1, .int x2, .ref oo] (fun k W => (k = 0 ∧ ∃ v w1 f', post v w1 ∧ f' 0 = v.toInt64 ∧ W = lA oo cL f' :: w1) ∨ (k = 1 ∧ ∃ w1, pX sIAE w1 ∧ W = lA oo cL f :: w1) ∨ (k = 2 ∧ ∃ w1, pX sISE w1 ∧ W = lA oo cL f :: w1)) mc ms := by
  refine tw_of (by decide) (Nat.le_of_ble_eq_true rfl) ?_
  intro p e s m below meth cd A H locs av Q ls hx hb hr hml hown hlocks hex hbw hEW hZ hQ hP hD hS hA hl
  have hown : s.vm.findClass RL = some m.cls := hown
  have hEX := hEW.1
  have hK := hEX.1.1
  have hl : lv_has ls 6 [(0, .ref b), (1, .int x0), (2, .int x1), (3, .int x2), (4, .ref oo)] := hl
  refine lv_aload hx hb dL_size_0 (lv_at hl 4 rfl) ?_
  refine lv_iconst (v := nI 0) hx hb dL_size_2 (by decide) ?_
  refine lv_aload_n hx hb dL_size_3 rfl (lv_at hl 0 rfl) ?_
  refine lv_iload_n hx hb dL_size_4 rfl (lv_at hl 1 rfl) ?_
  refine lv_iload_n hx hb dL_size_5 rfl (lv_at hl 2 rfl) ?_
  refine lv_iload_n hx hb dL_size_6 rfl (lv_at hl 3 rfl) ?_
  refine tw_Vi (As := [.int x0, .int x1, .int x2]) (rest := [.int (nI 0), .ref oo]) ⟨hx, hb, hml, hown, hbw⟩ (EX_E D _) hEX hZ hM (cwV (C := "CableSizes") 3 hbw (gV m_373 m_374 m_375 m_18 m_376) rfl hrc hrs (by decide +kernel) ⟨Nat.le_refl _, Nat.le_refl _⟩) (va_recv hK hP (ci := 4) (q0 := 1) rfl hb0) hP hD hS hA rfl hl.1 rfl (Nat.le_of_ble_eq_true rfl) dL_size_7 ⟨Nat.le_of_eq (Nat.zero_add _), Nat.le_of_eq (Nat.zero_add _)⟩ (fun E ce q9 w1 H locs hp hP hD hS hce hcv hcl => ?_) (fun v w1 H locs hw hP hD hS => ?_)
  · rcases hX E w1 hp with rfl | rfl
    · refine tw_iae (x := ⟨0, 12, 15, 13⟩) hown hbw hEX hex rfl rfl hce hcv hcl ?_
      refine lv_astore (lv' := [(5, .ref q9), (0, .ref b), (1, .int x0), (2, .int x1), (3, .int x2), (4, .ref oo)]) hx hb dL_size_15 hl (by decide) rfl (fun ls hl => ?_)
      refine lv_iconst (v := nI 1) hx hb dL_size_17 (by decide) ?_
      rw [hQ]
      exact W.widen (Nat.le_of_eq (Nat.zero_add _)) (Nat.le_of_eq (Nat.zero_add _)) (ct_iret hx hb hr hlocks hP hD hS dL_size_18 (Or.inr (Or.inl ⟨rfl, w1, hp, rfl⟩)))
    · refine tw_ise (z := ⟨0, 12, 15, 13⟩) (x := ⟨0, 12, 19, 15⟩) hown hbw hEW hex rfl rfl rfl hce hcv hcl ?_
      refine lv_astore (lv' := [(5, .ref q9), (0, .ref b), (1, .int x0), (2, .int x1), (3, .int x2), (4, .ref oo)]) hx hb dL_size_19 hl (by decide) rfl (fun ls hl => ?_)
      refine lv_iconst (v := nI 2) hx hb dL_size_21 (by decide) ?_
      rw [hQ]
      exact W.widen (Nat.le_of_eq (Nat.zero_add _)) (Nat.le_of_eq (Nat.zero_add _)) (ct_iret hx hb hr hlocks hP hD hS dL_size_22 (Or.inr (Or.inr ⟨rfl, w1, hp, rfl⟩)))
  · refine lv_i2l (v := v.toInt64) hx hb dL_size_10 rfl ?_
    refine va_last (n := 1) hx hb hK hP hD hS 0 2 rfl rfl (i := nI 0) (x := v.toInt64) (vp_in_nI (by omega) (by omega)) dL_size_11 (fun H locs hP hD hS => ?_)
    refine lv_goto (tgt := 23) hx hb dL_size_12 (by decide) ?_
    refine lv_iconst (v := nI 0) hx hb dL_size_23 (by decide) ?_
    rw [hQ]
    exact W.widen (Nat.le_of_eq (Nat.zero_add _)) (Nat.le_of_eq (Nat.zero_add _)) (ct_iret hx hb hr hlocks hP hD hS dL_size_24 (Or.inl ⟨rfl, v, w1, vp_updL f 0 v.toInt64, hw, tw_up f _, rfl⟩))
set_option maxHeartbeats 4000000 in
set_option maxRecDepth 100000 in
theorem kL_cable {l : Launch} {D : va_G} {cI cG cL cB : ClassId} {ws : va_W} {rm : Room} {b oo : Nat} {fs : List Value} {f : Nat → Int64} {x0 x1 x2 : Int32} {post : Int32 → va_W → Prop} {pX : String → va_W → Prop} {mc ms : Nat} (hM : tx_i l yX4_cable (.code yX4_cable cX4_cable 5 (some .int) :: bw) rm (EX D (tyL cI cG cL cB)) D vwCl ws [.ref b, .int x0, .int x1, .int x2] post pX mc ms) (hrc : rm.cells = mc) (hrs : rm.slots = ms) (hb0 : ws[0]? = some (b, .inr (4, fs))) (hX : ∀ E w, pX E w → E = sIAE ∨ E = sISE) :
    tw_i l yL_cable (.codeWith yL_cable cL_cable 6 (some .int) [(0, 12, 15, 13), (0, 12, 19, 15)] :: bw) ({ frames := rm.frames + 1, cells := mc, slots := ms, locals := 8 + (5 + 11) + rm.locals }) (EW D (tyL cI cG cL cB)) D vwCl (lA oo cL f :: ws) [.ref b, .int x0, .int x1, .int x2, .ref oo] (fun k W => (k = 0 ∧ ∃ v w1 f', post v w1 ∧ f' 0 = v.toInt64 ∧ W = lA oo cL f' :: w1) ∨ (k = 1 ∧ ∃ w1, pX sIAE w1 ∧ W = lA oo cL f :: w1) ∨ (k = 2 ∧ ∃ w1, pX sISE w1 ∧ W = lA oo cL f :: w1)) mc ms := by
  refine tw_of (by decide) (Nat.le_of_ble_eq_true rfl) ?_
  intro p e s m below meth cd A H locs av Q ls hx hb hr hml hown hlocks hex hbw hEW hZ hQ hP hD hS hA hl
  have hown : s.vm.findClass RL = some m.cls := hown
  have hEX := hEW.1
  have hK := hEX.1.1
  have hl : lv_has ls 6 [(0, .ref b), (1, .int x0), (2, .int x1), (3, .int x2), (4, .ref oo)] := hl
  refine lv_aload hx hb dL_cable_0 (lv_at hl 4 rfl) ?_
  refine lv_iconst (v := nI 0) hx hb dL_cable_2 (by decide) ?_
  refine lv_aload_n hx hb dL_cable_3 rfl (lv_at hl 0 rfl) ?_
  refine lv_iload_n hx hb dL_cable_4 rfl (lv_at hl 1 rfl) ?_
  refine lv_iload_n hx hb dL_cable_5 rfl (lv_at hl 2 rfl) ?_
  refine lv_iload_n hx hb dL_cable_6 rfl (lv_at hl 3 rfl) ?_
  refine tw_Vi (As := [.int x0, .int x1, .int x2]) (rest := [.int (nI 0), .ref oo]) ⟨hx, hb, hml, hown, hbw⟩ (EX_E D _) hEX hZ hM (cwV (C := "CableSizes") 3 hbw (gV m_390 m_391 m_392 m_18 m_393) rfl hrc hrs (by decide +kernel) ⟨Nat.le_refl _, Nat.le_refl _⟩) (va_recv hK hP (ci := 4) (q0 := 1) rfl hb0) hP hD hS hA rfl hl.1 rfl (Nat.le_of_ble_eq_true rfl) dL_cable_7 ⟨Nat.le_of_eq (Nat.zero_add _), Nat.le_of_eq (Nat.zero_add _)⟩ (fun E ce q9 w1 H locs hp hP hD hS hce hcv hcl => ?_) (fun v w1 H locs hw hP hD hS => ?_)
  · rcases hX E w1 hp with rfl | rfl
    · refine tw_iae (x := ⟨0, 12, 15, 13⟩) hown hbw hEX hex rfl rfl hce hcv hcl ?_
      refine lv_astore (lv' := [(5, .ref q9), (0, .ref b), (1, .int x0), (2, .int x1), (3, .int x2), (4, .ref oo)]) hx hb dL_cable_15 hl (by decide) rfl (fun ls hl => ?_)
      refine lv_iconst (v := nI 1) hx hb dL_cable_17 (by decide) ?_
      rw [hQ]
      exact W.widen (Nat.le_of_eq (Nat.zero_add _)) (Nat.le_of_eq (Nat.zero_add _)) (ct_iret hx hb hr hlocks hP hD hS dL_cable_18 (Or.inr (Or.inl ⟨rfl, w1, hp, rfl⟩)))
    · refine tw_ise (z := ⟨0, 12, 15, 13⟩) (x := ⟨0, 12, 19, 15⟩) hown hbw hEW hex rfl rfl rfl hce hcv hcl ?_
      refine lv_astore (lv' := [(5, .ref q9), (0, .ref b), (1, .int x0), (2, .int x1), (3, .int x2), (4, .ref oo)]) hx hb dL_cable_19 hl (by decide) rfl (fun ls hl => ?_)
      refine lv_iconst (v := nI 2) hx hb dL_cable_21 (by decide) ?_
      rw [hQ]
      exact W.widen (Nat.le_of_eq (Nat.zero_add _)) (Nat.le_of_eq (Nat.zero_add _)) (ct_iret hx hb hr hlocks hP hD hS dL_cable_22 (Or.inr (Or.inr ⟨rfl, w1, hp, rfl⟩)))
  · refine lv_i2l (v := v.toInt64) hx hb dL_cable_10 rfl ?_
    refine va_last (n := 1) hx hb hK hP hD hS 0 2 rfl rfl (i := nI 0) (x := v.toInt64) (vp_in_nI (by omega) (by omega)) dL_cable_11 (fun H locs hP hD hS => ?_)
    refine lv_goto (tgt := 23) hx hb dL_cable_12 (by decide) ?_
    refine lv_iconst (v := nI 0) hx hb dL_cable_23 (by decide) ?_
    rw [hQ]
    exact W.widen (Nat.le_of_eq (Nat.zero_add _)) (Nat.le_of_eq (Nat.zero_add _)) (ct_iret hx hb hr hlocks hP hD hS dL_cable_24 (Or.inl ⟨rfl, v, w1, vp_updL f 0 v.toInt64, hw, tw_up f _, rfl⟩))
set_option maxHeartbeats 4000000 in
set_option maxRecDepth 100000 in
theorem kL_current {l : Launch} {D : va_G} {cI cG cL cB : ClassId} {ws : va_W} {rm : Room} {b oo : Nat} {fs : List Value} {f : Nat → Int64} {x0 x1 : Int32} {post : Int32 → va_W → Prop} {pX : String → va_W → Prop} {mc ms : Nat} (hM : tx_i l yX4_current (.code yX4_current cX4_current 4 (some .int) :: bw) rm (EX D (tyL cI cG cL cB)) D vwCl ws [.ref b, .int x0, .int x1] post pX mc ms) (hrc : rm.cells = mc) (hrs : rm.slots = ms) (hb0 : ws[0]? = some (b, .inr (4, fs))) (hX : ∀ E w, pX E w → E = sIAE) :
    tw_i l yL_current (.codeWith yL_current cL_current 5 (some .int) [(0, 10, 13, 13)] :: bw) ({ frames := rm.frames + 1, cells := mc, slots := ms, locals := 8 + (4 + 11) + rm.locals }) (EW D (tyL cI cG cL cB)) D vwCl (lA oo cL f :: ws) [.ref b, .int x0, .int x1, .ref oo] (fun k W => (k = 0 ∧ ∃ v w1 f', post v w1 ∧ f' 0 = v.toInt64 ∧ W = lA oo cL f' :: w1) ∨ (k = 1 ∧ ∃ w1, pX sIAE w1 ∧ W = lA oo cL f :: w1)) mc ms := by
  refine tw_of (by decide) (Nat.le_of_ble_eq_true rfl) ?_
  intro p e s m below meth cd A H locs av Q ls hx hb hr hml hown hlocks hex hbw hEW hZ hQ hP hD hS hA hl
  have hown : s.vm.findClass RL = some m.cls := hown
  have hEX := hEW.1
  have hK := hEX.1.1
  have hl : lv_has ls 5 [(0, .ref b), (1, .int x0), (2, .int x1), (3, .ref oo)] := hl
  refine lv_aload_n hx hb dL_current_0 rfl (lv_at hl 3 rfl) ?_
  refine lv_iconst (v := nI 0) hx hb dL_current_1 (by decide) ?_
  refine lv_aload_n hx hb dL_current_2 rfl (lv_at hl 0 rfl) ?_
  refine lv_iload_n hx hb dL_current_3 rfl (lv_at hl 1 rfl) ?_
  refine lv_iload_n hx hb dL_current_4 rfl (lv_at hl 2 rfl) ?_
  refine tw_Vi (As := [.int x0, .int x1]) (rest := [.int (nI 0), .ref oo]) ⟨hx, hb, hml, hown, hbw⟩ (EX_E D _) hEX hZ hM (cwV (C := "CableSizes") 2 hbw (gV m_402 m_403 m_404 m_18 m_405) rfl hrc hrs (by decide +kernel) ⟨Nat.le_refl _, Nat.le_refl _⟩) (va_recv hK hP (ci := 4) (q0 := 1) rfl hb0) hP hD hS hA rfl hl.1 rfl (Nat.le_of_ble_eq_true rfl) dL_current_5 ⟨Nat.le_of_eq (Nat.zero_add _), Nat.le_of_eq (Nat.zero_add _)⟩ (fun E ce q9 w1 H locs hp hP hD hS hce hcv hcl => ?_) (fun v w1 H locs hw hP hD hS => ?_)
  · obtain rfl := hX E w1 hp
    refine tw_iae (x := ⟨0, 10, 13, 13⟩) hown hbw hEX hex rfl rfl hce hcv hcl ?_
    refine lv_astore (lv' := [(4, .ref q9), (0, .ref b), (1, .int x0), (2, .int x1), (3, .ref oo)]) hx hb dL_current_13 hl (by decide) rfl (fun ls hl => ?_)
    refine lv_iconst (v := nI 1) hx hb dL_current_15 (by decide) ?_
    rw [hQ]
    exact W.widen (Nat.le_of_eq (Nat.zero_add _)) (Nat.le_of_eq (Nat.zero_add _)) (ct_iret hx hb hr hlocks hP hD hS dL_current_16 (Or.inr ⟨rfl, w1, hp, rfl⟩))
  · refine lv_i2l (v := v.toInt64) hx hb dL_current_8 rfl ?_
    refine va_last (n := 1) hx hb hK hP hD hS 0 2 rfl rfl (i := nI 0) (x := v.toInt64) (vp_in_nI (by omega) (by omega)) dL_current_9 (fun H locs hP hD hS => ?_)
    refine lv_goto (tgt := 17) hx hb dL_current_10 (by decide) ?_
    refine lv_iconst (v := nI 0) hx hb dL_current_17 (by decide) ?_
    rw [hQ]
    exact W.widen (Nat.le_of_eq (Nat.zero_add _)) (Nat.le_of_eq (Nat.zero_add _)) (ct_iret hx hb hr hlocks hP hD hS dL_current_18 (Or.inl ⟨rfl, v, w1, vp_updL f 0 v.toInt64, hw, tw_up f _, rfl⟩))
set_option maxHeartbeats 4000000 in
set_option maxRecDepth 100000 in
theorem kL_room {l : Launch} {D : va_G} {cI cG cL cB : ClassId} {ws : va_W} {rm : Room} {b oo : Nat} {fs : List Value} {f : Nat → Int64} {x0 x1 : Int32} {post : Int32 → va_W → Prop} {pX : String → va_W → Prop} {mc ms : Nat} (hM : tx_i l yX4_room (.code yX4_room cX4_room 4 (some .int) :: bw) rm (EX D (tyL cI cG cL cB)) D vwCl ws [.ref b, .int x0, .int x1] post pX mc ms) (hrc : rm.cells = mc) (hrs : rm.slots = ms) (hb0 : ws[0]? = some (b, .inr (4, fs))) (hX : ∀ E w, pX E w → E = sIAE) :
    tw_i l yL_room (.codeWith yL_room cL_room 5 (some .int) [(0, 10, 13, 13)] :: bw) ({ frames := rm.frames + 1, cells := mc, slots := ms, locals := 8 + (4 + 11) + rm.locals }) (EW D (tyL cI cG cL cB)) D vwCl (lA oo cL f :: ws) [.ref b, .int x0, .int x1, .ref oo] (fun k W => (k = 0 ∧ ∃ v w1 f', post v w1 ∧ f' 0 = v.toInt64 ∧ W = lA oo cL f' :: w1) ∨ (k = 1 ∧ ∃ w1, pX sIAE w1 ∧ W = lA oo cL f :: w1)) mc ms := by
  refine tw_of (by decide) (Nat.le_of_ble_eq_true rfl) ?_
  intro p e s m below meth cd A H locs av Q ls hx hb hr hml hown hlocks hex hbw hEW hZ hQ hP hD hS hA hl
  have hown : s.vm.findClass RL = some m.cls := hown
  have hEX := hEW.1
  have hK := hEX.1.1
  have hl : lv_has ls 5 [(0, .ref b), (1, .int x0), (2, .int x1), (3, .ref oo)] := hl
  refine lv_aload_n hx hb dL_room_0 rfl (lv_at hl 3 rfl) ?_
  refine lv_iconst (v := nI 0) hx hb dL_room_1 (by decide) ?_
  refine lv_aload_n hx hb dL_room_2 rfl (lv_at hl 0 rfl) ?_
  refine lv_iload_n hx hb dL_room_3 rfl (lv_at hl 1 rfl) ?_
  refine lv_iload_n hx hb dL_room_4 rfl (lv_at hl 2 rfl) ?_
  refine tw_Vi (As := [.int x0, .int x1]) (rest := [.int (nI 0), .ref oo]) ⟨hx, hb, hml, hown, hbw⟩ (EX_E D _) hEX hZ hM (cwV (C := "CableSizes") 2 hbw (gV m_413 m_414 m_415 m_18 m_416) rfl hrc hrs (by decide +kernel) ⟨Nat.le_refl _, Nat.le_refl _⟩) (va_recv hK hP (ci := 4) (q0 := 1) rfl hb0) hP hD hS hA rfl hl.1 rfl (Nat.le_of_ble_eq_true rfl) dL_room_5 ⟨Nat.le_of_eq (Nat.zero_add _), Nat.le_of_eq (Nat.zero_add _)⟩ (fun E ce q9 w1 H locs hp hP hD hS hce hcv hcl => ?_) (fun v w1 H locs hw hP hD hS => ?_)
  · obtain rfl := hX E w1 hp
    refine tw_iae (x := ⟨0, 10, 13, 13⟩) hown hbw hEX hex rfl rfl hce hcv hcl ?_
    refine lv_astore (lv' := [(4, .ref q9), (0, .ref b), (1, .int x0), (2, .int x1), (3, .ref oo)]) hx hb dL_room_13 hl (by decide) rfl (fun ls hl => ?_)
    refine lv_iconst (v := nI 1) hx hb dL_room_15 (by decide) ?_
    rw [hQ]
    exact W.widen (Nat.le_of_eq (Nat.zero_add _)) (Nat.le_of_eq (Nat.zero_add _)) (ct_iret hx hb hr hlocks hP hD hS dL_room_16 (Or.inr ⟨rfl, w1, hp, rfl⟩))
  · refine lv_i2l (v := v.toInt64) hx hb dL_room_8 rfl ?_
    refine va_last (n := 1) hx hb hK hP hD hS 0 2 rfl rfl (i := nI 0) (x := v.toInt64) (vp_in_nI (by omega) (by omega)) dL_room_9 (fun H locs hP hD hS => ?_)
    refine lv_goto (tgt := 17) hx hb dL_room_10 (by decide) ?_
    refine lv_iconst (v := nI 0) hx hb dL_room_17 (by decide) ?_
    rw [hQ]
    exact W.widen (Nat.le_of_eq (Nat.zero_add _)) (Nat.le_of_eq (Nat.zero_add _)) (ct_iret hx hb hr hlocks hP hD hS dL_room_18 (Or.inl ⟨rfl, v, w1, vp_updL f 0 v.toInt64, hw, tw_up f _, rfl⟩))
set_option maxHeartbeats 4000000 in
set_option maxRecDepth 100000 in
theorem kL_limit {l : Launch} {D : va_G} {cI cG cL cB : ClassId} {ws : va_W} {rm : Room} {b oo : Nat} {fs : List Value} {f : Nat → Int64} {x0 : Int32} {post : Int32 → va_W → Prop} {pX : String → va_W → Prop} {mc ms : Nat} (hM : tx_i l yX4_limit (.code yX4_limit cX4_limit 3 (some .int) :: bw) rm (EX D (tyL cI cG cL cB)) D vwCl ws [.ref b, .int x0] post pX mc ms) (hrc : rm.cells = mc) (hrs : rm.slots = ms) (hb0 : ws[0]? = some (b, .inr (4, fs))) (hX : ∀ E w, pX E w → E = sIAE) :
    tw_i l yL_limit (.codeWith yL_limit cL_limit 4 (some .int) [(0, 9, 12, 13)] :: bw) ({ frames := rm.frames + 1, cells := mc, slots := ms, locals := 8 + (3 + 11) + rm.locals }) (EW D (tyL cI cG cL cB)) D vwCl (lA oo cL f :: ws) [.ref b, .int x0, .ref oo] (fun k W => (k = 0 ∧ ∃ v w1 f', post v w1 ∧ f' 0 = v.toInt64 ∧ W = lA oo cL f' :: w1) ∨ (k = 1 ∧ ∃ w1, pX sIAE w1 ∧ W = lA oo cL f :: w1)) mc ms := by
  refine tw_of (by decide) (Nat.le_of_ble_eq_true rfl) ?_
  intro p e s m below meth cd A H locs av Q ls hx hb hr hml hown hlocks hex hbw hEW hZ hQ hP hD hS hA hl
  have hown : s.vm.findClass RL = some m.cls := hown
  have hEX := hEW.1
  have hK := hEX.1.1
  have hl : lv_has ls 4 [(0, .ref b), (1, .int x0), (2, .ref oo)] := hl
  refine lv_aload_n hx hb dL_limit_0 rfl (lv_at hl 2 rfl) ?_
  refine lv_iconst (v := nI 0) hx hb dL_limit_1 (by decide) ?_
  refine lv_aload_n hx hb dL_limit_2 rfl (lv_at hl 0 rfl) ?_
  refine lv_iload_n hx hb dL_limit_3 rfl (lv_at hl 1 rfl) ?_
  refine tw_Vi (As := [.int x0]) (rest := [.int (nI 0), .ref oo]) ⟨hx, hb, hml, hown, hbw⟩ (EX_E D _) hEX hZ hM (cwV (C := "CableSizes") 1 hbw (gV m_420 m_421 m_422 m_18 m_423) rfl hrc hrs (by decide +kernel) ⟨Nat.le_refl _, Nat.le_refl _⟩) (va_recv hK hP (ci := 4) (q0 := 1) rfl hb0) hP hD hS hA rfl hl.1 rfl (Nat.le_of_ble_eq_true rfl) dL_limit_4 ⟨Nat.le_of_eq (Nat.zero_add _), Nat.le_of_eq (Nat.zero_add _)⟩ (fun E ce q9 w1 H locs hp hP hD hS hce hcv hcl => ?_) (fun v w1 H locs hw hP hD hS => ?_)
  · obtain rfl := hX E w1 hp
    refine tw_iae (x := ⟨0, 9, 12, 13⟩) hown hbw hEX hex rfl rfl hce hcv hcl ?_
    refine lv_astore_n (lv' := [(3, .ref q9), (0, .ref b), (1, .int x0), (2, .ref oo)]) hx hb dL_limit_12 rfl hl (by decide) rfl (fun ls hl => ?_)
    refine lv_iconst (v := nI 1) hx hb dL_limit_13 (by decide) ?_
    rw [hQ]
    exact W.widen (Nat.le_of_eq (Nat.zero_add _)) (Nat.le_of_eq (Nat.zero_add _)) (ct_iret hx hb hr hlocks hP hD hS dL_limit_14 (Or.inr ⟨rfl, w1, hp, rfl⟩))
  · refine lv_i2l (v := v.toInt64) hx hb dL_limit_7 rfl ?_
    refine va_last (n := 1) hx hb hK hP hD hS 0 2 rfl rfl (i := nI 0) (x := v.toInt64) (vp_in_nI (by omega) (by omega)) dL_limit_8 (fun H locs hP hD hS => ?_)
    refine lv_goto (tgt := 15) hx hb dL_limit_9 (by decide) ?_
    refine lv_iconst (v := nI 0) hx hb dL_limit_15 (by decide) ?_
    rw [hQ]
    exact W.widen (Nat.le_of_eq (Nat.zero_add _)) (Nat.le_of_eq (Nat.zero_add _)) (ct_iret hx hb hr hlocks hP hD hS dL_limit_16 (Or.inl ⟨rfl, v, w1, vp_updL f 0 v.toInt64, hw, tw_up f _, rfl⟩))
set_option maxHeartbeats 4000000 in
set_option maxRecDepth 100000 in
theorem kL_way {l : Launch} {D : va_G} {cI cG cL cB : ClassId} {ws : va_W} {rm : Room} {b oo : Nat} {fs : List Value} {f : Nat → Int64} {x0 : Int32} {post : Int32 → va_W → Prop} {pX : String → va_W → Prop} {mc ms : Nat} (hM : tx_i l yX4_way (.code yX4_way cX4_way 2 (some .int) :: bw) rm (EX D (tyL cI cG cL cB)) D vwCl ws [.ref b, .int x0] post pX mc ms) (hrc : rm.cells = mc) (hrs : rm.slots = ms) (hb0 : ws[0]? = some (b, .inr (4, fs))) (hX : ∀ E w, pX E w → E = sIAE) :
    tw_i l yL_way (.codeWith yL_way cL_way 4 (some .int) [(0, 9, 12, 13)] :: bw) ({ frames := rm.frames + 1, cells := mc, slots := ms, locals := 8 + (2 + 11) + rm.locals }) (EW D (tyL cI cG cL cB)) D vwCl (lA oo cL f :: ws) [.ref b, .int x0, .ref oo] (fun k W => (k = 0 ∧ ∃ v w1 f', post v w1 ∧ f' 0 = v.toInt64 ∧ W = lA oo cL f' :: w1) ∨ (k = 1 ∧ ∃ w1, pX sIAE w1 ∧ W = lA oo cL f :: w1)) mc ms := by
  refine tw_of (by decide) (Nat.le_of_ble_eq_true rfl) ?_
  intro p e s m below meth cd A H locs av Q ls hx hb hr hml hown hlocks hex hbw hEW hZ hQ hP hD hS hA hl
  have hown : s.vm.findClass RL = some m.cls := hown
  have hEX := hEW.1
  have hK := hEX.1.1
  have hl : lv_has ls 4 [(0, .ref b), (1, .int x0), (2, .ref oo)] := hl
  refine lv_aload_n hx hb dL_way_0 rfl (lv_at hl 2 rfl) ?_
  refine lv_iconst (v := nI 0) hx hb dL_way_1 (by decide) ?_
  refine lv_aload_n hx hb dL_way_2 rfl (lv_at hl 0 rfl) ?_
  refine lv_iload_n hx hb dL_way_3 rfl (lv_at hl 1 rfl) ?_
  refine tw_Vi (As := [.int x0]) (rest := [.int (nI 0), .ref oo]) ⟨hx, hb, hml, hown, hbw⟩ (EX_E D _) hEX hZ hM (cwV (C := "CableSizes") 1 hbw (gV m_428 m_429 m_430 m_18 m_431) rfl hrc hrs (by decide +kernel) ⟨Nat.le_refl _, Nat.le_refl _⟩) (va_recv hK hP (ci := 4) (q0 := 1) rfl hb0) hP hD hS hA rfl hl.1 rfl (Nat.le_of_ble_eq_true rfl) dL_way_4 ⟨Nat.le_of_eq (Nat.zero_add _), Nat.le_of_eq (Nat.zero_add _)⟩ (fun E ce q9 w1 H locs hp hP hD hS hce hcv hcl => ?_) (fun v w1 H locs hw hP hD hS => ?_)
  · obtain rfl := hX E w1 hp
    refine tw_iae (x := ⟨0, 9, 12, 13⟩) hown hbw hEX hex rfl rfl hce hcv hcl ?_
    refine lv_astore_n (lv' := [(3, .ref q9), (0, .ref b), (1, .int x0), (2, .ref oo)]) hx hb dL_way_12 rfl hl (by decide) rfl (fun ls hl => ?_)
    refine lv_iconst (v := nI 1) hx hb dL_way_13 (by decide) ?_
    rw [hQ]
    exact W.widen (Nat.le_of_eq (Nat.zero_add _)) (Nat.le_of_eq (Nat.zero_add _)) (ct_iret hx hb hr hlocks hP hD hS dL_way_14 (Or.inr ⟨rfl, w1, hp, rfl⟩))
  · refine lv_i2l (v := v.toInt64) hx hb dL_way_7 rfl ?_
    refine va_last (n := 1) hx hb hK hP hD hS 0 2 rfl rfl (i := nI 0) (x := v.toInt64) (vp_in_nI (by omega) (by omega)) dL_way_8 (fun H locs hP hD hS => ?_)
    refine lv_goto (tgt := 15) hx hb dL_way_9 (by decide) ?_
    refine lv_iconst (v := nI 0) hx hb dL_way_15 (by decide) ?_
    rw [hQ]
    exact W.widen (Nat.le_of_eq (Nat.zero_add _)) (Nat.le_of_eq (Nat.zero_add _)) (ct_iret hx hb hr hlocks hP hD hS dL_way_16 (Or.inl ⟨rfl, v, w1, vp_updL f 0 v.toInt64, hw, tw_up f _, rfl⟩))
set_option maxHeartbeats 4000000 in
set_option maxRecDepth 100000 in
theorem kL_way2 {l : Launch} {D : va_G} {cI cG cL cB : ClassId} {ws : va_W} {rm : Room} {b oo : Nat} {fs : List Value} {f : Nat → Int64} {x0 x1 : Int32} {post : Int32 → va_W → Prop} {pX : String → va_W → Prop} {mc ms : Nat} (hM : tx_i l yX4_way2 (.code yX4_way2 cX4_way2 3 (some .int) :: bw) rm (EX D (tyL cI cG cL cB)) D vwCl ws [.ref b, .int x0, .int x1] post pX mc ms) (hrc : rm.cells = mc) (hrs : rm.slots = ms) (hb0 : ws[0]? = some (b, .inr (4, fs))) (hX : ∀ E w, pX E w → E = sIAE) :
    tw_i l yL_way2 (.codeWith yL_way2 cL_way2 5 (some .int) [(0, 10, 13, 13)] :: bw) ({ frames := rm.frames + 1, cells := mc, slots := ms, locals := 8 + (3 + 11) + rm.locals }) (EW D (tyL cI cG cL cB)) D vwCl (lA oo cL f :: ws) [.ref b, .int x0, .int x1, .ref oo] (fun k W => (k = 0 ∧ ∃ v w1 f', post v w1 ∧ f' 0 = v.toInt64 ∧ W = lA oo cL f' :: w1) ∨ (k = 1 ∧ ∃ w1, pX sIAE w1 ∧ W = lA oo cL f :: w1)) mc ms := by
  refine tw_of (by decide) (Nat.le_of_ble_eq_true rfl) ?_
  intro p e s m below meth cd A H locs av Q ls hx hb hr hml hown hlocks hex hbw hEW hZ hQ hP hD hS hA hl
  have hown : s.vm.findClass RL = some m.cls := hown
  have hEX := hEW.1
  have hK := hEX.1.1
  have hl : lv_has ls 5 [(0, .ref b), (1, .int x0), (2, .int x1), (3, .ref oo)] := hl
  refine lv_aload_n hx hb dL_way2_0 rfl (lv_at hl 3 rfl) ?_
  refine lv_iconst (v := nI 0) hx hb dL_way2_1 (by decide) ?_
  refine lv_aload_n hx hb dL_way2_2 rfl (lv_at hl 0 rfl) ?_
  refine lv_iload_n hx hb dL_way2_3 rfl (lv_at hl 1 rfl) ?_
  refine lv_iload_n hx hb dL_way2_4 rfl (lv_at hl 2 rfl) ?_
  refine tw_Vi (As := [.int x0, .int x1]) (rest := [.int (nI 0), .ref oo]) ⟨hx, hb, hml, hown, hbw⟩ (EX_E D _) hEX hZ hM (cwV (C := "CableSizes") 2 hbw (gV m_436 m_437 m_438 m_18 m_439) rfl hrc hrs (by decide +kernel) ⟨Nat.le_refl _, Nat.le_refl _⟩) (va_recv hK hP (ci := 4) (q0 := 1) rfl hb0) hP hD hS hA rfl hl.1 rfl (Nat.le_of_ble_eq_true rfl) dL_way2_5 ⟨Nat.le_of_eq (Nat.zero_add _), Nat.le_of_eq (Nat.zero_add _)⟩ (fun E ce q9 w1 H locs hp hP hD hS hce hcv hcl => ?_) (fun v w1 H locs hw hP hD hS => ?_)
  · obtain rfl := hX E w1 hp
    refine tw_iae (x := ⟨0, 10, 13, 13⟩) hown hbw hEX hex rfl rfl hce hcv hcl ?_
    refine lv_astore (lv' := [(4, .ref q9), (0, .ref b), (1, .int x0), (2, .int x1), (3, .ref oo)]) hx hb dL_way2_13 hl (by decide) rfl (fun ls hl => ?_)
    refine lv_iconst (v := nI 1) hx hb dL_way2_15 (by decide) ?_
    rw [hQ]
    exact W.widen (Nat.le_of_eq (Nat.zero_add _)) (Nat.le_of_eq (Nat.zero_add _)) (ct_iret hx hb hr hlocks hP hD hS dL_way2_16 (Or.inr ⟨rfl, w1, hp, rfl⟩))
  · refine lv_i2l (v := v.toInt64) hx hb dL_way2_8 rfl ?_
    refine va_last (n := 1) hx hb hK hP hD hS 0 2 rfl rfl (i := nI 0) (x := v.toInt64) (vp_in_nI (by omega) (by omega)) dL_way2_9 (fun H locs hP hD hS => ?_)
    refine lv_goto (tgt := 17) hx hb dL_way2_10 (by decide) ?_
    refine lv_iconst (v := nI 0) hx hb dL_way2_17 (by decide) ?_
    rw [hQ]
    exact W.widen (Nat.le_of_eq (Nat.zero_add _)) (Nat.le_of_eq (Nat.zero_add _)) (ct_iret hx hb hr hlocks hP hD hS dL_way2_18 (Or.inl ⟨rfl, v, w1, vp_updL f 0 v.toInt64, hw, tw_up f _, rfl⟩))
set_option maxHeartbeats 4000000 in
set_option maxRecDepth 100000 in
theorem kL_chosen {l : Launch} {D : va_G} {cI cG cL cB : ClassId} {ws : va_W} {rm : Room} {b oo : Nat} {fs : List Value} {f : Nat → Int64} {x0 : Int32} {post : Int32 → va_W → Prop} {pX : String → va_W → Prop} {mc ms : Nat} (hM : tx_i l yX4_chosen (.code yX4_chosen cX4_chosen 2 (some .int) :: bw) rm (EX D (tyL cI cG cL cB)) D vwCl ws [.ref b, .int x0] post pX mc ms) (hrc : rm.cells = mc) (hrs : rm.slots = ms) (hb0 : ws[0]? = some (b, .inr (4, fs))) (hX : ∀ E w, pX E w → E = sIAE) :
    tw_i l yL_chosen (.codeWith yL_chosen cL_chosen 4 (some .int) [(0, 9, 12, 13)] :: bw) ({ frames := rm.frames + 1, cells := mc, slots := ms, locals := 8 + (2 + 11) + rm.locals }) (EW D (tyL cI cG cL cB)) D vwCl (lA oo cL f :: ws) [.ref b, .int x0, .ref oo] (fun k W => (k = 0 ∧ ∃ v w1 f', post v w1 ∧ f' 0 = v.toInt64 ∧ W = lA oo cL f' :: w1) ∨ (k = 1 ∧ ∃ w1, pX sIAE w1 ∧ W = lA oo cL f :: w1)) mc ms := by
  refine tw_of (by decide) (Nat.le_of_ble_eq_true rfl) ?_
  intro p e s m below meth cd A H locs av Q ls hx hb hr hml hown hlocks hex hbw hEW hZ hQ hP hD hS hA hl
  have hown : s.vm.findClass RL = some m.cls := hown
  have hEX := hEW.1
  have hK := hEX.1.1
  have hl : lv_has ls 4 [(0, .ref b), (1, .int x0), (2, .ref oo)] := hl
  refine lv_aload_n hx hb dL_chosen_0 rfl (lv_at hl 2 rfl) ?_
  refine lv_iconst (v := nI 0) hx hb dL_chosen_1 (by decide) ?_
  refine lv_aload_n hx hb dL_chosen_2 rfl (lv_at hl 0 rfl) ?_
  refine lv_iload_n hx hb dL_chosen_3 rfl (lv_at hl 1 rfl) ?_
  refine tw_Vi (As := [.int x0]) (rest := [.int (nI 0), .ref oo]) ⟨hx, hb, hml, hown, hbw⟩ (EX_E D _) hEX hZ hM (cwV (C := "CableSizes") 1 hbw (gV m_444 m_445 m_446 m_18 m_447) rfl hrc hrs (by decide +kernel) ⟨Nat.le_refl _, Nat.le_refl _⟩) (va_recv hK hP (ci := 4) (q0 := 1) rfl hb0) hP hD hS hA rfl hl.1 rfl (Nat.le_of_ble_eq_true rfl) dL_chosen_4 ⟨Nat.le_of_eq (Nat.zero_add _), Nat.le_of_eq (Nat.zero_add _)⟩ (fun E ce q9 w1 H locs hp hP hD hS hce hcv hcl => ?_) (fun v w1 H locs hw hP hD hS => ?_)
  · obtain rfl := hX E w1 hp
    refine tw_iae (x := ⟨0, 9, 12, 13⟩) hown hbw hEX hex rfl rfl hce hcv hcl ?_
    refine lv_astore_n (lv' := [(3, .ref q9), (0, .ref b), (1, .int x0), (2, .ref oo)]) hx hb dL_chosen_12 rfl hl (by decide) rfl (fun ls hl => ?_)
    refine lv_iconst (v := nI 1) hx hb dL_chosen_13 (by decide) ?_
    rw [hQ]
    exact W.widen (Nat.le_of_eq (Nat.zero_add _)) (Nat.le_of_eq (Nat.zero_add _)) (ct_iret hx hb hr hlocks hP hD hS dL_chosen_14 (Or.inr ⟨rfl, w1, hp, rfl⟩))
  · refine lv_i2l (v := v.toInt64) hx hb dL_chosen_7 rfl ?_
    refine va_last (n := 1) hx hb hK hP hD hS 0 2 rfl rfl (i := nI 0) (x := v.toInt64) (vp_in_nI (by omega) (by omega)) dL_chosen_8 (fun H locs hP hD hS => ?_)
    refine lv_goto (tgt := 15) hx hb dL_chosen_9 (by decide) ?_
    refine lv_iconst (v := nI 0) hx hb dL_chosen_15 (by decide) ?_
    rw [hQ]
    exact W.widen (Nat.le_of_eq (Nat.zero_add _)) (Nat.le_of_eq (Nat.zero_add _)) (ct_iret hx hb hr hlocks hP hD hS dL_chosen_16 (Or.inl ⟨rfl, v, w1, vp_updL f 0 v.toInt64, hw, tw_up f _, rfl⟩))
set_option maxHeartbeats 4000000 in
set_option maxRecDepth 100000 in
theorem kL_told {l : Launch} {D : va_G} {cI cG cL cB : ClassId} {ws : va_W} {rm : Room} {b oo : Nat} {fs : List Value} {f : Nat → Int64} {x0 x1 : Int32} {post : Int32 → va_W → Prop} {pX : String → va_W → Prop} {mc ms : Nat} (hM : tx_i l yX4_told (.code yX4_told cX4_told 3 (some .int) :: bw) rm (EX D (tyL cI cG cL cB)) D vwCl ws [.ref b, .int x0, .int x1] post pX mc ms) (hrc : rm.cells = mc) (hrs : rm.slots = ms) (hb0 : ws[0]? = some (b, .inr (4, fs))) (hX : ∀ E w, pX E w → E = sIAE) :
    tw_i l yL_told (.codeWith yL_told cL_told 5 (some .int) [(0, 10, 13, 13)] :: bw) ({ frames := rm.frames + 1, cells := mc, slots := ms, locals := 8 + (3 + 11) + rm.locals }) (EW D (tyL cI cG cL cB)) D vwCl (lA oo cL f :: ws) [.ref b, .int x0, .int x1, .ref oo] (fun k W => (k = 0 ∧ ∃ v w1 f', post v w1 ∧ f' 0 = v.toInt64 ∧ W = lA oo cL f' :: w1) ∨ (k = 1 ∧ ∃ w1, pX sIAE w1 ∧ W = lA oo cL f :: w1)) mc ms := by
  refine tw_of (by decide) (Nat.le_of_ble_eq_true rfl) ?_
  intro p e s m below meth cd A H locs av Q ls hx hb hr hml hown hlocks hex hbw hEW hZ hQ hP hD hS hA hl
  have hown : s.vm.findClass RL = some m.cls := hown
  have hEX := hEW.1
  have hK := hEX.1.1
  have hl : lv_has ls 5 [(0, .ref b), (1, .int x0), (2, .int x1), (3, .ref oo)] := hl
  refine lv_aload_n hx hb dL_told_0 rfl (lv_at hl 3 rfl) ?_
  refine lv_iconst (v := nI 0) hx hb dL_told_1 (by decide) ?_
  refine lv_aload_n hx hb dL_told_2 rfl (lv_at hl 0 rfl) ?_
  refine lv_iload_n hx hb dL_told_3 rfl (lv_at hl 1 rfl) ?_
  refine lv_iload_n hx hb dL_told_4 rfl (lv_at hl 2 rfl) ?_
  refine tw_Vi (As := [.int x0, .int x1]) (rest := [.int (nI 0), .ref oo]) ⟨hx, hb, hml, hown, hbw⟩ (EX_E D _) hEX hZ hM (cwV (C := "CableSizes") 2 hbw (gV m_451 m_452 m_453 m_18 m_454) rfl hrc hrs (by decide +kernel) ⟨Nat.le_refl _, Nat.le_refl _⟩) (va_recv hK hP (ci := 4) (q0 := 1) rfl hb0) hP hD hS hA rfl hl.1 rfl (Nat.le_of_ble_eq_true rfl) dL_told_5 ⟨Nat.le_of_eq (Nat.zero_add _), Nat.le_of_eq (Nat.zero_add _)⟩ (fun E ce q9 w1 H locs hp hP hD hS hce hcv hcl => ?_) (fun v w1 H locs hw hP hD hS => ?_)
  · obtain rfl := hX E w1 hp
    refine tw_iae (x := ⟨0, 10, 13, 13⟩) hown hbw hEX hex rfl rfl hce hcv hcl ?_
    refine lv_astore (lv' := [(4, .ref q9), (0, .ref b), (1, .int x0), (2, .int x1), (3, .ref oo)]) hx hb dL_told_13 hl (by decide) rfl (fun ls hl => ?_)
    refine lv_iconst (v := nI 1) hx hb dL_told_15 (by decide) ?_
    rw [hQ]
    exact W.widen (Nat.le_of_eq (Nat.zero_add _)) (Nat.le_of_eq (Nat.zero_add _)) (ct_iret hx hb hr hlocks hP hD hS dL_told_16 (Or.inr ⟨rfl, w1, hp, rfl⟩))
  · refine lv_i2l (v := v.toInt64) hx hb dL_told_8 rfl ?_
    refine va_last (n := 1) hx hb hK hP hD hS 0 2 rfl rfl (i := nI 0) (x := v.toInt64) (vp_in_nI (by omega) (by omega)) dL_told_9 (fun H locs hP hD hS => ?_)
    refine lv_goto (tgt := 17) hx hb dL_told_10 (by decide) ?_
    refine lv_iconst (v := nI 0) hx hb dL_told_17 (by decide) ?_
    rw [hQ]
    exact W.widen (Nat.le_of_eq (Nat.zero_add _)) (Nat.le_of_eq (Nat.zero_add _)) (ct_iret hx hb hr hlocks hP hD hS dL_told_18 (Or.inl ⟨rfl, v, w1, vp_updL f 0 v.toInt64, hw, tw_up f _, rfl⟩))
set_option maxHeartbeats 4000000 in
set_option maxRecDepth 100000 in
theorem kL_cableAt {l : Launch} {D : va_G} {cI cG cL cB : ClassId} {ws : va_W} {rm : Room} {b oo : Nat} {fs : List Value} {f : Nat → Int64} {x0 x1 : Int32} {post : Int32 → va_W → Prop} {pX : String → va_W → Prop} {mc ms : Nat} (hM : tx_i l yX4_cableAt (.code yX4_cableAt cX4_cableAt 3 (some .int) :: bw) rm (EX D (tyL cI cG cL cB)) D vwCl ws [.ref b, .int x0, .int x1] post pX mc ms) (hrc : rm.cells = mc) (hrs : rm.slots = ms) (hb0 : ws[0]? = some (b, .inr (4, fs))) (hX : ∀ E w, pX E w → E = sIAE) :
    tw_i l yL_cableAt (.codeWith yL_cableAt cL_cableAt 5 (some .int) [(0, 10, 13, 13)] :: bw) ({ frames := rm.frames + 1, cells := mc, slots := ms, locals := 8 + (3 + 11) + rm.locals }) (EW D (tyL cI cG cL cB)) D vwCl (lA oo cL f :: ws) [.ref b, .int x0, .int x1, .ref oo] (fun k W => (k = 0 ∧ ∃ v w1 f', post v w1 ∧ f' 0 = v.toInt64 ∧ W = lA oo cL f' :: w1) ∨ (k = 1 ∧ ∃ w1, pX sIAE w1 ∧ W = lA oo cL f :: w1)) mc ms := by
  refine tw_of (by decide) (Nat.le_of_ble_eq_true rfl) ?_
  intro p e s m below meth cd A H locs av Q ls hx hb hr hml hown hlocks hex hbw hEW hZ hQ hP hD hS hA hl
  have hown : s.vm.findClass RL = some m.cls := hown
  have hEX := hEW.1
  have hK := hEX.1.1
  have hl : lv_has ls 5 [(0, .ref b), (1, .int x0), (2, .int x1), (3, .ref oo)] := hl
  refine lv_aload_n hx hb dL_cableAt_0 rfl (lv_at hl 3 rfl) ?_
  refine lv_iconst (v := nI 0) hx hb dL_cableAt_1 (by decide) ?_
  refine lv_aload_n hx hb dL_cableAt_2 rfl (lv_at hl 0 rfl) ?_
  refine lv_iload_n hx hb dL_cableAt_3 rfl (lv_at hl 1 rfl) ?_
  refine lv_iload_n hx hb dL_cableAt_4 rfl (lv_at hl 2 rfl) ?_
  refine tw_Vi (As := [.int x0, .int x1]) (rest := [.int (nI 0), .ref oo]) ⟨hx, hb, hml, hown, hbw⟩ (EX_E D _) hEX hZ hM (cwV (C := "CableSizes") 2 hbw (gV m_463 m_464 m_465 m_18 m_466) rfl hrc hrs (by decide +kernel) ⟨Nat.le_refl _, Nat.le_refl _⟩) (va_recv hK hP (ci := 4) (q0 := 1) rfl hb0) hP hD hS hA rfl hl.1 rfl (Nat.le_of_ble_eq_true rfl) dL_cableAt_5 ⟨Nat.le_of_eq (Nat.zero_add _), Nat.le_of_eq (Nat.zero_add _)⟩ (fun E ce q9 w1 H locs hp hP hD hS hce hcv hcl => ?_) (fun v w1 H locs hw hP hD hS => ?_)
  · obtain rfl := hX E w1 hp
    refine tw_iae (x := ⟨0, 10, 13, 13⟩) hown hbw hEX hex rfl rfl hce hcv hcl ?_
    refine lv_astore (lv' := [(4, .ref q9), (0, .ref b), (1, .int x0), (2, .int x1), (3, .ref oo)]) hx hb dL_cableAt_13 hl (by decide) rfl (fun ls hl => ?_)
    refine lv_iconst (v := nI 1) hx hb dL_cableAt_15 (by decide) ?_
    rw [hQ]
    exact W.widen (Nat.le_of_eq (Nat.zero_add _)) (Nat.le_of_eq (Nat.zero_add _)) (ct_iret hx hb hr hlocks hP hD hS dL_cableAt_16 (Or.inr ⟨rfl, w1, hp, rfl⟩))
  · refine lv_i2l (v := v.toInt64) hx hb dL_cableAt_8 rfl ?_
    refine va_last (n := 1) hx hb hK hP hD hS 0 2 rfl rfl (i := nI 0) (x := v.toInt64) (vp_in_nI (by omega) (by omega)) dL_cableAt_9 (fun H locs hP hD hS => ?_)
    refine lv_goto (tgt := 17) hx hb dL_cableAt_10 (by decide) ?_
    refine lv_iconst (v := nI 0) hx hb dL_cableAt_17 (by decide) ?_
    rw [hQ]
    exact W.widen (Nat.le_of_eq (Nat.zero_add _)) (Nat.le_of_eq (Nat.zero_add _)) (ct_iret hx hb hr hlocks hP hD hS dL_cableAt_18 (Or.inl ⟨rfl, v, w1, vp_updL f 0 v.toInt64, hw, tw_up f _, rfl⟩))
set_option maxHeartbeats 4000000 in
set_option maxRecDepth 100000 in
theorem kL_right {l : Launch} {D : va_G} {cI cG cL cB : ClassId} {ws : va_W} {rm : Room} {b oo : Nat} {fs : List Value} {f : Nat → Int64} {x0 : Int64} {post : Int32 → va_W → Prop} {pX : String → va_W → Prop} {mc ms : Nat} (hM : tx_i l yX4_right (.code yX4_right cX4_right 7 (some .boolean) :: bw) rm (EX D (tyL cI cG cL cB)) D vwCl ws [.ref b, .long x0] post pX mc ms) (hrc : rm.cells = mc) (hrs : rm.slots = ms) (hb0 : ws[0]? = some (b, .inr (4, fs))) (hX : ∀ E w, pX E w → E = sIAE) :
    tw_i l yL_right (.codeWith yL_right cL_right 5 (some .int) [(0, 16, 19, 13)] :: bw) ({ frames := rm.frames + 1, cells := mc, slots := ms, locals := 8 + (7 + 11) + rm.locals }) (EW D (tyL cI cG cL cB)) D vwCl (lA oo cL f :: ws) [.ref b, .long x0, .ref oo] (fun k W => (k = 0 ∧ ∃ v w1 f', post v w1 ∧ f' 0 = (if v = 0 then 0 else 1) ∧ W = lA oo cL f' :: w1) ∨ (k = 1 ∧ ∃ w1, pX sIAE w1 ∧ W = lA oo cL f :: w1)) mc ms := by
  refine tw_of (by decide) (Nat.le_of_ble_eq_true rfl) ?_
  intro p e s m below meth cd A H locs av Q ls hx hb hr hml hown hlocks hex hbw hEW hZ hQ hP hD hS hA hl
  have hown : s.vm.findClass RL = some m.cls := hown
  have hEX := hEW.1
  have hK := hEX.1.1
  have hl : lv_has ls 5 [(0, .ref b), (1, .long x0), (3, .ref oo)] := hl
  refine lv_aload_n hx hb dL_right_0 rfl (lv_at hl 2 rfl) ?_
  refine lv_iconst (v := nI 0) hx hb dL_right_1 (by decide) ?_
  refine lv_aload_n hx hb dL_right_2 rfl (lv_at hl 0 rfl) ?_
  refine lv_lload_n hx hb dL_right_3 rfl (lv_at hl 1 rfl) ?_
  refine tw_Vi (As := [.long x0]) (rest := [.int (nI 0), .ref oo]) ⟨hx, hb, hml, hown, hbw⟩ (EX_E D _) hEX hZ hM (cwV (C := "CableSizes") 1 hbw (gV m_472 m_473 m_474 m_18 m_475) rfl hrc hrs (by decide +kernel) ⟨Nat.le_refl _, Nat.le_refl _⟩) (va_recv hK hP (ci := 4) (q0 := 1) rfl hb0) hP hD hS hA rfl hl.1 rfl (Nat.le_of_ble_eq_true rfl) dL_right_4 ⟨Nat.le_of_eq (Nat.zero_add _), Nat.le_of_eq (Nat.zero_add _)⟩ (fun E ce q9 w1 H locs hp hP hD hS hce hcv hcl => ?_) (fun v w1 H locs hw hP hD hS => ?_)
  · obtain rfl := hX E w1 hp
    refine tw_iae (x := ⟨0, 16, 19, 13⟩) hown hbw hEX hex rfl rfl hce hcv hcl ?_
    refine lv_astore (lv' := [(4, .ref q9), (0, .ref b), (1, .long x0), (3, .ref oo)]) hx hb dL_right_19 hl (by decide) rfl (fun ls hl => ?_)
    refine lv_iconst (v := nI 1) hx hb dL_right_21 (by decide) ?_
    rw [hQ]
    exact W.widen (Nat.le_of_eq (Nat.zero_add _)) (Nat.le_of_eq (Nat.zero_add _)) (ct_iret hx hb hr hlocks hP hD hS dL_right_22 (Or.inr ⟨rfl, w1, hp, rfl⟩))
  · refine lv_if_eq (tgt := 14) hx hb dL_right_7 (by decide) (fun h => ?_) (fun h => ?_)
    · refine lv_lconst (v := 0) hx hb dL_right_14 (by decide) ?_
      refine va_last (n := 1) hx hb hK hP hD hS 0 2 rfl rfl (i := nI 0) (x := 0) (vp_in_nI (by omega) (by omega)) dL_right_15 (fun H locs hP hD hS => ?_)
      refine lv_goto (tgt := 23) hx hb dL_right_16 (by decide) ?_
      refine lv_iconst (v := nI 0) hx hb dL_right_23 (by decide) ?_
      rw [hQ]
      exact W.widen (Nat.le_of_eq (Nat.zero_add _)) (Nat.le_of_eq (Nat.zero_add _)) (ct_iret hx hb hr hlocks hP hD hS dL_right_24 (Or.inl ⟨rfl, v, w1, vp_updL f 0 0, hw, (tw_up f _).trans (by rw [if_pos h]), rfl⟩))
    · refine lv_lconst (v := 1) hx hb dL_right_10 (by decide) ?_
      refine lv_goto (tgt := 15) hx hb dL_right_11 (by decide) ?_
      refine va_last (n := 1) hx hb hK hP hD hS 0 2 rfl rfl (i := nI 0) (x := 1) (vp_in_nI (by omega) (by omega)) dL_right_15 (fun H locs hP hD hS => ?_)
      refine lv_goto (tgt := 23) hx hb dL_right_16 (by decide) ?_
      refine lv_iconst (v := nI 0) hx hb dL_right_23 (by decide) ?_
      rw [hQ]
      exact W.widen (Nat.le_of_eq (Nat.zero_add _)) (Nat.le_of_eq (Nat.zero_add _)) (ct_iret hx hb hr hlocks hP hD hS dL_right_24 (Or.inl ⟨rfl, v, w1, vp_updL f 0 1, hw, (tw_up f _).trans (by rw [if_neg h]), rfl⟩))
