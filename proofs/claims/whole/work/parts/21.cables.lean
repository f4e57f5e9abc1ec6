/-- whether a size may stand behind the last one -/
def cz_fol (sn : Nat) (ar rt oh : Nat → Nat) (x y z : Nat) : Bool := decide (sn = 0 ∨ (ar (sn - 1) < x ∧ rt (sn - 1) ≤ y ∧ z ≤ oh (sn - 1)))
set_option maxHeartbeats 4000000 in
set_option maxRecDepth 100000 in
/-- Sizes.mayFollow -/
theorem kX1_mayFollow (l : Launch) (D : va_G) (cI cG cL cB : ClassId) (q : Nat → Nat) (sn : Nat) (ar rt oh : Nat → Nat) (x y z : Nat) (hn : sn ≤ 6) (hx0 : x ≤ 1000) (hy0 : y ≤ 1000) (hz0 : z ≤ 1000) (har : ∀ j, ar j ≤ 1000) (hrt : ∀ j, rt j ≤ 1000) (hoh : ∀ j, oh j ≤ 1000) : ct_i l yX1_mayFollow (.code yX1_mayFollow cX1_mayFollow 5 (some .boolean) :: bw) ({ frames := 0, cells := 0, slots := 0, locals := 0 }) (EN D (tyL cI cG cL cB)) D vwCl (pS q cI sn ar rt oh) [.ref (q 7), .int (nI x), .int (nI y), .int (nI z)] (fun r W => W = pS q cI sn ar rt oh ∧ r = nI (bN (cz_fol sn ar rt oh x y z))) 0 0 := by
  refine ct_ofi (by decide) (Nat.le_of_ble_eq_true rfl) ?_
  intro p e s m below meth cd A H locs av Q ls hx hb hr hml hown hlocks hnm hbw hEN hQ hP hD hS hA hl
  have hown : s.vm.findClass RX1 = some m.cls := hown
  have hK := hEN.1
  have hl : lv_has ls 5 [(0, .ref (q 7)), (1, .int (nI x)), (2, .int (nI y)), (3, .int (nI z))] := hl
  refine lv_aload_n hx hb dX1_mayFollow_0 rfl (lv_at hl 0 rfl) ?_
  refine va_get (ci := 1) (v := .int (nI sn)) (C := RX1) (T := TX1) (N := 4) hx hb hbw in_X1 hown hK hP 0 rfl rfl 0 (by decide) (hbw _ m_77) (fun _ h9 => h9) rfl dX1_mayFollow_1 ?_
  refine nr_if_ne (x := sn) (tgt := 9) hx hb (by omega) dX1_mayFollow_4 (by decide) (fun h1 => ?_) (fun h1 => ?_)
  · refine lv_aload_n hx hb dX1_mayFollow_9 rfl (lv_at hl 0 rfl) ?_
    refine va_get (ci := 1) (v := .int (nI sn)) (C := RX1) (T := TX1) (N := 4) hx hb hbw in_X1 hown hK hP 0 rfl rfl 0 (by decide) (hbw _ m_77) (fun _ h9 => h9) rfl dX1_mayFollow_10 ?_
    refine lv_iconst (v := nI 1) hx hb dX1_mayFollow_13 (by decide) ?_
    refine nr_isub hx hb (by omega) dX1_mayFollow_14 ?_
    refine lv_istore (lv' := [(4, .int (nI (sn - 1))), (0, .ref (q 7)), (1, .int (nI x)), (2, .int (nI y)), (3, .int (nI z))]) hx hb dX1_mayFollow_15 hl (by decide) rfl (fun ls hl => ?_)
    refine lv_iload_n hx hb dX1_mayFollow_17 rfl (lv_at hl 2 rfl) ?_
    refine lv_aload_n hx hb dX1_mayFollow_18 rfl (lv_at hl 1 rfl) ?_
    refine va_get (ci := 1) (v := .ref (q 8)) (C := RX1) (T := TX1) (N := 4) hx hb hbw in_X1 hown hK hP 0 rfl rfl 1 (by decide) (hbw _ m_80) (fun _ h9 => h9) rfl dX1_mayFollow_19 ?_
    refine lv_iload hx hb dX1_mayFollow_22 (lv_at hl 0 rfl) ?_
    refine nr_iald hx hb hK hP 1 0 rfl rfl (k := sn - 1) (by omega) (by omega) dX1_mayFollow_24 ?_
    have b_1 := har (sn - 1)
    refine nr_icmp_le (x := x) (y := ar (sn - 1)) (tgt := 54) hx hb (by omega) (by omega) dX1_mayFollow_25 (by decide) (fun h2 => ?_) (fun h2 => ?_)
    · refine lv_iconst (v := nI 0) hx hb dX1_mayFollow_54 (by decide) ?_
      have e1 : cz_fol sn ar rt oh x y z = false := decide_eq_false (by omega)
      rw [hQ]
      exact ct_zret hx hb hr hlocks hP hD hS dX1_mayFollow_55 (by first | exact Or.inl rfl | exact Or.inr rfl) ⟨rfl, by rw [e1]; rfl⟩
    · refine lv_iload_n hx hb dX1_mayFollow_28 rfl (lv_at hl 3 rfl) ?_
      refine lv_aload_n hx hb dX1_mayFollow_29 rfl (lv_at hl 1 rfl) ?_
      refine va_get (ci := 1) (v := .ref (q 9)) (C := RX1) (T := TX1) (N := 4) hx hb hbw in_X1 hown hK hP 0 rfl rfl 2 (by decide) (hbw _ m_82) (fun _ h9 => h9) rfl dX1_mayFollow_30 ?_
      refine lv_iload hx hb dX1_mayFollow_33 (lv_at hl 0 rfl) ?_
      refine nr_iald hx hb hK hP 2 0 rfl rfl (k := sn - 1) (by omega) (by omega) dX1_mayFollow_35 ?_
      have b_2 := hrt (sn - 1)
      refine nr_icmp_lt (x := y) (y := rt (sn - 1)) (tgt := 54) hx hb (by omega) (by omega) dX1_mayFollow_36 (by decide) (fun h3 => ?_) (fun h3 => ?_)
      · refine lv_iconst (v := nI 0) hx hb dX1_mayFollow_54 (by decide) ?_
        have e1 : cz_fol sn ar rt oh x y z = false := decide_eq_false (by omega)
        rw [hQ]
        exact ct_zret hx hb hr hlocks hP hD hS dX1_mayFollow_55 (by first | exact Or.inl rfl | exact Or.inr rfl) ⟨rfl, by rw [e1]; rfl⟩
      · refine lv_iload_n hx hb dX1_mayFollow_39 rfl (lv_at hl 4 rfl) ?_
        refine lv_aload_n hx hb dX1_mayFollow_40 rfl (lv_at hl 1 rfl) ?_
        refine va_get (ci := 1) (v := .ref (q 10)) (C := RX1) (T := TX1) (N := 4) hx hb hbw in_X1 hown hK hP 0 rfl rfl 3 (by decide) (hbw _ m_84) (fun _ h9 => h9) rfl dX1_mayFollow_41 ?_
        refine lv_iload hx hb dX1_mayFollow_44 (lv_at hl 0 rfl) ?_
        refine nr_iald hx hb hK hP 3 0 rfl rfl (k := sn - 1) (by omega) (by omega) dX1_mayFollow_46 ?_
        have b_3 := hoh (sn - 1)
        refine nr_icmp_gt (x := z) (y := oh (sn - 1)) (tgt := 54) hx hb (by omega) (by omega) dX1_mayFollow_47 (by decide) (fun h4 => ?_) (fun h4 => ?_)
        · refine lv_iconst (v := nI 0) hx hb dX1_mayFollow_54 (by decide) ?_
          have e1 : cz_fol sn ar rt oh x y z = false := decide_eq_false (by omega)
          rw [hQ]
          exact ct_zret hx hb hr hlocks hP hD hS dX1_mayFollow_55 (by first | exact Or.inl rfl | exact Or.inr rfl) ⟨rfl, by rw [e1]; rfl⟩
        · refine lv_iconst (v := nI 1) hx hb dX1_mayFollow_50 (by decide) ?_
          refine lv_goto (tgt := 55) hx hb dX1_mayFollow_51 (by decide) ?_
          have e1 : cz_fol sn ar rt oh x y z = true := decide_eq_true (by omega)
          rw [hQ]
          exact ct_zret hx hb hr hlocks hP hD hS dX1_mayFollow_55 (by first | exact Or.inl rfl | exact Or.inr rfl) ⟨rfl, by rw [e1]; rfl⟩
  · refine lv_iconst (v := nI 1) hx hb dX1_mayFollow_7 (by decide) ?_
    have e1 : cz_fol sn ar rt oh x y z = true := decide_eq_true (Or.inl h1)
    rw [hQ]
    exact ct_zret hx hb hr hlocks hP hD hS dX1_mayFollow_8 (by first | exact Or.inl rfl | exact Or.inr rfl) ⟨rfl, by rw [e1]; rfl⟩
set_option maxHeartbeats 4000000 in
set_option maxRecDepth 100000 in
/-- Sizes.add -/
theorem kX1_add (l : Launch) (D : va_G) (cI cG cL cB : ClassId) (q : Nat → Nat) (sn : Nat) (ar rt oh : Nat → Nat) (x y z : Nat) (hn : sn < 6) : ct_i l yX1_add (.code yX1_add cX1_add 5 (some .int) :: bw) ({ frames := 0, cells := 0, slots := 0, locals := 0 }) (EN D (tyL cI cG cL cB)) D vwCl (pS q cI sn ar rt oh) [.ref (q 7), .int (nI x), .int (nI y), .int (nI z)] (fun r W => W = pS q cI (sn + 1) (nr_up ar sn x) (nr_up rt sn y) (nr_up oh sn z) ∧ r = nI sn) 0 0 := by
  refine ct_ofi (by decide) (Nat.le_of_ble_eq_true rfl) ?_
  intro p e s m below meth cd A H locs av Q ls hx hb hr hml hown hlocks hnm hbw hEN hQ hP hD hS hA hl
  have hown : s.vm.findClass RX1 = some m.cls := hown
  have hK := hEN.1
  have hl : lv_has ls 5 [(0, .ref (q 7)), (1, .int (nI x)), (2, .int (nI y)), (3, .int (nI z))] := hl
  refine lv_aload_n hx hb dX1_add_0 rfl (lv_at hl 0 rfl) ?_
  refine va_get (ci := 1) (v := .int (nI sn)) (C := RX1) (T := TX1) (N := 4) hx hb hbw in_X1 hown hK hP 0 rfl rfl 0 (by decide) (hbw _ m_77) (fun _ h9 => h9) rfl dX1_add_1 ?_
  refine lv_istore (lv' := [(4, .int (nI sn)), (0, .ref (q 7)), (1, .int (nI x)), (2, .int (nI y)), (3, .int (nI z))]) hx hb dX1_add_4 hl (by decide) rfl (fun ls hl => ?_)
  refine lv_aload_n hx hb dX1_add_6 rfl (lv_at hl 1 rfl) ?_
  refine va_get (ci := 1) (v := .ref (q 8)) (C := RX1) (T := TX1) (N := 4) hx hb hbw in_X1 hown hK hP 0 rfl rfl 1 (by decide) (hbw _ m_80) (fun _ h9 => h9) rfl dX1_add_7 ?_
  refine lv_iload hx hb dX1_add_10 (lv_at hl 0 rfl) ?_
  refine lv_iload_n hx hb dX1_add_12 rfl (lv_at hl 2 rfl) ?_
  refine nr_iast hx hb hK hP hD hS 1 0 rfl rfl (k := sn) (v := x) (by omega) (by omega) dX1_add_13 (fun H locs hP hD hS => ?_)
  have hP : va_P D vwCl (pS q cI sn (nr_up ar sn x) rt oh) H := hP
  have hD : va_D A (pS q cI sn (nr_up ar sn x) rt oh) := hD
  refine lv_aload_n hx hb dX1_add_14 rfl (lv_at hl 1 rfl) ?_
  refine va_get (ci := 1) (v := .ref (q 9)) (C := RX1) (T := TX1) (N := 4) hx hb hbw in_X1 hown hK hP 0 rfl rfl 2 (by decide) (hbw _ m_82) (fun _ h9 => h9) rfl dX1_add_15 ?_
  refine lv_iload hx hb dX1_add_18 (lv_at hl 0 rfl) ?_
  refine lv_iload_n hx hb dX1_add_20 rfl (lv_at hl 3 rfl) ?_
  refine nr_iast hx hb hK hP hD hS 2 0 rfl rfl (k := sn) (v := y) (by omega) (by omega) dX1_add_21 (fun H locs hP hD hS => ?_)
  have hP : va_P D vwCl (pS q cI sn (nr_up ar sn x) (nr_up rt sn y) oh) H := hP
  have hD : va_D A (pS q cI sn (nr_up ar sn x) (nr_up rt sn y) oh) := hD
  refine lv_aload_n hx hb dX1_add_22 rfl (lv_at hl 1 rfl) ?_
  refine va_get (ci := 1) (v := .ref (q 10)) (C := RX1) (T := TX1) (N := 4) hx hb hbw in_X1 hown hK hP 0 rfl rfl 3 (by decide) (hbw _ m_84) (fun _ h9 => h9) rfl dX1_add_23 ?_
  refine lv_iload hx hb dX1_add_26 (lv_at hl 0 rfl) ?_
  refine lv_iload_n hx hb dX1_add_28 rfl (lv_at hl 4 rfl) ?_
  refine nr_iast hx hb hK hP hD hS 3 0 rfl rfl (k := sn) (v := z) (by omega) (by omega) dX1_add_29 (fun H locs hP hD hS => ?_)
  have hP : va_P D vwCl (pS q cI sn (nr_up ar sn x) (nr_up rt sn y) (nr_up oh sn z)) H := hP
  have hD : va_D A (pS q cI sn (nr_up ar sn x) (nr_up rt sn y) (nr_up oh sn z)) := hD
  refine lv_aload_n hx hb dX1_add_30 rfl (lv_at hl 1 rfl) ?_
  refine lv_iload hx hb dX1_add_31 (lv_at hl 0 rfl) ?_
  refine lv_iconst (v := nI 1) hx hb dX1_add_33 (by decide) ?_
  refine nr_iadd hx hb dX1_add_34 ?_
  refine va_put (ci := 1) (v := .int (nI (sn + 1))) (ty := .int) (C := RX1) (T := TX1) (N := 4) hx hb hbw in_X1 tyX1 tyX1_ok nmX1 hown hK hP hD hS 0 rfl rfl 0 (by decide) (hbw _ m_77) (fun _ h9 => h9) rfl (by decide +kernel) rfl rfl (Nat.le_of_ble_eq_true rfl) dX1_add_35 (fun H locs hP hD hS => ?_)
  have hP : va_P D vwCl (pS q cI (sn + 1) (nr_up ar sn x) (nr_up rt sn y) (nr_up oh sn z)) H := hP
  have hD : va_D A (pS q cI (sn + 1) (nr_up ar sn x) (nr_up rt sn y) (nr_up oh sn z)) := hD
  refine lv_iload hx hb dX1_add_38 (lv_at hl 0 rfl) ?_
  rw [hQ]
  exact ct_iret hx hb hr hlocks hP hD hS dX1_add_40 ⟨rfl, rfl⟩
set_option maxHeartbeats 4000000 in
set_option maxRecDepth 100000 in
/-- Cables.add -/
theorem kX0_add (l : Launch) (D : va_G) (cI cG cL cB : ClassId) (q r : Nat → Nat) (cn : Nat) (no ot cu wc wl : Nat → Nat) (x y z : Nat) (hn : cn < 20) : ct_i l yX0_add (.code yX0_add cX0_add 5 (some .int) :: bw) ({ frames := 0, cells := 0, slots := 0, locals := 0 }) (EN D (tyL cI cG cL cB)) D vwCl (pC q r cI cG cn no ot cu wc wl) [.ref (q 11), .int (nI x), .int (nI y), .int (nI z)] (fun v W => W = pC q r cI cG (cn + 1) (nr_up no cn x) (nr_up ot cn y) (nr_up cu cn z) wc wl ∧ v = nI cn) 0 0 := by
  refine ct_ofi (by decide) (Nat.le_of_ble_eq_true rfl) ?_
  intro p e s m below meth cd A H locs av Q ls hx hb hr hml hown hlocks hnm hbw hEN hQ hP hD hS hA hl
  have hown : s.vm.findClass RX0 = some m.cls := hown
  have hK := hEN.1
  have hl : lv_has ls 5 [(0, .ref (q 11)), (1, .int (nI x)), (2, .int (nI y)), (3, .int (nI z))] := hl
  refine lv_aload_n hx hb dX0_add_0 rfl (lv_at hl 0 rfl) ?_
  refine va_get (ci := 0) (v := .int (nI cn)) (C := RX0) (T := TX0) (N := 7) hx hb hbw in_X0 hown hK hP 0 rfl rfl 0 (by decide) (hbw _ m_103) (fun _ h9 => h9) rfl dX0_add_1 ?_
  refine lv_istore (lv' := [(4, .int (nI cn)), (0, .ref (q 11)), (1, .int (nI x)), (2, .int (nI y)), (3, .int (nI z))]) hx hb dX0_add_4 hl (by decide) rfl (fun ls hl => ?_)
  refine lv_aload_n hx hb dX0_add_6 rfl (lv_at hl 1 rfl) ?_
  refine va_get (ci := 0) (v := .ref (q 12)) (C := RX0) (T := TX0) (N := 7) hx hb hbw in_X0 hown hK hP 0 rfl rfl 1 (by decide) (hbw _ m_106) (fun _ h9 => h9) rfl dX0_add_7 ?_
  refine lv_iload hx hb dX0_add_10 (lv_at hl 0 rfl) ?_
  refine lv_iload_n hx hb dX0_add_12 rfl (lv_at hl 2 rfl) ?_
  refine nr_iast hx hb hK hP hD hS 1 0 rfl rfl (k := cn) (v := x) (by omega) (by omega) dX0_add_13 (fun H locs hP hD hS => ?_)
  have hP : va_P D vwCl (pC q r cI cG cn (nr_up no cn x) ot cu wc wl) H := hP
  have hD : va_D A (pC q r cI cG cn (nr_up no cn x) ot cu wc wl) := hD
  refine lv_aload_n hx hb dX0_add_14 rfl (lv_at hl 1 rfl) ?_
  refine va_get (ci := 0) (v := .ref (q 13)) (C := RX0) (T := TX0) (N := 7) hx hb hbw in_X0 hown hK hP 0 rfl rfl 2 (by decide) (hbw _ m_107) (fun _ h9 => h9) rfl dX0_add_15 ?_
  refine lv_iload hx hb dX0_add_18 (lv_at hl 0 rfl) ?_
  refine lv_iload_n hx hb dX0_add_20 rfl (lv_at hl 3 rfl) ?_
  refine nr_iast hx hb hK hP hD hS 2 0 rfl rfl (k := cn) (v := y) (by omega) (by omega) dX0_add_21 (fun H locs hP hD hS => ?_)
  have hP : va_P D vwCl (pC q r cI cG cn (nr_up no cn x) (nr_up ot cn y) cu wc wl) H := hP
  have hD : va_D A (pC q r cI cG cn (nr_up no cn x) (nr_up ot cn y) cu wc wl) := hD
  refine lv_aload_n hx hb dX0_add_22 rfl (lv_at hl 1 rfl) ?_
  refine va_get (ci := 0) (v := .ref (q 14)) (C := RX0) (T := TX0) (N := 7) hx hb hbw in_X0 hown hK hP 0 rfl rfl 3 (by decide) (hbw _ m_108) (fun _ h9 => h9) rfl dX0_add_23 ?_
  refine lv_iload hx hb dX0_add_26 (lv_at hl 0 rfl) ?_
  refine lv_iload_n hx hb dX0_add_28 rfl (lv_at hl 4 rfl) ?_
  refine nr_iast hx hb hK hP hD hS 3 0 rfl rfl (k := cn) (v := z) (by omega) (by omega) dX0_add_29 (fun H locs hP hD hS => ?_)
  have hP : va_P D vwCl (pC q r cI cG cn (nr_up no cn x) (nr_up ot cn y) (nr_up cu cn z) wc wl) H := hP
  have hD : va_D A (pC q r cI cG cn (nr_up no cn x) (nr_up ot cn y) (nr_up cu cn z) wc wl) := hD
  refine lv_aload_n hx hb dX0_add_30 rfl (lv_at hl 1 rfl) ?_
  refine lv_iload hx hb dX0_add_31 (lv_at hl 0 rfl) ?_
  refine lv_iconst (v := nI 1) hx hb dX0_add_33 (by decide) ?_
  refine nr_iadd hx hb dX0_add_34 ?_
  refine va_put (ci := 0) (v := .int (nI (cn + 1))) (ty := .int) (C := RX0) (T := TX0) (N := 7) hx hb hbw in_X0 tyX0 tyX0_ok nmX0 hown hK hP hD hS 0 rfl rfl 0 (by decide) (hbw _ m_103) (fun _ h9 => h9) rfl (by decide +kernel) rfl rfl (Nat.le_of_ble_eq_true rfl) dX0_add_35 (fun H locs hP hD hS => ?_)
  have hP : va_P D vwCl (pC q r cI cG (cn + 1) (nr_up no cn x) (nr_up ot cn y) (nr_up cu cn z) wc wl) H := hP
  have hD : va_D A (pC q r cI cG (cn + 1) (nr_up no cn x) (nr_up ot cn y) (nr_up cu cn z) wc wl) := hD
  refine lv_iload hx hb dX0_add_38 (lv_at hl 0 rfl) ?_
  rw [hQ]
  exact ct_iret hx hb hr hlocks hP hD hS dX0_add_40 ⟨rfl, rfl⟩
set_option maxHeartbeats 4000000 in
set_option maxRecDepth 100000 in
/-- Cables.isLoose -/
theorem kX0_isLoose (l : Launch) (D : va_G) (cI cG cL cB : ClassId) (q r : Nat → Nat) (cn : Nat) (no ot cu wc wl : Nat → Nat) (x : Nat) (hx0 : x < 20) (hwc : ∀ j, wc j ≤ 9) : ct_i l yX0_isLoose (.code yX0_isLoose cX0_isLoose 2 (some .boolean) :: bw) ({ frames := 0, cells := 0, slots := 0, locals := 0 }) (EN D (tyL cI cG cL cB)) D vwCl (pC q r cI cG cn no ot cu wc wl) [.ref (q 11), .int (nI x)] (fun v W => W = pC q r cI cG cn no ot cu wc wl ∧ v = nI (bN (decide (wc x = 0)))) 0 0 := by
  refine ct_ofi (by decide) (Nat.le_of_ble_eq_true rfl) ?_
  intro p e s m below meth cd A H locs av Q ls hx hb hr hml hown hlocks hnm hbw hEN hQ hP hD hS hA hl
  have hown : s.vm.findClass RX0 = some m.cls := hown
  have hK := hEN.1
  have hl : lv_has ls 2 [(0, .ref (q 11)), (1, .int (nI x))] := hl
  refine lv_aload_n hx hb dX0_isLoose_0 rfl (lv_at hl 0 rfl) ?_
  refine va_get (ci := 0) (v := .ref (q 15)) (C := RX0) (T := TX0) (N := 7) hx hb hbw in_X0 hown hK hP 0 rfl rfl 4 (by decide) (hbw _ m_111) (fun _ h9 => h9) rfl dX0_isLoose_1 ?_
  refine lv_iload_n hx hb dX0_isLoose_4 rfl (lv_at hl 1 rfl) ?_
  refine nr_iald hx hb hK hP 4 0 rfl rfl (k := x) (by omega) (by omega) dX0_isLoose_5 ?_
  have b_1 := hwc x
  refine nr_if_ne (x := wc x) (tgt := 13) hx hb (by omega) dX0_isLoose_6 (by decide) (fun h1 => ?_) (fun h1 => ?_)
  · refine lv_iconst (v := nI 0) hx hb dX0_isLoose_13 (by decide) ?_
    have e1 : decide (wc x = 0) = false := decide_eq_false (by omega)
    rw [hQ]
    exact ct_zret hx hb hr hlocks hP hD hS dX0_isLoose_14 (by first | exact Or.inl rfl | exact Or.inr rfl) ⟨rfl, by rw [e1]; rfl⟩
  · refine lv_iconst (v := nI 1) hx hb dX0_isLoose_9 (by decide) ?_
    refine lv_goto (tgt := 14) hx hb dX0_isLoose_10 (by decide) ?_
    have e1 : decide (wc x = 0) = true := decide_eq_true h1
    rw [hQ]
    exact ct_zret hx hb hr hlocks hP hD hS dX0_isLoose_14 (by first | exact Or.inl rfl | exact Or.inr rfl) ⟨rfl, by rw [e1]; rfl⟩
set_option maxHeartbeats 4000000 in
set_option maxRecDepth 100000 in
/-- Cables.countThrough -/
theorem kX0_countThrough (l : Launch) (D : va_G) (cI cG cL cB : ClassId) (q r : Nat → Nat) (cn : Nat) (no ot cu wc wl : Nat → Nat) (wt : Nat → Nat → Nat) (t : Nat) (hn : cn ≤ 20) (ht : t < 15) (hwc : ∀ j, wc j ≤ 9) (hwt : ∀ i j, wt i j < 15) : ct_i l yX0_countThrough (.code yX0_countThrough cX0_countThrough 5 (some .int) :: bw) ({ frames := 0, cells := 0, slots := 0, locals := 0 }) (EN D (tyL cI cG cL cB)) D vwCl (pC q r cI cG cn no ot cu wc wl ++ pR r cI wt) [.ref (q 11), .int (nI t)] (fun v W => W = pC q r cI cG cn no ot cu wc wl ++ pR r cI wt ∧ v = nI (cz_sum (fun c => cz_occ wc wt c t) cn)) 0 0 := by
  refine ct_ofi (by decide) (Nat.le_of_ble_eq_true rfl) ?_
  intro p e s m below meth cd A H locs av Q ls hx hb hr hml hown hlocks hnm hbw hEN hQ hP hD hS hA hl
  have hown : s.vm.findClass RX0 = some m.cls := hown
  have hK := hEN.1
  have hl : lv_has ls 5 [(0, .ref (q 11)), (1, .int (nI t))] := hl
  refine lv_iconst (v := nI 0) hx hb dX0_countThrough_0 (by decide) ?_
  refine lv_istore_n (lv' := [(2, .int (nI 0)), (0, .ref (q 11)), (1, .int (nI t))]) hx hb dX0_countThrough_1 rfl hl (by decide) rfl (fun ls hl => ?_)
  refine lv_iconst (v := nI 0) hx hb dX0_countThrough_2 (by decide) ?_
  refine lv_istore_n (lv' := [(3, .int (nI 0)), (2, .int (nI 0)), (0, .ref (q 11)), (1, .int (nI t))]) hx hb dX0_countThrough_3 rfl hl (by decide) rfl (fun ls hl => ?_)
  have lp : ∀ (k : Nat) (c : Nat) (z : Nat), (hk : cn < c + k) → (hi : c ≤ cn) → (hz : z = cz_sum (fun c => cz_occ wc wt c t) c) → ∀ (H : Heap) (locs : List Loc) (ls : Array Slot), va_P D vwCl (pC q r cI cG cn no ot cu wc wl ++ pR r cI wt) H → va_D A (pC q r cI cG cn no ot cu wc wl ++ pR r cI wt) → va_S A s.heap H locs → lv_has ls 5 [(0, .ref (q 11)), (1, .int (nI t)), (2, .int (nI z)), (3, .int (nI c))] → W p l e ({ frames := 0, cells := 0, slots := 0, locals := 0 }) s m av below meth cd H locs 0 0 Q (F0 m 4 ls []) := by
    intro k
    induction k with
    | zero => intro c z hk hi hz; exact absurd hk (by omega)
    | succ k ih =>
      intro c z hk hi hz H locs ls hP hD hS hl
      have hb1 : z ≤ c * 9 := by rw [hz]; exact cz_sum_bd (fun i _ => Nat.le_trans (cz_sum_bd (M := 1) (fun j _ => by split <;> omega)) (by have := hwc i; omega))
      refine lv_iload_n hx hb dX0_countThrough_4 rfl (lv_at hl 3 rfl) ?_
      refine lv_aload_n hx hb dX0_countThrough_5 rfl (lv_at hl 0 rfl) ?_
      refine va_get (ci := 0) (v := .int (nI cn)) (C := RX0) (T := TX0) (N := 7) hx hb hbw in_X0 hown hK hP 0 rfl rfl 0 (by decide) (hbw _ m_103) (fun _ h9 => h9) rfl dX0_countThrough_6 ?_
      refine nr_icmp_ge (x := c) (y := cn) (tgt := 54) hx hb (by omega) (by omega) dX0_countThrough_9 (by decide) (fun h1 => ?_) (fun h1 => ?_)
      · refine lv_iload_n hx hb dX0_countThrough_54 rfl (lv_at hl 2 rfl) ?_
        obtain rfl : c = cn := by omega
        rw [hQ]
        exact ct_iret hx hb hr hlocks hP hD hS dX0_countThrough_55 ⟨rfl, by rw [hz]⟩
      · refine lv_iconst (v := nI 0) hx hb dX0_countThrough_12 (by decide) ?_
        refine lv_istore (lv' := [(4, .int (nI 0)), (0, .ref (q 11)), (1, .int (nI t)), (2, .int (nI z)), (3, .int (nI c))]) hx hb dX0_countThrough_13 hl (by decide) rfl (fun ls hl => ?_)
        have b_0 := hwc c
        have lq : ∀ (k : Nat) (i : Nat) (z : Nat), (hk2 : 9 < i + k) → (hi2 : i ≤ wc c) → (hz2 : z = cz_sum (fun c => cz_occ wc wt c t) c + cz_sum (fun i => if wt c i = t then 1 else 0) i) → ∀ (H : Heap) (locs : List Loc) (ls : Array Slot), va_P D vwCl (pC q r cI cG cn no ot cu wc wl ++ pR r cI wt) H → va_D A (pC q r cI cG cn no ot cu wc wl ++ pR r cI wt) → va_S A s.heap H locs → lv_has ls 5 [(0, .ref (q 11)), (1, .int (nI t)), (2, .int (nI z)), (3, .int (nI c)), (4, .int (nI i))] → W p l e ({ frames := 0, cells := 0, slots := 0, locals := 0 }) s m av below meth cd H locs 0 0 Q (F0 m 15 ls []) := by
          intro k
          induction k with
          | zero => intro i z hk2 hi2 hz2; exact absurd hk2 (by omega)
          | succ k ih2 =>
            intro i z hk2 hi2 hz2 H locs ls hP hD hS hl
            have hb2 : cz_sum (fun i => if wt c i = t then 1 else 0) i ≤ i * 1 := cz_sum_bd (fun j _ => by split <;> omega)
            refine lv_iload hx hb dX0_countThrough_15 (lv_at hl 4 rfl) ?_
            refine lv_aload_n hx hb dX0_countThrough_17 rfl (lv_at hl 0 rfl) ?_
            refine va_get (ci := 0) (v := .ref (q 15)) (C := RX0) (T := TX0) (N := 7) hx hb hbw in_X0 hown hK hP 0 rfl rfl 4 (by decide) (hbw _ m_111) (fun _ h9 => h9) rfl dX0_countThrough_18 ?_
            refine lv_iload_n hx hb dX0_countThrough_21 rfl (lv_at hl 3 rfl) ?_
            refine nr_iald hx hb hK hP 4 0 rfl rfl (k := c) (by omega) (by omega) dX0_countThrough_22 ?_
            have b_1 := hwc c
            refine nr_icmp_ge (x := i) (y := wc c) (tgt := 48) hx hb (by omega) (by omega) dX0_countThrough_23 (by decide) (fun h2 => ?_) (fun h2 => ?_)
            · refine lv_iinc (v := nI (c + 1)) (lv' := [(3, .int (nI (c + 1))), (0, .ref (q 11)), (1, .int (nI t)), (2, .int (nI z)), (4, .int (nI i))]) hx hb dX0_countThrough_48 hl (k := 3) rfl (nI_1 _) (by decide) rfl (fun ls hl => ?_)
              refine lv_goto (tgt := 4) hx hb dX0_countThrough_51 (by decide) ?_
              obtain rfl : i = wc c := by omega
              exact ih (c + 1) z (by omega) (by omega) hz2 _ _ _ hP hD hS (lv_sub hl [1, 2, 3, 0] rfl)
            · refine lv_aload_n hx hb dX0_countThrough_26 rfl (lv_at hl 0 rfl) ?_
              refine va_get (ci := 0) (v := .ref (q 17)) (C := RX0) (T := TX0) (N := 7) hx hb hbw in_X0 hown hK hP 0 rfl rfl 6 (by decide) (hbw _ m_117) (fun _ h9 => h9) rfl dX0_countThrough_27 ?_
              refine lv_iload_n hx hb dX0_countThrough_30 rfl (lv_at hl 3 rfl) ?_
              refine gr_ald hx hb hK hP 6 1 rfl rfl (k := c) (by omega) dX0_countThrough_31 ?_
              refine lv_iload hx hb dX0_countThrough_32 (lv_at hl 4 rfl) ?_
              refine gr_iald hx hb hK hP 0 rfl (i := c) (k := i) (by omega) (by omega) dX0_countThrough_34 ?_
              have b_2 := hwt c i
              refine lv_iload_n hx hb dX0_countThrough_35 rfl (lv_at hl 1 rfl) ?_
              refine nr_icmp_ne (x := wt c i) (y := t) (tgt := 42) hx hb (by omega) (by omega) dX0_countThrough_36 (by decide) (fun h3 => ?_) (fun h3 => ?_)
              · refine lv_iinc (v := nI (i + 1)) (lv' := [(4, .int (nI (i + 1))), (0, .ref (q 11)), (1, .int (nI t)), (2, .int (nI z)), (3, .int (nI c))]) hx hb dX0_countThrough_42 hl (k := 4) rfl (nI_1 _) (by decide) rfl (fun ls hl => ?_)
                refine lv_goto (tgt := 15) hx hb dX0_countThrough_45 (by decide) ?_
                exact ih2 (i + 1) z (by omega) (by omega) (by rw [hz2]; show _ = _ + (_ + if wt c i = t then 1 else 0); rw [if_neg h3]; omega) _ _ _ hP hD hS (lv_sub hl [1, 2, 3, 4, 0] rfl)
              · refine lv_iinc (v := nI (z + 1)) (lv' := [(2, .int (nI (z + 1))), (0, .ref (q 11)), (1, .int (nI t)), (3, .int (nI c)), (4, .int (nI i))]) hx hb dX0_countThrough_39 hl (k := 2) rfl (nI_1 _) (by decide) rfl (fun ls hl => ?_)
                refine lv_iinc (v := nI (i + 1)) (lv' := [(4, .int (nI (i + 1))), (2, .int (nI (z + 1))), (0, .ref (q 11)), (1, .int (nI t)), (3, .int (nI c))]) hx hb dX0_countThrough_42 hl (k := 4) rfl (nI_1 _) (by decide) rfl (fun ls hl => ?_)
                refine lv_goto (tgt := 15) hx hb dX0_countThrough_45 (by decide) ?_
                exact ih2 (i + 1) (z + 1) (by omega) (by omega) (by rw [hz2]; show _ = _ + (_ + if wt c i = t then 1 else 0); rw [if_pos h3]; omega) _ _ _ hP hD hS (lv_sub hl [2, 3, 1, 4, 0] rfl)
        exact lq 10 0 z (by omega) (Nat.zero_le _) (by rw [← hz]; rfl) _ _ _ hP hD hS (lv_sub hl [1, 2, 3, 4, 0] rfl)
  exact lp (cn + 1) 0 0 (by omega) (Nat.zero_le cn) rfl H locs ls hP hD hS (lv_sub hl [2, 3, 1, 0] rfl)
theorem nr_up_up (g : Nat → Nat) (k v w : Nat) : nr_up (nr_up g k v) k w = nr_up g k w := by
  funext j
  unfold nr_up
  split <;> rfl
theorem pR_up_up (wt : Nat → Nat → Nat) (i : Nat) (f g : Nat → Nat) : pR_up (pR_up wt i f) i g = pR_up wt i g := by
  funext j
  unfold pR_up
  split <;> rfl
theorem pR_up_s (wt : Nat → Nat → Nat) (i : Nat) (f : Nat → Nat) : pR_up wt i f i = f := if_pos rfl
theorem pR_up_n (wt : Nat → Nat → Nat) {i j : Nat} (f : Nat → Nat) (h : j ≠ i) : pR_up wt i f j = wt j := if_neg h
theorem pR_up_self (wt : Nat → Nat → Nat) (i : Nat) : pR_up wt i (wt i) = wt := by
  funext j
  unfold pR_up
  split
  · rename_i h; rw [h]
  · rfl
/-- k trays f, L long, are the way from u to v (none, and 0 long, where there is no way) -/
def cw_W (n : Nat) (a b le : Nat → Nat) (u v k : Nat) (f : Nat → Nat) (L : Nat) : Prop := ∃ d, cw_ds n a b le v 1000000 d ∧ ((1000000 ≤ d u ∧ k = 0 ∧ L = 0) ∨ (d u < 1000000 ∧ k ≤ 9 ∧ cw_gr n a b le d ((List.range k).map f) u v ∧ L = d u))
theorem cw_row (f : Nat → Nat) (k t : Nat) : (List.range (k + 1)).map (nr_up f k t) = (List.range k).map f ++ [t] := by
  rw [List.range_succ, List.map_append]
  congr 1
  · apply List.map_congr_left
    intro j hj
    exact nr_up_n f t (Nat.ne_of_lt (List.mem_range.mp hj))
  · show [nr_up f k t k] = [t]
    rw [nr_up_s]
set_option maxHeartbeats 4000000 in
set_option maxRecDepth 100000 in
/-- Cables.findWay -/
theorem kX0_findWay (l : Launch) (D : va_G) (cI cG cL cB : ClassId) (q r : Nat → Nat) (cn : Nat) (no ot cu wc wl : Nat → Nat) (n : Nat) (a b le ro di : Nat → Nat) (wt : Nat → Nat → Nat) (c : Nat) (hc : c < 20) (hno : no c < 10) (hot : ot c < 10) (hwt : ∀ i j, wt i j < 15) (hn : n ≤ 15) (hok : cw_ok n a b le) (ha0 : ∀ j, a j < 10) (hb0 : ∀ j, b j < 10) (hl0 : ∀ j, le j ≤ 100) : ct_v l yX0_findWay (.code yX0_findWay cX0_findWay 6 none :: bw) ({ frames := 2, cells := 0, slots := 0, locals := 50 }) (EN D (tyL cI cG cL cB)) D vwCl (pC q r cI cG cn no ot cu wc wl ++ pT q cI n a b le ro di ++ pR r cI wt) [.ref (q 11), .int (nI c), .ref (q 1)] (fun W => ∃ d k f L, W = pC q r cI cG cn no ot cu (nr_up wc c k) (nr_up wl c L) ++ pT q cI n a b le ro d ++ pR r cI (pR_up wt c f) ∧ cw_W n a b le (no c) (ot c) k f L ∧ ∀ j, f j < 15) 0 0 := by
  refine ct_ofv (by decide) (Nat.le_of_ble_eq_true rfl) ?_
  intro p e s m below meth cd A H locs av Q ls hx hb hr hml hown hlocks hnm hbw hEN hQ hP hD hS hA hl
  have hown : s.vm.findClass RX0 = some m.cls := hown
  have hK := hEN.1
  have hl : lv_has ls 6 [(0, .ref (q 11)), (1, .int (nI c)), (2, .ref (q 1))] := hl
  refine lv_aload_n hx hb dX0_findWay_0 rfl (lv_at hl 2 rfl) ?_
  refine lv_aload_n hx hb dX0_findWay_1 rfl (lv_at hl 0 rfl) ?_
  refine va_get (ci := 0) (v := .ref (q 13)) (C := RX0) (T := TX0) (N := 7) hx hb hbw in_X0 hown hK hP 0 rfl rfl 2 (by decide) (hbw _ m_107) (fun _ h9 => h9) rfl dX0_findWay_2 ?_
  refine lv_iload_n hx hb dX0_findWay_5 rfl (lv_at hl 1 rfl) ?_
  refine nr_iald hx hb hK hP 2 0 rfl rfl (k := c) (by omega) (by omega) dX0_findWay_6 ?_
  refine ct_Vv (wc := (pT q cI n a b le ro di)) (wr := (pC q r cI cG cn no ot cu wc wl ++ pR r cI wt)) (As := [.int (nI (ot c))]) (rest := []) ⟨hx, hb, hml, hown, hbw⟩ (EN_E D _) hEN (kX3_measureTo l D cI cG cL cB q n a b le ro di (ot c) hot hn hok ha0 hb0 hl0) (cwV (C := "CableSizes$Trays") 1 hbw (gV m_350 m_351 m_352 m_19 m_353) rfl rfl rfl (by decide +kernel) ⟨Nat.le_of_ble_eq_true rfl, Nat.le_of_ble_eq_true rfl⟩) (va_recv hK hP (ci := 3) (q0 := 7) rfl rfl) hP hD hS hA [7, 8, 9, 10, 11, 12] [0, 1, 2, 3, 4, 5, 6, 13, 14, 15, 16, 17, 18, 19, 20, 21, 22, 23, 24, 25, 26, 27, 28, 29, 30, 31, 32] rfl rfl (by decide) (by decide) (by decide) rfl hl.1 rfl (Nat.le_of_ble_eq_true rfl) dX0_findWay_7 ⟨Nat.le_of_ble_eq_true rfl, Nat.le_of_ble_eq_true rfl⟩ (fun w_1 H locs hw hP hD hS => ?_)
  obtain ⟨d, rfl, hds⟩ := hw
  have hP := hP.sub (ws' := (pC q r cI cG cn no ot cu wc wl ++ pT q cI n a b le ro d ++ pR r cI wt)) [0, 1, 2, 3, 4, 5, 6, 27, 28, 29, 30, 31, 32, 7, 8, 9, 10, 11, 12, 13, 14, 15, 16, 17, 18, 19, 20, 21, 22, 23, 24, 25, 26] rfl
  have hD := hD.sub (ws' := (pC q r cI cG cn no ot cu wc wl ++ pT q cI n a b le ro d ++ pR r cI wt)) [0, 1, 2, 3, 4, 5, 6, 27, 28, 29, 30, 31, 32, 7, 8, 9, 10, 11, 12, 13, 14, 15, 16, 17, 18, 19, 20, 21, 22, 23, 24, 25, 26] (by decide) rfl
  have hd0 : ∀ j, d j ≤ 1000000 := hds.1.1
  refine lv_aload_n hx hb dX0_findWay_10 rfl (lv_at hl 0 rfl) ?_
  refine va_get (ci := 0) (v := .ref (q 15)) (C := RX0) (T := TX0) (N := 7) hx hb hbw in_X0 hown hK hP 0 rfl rfl 4 (by decide) (hbw _ m_111) (fun _ h9 => h9) rfl dX0_findWay_11 ?_
  refine lv_iload_n hx hb dX0_findWay_14 rfl (lv_at hl 1 rfl) ?_
  refine lv_iconst (v := nI 0) hx hb dX0_findWay_15 (by decide) ?_
  refine nr_iast hx hb hK hP hD hS 4 0 rfl rfl (k := c) (v := 0) (by omega) (by omega) dX0_findWay_16 (fun H locs hP hD hS => ?_)
  have hP : va_P D vwCl (pC q r cI cG cn no ot cu (nr_up wc c 0) wl ++ pT q cI n a b le ro d ++ pR r cI wt) H := hP
  have hD : va_D A (pC q r cI cG cn no ot cu (nr_up wc c 0) wl ++ pT q cI n a b le ro d ++ pR r cI wt) := hD
  refine lv_aload_n hx hb dX0_findWay_17 rfl (lv_at hl 0 rfl) ?_
  refine va_get (ci := 0) (v := .ref (q 16)) (C := RX0) (T := TX0) (N := 7) hx hb hbw in_X0 hown hK hP 0 rfl rfl 5 (by decide) (hbw _ m_114) (fun _ h9 => h9) rfl dX0_findWay_18 ?_
  refine lv_iload_n hx hb dX0_findWay_21 rfl (lv_at hl 1 rfl) ?_
  refine lv_iconst (v := nI 0) hx hb dX0_findWay_22 (by decide) ?_
  refine nr_iast hx hb hK hP hD hS 5 0 rfl rfl (k := c) (v := 0) (by omega) (by omega) dX0_findWay_23 (fun H locs hP hD hS => ?_)
  have hP : va_P D vwCl (pC q r cI cG cn no ot cu (nr_up wc c 0) (nr_up wl c 0) ++ pT q cI n a b le ro d ++ pR r cI wt) H := hP
  have hD : va_D A (pC q r cI cG cn no ot cu (nr_up wc c 0) (nr_up wl c 0) ++ pT q cI n a b le ro d ++ pR r cI wt) := hD
  refine lv_aload_n hx hb dX0_findWay_24 rfl (lv_at hl 2 rfl) ?_
  refine va_getN (ci := 3) (v := .ref (q 6)) (C := RX3) (T := TX3) (N := 6) hx hb hbw in_X3 hown hK hP 7 rfl rfl 5 (by decide) (va_Nw.use rfl (hEN.2 _ (List.mem_filter.mpr ⟨mn_39, rfl⟩))) (fun _ h9 => h9) rfl dX0_findWay_25 ?_
  refine lv_aload_n hx hb dX0_findWay_28 rfl (lv_at hl 0 rfl) ?_
  refine va_get (ci := 0) (v := .ref (q 12)) (C := RX0) (T := TX0) (N := 7) hx hb hbw in_X0 hown hK hP 0 rfl rfl 1 (by decide) (hbw _ m_106) (fun _ h9 => h9) rfl dX0_findWay_29 ?_
  refine lv_iload_n hx hb dX0_findWay_32 rfl (lv_at hl 1 rfl) ?_
  refine nr_iald hx hb hK hP 1 0 rfl rfl (k := c) (by omega) (by omega) dX0_findWay_33 ?_
  refine nr_iald hx hb hK hP 12 0 rfl rfl (k := no c) (by omega) (by omega) dX0_findWay_34 ?_
  have b_2 := hd0 (no c)
  refine lv_ldc (v := nI 1000000) hx hb hown (hbw _ m_360) dX0_findWay_35 ?_
  have hP : va_P D vwCl (pC q r cI cG cn no ot cu (nr_up wc c 0) (nr_up wl c 0) ++ pT q cI n a b le ro d ++ pR r cI (pR_up wt c (wt c))) H := by rw [pR_up_self]; exact hP
  have hD : va_D A (pC q r cI cG cn no ot cu (nr_up wc c 0) (nr_up wl c 0) ++ pT q cI n a b le ro d ++ pR r cI (pR_up wt c (wt c))) := by rw [pR_up_self]; exact hD
  refine nr_icmp_lt (x := d (no c)) (y := 1000000) (tgt := 41) hx hb (by omega) (by omega) dX0_findWay_37 (by decide) (fun h1 => ?_) (fun h1 => ?_)
  · refine lv_aload_n hx hb dX0_findWay_41 rfl (lv_at hl 0 rfl) ?_
    refine va_get (ci := 0) (v := .ref (q 12)) (C := RX0) (T := TX0) (N := 7) hx hb hbw in_X0 hown hK hP 0 rfl rfl 1 (by decide) (hbw _ m_106) (fun _ h9 => h9) rfl dX0_findWay_42 ?_
    refine lv_iload_n hx hb dX0_findWay_45 rfl (lv_at hl 1 rfl) ?_
    refine nr_iald hx hb hK hP 1 0 rfl rfl (k := c) (by omega) (by omega) dX0_findWay_46 ?_
    refine lv_istore_n (lv' := [(3, .int (nI (no c))), (0, .ref (q 11)), (1, .int (nI c)), (2, .ref (q 1))]) hx hb dX0_findWay_47 rfl hl (by decide) rfl (fun ls hl => ?_)
    refine lv_iconst (v := nI 0) hx hb dX0_findWay_48 (by decide) ?_
    refine lv_istore (lv' := [(4, .int (nI 0)), (3, .int (nI (no c))), (0, .ref (q 11)), (1, .int (nI c)), (2, .ref (q 1))]) hx hb dX0_findWay_49 hl (by decide) rfl (fun ls hl => ?_)
    have lp : ∀ (k : Nat) (st : Nat) (nd : Nat) (L : Nat) (f : Nat → Nat), (hk : 9 < st + k) → (hst : st ≤ 9) → (hnd : nd < 10) → (hL : L + d nd = d (no c)) → (hg : cw_gr n a b le d ((List.range st).map f) (no c) nd) → (hf : ∀ j, f j < 15) → ∀ (H : Heap) (locs : List Loc) (ls : Array Slot), va_P D vwCl (pC q r cI cG cn no ot cu (nr_up wc c st) (nr_up wl c L) ++ pT q cI n a b le ro d ++ pR r cI (pR_up wt c f)) H → va_D A (pC q r cI cG cn no ot cu (nr_up wc c st) (nr_up wl c L) ++ pT q cI n a b le ro d ++ pR r cI (pR_up wt c f)) → va_S A s.heap H locs → lv_has ls 6 [(0, .ref (q 11)), (1, .int (nI c)), (2, .ref (q 1)), (3, .int (nI nd)), (4, .int (nI st))] → W p l e ({ frames := 2, cells := 0, slots := 0, locals := 50 }) s m av below meth cd H locs 0 0 Q (F0 m 51 ls []) := by
      intro k
      induction k with
      | zero => intro st nd L f hk hst hnd hL hg hf; exact absurd hk (by omega)
      | succ k ih =>
        intro st nd L f hk hst hnd hL hg hf H locs ls hP hD hS hl
        refine lv_iload_n hx hb dX0_findWay_51 rfl (lv_at hl 3 rfl) ?_
        refine lv_aload_n hx hb dX0_findWay_52 rfl (lv_at hl 0 rfl) ?_
        refine va_get (ci := 0) (v := .ref (q 13)) (C := RX0) (T := TX0) (N := 7) hx hb hbw in_X0 hown hK hP 0 rfl rfl 2 (by decide) (hbw _ m_107) (fun _ h9 => h9) rfl dX0_findWay_53 ?_
        refine lv_iload_n hx hb dX0_findWay_56 rfl (lv_at hl 1 rfl) ?_
        refine nr_iald hx hb hK hP 2 0 rfl rfl (k := c) (by omega) (by omega) dX0_findWay_57 ?_
        refine nr_icmp_eq (x := nd) (y := ot c) (tgt := 135) hx hb (by omega) (by omega) dX0_findWay_58 (by decide) (fun h2 => ?_) (fun h2 => ?_)
        · subst h2
          have hd9 : d (ot c) = 0 := cw_ds_v hds
          rw [hQ]
          exact ct_vret hx hb hr hlocks hP hD hS dX0_findWay_135 ⟨d, st, f, L, rfl, ⟨d, hds, Or.inr ⟨h1, hst, hg, by omega⟩⟩, hf⟩
        · obtain ⟨hlen, tz, htz, hgz⟩ := cw_gr_go hok hot hds hg h1 h2
          rw [List.length_map, List.length_range] at hlen
          refine lv_iload hx hb dX0_findWay_61 (lv_at hl 4 rfl) ?_
          refine lv_bipush (v := nI 9) hx hb dX0_findWay_63 (by decide) ?_
          refine nr_icmp_ge (x := st) (y := 9) (tgt := 135) hx hb (by omega) (by omega) dX0_findWay_65 (by decide) (fun h3 => ?_) (fun h3 => ?_)
          · exact absurd h3 (by omega)
          · refine lv_aload_n hx hb dX0_findWay_68 rfl (lv_at hl 2 rfl) ?_
            refine lv_iload_n hx hb dX0_findWay_69 rfl (lv_at hl 3 rfl) ?_
            refine ct_Vi (wc := (pT q cI n a b le ro d)) (wr := (pC q r cI cG cn no ot cu (nr_up wc c st) (nr_up wl c L) ++ pR r cI (pR_up wt c f))) (As := [.int (nI nd)]) (rest := []) ⟨hx, hb, hml, hown, hbw⟩ (EN_E D _) hEN (kX3_firstTowardsTarget l D cI cG cL cB q n a b le ro d nd hn hnd ha0 hb0 hl0 hd0) (cwV (C := "CableSizes$Trays") 1 hbw (gV m_361 m_362 m_363 m_19 m_364) rfl rfl rfl (by decide +kernel) ⟨Nat.le_of_ble_eq_true rfl, Nat.le_of_ble_eq_true rfl⟩) (va_recv hK hP (ci := 3) (q0 := 7) rfl rfl) hP hD hS hA [7, 8, 9, 10, 11, 12] [0, 1, 2, 3, 4, 5, 6, 13, 14, 15, 16, 17, 18, 19, 20, 21, 22, 23, 24, 25, 26, 27, 28, 29, 30, 31, 32] rfl rfl (by decide) (by decide) (by decide) rfl hl.1 rfl (Nat.le_of_ble_eq_true rfl) dX0_findWay_70 ⟨Nat.le_of_ble_eq_true rfl, Nat.le_of_ble_eq_true rfl⟩ (fun r_3 w_3 H locs hw hP hD hS => ?_)
            obtain ⟨rfl, hft⟩ := hw
            have hP := hP.sub (ws' := (pC q r cI cG cn no ot cu (nr_up wc c st) (nr_up wl c L) ++ pT q cI n a b le ro d ++ pR r cI (pR_up wt c f))) [0, 1, 2, 3, 4, 5, 6, 27, 28, 29, 30, 31, 32, 7, 8, 9, 10, 11, 12, 13, 14, 15, 16, 17, 18, 19, 20, 21, 22, 23, 24, 25, 26] rfl
            have hD := hD.sub (ws' := (pC q r cI cG cn no ot cu (nr_up wc c st) (nr_up wl c L) ++ pT q cI n a b le ro d ++ pR r cI (pR_up wt c f))) [0, 1, 2, 3, 4, 5, 6, 27, 28, 29, 30, 31, 32, 7, 8, 9, 10, 11, 12, 13, 14, 15, 16, 17, 18, 19, 20, 21, 22, 23, 24, 25, 26] (by decide) rfl
            obtain ⟨t, hrt, ht, hgd, hmin⟩ : ∃ t, r_3 = nI t ∧ t < n ∧ cw_gd a b le d nd t ∧ ∀ t', t' < t → ¬ cw_gd a b le d nd t' := by
              rcases hft with h | ⟨-, h⟩
              · exact h
              · exact absurd hgz (h tz htz)
            subst hrt
            obtain ⟨y, hny, hdy⟩ := id hgd
            have hy10 := (cw_nx_lt hok ht hny).2.1
            have b_9 := hl0 t
            have b_8 := hd0 nd
            have b_7 := hd0 (no c)
            refine lv_istore (lv' := [(5, .int (nI t)), (0, .ref (q 11)), (1, .int (nI c)), (2, .ref (q 1)), (3, .int (nI nd)), (4, .int (nI st))]) hx hb dX0_findWay_73 hl (by decide) rfl (fun ls hl => ?_)
            refine lv_iload hx hb dX0_findWay_75 (lv_at hl 0 rfl) ?_
            refine lv_iconst (v := (-1)) hx hb dX0_findWay_77 (by decide) ?_
            refine lv_icmp_ne (tgt := 84) hx hb dX0_findWay_78 (by decide) (fun h4 => ?_) (fun h4 => ?_)
            · refine lv_aload_n hx hb dX0_findWay_84 rfl (lv_at hl 1 rfl) ?_
              refine va_get (ci := 0) (v := .ref (q 17)) (C := RX0) (T := TX0) (N := 7) hx hb hbw in_X0 hown hK hP 0 rfl rfl 6 (by decide) (hbw _ m_117) (fun _ h9 => h9) rfl dX0_findWay_85 ?_
              refine lv_iload_n hx hb dX0_findWay_88 rfl (lv_at hl 2 rfl) ?_
              refine gr_ald hx hb hK hP 6 1 rfl rfl (k := c) (by omega) dX0_findWay_89 ?_
              refine lv_iload hx hb dX0_findWay_90 (lv_at hl 5 rfl) ?_
              refine lv_iload hx hb dX0_findWay_92 (lv_at hl 0 rfl) ?_
              refine gr_iast hx hb hK hP hD hS 0 rfl (i := c) (k := st) (v := t) (by omega) (by omega) dX0_findWay_94 (fun H locs hP hD hS => ?_)
              have hP : va_P D vwCl (pC q r cI cG cn no ot cu (nr_up wc c st) (nr_up wl c L) ++ pT q cI n a b le ro d ++ pR r cI (pR_up (pR_up wt c f) c (nr_up ((pR_up wt c f) c) st t))) H := hP
              have hD : va_D A (pC q r cI cG cn no ot cu (nr_up wc c st) (nr_up wl c L) ++ pT q cI n a b le ro d ++ pR r cI (pR_up (pR_up wt c f) c (nr_up ((pR_up wt c f) c) st t))) := hD
              refine lv_aload_n hx hb dX0_findWay_95 rfl (lv_at hl 1 rfl) ?_
              refine va_get (ci := 0) (v := .ref (q 15)) (C := RX0) (T := TX0) (N := 7) hx hb hbw in_X0 hown hK hP 0 rfl rfl 4 (by decide) (hbw _ m_111) (fun _ h9 => h9) rfl dX0_findWay_96 ?_
              refine lv_iload_n hx hb dX0_findWay_99 rfl (lv_at hl 2 rfl) ?_
              refine lv_iload hx hb dX0_findWay_100 (lv_at hl 5 rfl) ?_
              refine lv_iconst (v := nI 1) hx hb dX0_findWay_102 (by decide) ?_
              refine nr_iadd hx hb dX0_findWay_103 ?_
              refine nr_iast hx hb hK hP hD hS 4 0 rfl rfl (k := c) (v := st + 1) (by omega) (by omega) dX0_findWay_104 (fun H locs hP hD hS => ?_)
              have hP : va_P D vwCl (pC q r cI cG cn no ot cu (nr_up (nr_up wc c st) c (st + 1)) (nr_up wl c L) ++ pT q cI n a b le ro d ++ pR r cI (pR_up (pR_up wt c f) c (nr_up ((pR_up wt c f) c) st t))) H := hP
              have hD : va_D A (pC q r cI cG cn no ot cu (nr_up (nr_up wc c st) c (st + 1)) (nr_up wl c L) ++ pT q cI n a b le ro d ++ pR r cI (pR_up (pR_up wt c f) c (nr_up ((pR_up wt c f) c) st t))) := hD
              refine lv_aload_n hx hb dX0_findWay_105 rfl (lv_at hl 1 rfl) ?_
              refine va_get (ci := 0) (v := .ref (q 16)) (C := RX0) (T := TX0) (N := 7) hx hb hbw in_X0 hown hK hP 0 rfl rfl 5 (by decide) (hbw _ m_114) (fun _ h9 => h9) rfl dX0_findWay_106 ?_
              refine lv_iload_n hx hb dX0_findWay_109 rfl (lv_at hl 2 rfl) ?_
              refine lv_dup2_11 hx hb dX0_findWay_110 rfl rfl ?_
              refine nr_iald hx hb hK hP 5 0 rfl rfl (k := c) (by omega) (by omega) dX0_findWay_111 ?_
              refine lv_aload_n hx hb dX0_findWay_112 rfl (lv_at hl 3 rfl) ?_
              refine va_getN (ci := 3) (v := .ref (q 4)) (C := RX3) (T := TX3) (N := 6) hx hb hbw in_X3 hown hK hP 7 rfl rfl 3 (by decide) (va_Nw.use rfl (hEN.2 _ (List.mem_filter.mpr ⟨mn_34, rfl⟩))) (fun _ h9 => h9) rfl dX0_findWay_113 ?_
              refine lv_iload hx hb dX0_findWay_116 (lv_at hl 0 rfl) ?_
              refine nr_iald hx hb hK hP 10 0 rfl rfl (k := t) (by omega) (by omega) dX0_findWay_118 ?_
              refine nr_iadd hx hb dX0_findWay_119 ?_
              refine nr_iast hx hb hK hP hD hS 5 0 rfl rfl (k := c) (v := ((nr_up wl c L) c) + (le t)) (by omega) (by omega) dX0_findWay_120 (fun H locs hP hD hS => ?_)
              have hP : va_P D vwCl (pC q r cI cG cn no ot cu (nr_up (nr_up wc c st) c (st + 1)) (nr_up (nr_up wl c L) c (((nr_up wl c L) c) + (le t))) ++ pT q cI n a b le ro d ++ pR r cI (pR_up (pR_up wt c f) c (nr_up ((pR_up wt c f) c) st t))) H := hP
              have hD : va_D A (pC q r cI cG cn no ot cu (nr_up (nr_up wc c st) c (st + 1)) (nr_up (nr_up wl c L) c (((nr_up wl c L) c) + (le t))) ++ pT q cI n a b le ro d ++ pR r cI (pR_up (pR_up wt c f) c (nr_up ((pR_up wt c f) c) st t))) := hD
              simp only [nr_up_up, nr_up_s, pR_up_up, pR_up_s] at hP hD
              have hP : va_P D vwCl (pC q r cI cG cn no ot cu (nr_up wc c (st + 1)) (nr_up wl c (L + le t)) ++ pT q cI n a b le ro d ++ pR r cI (pR_up wt c (nr_up f st t))) H := hP
              have hD : va_D A (pC q r cI cG cn no ot cu (nr_up wc c (st + 1)) (nr_up wl c (L + le t)) ++ pT q cI n a b le ro d ++ pR r cI (pR_up wt c (nr_up f st t))) := hD
              refine lv_aload_n hx hb dX0_findWay_121 rfl (lv_at hl 3 rfl) ?_
              refine lv_iload hx hb dX0_findWay_122 (lv_at hl 0 rfl) ?_
              refine lv_iload_n hx hb dX0_findWay_124 rfl (lv_at hl 4 rfl) ?_
              refine ct_Vi (wc := (pT q cI n a b le ro d)) (wr := (pC q r cI cG cn no ot cu (nr_up wc c (st + 1)) (nr_up wl c (L + le t)) ++ pR r cI (pR_up wt c (nr_up f st t)))) (As := [.int (nI t), .int (nI nd)]) (rest := []) ⟨hx, hb, hml, hown, hbw⟩ (EN_E D _) hEN (kX3_endBehind l D cI cG cL cB q n a b le ro d t nd (by omega) hnd ha0 hb0) (cwV (C := "CableSizes$Trays") 2 hbw (gV m_369 m_366 m_367 m_19 m_368) rfl rfl rfl (by decide +kernel) ⟨Nat.le_of_ble_eq_true rfl, Nat.le_of_ble_eq_true rfl⟩) (va_recv hK hP (ci := 3) (q0 := 7) rfl rfl) hP hD hS hA [7, 8, 9, 10, 11, 12] [0, 1, 2, 3, 4, 5, 6, 13, 14, 15, 16, 17, 18, 19, 20, 21, 22, 23, 24, 25, 26, 27, 28, 29, 30, 31, 32] rfl rfl (by decide) (by decide) (by decide) rfl hl.1 rfl (Nat.le_of_ble_eq_true rfl) dX0_findWay_125 ⟨Nat.le_of_ble_eq_true rfl, Nat.le_of_ble_eq_true rfl⟩ (fun r_4 w_4 H locs hw hP hD hS => ?_)
              obtain ⟨rfl, hre⟩ := hw
              have hP := hP.sub (ws' := (pC q r cI cG cn no ot cu (nr_up wc c (st + 1)) (nr_up wl c (L + le t)) ++ pT q cI n a b le ro d ++ pR r cI (pR_up wt c (nr_up f st t)))) [0, 1, 2, 3, 4, 5, 6, 27, 28, 29, 30, 31, 32, 7, 8, 9, 10, 11, 12, 13, 14, 15, 16, 17, 18, 19, 20, 21, 22, 23, 24, 25, 26] rfl
              have hD := hD.sub (ws' := (pC q r cI cG cn no ot cu (nr_up wc c (st + 1)) (nr_up wl c (L + le t)) ++ pT q cI n a b le ro d ++ pR r cI (pR_up wt c (nr_up f st t)))) [0, 1, 2, 3, 4, 5, 6, 27, 28, 29, 30, 31, 32, 7, 8, 9, 10, 11, 12, 13, 14, 15, 16, 17, 18, 19, 20, 21, 22, 23, 24, 25, 26] (by decide) rfl
              rw [hny] at hre
              have hre : r_4 = nI y := hre
              subst hre
              refine lv_istore_n (lv' := [(3, .int (nI y)), (5, .int (nI t)), (0, .ref (q 11)), (1, .int (nI c)), (2, .ref (q 1)), (4, .int (nI st))]) hx hb dX0_findWay_128 rfl hl (by decide) rfl (fun ls hl => ?_)
              refine lv_iinc (v := nI (st + 1)) (lv' := [(4, .int (nI (st + 1))), (3, .int (nI y)), (5, .int (nI t)), (0, .ref (q 11)), (1, .int (nI c)), (2, .ref (q 1))]) hx hb dX0_findWay_129 hl (k := 5) rfl (nI_1 _) (by decide) rfl (fun ls hl => ?_)
              refine lv_goto (tgt := 51) hx hb dX0_findWay_132 (by decide) ?_
              exact ih (st + 1) y (L + le t) (nr_up f st t) (by omega) (by omega) hy10 (by omega) (by rw [cw_row]; exact cw_gr_app hg ht hny hdy hmin) (fun j => by by_cases e : j = st; rw [e, nr_up_s]; omega; rw [nr_up_n f t e]; exact hf j) _ _ _ hP hD hS (lv_sub hl [3, 4, 5, 1, 0] rfl)
            · exact absurd (congrArg Int32.toInt h4) (by rw [nI_toInt (by omega)]; intro h; have h5 : (t : Int) = -1 := h; omega)
    exact lp 10 0 (no c) 0 (wt c) (by omega) (by omega) hno (by omega) rfl (hwt c) H locs ls hP hD hS (lv_sub hl [2, 3, 4, 1, 0] rfl)
  · rw [hQ]
    exact ct_vret hx hb hr hlocks hP hD hS dX0_findWay_40 ⟨d, 0, wt c, 0, rfl, ⟨d, hds, Or.inl ⟨h1, rfl, rfl⟩⟩, hwt c⟩
