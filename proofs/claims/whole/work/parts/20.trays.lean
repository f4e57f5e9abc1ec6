set_option maxHeartbeats 4000000 in
set_option maxRecDepth 100000 in
/-- Trays.shorten -/
theorem kX3_shorten (l : Launch) (D : va_G) (cI cG cL cB : ClassId) (q : Nat → Nat) (n : Nat) (a b le ro di : Nat → Nat) (u v x : Nat) (hu : u < 10) (hv : v < 10) (hx0 : x ≤ 100) (hd0 : ∀ j, di j ≤ 1000000) : ct_i l yX3_shorten (.code yX3_shorten cX3_shorten 5 (some .boolean) :: bw) ({ frames := 0, cells := 0, slots := 0, locals := 0 }) (EN D (tyL cI cG cL cB)) D vwCl (pT q cI n a b le ro di) [.ref (q 1), .int (nI u), .int (nI v), .int (nI x)] (fun r W => W = pT q cI n a b le ro (cw_sh di u v x) ∧ r = if cw_tk di u v x = true then 1 else 0) 0 0 := by
  refine ct_ofi (by decide) (Nat.le_of_ble_eq_true rfl) ?_
  intro p e s m below meth c A ls hx hb hr hml hown hlocks hbw hEN hP hD hS hA hl
  have hown : s.vm.findClass RX3 = some m.cls := hown
  have hK := hEN.1
  have hl : lv_has ls 5 [(0, .ref (q 1)), (1, .int (nI u)), (2, .int (nI v)), (3, .int (nI x))] := hl
  refine lv_aload_n hx hb dX3_shorten_0 rfl (lv_at hl 0 rfl) ?_
  refine va_get (ci := 3) (v := .ref (q 6)) (C := RX3) (T := TX3) (N := 6) hx hb hbw in_X3 hown hK hP 0 rfl rfl 5 (by decide) (hbw _ m_55) (fun _ h9 => h9) rfl dX3_shorten_1 ?_
  refine lv_iload_n hx hb dX3_shorten_4 rfl (lv_at hl 2 rfl) ?_
  refine nr_iald hx hb hK hP 5 0 rfl rfl (k := v) (by omega) (by decide) dX3_shorten_5 ?_
  have b_1 := hd0 v
  refine lv_iload_n hx hb dX3_shorten_6 rfl (lv_at hl 3 rfl) ?_
  refine nr_iadd hx hb dX3_shorten_7 ?_
  refine lv_istore (lv' := [(4, .int (nI ((di v) + x))), (0, .ref (q 1)), (1, .int (nI u)), (2, .int (nI v)), (3, .int (nI x))]) hx hb dX3_shorten_8 hl (by decide) rfl (fun ls hl => ?_)
  refine lv_iload hx hb dX3_shorten_10 (lv_at hl 0 rfl) ?_
  refine lv_aload_n hx hb dX3_shorten_12 rfl (lv_at hl 1 rfl) ?_
  refine va_get (ci := 3) (v := .ref (q 6)) (C := RX3) (T := TX3) (N := 6) hx hb hbw in_X3 hown hK hP 0 rfl rfl 5 (by decide) (hbw _ m_55) (fun _ h9 => h9) rfl dX3_shorten_13 ?_
  refine lv_iload_n hx hb dX3_shorten_16 rfl (lv_at hl 2 rfl) ?_
  refine nr_iald hx hb hK hP 5 0 rfl rfl (k := u) (by omega) (by decide) dX3_shorten_17 ?_
  have b_2 := hd0 u
  refine nr_icmp_lt (x := (di v) + x) (y := di u) (tgt := 23) hx hb (by omega) (by omega) dX3_shorten_18 (by decide) (fun h1 => ?_) (fun h1 => ?_)
  · refine lv_aload_n hx hb dX3_shorten_23 rfl (lv_at hl 1 rfl) ?_
    refine va_get (ci := 3) (v := .ref (q 6)) (C := RX3) (T := TX3) (N := 6) hx hb hbw in_X3 hown hK hP 0 rfl rfl 5 (by decide) (hbw _ m_55) (fun _ h9 => h9) rfl dX3_shorten_24 ?_
    refine lv_iload_n hx hb dX3_shorten_27 rfl (lv_at hl 2 rfl) ?_
    refine lv_iload hx hb dX3_shorten_28 (lv_at hl 0 rfl) ?_
    refine nr_iast hx hb hK hP hD hS 5 0 rfl rfl (k := u) (v := (di v) + x) (by omega) (by decide) dX3_shorten_30 (fun H locs hP hD hS => ?_)
    have hP : va_P D vwCl (pT q cI n a b le ro (nr_up di u ((di v) + x))) H := hP
    have hD : va_D A (pT q cI n a b le ro (nr_up di u ((di v) + x))) := hD
    refine lv_iconst (v := nI 1) hx hb dX3_shorten_31 (by decide) ?_
    have e1 : cw_sh di u v x = nr_up di u (di v + x) := by unfold cw_sh; rw [if_pos h1]
    have e2 : cw_tk di u v x = true := by unfold cw_tk; exact decide_eq_true h1
    exact ct_zret hx hb hr hlocks hP hD hS dX3_shorten_32 (by first | exact Or.inl rfl | exact Or.inr rfl) ⟨by rw [e1], by rw [e2]; rfl⟩
  · refine lv_iconst (v := nI 0) hx hb dX3_shorten_21 (by decide) ?_
    have e1 : cw_sh di u v x = di := by unfold cw_sh; rw [if_neg (by omega)]
    have e2 : cw_tk di u v x = false := by unfold cw_tk; exact decide_eq_false (by omega)
    exact ct_zret hx hb hr hlocks hP hD hS dX3_shorten_22 (by first | exact Or.inl rfl | exact Or.inr rfl) ⟨by rw [e1], by rw [e2]; rfl⟩
