def bN (g : Bool) : Nat := if g = true then 1 else 0
def pF (qa : Nat) (cI : ClassId) (nn : Nat) (g : Nat → Nat) : va_W := [iA qa cI nn g]
theorem pF_congr {D : va_G} {cl : List vw_C} {H : Heap} {qa : Nat} {cI : ClassId} {nn : Nat} {g g' : Nat → Nat} (h : ∀ j, j < nn → g j = g' j) (hP : va_P D cl (pF qa cI nn g) H) : va_P D cl (pF qa cI nn g') H := by
  intro k x hx
  have hk : k < 1 := (List.getElem?_eq_some_iff.mp hx).1
  obtain rfl : k = 0 := by omega
  cases hx
  have h0 := hP 0 _ rfl
  show H[qa]? = some (vp_cell cI (nn, .inl (fun j => nI (g' j))))
  have h1 : H[qa]? = some (vp_cell cI (nn, .inl (fun j => nI (g j)))) := h0
  rw [h1, vp_cell_i, vp_cell_i]
  congr 1
  unfold arrV
  congr 1
  apply congrArg
  funext j
  show Value.int (nI (g j)) = Value.int (nI (g' j))
  rw [h j j.isLt]
theorem pF_D {A : Nat → Prop} {qa : Nat} {cI : ClassId} {nn : Nat} {g g' : Nat → Nat} (h : va_D A (pF qa cI nn g)) : va_D A (pF qa cI nn g') := h.set (p := 0) (e := .inl (cI, nn, .inl (fun j => nI (g' j)))) rfl
def oI (o : Option Nat) : Int32 := match o with
  | some v => nI v
  | none => -1
set_option maxHeartbeats 4000000 in
set_option maxRecDepth 100000 in
/-- Trays.shorten -/
theorem kX3_shorten (l : Launch) (D : va_G) (cI cG cL cB : ClassId) (q : Nat → Nat) (n : Nat) (a b le ro di : Nat → Nat) (u v x : Nat) (hu : u < 10) (hv : v < 10) (hx0 : x ≤ 100) (hd0 : ∀ j, di j ≤ 1000000) : ct_i l yX3_shorten (.code yX3_shorten cX3_shorten 5 (some .boolean) :: bw) ({ frames := 0, cells := 0, slots := 0, locals := 0 }) (EN D (tyL cI cG cL cB)) D vwCl (pT q cI n a b le ro di) [.ref (q 1), .int (nI u), .int (nI v), .int (nI x)] (fun r W => W = pT q cI n a b le ro (cw_sh di u v x) ∧ r = nI (bN (cw_tk di u v x))) 0 0 := by
  refine ct_ofi (by decide) (Nat.le_of_ble_eq_true rfl) ?_
  intro p e s m below meth cd A H locs av Q ls hx hb hr hml hown hlocks hnm hbw hEN hQ hP hD hS hA hl
  have hown : s.vm.findClass RX3 = some m.cls := hown
  have hK := hEN.1
  have hl : lv_has ls 5 [(0, .ref (q 1)), (1, .int (nI u)), (2, .int (nI v)), (3, .int (nI x))] := hl
  refine lv_aload_n hx hb dX3_shorten_0 rfl (lv_at hl 0 rfl) ?_
  refine va_get (ci := 3) (v := .ref (q 6)) (C := RX3) (T := TX3) (N := 6) hx hb hbw in_X3 hown hK hP 0 rfl rfl 5 (by decide) (hbw _ m_55) (fun _ h9 => h9) rfl dX3_shorten_1 ?_
  refine lv_iload_n hx hb dX3_shorten_4 rfl (lv_at hl 2 rfl) ?_
  refine nr_iald hx hb hK hP 5 0 rfl rfl (k := v) (by omega) (by omega) dX3_shorten_5 ?_
  have b_1 := hd0 v
  refine lv_iload_n hx hb dX3_shorten_6 rfl (lv_at hl 3 rfl) ?_
  refine nr_iadd hx hb dX3_shorten_7 ?_
  refine lv_istore (lv' := [(4, .int (nI ((di v) + x))), (0, .ref (q 1)), (1, .int (nI u)), (2, .int (nI v)), (3, .int (nI x))]) hx hb dX3_shorten_8 hl (by decide) rfl (fun ls hl => ?_)
  refine lv_iload hx hb dX3_shorten_10 (lv_at hl 0 rfl) ?_
  refine lv_aload_n hx hb dX3_shorten_12 rfl (lv_at hl 1 rfl) ?_
  refine va_get (ci := 3) (v := .ref (q 6)) (C := RX3) (T := TX3) (N := 6) hx hb hbw in_X3 hown hK hP 0 rfl rfl 5 (by decide) (hbw _ m_55) (fun _ h9 => h9) rfl dX3_shorten_13 ?_
  refine lv_iload_n hx hb dX3_shorten_16 rfl (lv_at hl 2 rfl) ?_
  refine nr_iald hx hb hK hP 5 0 rfl rfl (k := u) (by omega) (by omega) dX3_shorten_17 ?_
  have b_2 := hd0 u
  refine nr_icmp_lt (x := (di v) + x) (y := di u) (tgt := 23) hx hb (by omega) (by omega) dX3_shorten_18 (by decide) (fun h1 => ?_) (fun h1 => ?_)
  · refine lv_aload_n hx hb dX3_shorten_23 rfl (lv_at hl 1 rfl) ?_
    refine va_get (ci := 3) (v := .ref (q 6)) (C := RX3) (T := TX3) (N := 6) hx hb hbw in_X3 hown hK hP 0 rfl rfl 5 (by decide) (hbw _ m_55) (fun _ h9 => h9) rfl dX3_shorten_24 ?_
    refine lv_iload_n hx hb dX3_shorten_27 rfl (lv_at hl 2 rfl) ?_
    refine lv_iload hx hb dX3_shorten_28 (lv_at hl 0 rfl) ?_
    refine nr_iast hx hb hK hP hD hS 5 0 rfl rfl (k := u) (v := (di v) + x) (by omega) (by omega) dX3_shorten_30 (fun H locs hP hD hS => ?_)
    have hP : va_P D vwCl (pT q cI n a b le ro (nr_up di u ((di v) + x))) H := hP
    have hD : va_D A (pT q cI n a b le ro (nr_up di u ((di v) + x))) := hD
    refine lv_iconst (v := nI 1) hx hb dX3_shorten_31 (by decide) ?_
    have e1 : cw_sh di u v x = nr_up di u (di v + x) := by unfold cw_sh; rw [if_pos h1]
    have e2 : cw_tk di u v x = true := by unfold cw_tk; exact decide_eq_true h1
    rw [hQ]
    exact ct_zret hx hb hr hlocks hP hD hS dX3_shorten_32 (by first | exact Or.inl rfl | exact Or.inr rfl) ⟨by rw [e1], by rw [e2]; rfl⟩
  · refine lv_iconst (v := nI 0) hx hb dX3_shorten_21 (by decide) ?_
    have e1 : cw_sh di u v x = di := by unfold cw_sh; rw [if_neg (by omega)]
    have e2 : cw_tk di u v x = false := by unfold cw_tk; exact decide_eq_false (by omega)
    rw [hQ]
    exact ct_zret hx hb hr hlocks hP hD hS dX3_shorten_22 (by first | exact Or.inl rfl | exact Or.inr rfl) ⟨by rw [e1], by rw [e2]; rfl⟩
set_option maxHeartbeats 4000000 in
set_option maxRecDepth 100000 in
/-- Trays.add -/
theorem kX3_add (l : Launch) (D : va_G) (cI cG cL cB : ClassId) (q : Nat → Nat) (n : Nat) (a b le ro di : Nat → Nat) (u v x y : Nat) (hn : n < 15) : ct_i l yX3_add (.code yX3_add cX3_add 6 (some .int) :: bw) ({ frames := 0, cells := 0, slots := 0, locals := 0 }) (EN D (tyL cI cG cL cB)) D vwCl (pT q cI n a b le ro di) [.ref (q 1), .int (nI u), .int (nI v), .int (nI x), .int (nI y)] (fun r W => W = pT q cI (n + 1) (nr_up a n u) (nr_up b n v) (nr_up le n x) (nr_up ro n y) di ∧ r = nI n) 0 0 := by
  refine ct_ofi (by decide) (Nat.le_of_ble_eq_true rfl) ?_
  intro p e s m below meth cd A H locs av Q ls hx hb hr hml hown hlocks hnm hbw hEN hQ hP hD hS hA hl
  have hown : s.vm.findClass RX3 = some m.cls := hown
  have hK := hEN.1
  have hl : lv_has ls 6 [(0, .ref (q 1)), (1, .int (nI u)), (2, .int (nI v)), (3, .int (nI x)), (4, .int (nI y))] := hl
  refine lv_aload_n hx hb dX3_add_0 rfl (lv_at hl 0 rfl) ?_
  refine va_get (ci := 3) (v := .int (nI n)) (C := RX3) (T := TX3) (N := 6) hx hb hbw in_X3 hown hK hP 0 rfl rfl 0 (by decide) (hbw _ m_45) (fun _ h9 => h9) rfl dX3_add_1 ?_
  refine lv_istore (lv' := [(5, .int (nI n)), (0, .ref (q 1)), (1, .int (nI u)), (2, .int (nI v)), (3, .int (nI x)), (4, .int (nI y))]) hx hb dX3_add_4 hl (by decide) rfl (fun ls hl => ?_)
  refine lv_aload_n hx hb dX3_add_6 rfl (lv_at hl 1 rfl) ?_
  refine va_get (ci := 3) (v := .ref (q 2)) (C := RX3) (T := TX3) (N := 6) hx hb hbw in_X3 hown hK hP 0 rfl rfl 1 (by decide) (hbw _ m_48) (fun _ h9 => h9) rfl dX3_add_7 ?_
  refine lv_iload hx hb dX3_add_10 (lv_at hl 0 rfl) ?_
  refine lv_iload_n hx hb dX3_add_12 rfl (lv_at hl 2 rfl) ?_
  refine nr_iast hx hb hK hP hD hS 1 0 rfl rfl (k := n) (v := u) (by omega) (by omega) dX3_add_13 (fun H locs hP hD hS => ?_)
  have hP : va_P D vwCl (pT q cI n (nr_up a n u) b le ro di) H := hP
  have hD : va_D A (pT q cI n (nr_up a n u) b le ro di) := hD
  refine lv_aload_n hx hb dX3_add_14 rfl (lv_at hl 1 rfl) ?_
  refine va_get (ci := 3) (v := .ref (q 3)) (C := RX3) (T := TX3) (N := 6) hx hb hbw in_X3 hown hK hP 0 rfl rfl 2 (by decide) (hbw _ m_49) (fun _ h9 => h9) rfl dX3_add_15 ?_
  refine lv_iload hx hb dX3_add_18 (lv_at hl 0 rfl) ?_
  refine lv_iload_n hx hb dX3_add_20 rfl (lv_at hl 3 rfl) ?_
  refine nr_iast hx hb hK hP hD hS 2 0 rfl rfl (k := n) (v := v) (by omega) (by omega) dX3_add_21 (fun H locs hP hD hS => ?_)
  have hP : va_P D vwCl (pT q cI n (nr_up a n u) (nr_up b n v) le ro di) H := hP
  have hD : va_D A (pT q cI n (nr_up a n u) (nr_up b n v) le ro di) := hD
  refine lv_aload_n hx hb dX3_add_22 rfl (lv_at hl 1 rfl) ?_
  refine va_get (ci := 3) (v := .ref (q 4)) (C := RX3) (T := TX3) (N := 6) hx hb hbw in_X3 hown hK hP 0 rfl rfl 3 (by decide) (hbw _ m_50) (fun _ h9 => h9) rfl dX3_add_23 ?_
  refine lv_iload hx hb dX3_add_26 (lv_at hl 0 rfl) ?_
  refine lv_iload_n hx hb dX3_add_28 rfl (lv_at hl 4 rfl) ?_
  refine nr_iast hx hb hK hP hD hS 3 0 rfl rfl (k := n) (v := x) (by omega) (by omega) dX3_add_29 (fun H locs hP hD hS => ?_)
  have hP : va_P D vwCl (pT q cI n (nr_up a n u) (nr_up b n v) (nr_up le n x) ro di) H := hP
  have hD : va_D A (pT q cI n (nr_up a n u) (nr_up b n v) (nr_up le n x) ro di) := hD
  refine lv_aload_n hx hb dX3_add_30 rfl (lv_at hl 1 rfl) ?_
  refine va_get (ci := 3) (v := .ref (q 5)) (C := RX3) (T := TX3) (N := 6) hx hb hbw in_X3 hown hK hP 0 rfl rfl 4 (by decide) (hbw _ m_52) (fun _ h9 => h9) rfl dX3_add_31 ?_
  refine lv_iload hx hb dX3_add_34 (lv_at hl 0 rfl) ?_
  refine lv_iload hx hb dX3_add_36 (lv_at hl 5 rfl) ?_
  refine nr_iast hx hb hK hP hD hS 4 0 rfl rfl (k := n) (v := y) (by omega) (by omega) dX3_add_38 (fun H locs hP hD hS => ?_)
  have hP : va_P D vwCl (pT q cI n (nr_up a n u) (nr_up b n v) (nr_up le n x) (nr_up ro n y) di) H := hP
  have hD : va_D A (pT q cI n (nr_up a n u) (nr_up b n v) (nr_up le n x) (nr_up ro n y) di) := hD
  refine lv_aload_n hx hb dX3_add_39 rfl (lv_at hl 1 rfl) ?_
  refine lv_iload hx hb dX3_add_40 (lv_at hl 0 rfl) ?_
  refine lv_iconst (v := nI 1) hx hb dX3_add_42 (by decide) ?_
  refine nr_iadd hx hb dX3_add_43 ?_
  refine va_put (ci := 3) (v := .int (nI (n + 1))) (ty := .int) (C := RX3) (T := TX3) (N := 6) hx hb hbw in_X3 tyX3 tyX3_ok nmX3 hown hK hP hD hS 0 rfl rfl 0 (by decide) (hbw _ m_45) (fun _ h9 => h9) rfl (by decide +kernel) rfl rfl (Nat.le_of_ble_eq_true rfl) dX3_add_44 (fun H locs hP hD hS => ?_)
  have hP : va_P D vwCl (pT q cI (n + 1) (nr_up a n u) (nr_up b n v) (nr_up le n x) (nr_up ro n y) di) H := hP
  have hD : va_D A (pT q cI (n + 1) (nr_up a n u) (nr_up b n v) (nr_up le n x) (nr_up ro n y) di) := hD
  refine lv_iload hx hb dX3_add_47 (lv_at hl 0 rfl) ?_
  rw [hQ]
  exact ct_iret hx hb hr hlocks hP hD hS dX3_add_49 ⟨rfl, rfl⟩
set_option maxHeartbeats 4000000 in
set_option maxRecDepth 100000 in
/-- Trays.endBehind -/
theorem kX3_endBehind (l : Launch) (D : va_G) (cI cG cL cB : ClassId) (q : Nat → Nat) (n : Nat) (a b le ro di : Nat → Nat) (t u : Nat) (ht : t < 15) (hu : u < 10) (ha0 : ∀ j, a j < 10) (hb0 : ∀ j, b j < 10) : ct_i l yX3_endBehind (.code yX3_endBehind cX3_endBehind 3 (some .int) :: bw) ({ frames := 0, cells := 0, slots := 0, locals := 0 }) (EN D (tyL cI cG cL cB)) D vwCl (pT q cI n a b le ro di) [.ref (q 1), .int (nI t), .int (nI u)] (fun r W => W = pT q cI n a b le ro di ∧ r = oI (cw_nx a b t u)) 0 0 := by
  refine ct_ofi (by decide) (Nat.le_of_ble_eq_true rfl) ?_
  intro p e s m below meth cd A H locs av Q ls hx hb hr hml hown hlocks hnm hbw hEN hQ hP hD hS hA hl
  have hown : s.vm.findClass RX3 = some m.cls := hown
  have hK := hEN.1
  have hl : lv_has ls 3 [(0, .ref (q 1)), (1, .int (nI t)), (2, .int (nI u))] := hl
  refine lv_aload_n hx hb dX3_endBehind_0 rfl (lv_at hl 0 rfl) ?_
  refine va_get (ci := 3) (v := .ref (q 2)) (C := RX3) (T := TX3) (N := 6) hx hb hbw in_X3 hown hK hP 0 rfl rfl 1 (by decide) (hbw _ m_48) (fun _ h9 => h9) rfl dX3_endBehind_1 ?_
  refine lv_iload_n hx hb dX3_endBehind_4 rfl (lv_at hl 1 rfl) ?_
  refine nr_iald hx hb hK hP 1 0 rfl rfl (k := t) (by omega) (by omega) dX3_endBehind_5 ?_
  have b_1 := ha0 t
  refine lv_iload_n hx hb dX3_endBehind_6 rfl (lv_at hl 2 rfl) ?_
  refine nr_icmp_ne (x := a t) (y := u) (tgt := 17) hx hb (by omega) (by omega) dX3_endBehind_7 (by decide) (fun h1 => ?_) (fun h1 => ?_)
  · refine lv_aload_n hx hb dX3_endBehind_17 rfl (lv_at hl 0 rfl) ?_
    refine va_get (ci := 3) (v := .ref (q 3)) (C := RX3) (T := TX3) (N := 6) hx hb hbw in_X3 hown hK hP 0 rfl rfl 2 (by decide) (hbw _ m_49) (fun _ h9 => h9) rfl dX3_endBehind_18 ?_
    refine lv_iload_n hx hb dX3_endBehind_21 rfl (lv_at hl 1 rfl) ?_
    refine nr_iald hx hb hK hP 2 0 rfl rfl (k := t) (by omega) (by omega) dX3_endBehind_22 ?_
    have b_2 := hb0 t
    refine lv_iload_n hx hb dX3_endBehind_23 rfl (lv_at hl 2 rfl) ?_
    refine nr_icmp_ne (x := b t) (y := u) (tgt := 36) hx hb (by omega) (by omega) dX3_endBehind_24 (by decide) (fun h2 => ?_) (fun h2 => ?_)
    · refine lv_iconst (v := (-1)) hx hb dX3_endBehind_36 (by decide) ?_
      have e1 : cw_nx a b t u = none := by unfold cw_nx; rw [if_neg h1, if_neg h2]
      rw [hQ]
      exact ct_iret hx hb hr hlocks hP hD hS dX3_endBehind_37 ⟨rfl, by rw [e1]; rfl⟩
    · refine lv_aload_n hx hb dX3_endBehind_27 rfl (lv_at hl 0 rfl) ?_
      refine va_get (ci := 3) (v := .ref (q 2)) (C := RX3) (T := TX3) (N := 6) hx hb hbw in_X3 hown hK hP 0 rfl rfl 1 (by decide) (hbw _ m_48) (fun _ h9 => h9) rfl dX3_endBehind_28 ?_
      refine lv_iload_n hx hb dX3_endBehind_31 rfl (lv_at hl 1 rfl) ?_
      refine nr_iald hx hb hK hP 1 0 rfl rfl (k := t) (by omega) (by omega) dX3_endBehind_32 ?_
      have b_3 := ha0 t
      refine lv_goto (tgt := 37) hx hb dX3_endBehind_33 (by decide) ?_
      have e1 : cw_nx a b t u = some (a t) := by unfold cw_nx; rw [if_neg h1, if_pos h2]
      rw [hQ]
      exact ct_iret hx hb hr hlocks hP hD hS dX3_endBehind_37 ⟨rfl, by rw [e1]; rfl⟩
  · refine lv_aload_n hx hb dX3_endBehind_10 rfl (lv_at hl 0 rfl) ?_
    refine va_get (ci := 3) (v := .ref (q 3)) (C := RX3) (T := TX3) (N := 6) hx hb hbw in_X3 hown hK hP 0 rfl rfl 2 (by decide) (hbw _ m_49) (fun _ h9 => h9) rfl dX3_endBehind_11 ?_
    refine lv_iload_n hx hb dX3_endBehind_14 rfl (lv_at hl 1 rfl) ?_
    refine nr_iald hx hb hK hP 2 0 rfl rfl (k := t) (by omega) (by omega) dX3_endBehind_15 ?_
    have b_4 := hb0 t
    have e1 : cw_nx a b t u = some (b t) := by unfold cw_nx; rw [if_pos h1]
    rw [hQ]
    exact ct_iret hx hb hr hlocks hP hD hS dX3_endBehind_16 ⟨rfl, by rw [e1]; rfl⟩
set_option maxHeartbeats 4000000 in
set_option maxRecDepth 100000 in
/-- Arrays.fill of an int array -/
theorem kJ_fill (l : Launch) (D : va_G) (cI cG cL cB : ClassId) (qa nn : Nat) (g : Nat → Nat) (v : Nat) (hnn : nn ≤ 1000) : ct_v l yJ_fill (.code yJ_fill cJ_fill 4 none :: bw) ({ frames := 0, cells := 0, slots := 0, locals := 0 }) (EN D (tyL cI cG cL cB)) D vwCl (pF qa cI nn g) [.ref qa, .int (nI v)] (fun W => W = pF qa cI nn (fun _ => v)) 0 0 := by
  refine ct_ofv (by decide) (Nat.le_of_ble_eq_true rfl) ?_
  intro p e s m below meth cd A H locs av Q ls hx hb hr hml hown hlocks hnm hbw hEN hQ hP hD hS hA hl
  have hK := hEN.1
  have hl : lv_has ls 4 [(0, .ref qa), (1, .int (nI v))] := hl
  refine lv_iconst (v := nI 0) hx hb dJ_fill_0 (by decide) ?_
  refine lv_istore_n (lv' := [(2, .int (nI 0)), (0, .ref qa), (1, .int (nI v))]) hx hb dJ_fill_1 rfl hl (by decide) rfl (fun ls hl => ?_)
  refine lv_aload_n hx hb dJ_fill_2 rfl (lv_at hl 1 rfl) ?_
  refine va_alen hx hb hK hP 0 0 rfl rfl (v := nI nn) rfl dJ_fill_3 ?_
  refine lv_istore_n (lv' := [(3, .int (nI nn)), (2, .int (nI 0)), (0, .ref qa), (1, .int (nI v))]) hx hb dJ_fill_4 rfl hl (by decide) rfl (fun ls hl => ?_)
  have lp : ∀ (k : Nat) (i : Nat) (g : Nat → Nat), (hk : nn < i + k) → (hi : i ≤ nn) → (hv : ∀ j, j < i → g j = v) → ∀ (H : Heap) (locs : List Loc) (ls : Array Slot), va_P D vwCl (pF qa cI nn g) H → va_D A (pF qa cI nn g) → va_S A s.heap H locs → lv_has ls 4 [(0, .ref qa), (1, .int (nI v)), (2, .int (nI i)), (3, .int (nI nn))] → W p l e ({ frames := 0, cells := 0, slots := 0, locals := 0 }) s m av below meth cd H locs 0 0 Q (F0 m 5 ls []) := by
    intro k
    induction k with
    | zero => intro i g hk hi hv; exact absurd hk (by omega)
    | succ k ih =>
      intro i g hk hi hv H locs ls hP hD hS hl
      refine lv_iload_n hx hb dJ_fill_5 rfl (lv_at hl 2 rfl) ?_
      refine lv_iload_n hx hb dJ_fill_6 rfl (lv_at hl 3 rfl) ?_
      refine nr_icmp_ge (x := i) (y := nn) (tgt := 20) hx hb (by omega) (by omega) dJ_fill_7 (by decide) (fun h1 => ?_) (fun h1 => ?_)
      · have hP : va_P D vwCl (pF qa cI nn (fun _ => v)) H := pF_congr (fun j hj => hv j (by omega)) hP
        have hD : va_D A (pF qa cI nn (fun _ => v)) := pF_D hD
        rw [hQ]
        exact ct_vret hx hb hr hlocks hP hD hS dJ_fill_20 rfl
      · refine lv_aload_n hx hb dJ_fill_10 rfl (lv_at hl 0 rfl) ?_
        refine lv_iload_n hx hb dJ_fill_11 rfl (lv_at hl 2 rfl) ?_
        refine lv_iload_n hx hb dJ_fill_12 rfl (lv_at hl 1 rfl) ?_
        refine nr_iast hx hb hK hP hD hS 0 0 rfl rfl (k := i) (v := v) (by omega) (by omega) dJ_fill_13 (fun H locs hP hD hS => ?_)
        have hP : va_P D vwCl (pF qa cI nn (nr_up g i v)) H := hP
        have hD : va_D A (pF qa cI nn (nr_up g i v)) := hD
        refine lv_iinc (v := nI (i + 1)) (lv' := [(2, .int (nI (i + 1))), (0, .ref qa), (1, .int (nI v)), (3, .int (nI nn))]) hx hb dJ_fill_14 hl (k := 2) rfl (nI_1 _) (by decide) rfl (fun ls hl => ?_)
        refine lv_goto (tgt := 5) hx hb dJ_fill_17 (by decide) ?_
        exact ih (i + 1) (nr_up g i v) (by omega) (by omega) (fun j hj => by by_cases e : j = i; rw [e]; exact nr_up_s g i v; rw [nr_up_n g v e]; exact hv j (by omega)) _ _ _ hP hD hS (lv_sub hl [1, 2, 0, 3] rfl)
  exact lp (nn + 1) 0 g (by omega) (Nat.zero_le nn) (lt_0) H locs ls hP hD hS (lv_sub hl [2, 3, 1, 0] rfl)
set_option maxHeartbeats 4000000 in
set_option maxRecDepth 100000 in
/-- Trays.firstTowardsTarget -/
theorem kX3_firstTowardsTarget (l : Launch) (D : va_G) (cI cG cL cB : ClassId) (q : Nat → Nat) (n : Nat) (a b le ro di : Nat → Nat) (u : Nat) (hn : n ≤ 15) (hu : u < 10) (ha0 : ∀ j, a j < 10) (hb0 : ∀ j, b j < 10) (hl0 : ∀ j, le j ≤ 100) (hd0 : ∀ j, di j ≤ 1000000) : ct_i l yX3_firstTowardsTarget (.code yX3_firstTowardsTarget cX3_firstTowardsTarget 4 (some .int) :: bw) ({ frames := 1, cells := 0, slots := 0, locals := 22 }) (EN D (tyL cI cG cL cB)) D vwCl (pT q cI n a b le ro di) [.ref (q 1), .int (nI u)] (fun r W => W = pT q cI n a b le ro di ∧ ((∃ t, r = nI t ∧ t < n ∧ cw_gd a b le di u t ∧ ∀ t', t' < t → ¬ cw_gd a b le di u t') ∨ (r = -1 ∧ ∀ t', t' < n → ¬ cw_gd a b le di u t'))) 0 0 := by
  refine ct_ofi (by decide) (Nat.le_of_ble_eq_true rfl) ?_
  intro p e s m below meth cd A H locs av Q ls hx hb hr hml hown hlocks hnm hbw hEN hQ hP hD hS hA hl
  have hown : s.vm.findClass RX3 = some m.cls := hown
  have hK := hEN.1
  have hl : lv_has ls 4 [(0, .ref (q 1)), (1, .int (nI u))] := hl
  refine lv_iconst (v := nI 0) hx hb dX3_firstTowardsTarget_0 (by decide) ?_
  refine lv_istore_n (lv' := [(2, .int (nI 0)), (0, .ref (q 1)), (1, .int (nI u))]) hx hb dX3_firstTowardsTarget_1 rfl hl (by decide) rfl (fun ls hl => ?_)
  have lp : ∀ (k : Nat) (i : Nat), (hk : n < i + k) → (hi : i ≤ n) → (hv : ∀ t', t' < i → ¬ cw_gd a b le di u t') → ∀ (H : Heap) (locs : List Loc) (ls : Array Slot), va_P D vwCl (pT q cI n a b le ro di) H → va_D A (pT q cI n a b le ro di) → va_S A s.heap H locs → lv_has ls 4 [(0, .ref (q 1)), (1, .int (nI u)), (2, .int (nI i))] → W p l e ({ frames := 1, cells := 0, slots := 0, locals := 22 }) s m av below meth cd H locs 0 0 Q (F0 m 2 ls []) := by
    intro k
    induction k with
    | zero => intro i hk hi hv; exact absurd hk (by omega)
    | succ k ih =>
      intro i hk hi hv H locs ls hP hD hS hl
      refine lv_iload_n hx hb dX3_firstTowardsTarget_2 rfl (lv_at hl 2 rfl) ?_
      refine lv_aload_n hx hb dX3_firstTowardsTarget_3 rfl (lv_at hl 0 rfl) ?_
      refine va_get (ci := 3) (v := .int (nI n)) (C := RX3) (T := TX3) (N := 6) hx hb hbw in_X3 hown hK hP 0 rfl rfl 0 (by decide) (hbw _ m_45) (fun _ h9 => h9) rfl dX3_firstTowardsTarget_4 ?_
      refine nr_icmp_ge (x := i) (y := n) (tgt := 52) hx hb (by omega) (by omega) dX3_firstTowardsTarget_7 (by decide) (fun h1 => ?_) (fun h1 => ?_)
      · refine lv_iconst (v := (-1)) hx hb dX3_firstTowardsTarget_52 (by decide) ?_
        have e1 : i = n := by omega
        rw [hQ]
        exact ct_iret hx hb hr hlocks hP hD hS dX3_firstTowardsTarget_53 ⟨rfl, Or.inr ⟨rfl, by rw [← e1]; exact hv⟩⟩
      · refine lv_aload_n hx hb dX3_firstTowardsTarget_10 rfl (lv_at hl 0 rfl) ?_
        refine lv_iload_n hx hb dX3_firstTowardsTarget_11 rfl (lv_at hl 2 rfl) ?_
        refine lv_iload_n hx hb dX3_firstTowardsTarget_12 rfl (lv_at hl 1 rfl) ?_
        refine ct_Vi (wc := (pT q cI n a b le ro di)) (wr := ([] : va_W)) (As := [.int (nI i), .int (nI u)]) (rest := []) ⟨hx, hb, hml, hown, hbw⟩ (EN_E D _) hEN (kX3_endBehind l D cI cG cL cB q n a b le ro di i u (by omega) hu ha0 hb0) (cwV (C := "CableSizes$Trays") 2 hbw (gV m_365 m_366 m_367 m_19 m_368) rfl rfl rfl (by decide +kernel) ⟨Nat.le_of_ble_eq_true rfl, Nat.le_of_ble_eq_true rfl⟩) (va_recv hK hP (ci := 3) (q0 := 0) rfl rfl) hP hD hS hA [0, 1, 2, 3, 4, 5] [] rfl rfl (by decide) (by decide) (by decide) rfl hl.1 rfl (Nat.le_of_ble_eq_true rfl) dX3_firstTowardsTarget_13 ⟨Nat.le_of_ble_eq_true rfl, Nat.le_of_ble_eq_true rfl⟩ (fun r_1 w_1 H locs hw hP hD hS => ?_)
        obtain ⟨rfl, hr1⟩ := hw
        have hP := hP.sub (ws' := (pT q cI n a b le ro di)) [0, 1, 2, 3, 4, 5] rfl
        have hD := hD.sub (ws' := (pT q cI n a b le ro di)) [0, 1, 2, 3, 4, 5] (by decide) rfl
        refine lv_istore_n (lv' := [(3, .int r_1), (0, .ref (q 1)), (1, .int (nI u)), (2, .int (nI i))]) hx hb dX3_firstTowardsTarget_16 rfl hl (by decide) rfl (fun ls hl => ?_)
        refine lv_iload_n hx hb dX3_firstTowardsTarget_17 rfl (lv_at hl 0 rfl) ?_
        refine lv_iconst (v := (-1)) hx hb dX3_firstTowardsTarget_18 (by decide) ?_
        cases hn1 : cw_nx a b i u with
        | none =>
          rw [hn1] at hr1
          refine lv_icmp_eq (tgt := 46) hx hb dX3_firstTowardsTarget_19 (by decide) (fun h2 => ?_) (fun h2 => ?_)
          · refine lv_iinc (v := nI (i + 1)) (lv' := [(2, .int (nI (i + 1))), (3, .int r_1), (0, .ref (q 1)), (1, .int (nI u))]) hx hb dX3_firstTowardsTarget_46 hl (k := 3) rfl (nI_1 _) (by decide) rfl (fun ls hl => ?_)
            refine lv_goto (tgt := 2) hx hb dX3_firstTowardsTarget_49 (by decide) ?_
            exact ih (i + 1) (by omega) (by omega) (lt_s hv (by rintro ⟨w, h3, -⟩; rw [hn1] at h3; cases h3)) _ _ _ hP hD hS (lv_sub hl [2, 3, 0] rfl)
          · exact absurd hr1 h2
        | some z =>
          rw [hn1] at hr1
          have hz := (show z < 10 by rcases cw_nx_cases hn1 with ⟨-, h⟩ | ⟨-, h⟩ <;> rw [h]; exact hb0 i; exact ha0 i)
          have hr2 : r_1 = nI z := hr1
          subst hr2
          refine lv_icmp_eq (tgt := 46) hx hb dX3_firstTowardsTarget_19 (by decide) (fun h2 => ?_) (fun h2 => ?_)
          · exact absurd (congrArg Int32.toInt h2) (by rw [nI_toInt (by omega)]; intro h; have h3 : (z : Int) = -1 := h; omega)
          · refine lv_aload_n hx hb dX3_firstTowardsTarget_22 rfl (lv_at hl 1 rfl) ?_
            refine va_get (ci := 3) (v := .ref (q 6)) (C := RX3) (T := TX3) (N := 6) hx hb hbw in_X3 hown hK hP 0 rfl rfl 5 (by decide) (hbw _ m_55) (fun _ h9 => h9) rfl dX3_firstTowardsTarget_23 ?_
            refine lv_iload_n hx hb dX3_firstTowardsTarget_26 rfl (lv_at hl 0 rfl) ?_
            refine nr_iald hx hb hK hP 5 0 rfl rfl (k := z) (by omega) (by omega) dX3_firstTowardsTarget_27 ?_
            have b_2 := hd0 z
            refine lv_aload_n hx hb dX3_firstTowardsTarget_28 rfl (lv_at hl 1 rfl) ?_
            refine va_get (ci := 3) (v := .ref (q 4)) (C := RX3) (T := TX3) (N := 6) hx hb hbw in_X3 hown hK hP 0 rfl rfl 3 (by decide) (hbw _ m_50) (fun _ h9 => h9) rfl dX3_firstTowardsTarget_29 ?_
            refine lv_iload_n hx hb dX3_firstTowardsTarget_32 rfl (lv_at hl 3 rfl) ?_
            refine nr_iald hx hb hK hP 3 0 rfl rfl (k := i) (by omega) (by omega) dX3_firstTowardsTarget_33 ?_
            have b_3 := hl0 i
            refine nr_iadd hx hb dX3_firstTowardsTarget_34 ?_
            refine lv_aload_n hx hb dX3_firstTowardsTarget_35 rfl (lv_at hl 1 rfl) ?_
            refine va_get (ci := 3) (v := .ref (q 6)) (C := RX3) (T := TX3) (N := 6) hx hb hbw in_X3 hown hK hP 0 rfl rfl 5 (by decide) (hbw _ m_55) (fun _ h9 => h9) rfl dX3_firstTowardsTarget_36 ?_
            refine lv_iload_n hx hb dX3_firstTowardsTarget_39 rfl (lv_at hl 2 rfl) ?_
            refine nr_iald hx hb hK hP 5 0 rfl rfl (k := u) (by omega) (by omega) dX3_firstTowardsTarget_40 ?_
            have b_4 := hd0 u
            refine nr_icmp_ne (x := (di z) + (le i)) (y := di u) (tgt := 46) hx hb (by omega) (by omega) dX3_firstTowardsTarget_41 (by decide) (fun h3 => ?_) (fun h3 => ?_)
            · refine lv_iinc (v := nI (i + 1)) (lv' := [(2, .int (nI (i + 1))), (3, .int (nI z)), (0, .ref (q 1)), (1, .int (nI u))]) hx hb dX3_firstTowardsTarget_46 hl (k := 3) rfl (nI_1 _) (by decide) rfl (fun ls hl => ?_)
              refine lv_goto (tgt := 2) hx hb dX3_firstTowardsTarget_49 (by decide) ?_
              exact ih (i + 1) (by omega) (by omega) (lt_s hv (by rintro ⟨w, h4, h5⟩; rw [hn1] at h4; cases h4; exact h3 h5)) _ _ _ hP hD hS (lv_sub hl [2, 3, 0] rfl)
            · refine lv_iload_n hx hb dX3_firstTowardsTarget_44 rfl (lv_at hl 3 rfl) ?_
              rw [hQ]
              exact ct_iret hx hb hr hlocks hP hD hS dX3_firstTowardsTarget_45 ⟨rfl, Or.inl ⟨i, rfl, by omega, ⟨z, hn1, h3⟩, hv⟩⟩
  exact lp (n + 1) 0 (by omega) (Nat.zero_le n) (lt_0) H locs ls hP hD hS (lv_sub hl [1, 2, 0] rfl)
theorem bN_t {g : Bool} (h : 0 < bN g) : g = true := by cases g with | true => rfl | false => exact absurd h (by decide)
theorem bN_f {g : Bool} (h : bN g = 0) : g = false := by cases g with | false => rfl | true => exact absurd h (by decide)
theorem cw_in.as {T : Nat} {a b ln : Nat → Nat} {v F k t : Nat} {g g' : Bool} {d : Nat → Nat} (h : cw_in T a b ln v F k t g d) (e : g = g') : cw_in T a b ln v F k t g' d := e ▸ h
set_option maxHeartbeats 4000000 in
set_option maxRecDepth 100000 in
/-- Trays.measureTo -/
theorem kX3_measureTo (l : Launch) (D : va_G) (cI cG cL cB : ClassId) (q : Nat → Nat) (n : Nat) (a b le ro di : Nat → Nat) (v : Nat) (hv : v < 10) (hn : n ≤ 15) (hok : cw_ok n a b le) (ha0 : ∀ j, a j < 10) (hb0 : ∀ j, b j < 10) (hl0 : ∀ j, le j ≤ 100) : ct_v l yX3_measureTo (.code yX3_measureTo cX3_measureTo 7 none :: bw) ({ frames := 1, cells := 0, slots := 0, locals := 24 }) (EN D (tyL cI cG cL cB)) D vwCl (pT q cI n a b le ro di) [.ref (q 1), .int (nI v)] (fun W => ∃ d, W = pT q cI n a b le ro d ∧ cw_ds n a b le v 1000000 d) 0 0 := by
  refine ct_ofv (by decide) (Nat.le_of_ble_eq_true rfl) ?_
  intro p e s m below meth cd A H locs av Q ls hx hb hr hml hown hlocks hnm hbw hEN hQ hP hD hS hA hl
  have hown : s.vm.findClass RX3 = some m.cls := hown
  have hK := hEN.1
  have hl : lv_has ls 7 [(0, .ref (q 1)), (1, .int (nI v))] := hl
  refine lv_aload_n hx hb dX3_measureTo_0 rfl (lv_at hl 0 rfl) ?_
  refine va_get (ci := 3) (v := .ref (q 6)) (C := RX3) (T := TX3) (N := 6) hx hb hbw in_X3 hown hK hP 0 rfl rfl 5 (by decide) (hbw _ m_55) (fun _ h9 => h9) rfl dX3_measureTo_1 ?_
  refine lv_ldc (v := nI 1000000) hx hb hown (hbw _ m_354) dX3_measureTo_4 ?_
  refine ct_Sv (wc := [iA (q 6) cI 10 di]) (wr := ([(q 1, .inr (3, [.int (nI n), .ref (q 2), .ref (q 3), .ref (q 4), .ref (q 5), .ref (q 6)])), iA (q 2) cI 15 a, iA (q 3) cI 15 b, iA (q 4) cI 15 le, iA (q 5) cI 15 ro])) (As := [.ref (q 6), .int (nI 1000000)]) (rest := []) ⟨hx, hb, hml, hown, hbw⟩ (EN_E D _) hEN (kJ_fill l D cI cG cL cB (q 6) 10 di 1000000 (by omega)) (gS 2 hbw m_355 m_198 m_29 m_199 rfl rfl (by decide +kernel) ⟨Nat.le_of_ble_eq_true rfl, Nat.le_of_ble_eq_true rfl⟩) hP hD hS hA [5] [0, 1, 2, 3, 4] rfl rfl (by decide) (by decide) (by decide) rfl hl.1 rfl (Nat.le_of_ble_eq_true rfl) dX3_measureTo_6 ⟨Nat.le_of_ble_eq_true rfl, Nat.le_of_ble_eq_true rfl⟩ (fun w_1 H locs hw hP hD hS => ?_)
  obtain rfl := hw
  have hP := hP.sub (ws' := (pT q cI n a b le ro (fun _ => 1000000))) [0, 1, 2, 3, 4, 5] rfl
  have hD := hD.sub (ws' := (pT q cI n a b le ro (fun _ => 1000000))) [0, 1, 2, 3, 4, 5] (by decide) rfl
  refine lv_aload_n hx hb dX3_measureTo_9 rfl (lv_at hl 0 rfl) ?_
  refine va_get (ci := 3) (v := .ref (q 6)) (C := RX3) (T := TX3) (N := 6) hx hb hbw in_X3 hown hK hP 0 rfl rfl 5 (by decide) (hbw _ m_55) (fun _ h9 => h9) rfl dX3_measureTo_10 ?_
  refine lv_iload_n hx hb dX3_measureTo_13 rfl (lv_at hl 1 rfl) ?_
  refine lv_iconst (v := nI 0) hx hb dX3_measureTo_14 (by decide) ?_
  refine nr_iast hx hb hK hP hD hS 5 0 rfl rfl (k := v) (v := 0) (by omega) (by omega) dX3_measureTo_15 (fun H locs hP hD hS => ?_)
  have hP : va_P D vwCl (pT q cI n a b le ro (nr_up (fun _ => 1000000) v 0)) H := hP
  have hD : va_D A (pT q cI n a b le ro (nr_up (fun _ => 1000000) v 0)) := hD
  refine lv_iconst (v := nI 1) hx hb dX3_measureTo_16 (by decide) ?_
  refine lv_istore_n (lv' := [(2, .int (nI 1)), (0, .ref (q 1)), (1, .int (nI v))]) hx hb dX3_measureTo_17 rfl hl (by decide) rfl (fun ls hl => ?_)
  refine lv_iconst (v := nI 0) hx hb dX3_measureTo_18 (by decide) ?_
  refine lv_istore_n (lv' := [(3, .int (nI 0)), (2, .int (nI 1)), (0, .ref (q 1)), (1, .int (nI v))]) hx hb dX3_measureTo_19 rfl hl (by decide) rfl (fun ls hl => ?_)
  have lp : ∀ (k : Nat) (rd : Nat) (g : Bool) (d : Nat → Nat), (hk : 10 < rd + k) → (hi : rd ≤ 10) → (hd : cw_rd n a b le v 1000000 rd g d) → ∀ (H : Heap) (locs : List Loc) (ls : Array Slot), va_P D vwCl (pT q cI n a b le ro d) H → va_D A (pT q cI n a b le ro d) → va_S A s.heap H locs → lv_has ls 7 [(0, .ref (q 1)), (1, .int (nI v)), (2, .int (nI (bN g))), (3, .int (nI rd))] → W p l e ({ frames := 1, cells := 0, slots := 0, locals := 24 }) s m av below meth cd H locs 0 0 Q (F0 m 20 ls []) := by
    intro k
    induction k with
    | zero => intro rd g d hk hi hd; exact absurd hk (by omega)
    | succ k ih =>
      intro rd g d hk hi hd H locs ls hP hD hS hl
      refine lv_iload_n hx hb dX3_measureTo_20 rfl (lv_at hl 2 rfl) ?_
      refine nr_if_eq (x := bN g) (tgt := 130) hx hb (by unfold bN; split <;> omega) dX3_measureTo_21 (by decide) (fun h1 => ?_) (fun h1 => ?_)
      · obtain rfl : g = false := by cases g with | false => rfl | true => exact absurd h1 (by decide)
        rw [hQ]
        exact ct_vret hx hb hr hlocks hP hD hS dX3_measureTo_130 ⟨d, rfl, cw_rd_calm hd⟩
      · refine lv_iload_n hx hb dX3_measureTo_24 rfl (lv_at hl 3 rfl) ?_
        refine lv_bipush (v := nI 10) hx hb dX3_measureTo_25 (by decide) ?_
        refine nr_icmp_ge (x := rd) (y := 10) (tgt := 130) hx hb (by omega) (by omega) dX3_measureTo_27 (by decide) (fun h2 => ?_) (fun h2 => ?_)
        · rw [hQ]
          exact ct_vret hx hb hr hlocks hP hD hS dX3_measureTo_130 ⟨d, rfl, cw_rd_10 hok hv (show 9 ≤ rd by omega) hd⟩
        · refine lv_iconst (v := nI 0) hx hb dX3_measureTo_30 (by decide) ?_
          refine lv_istore_n (lv' := [(2, .int (nI 0)), (0, .ref (q 1)), (1, .int (nI v)), (3, .int (nI rd))]) hx hb dX3_measureTo_31 rfl hl (by decide) rfl (fun ls hl => ?_)
          refine lv_iconst (v := nI 0) hx hb dX3_measureTo_32 (by decide) ?_
          refine lv_istore (lv' := [(4, .int (nI 0)), (2, .int (nI 0)), (0, .ref (q 1)), (1, .int (nI v)), (3, .int (nI rd))]) hx hb dX3_measureTo_33 hl (by decide) rfl (fun ls hl => ?_)
          have lq : ∀ (k : Nat) (t : Nat) (g : Bool) (d : Nat → Nat), (hk2 : n < t + k) → (ht : t ≤ n) → (hd : cw_in n a b le v 1000000 rd t g d) → ∀ (H : Heap) (locs : List Loc) (ls : Array Slot), va_P D vwCl (pT q cI n a b le ro d) H → va_D A (pT q cI n a b le ro d) → va_S A s.heap H locs → lv_has ls 7 [(0, .ref (q 1)), (1, .int (nI v)), (2, .int (nI (bN g))), (3, .int (nI rd)), (4, .int (nI t))] → W p l e ({ frames := 1, cells := 0, slots := 0, locals := 24 }) s m av below meth cd H locs 0 0 Q (F0 m 35 ls []) := by
            intro k
            induction k with
            | zero => intro t g d hk2 ht hd; exact absurd hk2 (by omega)
            | succ k ih2 =>
              intro t g d hk2 ht hd H locs ls hP hD hS hl
              have hd0 : ∀ j, d j ≤ 1000000 := hd.1.1
              refine lv_iload hx hb dX3_measureTo_35 (lv_at hl 4 rfl) ?_
              refine lv_aload_n hx hb dX3_measureTo_37 rfl (lv_at hl 0 rfl) ?_
              refine va_get (ci := 3) (v := .int (nI n)) (C := RX3) (T := TX3) (N := 6) hx hb hbw in_X3 hown hK hP 0 rfl rfl 0 (by decide) (hbw _ m_45) (fun _ h9 => h9) rfl dX3_measureTo_38 ?_
              refine nr_icmp_ge (x := t) (y := n) (tgt := 124) hx hb (by omega) (by omega) dX3_measureTo_41 (by decide) (fun h3 => ?_) (fun h3 => ?_)
              · obtain rfl : t = n := by omega
                refine lv_iinc (v := nI (rd + 1)) (lv' := [(3, .int (nI (rd + 1))), (0, .ref (q 1)), (1, .int (nI v)), (2, .int (nI (bN g))), (4, .int (nI t))]) hx hb dX3_measureTo_124 hl (k := 3) rfl (nI_1 _) (by decide) rfl (fun ls hl => ?_)
                refine lv_goto (tgt := 20) hx hb dX3_measureTo_127 (by decide) ?_
                exact ih (rd + 1) g d (by omega) (by omega) (cw_in_end hd) _ _ _ hP hD hS (lv_sub hl [1, 2, 3, 0] rfl)
              · refine lv_aload_n hx hb dX3_measureTo_44 rfl (lv_at hl 0 rfl) ?_
                refine lv_aload_n hx hb dX3_measureTo_45 rfl (lv_at hl 0 rfl) ?_
                refine va_get (ci := 3) (v := .ref (q 2)) (C := RX3) (T := TX3) (N := 6) hx hb hbw in_X3 hown hK hP 0 rfl rfl 1 (by decide) (hbw _ m_48) (fun _ h9 => h9) rfl dX3_measureTo_46 ?_
                refine lv_iload hx hb dX3_measureTo_49 (lv_at hl 4 rfl) ?_
                refine nr_iald hx hb hK hP 1 0 rfl rfl (k := t) (by omega) (by omega) dX3_measureTo_51 ?_
                have b_2 := ha0 t
                refine lv_aload_n hx hb dX3_measureTo_52 rfl (lv_at hl 0 rfl) ?_
                refine va_get (ci := 3) (v := .ref (q 3)) (C := RX3) (T := TX3) (N := 6) hx hb hbw in_X3 hown hK hP 0 rfl rfl 2 (by decide) (hbw _ m_49) (fun _ h9 => h9) rfl dX3_measureTo_53 ?_
                refine lv_iload hx hb dX3_measureTo_56 (lv_at hl 4 rfl) ?_
                refine nr_iald hx hb hK hP 2 0 rfl rfl (k := t) (by omega) (by omega) dX3_measureTo_58 ?_
                have b_3 := hb0 t
                refine lv_aload_n hx hb dX3_measureTo_59 rfl (lv_at hl 0 rfl) ?_
                refine va_get (ci := 3) (v := .ref (q 4)) (C := RX3) (T := TX3) (N := 6) hx hb hbw in_X3 hown hK hP 0 rfl rfl 3 (by decide) (hbw _ m_50) (fun _ h9 => h9) rfl dX3_measureTo_60 ?_
                refine lv_iload hx hb dX3_measureTo_63 (lv_at hl 4 rfl) ?_
                refine nr_iald hx hb hK hP 3 0 rfl rfl (k := t) (by omega) (by omega) dX3_measureTo_65 ?_
                have b_4 := hl0 t
                have hd1 : ∀ j, cw_sh d (a t) (b t) (le t) j ≤ 1000000 := fun j => Nat.le_trans (cw_sh_le d (a t) (b t) (le t) j) (hd0 j)
                refine ct_Vi (wc := (pT q cI n a b le ro d)) (wr := ([] : va_W)) (As := [.int (nI (a t)), .int (nI (b t)), .int (nI (le t))]) (rest := []) ⟨hx, hb, hml, hown, hbw⟩ (EN_E D _) hEN (kX3_shorten l D cI cG cL cB q n a b le ro d (a t) (b t) (le t) (ha0 t) (hb0 t) (hl0 t) hd0) (cwV (C := "CableSizes$Trays") 3 hbw (gV m_356 m_358 m_4 m_19 m_359) rfl rfl rfl (by decide +kernel) ⟨Nat.le_of_ble_eq_true rfl, Nat.le_of_ble_eq_true rfl⟩) (va_recv hK hP (ci := 3) (q0 := 0) rfl rfl) hP hD hS hA [0, 1, 2, 3, 4, 5] [] rfl rfl (by decide) (by decide) (by decide) rfl hl.1 rfl (Nat.le_of_ble_eq_true rfl) dX3_measureTo_66 ⟨Nat.le_of_ble_eq_true rfl, Nat.le_of_ble_eq_true rfl⟩ (fun r_5 w_5 H locs hw hP hD hS => ?_)
                obtain ⟨rfl, rfl⟩ := hw
                have hP := hP.sub (ws' := (pT q cI n a b le ro (cw_sh d (a t) (b t) (le t)))) [0, 1, 2, 3, 4, 5] rfl
                have hD := hD.sub (ws' := (pT q cI n a b le ro (cw_sh d (a t) (b t) (le t)))) [0, 1, 2, 3, 4, 5] (by decide) rfl
                refine lv_istore (lv' := [(5, .int (nI (bN (cw_tk d (a t) (b t) (le t))))), (0, .ref (q 1)), (1, .int (nI v)), (2, .int (nI (bN g))), (3, .int (nI rd)), (4, .int (nI t))]) hx hb dX3_measureTo_69 hl (by decide) rfl (fun ls hl => ?_)
                refine lv_aload_n hx hb dX3_measureTo_71 rfl (lv_at hl 1 rfl) ?_
                refine lv_aload_n hx hb dX3_measureTo_72 rfl (lv_at hl 1 rfl) ?_
                refine va_get (ci := 3) (v := .ref (q 3)) (C := RX3) (T := TX3) (N := 6) hx hb hbw in_X3 hown hK hP 0 rfl rfl 2 (by decide) (hbw _ m_49) (fun _ h9 => h9) rfl dX3_measureTo_73 ?_
                refine lv_iload hx hb dX3_measureTo_76 (lv_at hl 5 rfl) ?_
                refine nr_iald hx hb hK hP 2 0 rfl rfl (k := t) (by omega) (by omega) dX3_measureTo_78 ?_
                have b_6 := hb0 t
                refine lv_aload_n hx hb dX3_measureTo_79 rfl (lv_at hl 1 rfl) ?_
                refine va_get (ci := 3) (v := .ref (q 2)) (C := RX3) (T := TX3) (N := 6) hx hb hbw in_X3 hown hK hP 0 rfl rfl 1 (by decide) (hbw _ m_48) (fun _ h9 => h9) rfl dX3_measureTo_80 ?_
                refine lv_iload hx hb dX3_measureTo_83 (lv_at hl 5 rfl) ?_
                refine nr_iald hx hb hK hP 1 0 rfl rfl (k := t) (by omega) (by omega) dX3_measureTo_85 ?_
                have b_7 := ha0 t
                refine lv_aload_n hx hb dX3_measureTo_86 rfl (lv_at hl 1 rfl) ?_
                refine va_get (ci := 3) (v := .ref (q 4)) (C := RX3) (T := TX3) (N := 6) hx hb hbw in_X3 hown hK hP 0 rfl rfl 3 (by decide) (hbw _ m_50) (fun _ h9 => h9) rfl dX3_measureTo_87 ?_
                refine lv_iload hx hb dX3_measureTo_90 (lv_at hl 5 rfl) ?_
                refine nr_iald hx hb hK hP 3 0 rfl rfl (k := t) (by omega) (by omega) dX3_measureTo_92 ?_
                have b_8 := hl0 t
                refine ct_Vi (wc := (pT q cI n a b le ro (cw_sh d (a t) (b t) (le t)))) (wr := ([] : va_W)) (As := [.int (nI (b t)), .int (nI (a t)), .int (nI (le t))]) (rest := []) ⟨hx, hb, hml, hown, hbw⟩ (EN_E D _) hEN (kX3_shorten l D cI cG cL cB q n a b le ro (cw_sh d (a t) (b t) (le t)) (b t) (a t) (le t) (hb0 t) (ha0 t) (hl0 t) hd1) (cwV (C := "CableSizes$Trays") 3 hbw (gV m_356 m_358 m_4 m_19 m_359) rfl rfl rfl (by decide +kernel) ⟨Nat.le_of_ble_eq_true rfl, Nat.le_of_ble_eq_true rfl⟩) (va_recv hK hP (ci := 3) (q0 := 0) rfl rfl) hP hD hS hA [0, 1, 2, 3, 4, 5] [] rfl rfl (by decide) (by decide) (by decide) rfl hl.1 rfl (Nat.le_of_ble_eq_true rfl) dX3_measureTo_93 ⟨Nat.le_of_ble_eq_true rfl, Nat.le_of_ble_eq_true rfl⟩ (fun r_9 w_9 H locs hw hP hD hS => ?_)
                obtain ⟨rfl, rfl⟩ := hw
                have hP := hP.sub (ws' := (pT q cI n a b le ro (cw_sh (cw_sh d (a t) (b t) (le t)) (b t) (a t) (le t)))) [0, 1, 2, 3, 4, 5] rfl
                have hD := hD.sub (ws' := (pT q cI n a b le ro (cw_sh (cw_sh d (a t) (b t) (le t)) (b t) (a t) (le t)))) [0, 1, 2, 3, 4, 5] (by decide) rfl
                have hs := cw_in_s hok h3 hd
                refine lv_istore (lv' := [(6, .int (nI (bN (cw_tk (cw_sh d (a t) (b t) (le t)) (b t) (a t) (le t))))), (5, .int (nI (bN (cw_tk d (a t) (b t) (le t))))), (0, .ref (q 1)), (1, .int (nI v)), (2, .int (nI (bN g))), (3, .int (nI rd)), (4, .int (nI t))]) hx hb dX3_measureTo_96 hl (by decide) rfl (fun ls hl => ?_)
                refine lv_iload_n hx hb dX3_measureTo_98 rfl (lv_at hl 4 rfl) ?_
                refine nr_if_ne (x := bN g) (tgt := 112) hx hb (by unfold bN; split <;> omega) dX3_measureTo_99 (by decide) (fun h4 => ?_) (fun h4 => ?_)
                · refine lv_iconst (v := nI 1) hx hb dX3_measureTo_112 (by decide) ?_
                  refine lv_goto (tgt := 117) hx hb dX3_measureTo_113 (by decide) ?_
                  refine lv_istore_n (lv' := [(2, .int (nI 1)), (6, .int (nI (bN (cw_tk (cw_sh d (a t) (b t) (le t)) (b t) (a t) (le t))))), (5, .int (nI (bN (cw_tk d (a t) (b t) (le t))))), (0, .ref (q 1)), (1, .int (nI v)), (3, .int (nI rd)), (4, .int (nI t))]) hx hb dX3_measureTo_117 rfl hl (by decide) rfl (fun ls hl => ?_)
                  refine lv_iinc (v := nI (t + 1)) (lv' := [(4, .int (nI (t + 1))), (2, .int (nI 1)), (6, .int (nI (bN (cw_tk (cw_sh d (a t) (b t) (le t)) (b t) (a t) (le t))))), (5, .int (nI (bN (cw_tk d (a t) (b t) (le t))))), (0, .ref (q 1)), (1, .int (nI v)), (3, .int (nI rd))]) hx hb dX3_measureTo_118 hl (k := 6) rfl (nI_1 _) (by decide) rfl (fun ls hl => ?_)
                  refine lv_goto (tgt := 35) hx hb dX3_measureTo_121 (by decide) ?_
                  exact ih2 (t + 1) true _ (by omega) (by omega) (hs.as (by rw [bN_t h4]; rfl)) _ _ _ hP hD hS (lv_sub hl [4, 5, 1, 6, 0] rfl)
                · refine lv_iload hx hb dX3_measureTo_102 (lv_at hl 1 rfl) ?_
                  refine nr_if_ne (x := bN (cw_tk d (a t) (b t) (le t))) (tgt := 112) hx hb (by unfold bN; split <;> omega) dX3_measureTo_104 (by decide) (fun h5 => ?_) (fun h5 => ?_)
                  · refine lv_iconst (v := nI 1) hx hb dX3_measureTo_112 (by decide) ?_
                    refine lv_goto (tgt := 117) hx hb dX3_measureTo_113 (by decide) ?_
                    refine lv_istore_n (lv' := [(2, .int (nI 1)), (6, .int (nI (bN (cw_tk (cw_sh d (a t) (b t) (le t)) (b t) (a t) (le t))))), (5, .int (nI (bN (cw_tk d (a t) (b t) (le t))))), (0, .ref (q 1)), (1, .int (nI v)), (3, .int (nI rd)), (4, .int (nI t))]) hx hb dX3_measureTo_117 rfl hl (by decide) rfl (fun ls hl => ?_)
                    refine lv_iinc (v := nI (t + 1)) (lv' := [(4, .int (nI (t + 1))), (2, .int (nI 1)), (6, .int (nI (bN (cw_tk (cw_sh d (a t) (b t) (le t)) (b t) (a t) (le t))))), (5, .int (nI (bN (cw_tk d (a t) (b t) (le t))))), (0, .ref (q 1)), (1, .int (nI v)), (3, .int (nI rd))]) hx hb dX3_measureTo_118 hl (k := 6) rfl (nI_1 _) (by decide) rfl (fun ls hl => ?_)
                    refine lv_goto (tgt := 35) hx hb dX3_measureTo_121 (by decide) ?_
                    exact ih2 (t + 1) true _ (by omega) (by omega) (hs.as (by rw [bN_t h5]; cases g <;> rfl)) _ _ _ hP hD hS (lv_sub hl [4, 5, 1, 6, 0] rfl)
                  · refine lv_iload hx hb dX3_measureTo_107 (lv_at hl 0 rfl) ?_
                    refine nr_if_eq (x := bN (cw_tk (cw_sh d (a t) (b t) (le t)) (b t) (a t) (le t))) (tgt := 116) hx hb (by unfold bN; split <;> omega) dX3_measureTo_109 (by decide) (fun h6 => ?_) (fun h6 => ?_)
                    · refine lv_iconst (v := nI 0) hx hb dX3_measureTo_116 (by decide) ?_
                      refine lv_istore_n (lv' := [(2, .int (nI 0)), (6, .int (nI (bN (cw_tk (cw_sh d (a t) (b t) (le t)) (b t) (a t) (le t))))), (5, .int (nI (bN (cw_tk d (a t) (b t) (le t))))), (0, .ref (q 1)), (1, .int (nI v)), (3, .int (nI rd)), (4, .int (nI t))]) hx hb dX3_measureTo_117 rfl hl (by decide) rfl (fun ls hl => ?_)
                      refine lv_iinc (v := nI (t + 1)) (lv' := [(4, .int (nI (t + 1))), (2, .int (nI 0)), (6, .int (nI (bN (cw_tk (cw_sh d (a t) (b t) (le t)) (b t) (a t) (le t))))), (5, .int (nI (bN (cw_tk d (a t) (b t) (le t))))), (0, .ref (q 1)), (1, .int (nI v)), (3, .int (nI rd))]) hx hb dX3_measureTo_118 hl (k := 6) rfl (nI_1 _) (by decide) rfl (fun ls hl => ?_)
                      refine lv_goto (tgt := 35) hx hb dX3_measureTo_121 (by decide) ?_
                      exact ih2 (t + 1) false _ (by omega) (by omega) (hs.as (by rw [bN_f h4, bN_f h5, bN_f h6]; rfl)) _ _ _ hP hD hS (lv_sub hl [4, 5, 1, 6, 0] rfl)
                    · refine lv_iconst (v := nI 1) hx hb dX3_measureTo_112 (by decide) ?_
                      refine lv_goto (tgt := 117) hx hb dX3_measureTo_113 (by decide) ?_
                      refine lv_istore_n (lv' := [(2, .int (nI 1)), (6, .int (nI (bN (cw_tk (cw_sh d (a t) (b t) (le t)) (b t) (a t) (le t))))), (5, .int (nI (bN (cw_tk d (a t) (b t) (le t))))), (0, .ref (q 1)), (1, .int (nI v)), (3, .int (nI rd)), (4, .int (nI t))]) hx hb dX3_measureTo_117 rfl hl (by decide) rfl (fun ls hl => ?_)
                      refine lv_iinc (v := nI (t + 1)) (lv' := [(4, .int (nI (t + 1))), (2, .int (nI 1)), (6, .int (nI (bN (cw_tk (cw_sh d (a t) (b t) (le t)) (b t) (a t) (le t))))), (5, .int (nI (bN (cw_tk d (a t) (b t) (le t))))), (0, .ref (q 1)), (1, .int (nI v)), (3, .int (nI rd))]) hx hb dX3_measureTo_118 hl (k := 6) rfl (nI_1 _) (by decide) rfl (fun ls hl => ?_)
                      refine lv_goto (tgt := 35) hx hb dX3_measureTo_121 (by decide) ?_
                      exact ih2 (t + 1) true _ (by omega) (by omega) (hs.as (by rw [bN_t h6]; cases g <;> cases cw_tk d (a t) (b t) (le t) <;> rfl)) _ _ _ hP hD hS (lv_sub hl [4, 5, 1, 6, 0] rfl)
          exact lq (n + 1) 0 false d (by omega) (Nat.zero_le n) (cw_in_0 hd) _ _ _ hP hD hS (lv_sub hl [2, 3, 1, 4, 0] rfl)
  exact lp 11 0 true (nr_up (fun _ => 1000000) v 0) (by omega) (by omega) (cw_rd_0 (by omega)) H locs ls hP hD hS (lv_sub hl [2, 3, 1, 0] rfl)
