def oI (o : Option Nat) : Int32 := match o with
  | some v => nI v
  | none => -1
set_option maxHeartbeats 4000000 in
set_option maxRecDepth 100000 in
/-- Trays.shorten -/
theorem kX3_shorten (l : Launch) (D : va_G) (cI cG cL cB : ClassId) (q : Nat → Nat) (n : Nat) (a b le ro di : Nat → Nat) (u v x : Nat) (hu : u < 10) (hv : v < 10) (hx0 : x ≤ 100) (hd0 : ∀ j, di j ≤ 1000000) : ct_i l yX3_shorten (.code yX3_shorten cX3_shorten 5 (some .boolean) :: bw) ({ frames := 0, cells := 0, slots := 0, locals := 0 }) (EN D (tyL cI cG cL cB)) D vwCl (pT q cI n a b le ro di) [.ref (q 1), .int (nI u), .int (nI v), .int (nI x)] (fun r W => W = pT q cI n a b le ro (cw_sh di u v x) ∧ r = if cw_tk di u v x = true then 1 else 0) 0 0 := by
  refine ct_ofi (by decide) (Nat.le_of_ble_eq_true rfl) ?_
  intro p e s m below meth c A H locs av Q ls hx hb hr hml hown hlocks hnm hbw hEN hQ hP hD hS hA hl
  have hown : s.vm.findClass RX3 = some m.cls := hown
  have hK := hEN.1
  have hl : lv_has ls 5 [(0, .ref (q 1)), (1, .int (nI u)), (2, .int (nI v)), (3, .int (nI x))] := hl
  refine lv_aload_n hx hb dX3_shorten_0 rfl (lv_at hl 0 rfl) ?_
  refine va_get (ci := 3) (v := .ref (q 6)) (C := RX3) (T := TX3) (N := 6) hx hb hbw in_X3 hown hK hP 0 rfl rfl 5 (by decide) (hbw _ m_55) (fun _ h9 => h9) rfl dX3_shorten_1 ?_
  refine lv_iload_n hx hb dX3_shorten_4 rfl (lv_at hl 2 rfl) ?_
  refine nr_iald hx hb hK hP 5 0 rfl rfl (k := v) (by omega) (by decide) dX3_shorten_5 ?_
  have b_1 := hd0 v
  refine lv_iload_n hx hb dX3_shorten_6 rfl (lv_at hl 3 rfl) ?_
  refine nr_iadd hx hb dX3_shorten_7 ?_
  refine lv_istore (lv' := [(4, .int (nI ((di v) + x))), (0, .ref (q 1)), (1, .int (nI u)), (2, .int (nI v)), (3, .int (nI x))]) hx hb dX3_shorten_8 hl (by decide) rfl (fun ls hl => ?_)
  refine lv_iload hx hb dX3_shorten_10 (lv_at hl 0 rfl) ?_
  refine lv_aload_n hx hb dX3_shorten_12 rfl (lv_at hl 1 rfl) ?_
  refine va_get (ci := 3) (v := .ref (q 6)) (C := RX3) (T := TX3) (N := 6) hx hb hbw in_X3 hown hK hP 0 rfl rfl 5 (by decide) (hbw _ m_55) (fun _ h9 => h9) rfl dX3_shorten_13 ?_
  refine lv_iload_n hx hb dX3_shorten_16 rfl (lv_at hl 2 rfl) ?_
  refine nr_iald hx hb hK hP 5 0 rfl rfl (k := u) (by omega) (by decide) dX3_shorten_17 ?_
  have b_2 := hd0 u
  refine nr_icmp_lt (x := (di v) + x) (y := di u) (tgt := 23) hx hb (by omega) (by omega) dX3_shorten_18 (by decide) (fun h1 => ?_) (fun h1 => ?_)
  · refine lv_aload_n hx hb dX3_shorten_23 rfl (lv_at hl 1 rfl) ?_
    refine va_get (ci := 3) (v := .ref (q 6)) (C := RX3) (T := TX3) (N := 6) hx hb hbw in_X3 hown hK hP 0 rfl rfl 5 (by decide) (hbw _ m_55) (fun _ h9 => h9) rfl dX3_shorten_24 ?_
    refine lv_iload_n hx hb dX3_shorten_27 rfl (lv_at hl 2 rfl) ?_
    refine lv_iload hx hb dX3_shorten_28 (lv_at hl 0 rfl) ?_
    refine nr_iast hx hb hK hP hD hS 5 0 rfl rfl (k := u) (v := (di v) + x) (by omega) (by decide) dX3_shorten_30 (fun H locs hP hD hS => ?_)
    have hP : va_P D vwCl (pT q cI n a b le ro (nr_up di u ((di v) + x))) H := hP
    have hD : va_D A (pT q cI n a b le ro (nr_up di u ((di v) + x))) := hD
    refine lv_iconst (v := nI 1) hx hb dX3_shorten_31 (by decide) ?_
    have e1 : cw_sh di u v x = nr_up di u (di v + x) := by unfold cw_sh; rw [if_pos h1]
    have e2 : cw_tk di u v x = true := by unfold cw_tk; exact decide_eq_true h1
    rw [hQ]
    exact ct_zret hx hb hr hlocks hP hD hS dX3_shorten_32 (by first | exact Or.inl rfl | exact Or.inr rfl) ⟨by rw [e1], by rw [e2]; rfl⟩
  · refine lv_iconst (v := nI 0) hx hb dX3_shorten_21 (by decide) ?_
    have e1 : cw_sh di u v x = di := by unfold cw_sh; rw [if_neg (by omega)]
    have e2 : cw_tk di u v x = false := by unfold cw_tk; exact decide_eq_false (by omega)
    rw [hQ]
    exact ct_zret hx hb hr hlocks hP hD hS dX3_shorten_22 (by first | exact Or.inl rfl | exact Or.inr rfl) ⟨by rw [e1], by rw [e2]; rfl⟩
set_option maxHeartbeats 4000000 in
set_option maxRecDepth 100000 in
/-- Trays.add -/
theorem kX3_add (l : Launch) (D : va_G) (cI cG cL cB : ClassId) (q : Nat → Nat) (n : Nat) (a b le ro di : Nat → Nat) (u v x y : Nat) (hn : n < 15) : ct_i l yX3_add (.code yX3_add cX3_add 6 (some .int) :: bw) ({ frames := 0, cells := 0, slots := 0, locals := 0 }) (EN D (tyL cI cG cL cB)) D vwCl (pT q cI n a b le ro di) [.ref (q 1), .int (nI u), .int (nI v), .int (nI x), .int (nI y)] (fun r W => W = pT q cI (n + 1) (nr_up a n u) (nr_up b n v) (nr_up le n x) (nr_up ro n y) di ∧ r = nI n) 0 0 := by
  refine ct_ofi (by decide) (Nat.le_of_ble_eq_true rfl) ?_
  intro p e s m below meth c A H locs av Q ls hx hb hr hml hown hlocks hnm hbw hEN hQ hP hD hS hA hl
  have hown : s.vm.findClass RX3 = some m.cls := hown
  have hK := hEN.1
  have hl : lv_has ls 6 [(0, .ref (q 1)), (1, .int (nI u)), (2, .int (nI v)), (3, .int (nI x)), (4, .int (nI y))] := hl
  refine lv_aload_n hx hb dX3_add_0 rfl (lv_at hl 0 rfl) ?_
  refine va_get (ci := 3) (v := .int (nI n)) (C := RX3) (T := TX3) (N := 6) hx hb hbw in_X3 hown hK hP 0 rfl rfl 0 (by decide) (hbw _ m_45) (fun _ h9 => h9) rfl dX3_add_1 ?_
  refine lv_istore (lv' := [(5, .int (nI n)), (0, .ref (q 1)), (1, .int (nI u)), (2, .int (nI v)), (3, .int (nI x)), (4, .int (nI y))]) hx hb dX3_add_4 hl (by decide) rfl (fun ls hl => ?_)
  refine lv_aload_n hx hb dX3_add_6 rfl (lv_at hl 1 rfl) ?_
  refine va_get (ci := 3) (v := .ref (q 2)) (C := RX3) (T := TX3) (N := 6) hx hb hbw in_X3 hown hK hP 0 rfl rfl 1 (by decide) (hbw _ m_48) (fun _ h9 => h9) rfl dX3_add_7 ?_
  refine lv_iload hx hb dX3_add_10 (lv_at hl 0 rfl) ?_
  refine lv_iload_n hx hb dX3_add_12 rfl (lv_at hl 2 rfl) ?_
  refine nr_iast hx hb hK hP hD hS 1 0 rfl rfl (k := n) (v := u) (by omega) (by decide) dX3_add_13 (fun H locs hP hD hS => ?_)
  have hP : va_P D vwCl (pT q cI n (nr_up a n u) b le ro di) H := hP
  have hD : va_D A (pT q cI n (nr_up a n u) b le ro di) := hD
  refine lv_aload_n hx hb dX3_add_14 rfl (lv_at hl 1 rfl) ?_
  refine va_get (ci := 3) (v := .ref (q 3)) (C := RX3) (T := TX3) (N := 6) hx hb hbw in_X3 hown hK hP 0 rfl rfl 2 (by decide) (hbw _ m_49) (fun _ h9 => h9) rfl dX3_add_15 ?_
  refine lv_iload hx hb dX3_add_18 (lv_at hl 0 rfl) ?_
  refine lv_iload_n hx hb dX3_add_20 rfl (lv_at hl 3 rfl) ?_
  refine nr_iast hx hb hK hP hD hS 2 0 rfl rfl (k := n) (v := v) (by omega) (by decide) dX3_add_21 (fun H locs hP hD hS => ?_)
  have hP : va_P D vwCl (pT q cI n (nr_up a n u) (nr_up b n v) le ro di) H := hP
  have hD : va_D A (pT q cI n (nr_up a n u) (nr_up b n v) le ro di) := hD
  refine lv_aload_n hx hb dX3_add_22 rfl (lv_at hl 1 rfl) ?_
  refine va_get (ci := 3) (v := .ref (q 4)) (C := RX3) (T := TX3) (N := 6) hx hb hbw in_X3 hown hK hP 0 rfl rfl 3 (by decide) (hbw _ m_50) (fun _ h9 => h9) rfl dX3_add_23 ?_
  refine lv_iload hx hb dX3_add_26 (lv_at hl 0 rfl) ?_
  refine lv_iload_n hx hb dX3_add_28 rfl (lv_at hl 4 rfl) ?_
  refine nr_iast hx hb hK hP hD hS 3 0 rfl rfl (k := n) (v := x) (by omega) (by decide) dX3_add_29 (fun H locs hP hD hS => ?_)
  have hP : va_P D vwCl (pT q cI n (nr_up a n u) (nr_up b n v) (nr_up le n x) ro di) H := hP
  have hD : va_D A (pT q cI n (nr_up a n u) (nr_up b n v) (nr_up le n x) ro di) := hD
  refine lv_aload_n hx hb dX3_add_30 rfl (lv_at hl 1 rfl) ?_
  refine va_get (ci := 3) (v := .ref (q 5)) (C := RX3) (T := TX3) (N := 6) hx hb hbw in_X3 hown hK hP 0 rfl rfl 4 (by decide) (hbw _ m_52) (fun _ h9 => h9) rfl dX3_add_31 ?_
  refine lv_iload hx hb dX3_add_34 (lv_at hl 0 rfl) ?_
  refine lv_iload hx hb dX3_add_36 (lv_at hl 5 rfl) ?_
  refine nr_iast hx hb hK hP hD hS 4 0 rfl rfl (k := n) (v := y) (by omega) (by decide) dX3_add_38 (fun H locs hP hD hS => ?_)
  have hP : va_P D vwCl (pT q cI n (nr_up a n u) (nr_up b n v) (nr_up le n x) (nr_up ro n y) di) H := hP
  have hD : va_D A (pT q cI n (nr_up a n u) (nr_up b n v) (nr_up le n x) (nr_up ro n y) di) := hD
  refine lv_aload_n hx hb dX3_add_39 rfl (lv_at hl 1 rfl) ?_
  refine lv_iload hx hb dX3_add_40 (lv_at hl 0 rfl) ?_
  refine lv_iconst (v := nI 1) hx hb dX3_add_42 (by decide) ?_
  refine nr_iadd hx hb dX3_add_43 ?_
  refine va_put (ci := 3) (v := .int (nI (n + 1))) (ty := .int) (C := RX3) (T := TX3) (N := 6) hx hb hbw in_X3 tyX3 tyX3_ok nmX3 hown hK hP hD hS 0 rfl rfl 0 (by decide) (hbw _ m_45) (fun _ h9 => h9) rfl (by decide +kernel) rfl rfl (Nat.le_of_ble_eq_true rfl) dX3_add_44 (fun H locs hP hD hS => ?_)
  have hP : va_P D vwCl (pT q cI (n + 1) (nr_up a n u) (nr_up b n v) (nr_up le n x) (nr_up ro n y) di) H := hP
  have hD : va_D A (pT q cI (n + 1) (nr_up a n u) (nr_up b n v) (nr_up le n x) (nr_up ro n y) di) := hD
  refine lv_iload hx hb dX3_add_47 (lv_at hl 0 rfl) ?_
  rw [hQ]
  exact ct_iret hx hb hr hlocks hP hD hS dX3_add_49 ⟨rfl, rfl⟩
set_option maxHeartbeats 4000000 in
set_option maxRecDepth 100000 in
/-- Trays.endBehind -/
theorem kX3_endBehind (l : Launch) (D : va_G) (cI cG cL cB : ClassId) (q : Nat → Nat) (n : Nat) (a b le ro di : Nat → Nat) (t u : Nat) (ht : t < 15) (hu : u < 10) (ha0 : ∀ j, a j < 10) (hb0 : ∀ j, b j < 10) : ct_i l yX3_endBehind (.code yX3_endBehind cX3_endBehind 3 (some .int) :: bw) ({ frames := 0, cells := 0, slots := 0, locals := 0 }) (EN D (tyL cI cG cL cB)) D vwCl (pT q cI n a b le ro di) [.ref (q 1), .int (nI t), .int (nI u)] (fun r W => W = pT q cI n a b le ro di ∧ r = oI (cw_nx a b t u)) 0 0 := by
  refine ct_ofi (by decide) (Nat.le_of_ble_eq_true rfl) ?_
  intro p e s m below meth c A H locs av Q ls hx hb hr hml hown hlocks hnm hbw hEN hQ hP hD hS hA hl
  have hown : s.vm.findClass RX3 = some m.cls := hown
  have hK := hEN.1
  have hl : lv_has ls 3 [(0, .ref (q 1)), (1, .int (nI t)), (2, .int (nI u))] := hl
  refine lv_aload_n hx hb dX3_endBehind_0 rfl (lv_at hl 0 rfl) ?_
  refine va_get (ci := 3) (v := .ref (q 2)) (C := RX3) (T := TX3) (N := 6) hx hb hbw in_X3 hown hK hP 0 rfl rfl 1 (by decide) (hbw _ m_48) (fun _ h9 => h9) rfl dX3_endBehind_1 ?_
  refine lv_iload_n hx hb dX3_endBehind_4 rfl (lv_at hl 1 rfl) ?_
  refine nr_iald hx hb hK hP 1 0 rfl rfl (k := t) (by omega) (by decide) dX3_endBehind_5 ?_
  have b_1 := ha0 t
  refine lv_iload_n hx hb dX3_endBehind_6 rfl (lv_at hl 2 rfl) ?_
  refine nr_icmp_ne (x := a t) (y := u) (tgt := 17) hx hb (by omega) (by omega) dX3_endBehind_7 (by decide) (fun h1 => ?_) (fun h1 => ?_)
  · refine lv_aload_n hx hb dX3_endBehind_17 rfl (lv_at hl 0 rfl) ?_
    refine va_get (ci := 3) (v := .ref (q 3)) (C := RX3) (T := TX3) (N := 6) hx hb hbw in_X3 hown hK hP 0 rfl rfl 2 (by decide) (hbw _ m_49) (fun _ h9 => h9) rfl dX3_endBehind_18 ?_
    refine lv_iload_n hx hb dX3_endBehind_21 rfl (lv_at hl 1 rfl) ?_
    refine nr_iald hx hb hK hP 2 0 rfl rfl (k := t) (by omega) (by decide) dX3_endBehind_22 ?_
    have b_2 := hb0 t
    refine lv_iload_n hx hb dX3_endBehind_23 rfl (lv_at hl 2 rfl) ?_
    refine nr_icmp_ne (x := b t) (y := u) (tgt := 36) hx hb (by omega) (by omega) dX3_endBehind_24 (by decide) (fun h2 => ?_) (fun h2 => ?_)
    · refine lv_iconst (v := (-1)) hx hb dX3_endBehind_36 (by decide) ?_
      have e1 : cw_nx a b t u = none := by unfold cw_nx; rw [if_neg h1, if_neg h2]
      rw [hQ]
      exact ct_iret hx hb hr hlocks hP hD hS dX3_endBehind_37 ⟨rfl, by rw [e1]; rfl⟩
    · refine lv_aload_n hx hb dX3_endBehind_27 rfl (lv_at hl 0 rfl) ?_
      refine va_get (ci := 3) (v := .ref (q 2)) (C := RX3) (T := TX3) (N := 6) hx hb hbw in_X3 hown hK hP 0 rfl rfl 1 (by decide) (hbw _ m_48) (fun _ h9 => h9) rfl dX3_endBehind_28 ?_
      refine lv_iload_n hx hb dX3_endBehind_31 rfl (lv_at hl 1 rfl) ?_
      refine nr_iald hx hb hK hP 1 0 rfl rfl (k := t) (by omega) (by decide) dX3_endBehind_32 ?_
      have b_3 := ha0 t
      refine lv_goto (tgt := 37) hx hb dX3_endBehind_33 (by decide) ?_
      have e1 : cw_nx a b t u = some (a t) := by unfold cw_nx; rw [if_neg h1, if_pos h2]
      rw [hQ]
      exact ct_iret hx hb hr hlocks hP hD hS dX3_endBehind_37 ⟨rfl, by rw [e1]; rfl⟩
  · refine lv_aload_n hx hb dX3_endBehind_10 rfl (lv_at hl 0 rfl) ?_
    refine va_get (ci := 3) (v := .ref (q 3)) (C := RX3) (T := TX3) (N := 6) hx hb hbw in_X3 hown hK hP 0 rfl rfl 2 (by decide) (hbw _ m_49) (fun _ h9 => h9) rfl dX3_endBehind_11 ?_
    refine lv_iload_n hx hb dX3_endBehind_14 rfl (lv_at hl 1 rfl) ?_
    refine nr_iald hx hb hK hP 2 0 rfl rfl (k := t) (by omega) (by decide) dX3_endBehind_15 ?_
    have b_4 := hb0 t
    have e1 : cw_nx a b t u = some (b t) := by unfold cw_nx; rw [if_pos h1]
    rw [hQ]
    exact ct_iret hx hb hr hlocks hP hD hS dX3_endBehind_16 ⟨rfl, by rw [e1]; rfl⟩
set_option maxHeartbeats 4000000 in
set_option maxRecDepth 100000 in
/-- Trays.firstTowardsTarget -/
theorem kX3_firstTowardsTarget (l : Launch) (D : va_G) (cI cG cL cB : ClassId) (q : Nat → Nat) (n : Nat) (a b le ro di : Nat → Nat) (u : Nat) (hn : n ≤ 15) (hu : u < 10) (ha0 : ∀ j, a j < 10) (hb0 : ∀ j, b j < 10) (hl0 : ∀ j, le j ≤ 100) (hd0 : ∀ j, di j ≤ 1000000) : ct_i l yX3_firstTowardsTarget (.code yX3_firstTowardsTarget cX3_firstTowardsTarget 4 (some .int) :: bw) ({ frames := 1, cells := 0, slots := 0, locals := 22 }) (EN D (tyL cI cG cL cB)) D vwCl (pT q cI n a b le ro di) [.ref (q 1), .int (nI u)] (fun r W => W = pT q cI n a b le ro di ∧ ((∃ t, r = nI t ∧ t < n ∧ cw_gd a b le di u t ∧ ∀ t', t' < t → ¬ cw_gd a b le di u t') ∨ (r = -1 ∧ ∀ t', t' < n → ¬ cw_gd a b le di u t'))) 0 0 := by
  refine ct_ofi (by decide) (Nat.le_of_ble_eq_true rfl) ?_
  intro p e s m below meth c A H locs av Q ls hx hb hr hml hown hlocks hnm hbw hEN hQ hP hD hS hA hl
  have hown : s.vm.findClass RX3 = some m.cls := hown
  have hK := hEN.1
  have hl : lv_has ls 4 [(0, .ref (q 1)), (1, .int (nI u))] := hl
  refine lv_iconst (v := nI 0) hx hb dX3_firstTowardsTarget_0 (by decide) ?_
  refine lv_istore_n (lv' := [(2, .int (nI 0)), (0, .ref (q 1)), (1, .int (nI u))]) hx hb dX3_firstTowardsTarget_1 rfl hl (by decide) rfl (fun ls hl => ?_)
  have lp : ∀ (k : Nat) (i : Nat), (hk : n < i + k) → (hi : i ≤ n) → (hv : ∀ t', t' < i → ¬ cw_gd a b le di u t') → ∀ (H : Heap) (locs : List Loc) (ls : Array Slot), va_P D vwCl (pT q cI n a b le ro di) H → va_D A (pT q cI n a b le ro di) → va_S A s.heap H locs → lv_has ls 4 [(0, .ref (q 1)), (1, .int (nI u)), (2, .int (nI i))] → W p l e ({ frames := 1, cells := 0, slots := 0, locals := 22 }) s m av below meth c H locs 0 0 Q (F0 m 2 ls []) := by
    intro k
    induction k with
    | zero => intro i hk hi hv; exact absurd hk (by omega)
    | succ k ih =>
      intro i hk hi hv H locs ls hP hD hS hl
      refine lv_iload_n hx hb dX3_firstTowardsTarget_2 rfl (lv_at hl 2 rfl) ?_
      refine lv_aload_n hx hb dX3_firstTowardsTarget_3 rfl (lv_at hl 0 rfl) ?_
      refine va_get (ci := 3) (v := .int (nI n)) (C := RX3) (T := TX3) (N := 6) hx hb hbw in_X3 hown hK hP 0 rfl rfl 0 (by decide) (hbw _ m_45) (fun _ h9 => h9) rfl dX3_firstTowardsTarget_4 ?_
      refine nr_icmp_ge (x := i) (y := n) (tgt := 52) hx hb (by omega) (by omega) dX3_firstTowardsTarget_7 (by decide) (fun h1 => ?_) (fun h1 => ?_)
      · refine lv_iconst (v := (-1)) hx hb dX3_firstTowardsTarget_52 (by decide) ?_
        have e1 : i = n := by omega
        rw [hQ]
        exact ct_iret hx hb hr hlocks hP hD hS dX3_firstTowardsTarget_53 ⟨rfl, Or.inr ⟨rfl, by rw [← e1]; exact hv⟩⟩
      · refine lv_aload_n hx hb dX3_firstTowardsTarget_10 rfl (lv_at hl 0 rfl) ?_
        refine lv_iload_n hx hb dX3_firstTowardsTarget_11 rfl (lv_at hl 2 rfl) ?_
        refine lv_iload_n hx hb dX3_firstTowardsTarget_12 rfl (lv_at hl 1 rfl) ?_
        refine ct_Vi (wc := (pT q cI n a b le ro di)) (wr := ([] : va_W)) (As := [.int (nI i), .int (nI u)]) (rest := []) ⟨hx, hb, hml, hown, hbw⟩ (EN_E D _) hEN (kX3_endBehind l D cI cG cL cB q n a b le ro di i u (by omega) hu ha0 hb0) (cwV (C := "CableSizes$Trays") 2 hbw (gV m_365 m_366 m_367 m_19 m_368) rfl rfl rfl (by decide +kernel) ⟨Nat.le_of_ble_eq_true rfl, Nat.le_of_ble_eq_true rfl⟩) (va_recv hK hP (ci := 3) (q0 := 0) rfl rfl) hP hD hS hA [0, 1, 2, 3, 4, 5] [] rfl rfl (by decide) (by decide) (by decide) rfl hl.1 rfl (Nat.le_of_ble_eq_true rfl) dX3_firstTowardsTarget_13 ⟨Nat.le_of_ble_eq_true rfl, Nat.le_of_ble_eq_true rfl⟩ (fun r_1 w_1 H locs hw hP hD hS => ?_)
        obtain ⟨rfl, hr1⟩ := hw
        have hP := hP.sub (ws' := (pT q cI n a b le ro di)) [0, 1, 2, 3, 4, 5] rfl
        have hD := hD.sub (ws' := (pT q cI n a b le ro di)) [0, 1, 2, 3, 4, 5] (by decide) rfl
        refine lv_istore_n (lv' := [(3, .int r_1), (0, .ref (q 1)), (1, .int (nI u)), (2, .int (nI i))]) hx hb dX3_firstTowardsTarget_16 rfl hl (by decide) rfl (fun ls hl => ?_)
        refine lv_iload_n hx hb dX3_firstTowardsTarget_17 rfl (lv_at hl 0 rfl) ?_
        refine lv_iconst (v := (-1)) hx hb dX3_firstTowardsTarget_18 (by decide) ?_
        cases hn1 : cw_nx a b i u with
        | none =>
          rw [hn1] at hr1
          refine lv_icmp_eq (tgt := 46) hx hb dX3_firstTowardsTarget_19 (by decide) (fun h2 => ?_) (fun h2 => ?_)
          · refine lv_iinc (v := nI (i + 1)) (lv' := [(2, .int (nI (i + 1))), (3, .int r_1), (0, .ref (q 1)), (1, .int (nI u))]) hx hb dX3_firstTowardsTarget_46 hl (k := 3) rfl (nI_1 _) (by decide) rfl (fun ls hl => ?_)
            refine lv_goto (tgt := 2) hx hb dX3_firstTowardsTarget_49 (by decide) ?_
            exact ih (i + 1) (by omega) (by omega) (lt_s hv (by rintro ⟨w, h3, -⟩; rw [hn1] at h3; cases h3)) _ _ _ hP hD hS (lv_sub hl [2, 3, 0] rfl)
          · exact absurd hr1 h2
        | some z =>
          rw [hn1] at hr1
          have hz := (show z < 10 by rcases cw_nx_cases hn1 with ⟨-, h⟩ | ⟨-, h⟩ <;> rw [h]; exact hb0 i; exact ha0 i)
          have hr2 : r_1 = nI z := hr1
          subst hr2
          refine lv_icmp_eq (tgt := 46) hx hb dX3_firstTowardsTarget_19 (by decide) (fun h2 => ?_) (fun h2 => ?_)
          · exact absurd (congrArg Int32.toInt h2) (by rw [nI_toInt (by omega)]; intro h; have h3 : (z : Int) = -1 := h; omega)
          · refine lv_aload_n hx hb dX3_firstTowardsTarget_22 rfl (lv_at hl 1 rfl) ?_
            refine va_get (ci := 3) (v := .ref (q 6)) (C := RX3) (T := TX3) (N := 6) hx hb hbw in_X3 hown hK hP 0 rfl rfl 5 (by decide) (hbw _ m_55) (fun _ h9 => h9) rfl dX3_firstTowardsTarget_23 ?_
            refine lv_iload_n hx hb dX3_firstTowardsTarget_26 rfl (lv_at hl 0 rfl) ?_
            refine nr_iald hx hb hK hP 5 0 rfl rfl (k := z) (by omega) (by decide) dX3_firstTowardsTarget_27 ?_
            have b_2 := hd0 z
            refine lv_aload_n hx hb dX3_firstTowardsTarget_28 rfl (lv_at hl 1 rfl) ?_
            refine va_get (ci := 3) (v := .ref (q 4)) (C := RX3) (T := TX3) (N := 6) hx hb hbw in_X3 hown hK hP 0 rfl rfl 3 (by decide) (hbw _ m_50) (fun _ h9 => h9) rfl dX3_firstTowardsTarget_29 ?_
            refine lv_iload_n hx hb dX3_firstTowardsTarget_32 rfl (lv_at hl 3 rfl) ?_
            refine nr_iald hx hb hK hP 3 0 rfl rfl (k := i) (by omega) (by decide) dX3_firstTowardsTarget_33 ?_
            have b_3 := hl0 i
            refine nr_iadd hx hb dX3_firstTowardsTarget_34 ?_
            refine lv_aload_n hx hb dX3_firstTowardsTarget_35 rfl (lv_at hl 1 rfl) ?_
            refine va_get (ci := 3) (v := .ref (q 6)) (C := RX3) (T := TX3) (N := 6) hx hb hbw in_X3 hown hK hP 0 rfl rfl 5 (by decide) (hbw _ m_55) (fun _ h9 => h9) rfl dX3_firstTowardsTarget_36 ?_
            refine lv_iload_n hx hb dX3_firstTowardsTarget_39 rfl (lv_at hl 2 rfl) ?_
            refine nr_iald hx hb hK hP 5 0 rfl rfl (k := u) (by omega) (by decide) dX3_firstTowardsTarget_40 ?_
            have b_4 := hd0 u
            refine nr_icmp_ne (x := (di z) + (le i)) (y := di u) (tgt := 46) hx hb (by omega) (by omega) dX3_firstTowardsTarget_41 (by decide) (fun h3 => ?_) (fun h3 => ?_)
            · refine lv_iinc (v := nI (i + 1)) (lv' := [(2, .int (nI (i + 1))), (3, .int (nI z)), (0, .ref (q 1)), (1, .int (nI u))]) hx hb dX3_firstTowardsTarget_46 hl (k := 3) rfl (nI_1 _) (by decide) rfl (fun ls hl => ?_)
              refine lv_goto (tgt := 2) hx hb dX3_firstTowardsTarget_49 (by decide) ?_
              exact ih (i + 1) (by omega) (by omega) (lt_s hv (by rintro ⟨w, h4, h5⟩; rw [hn1] at h4; cases h4; exact h3 h5)) _ _ _ hP hD hS (lv_sub hl [2, 3, 0] rfl)
            · refine lv_iload_n hx hb dX3_firstTowardsTarget_44 rfl (lv_at hl 3 rfl) ?_
              rw [hQ]
              exact ct_iret hx hb hr hlocks hP hD hS dX3_firstTowardsTarget_45 ⟨rfl, Or.inl ⟨i, rfl, by omega, ⟨z, hn1, h3⟩, hv⟩⟩
  exact lp (n + 1) 0 (by omega) (Nat.zero_le n) (lt_0) H locs ls hP hD hS (lv_sub hl [1, 2, 0] rfl)
