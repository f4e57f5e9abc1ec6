set_option maxHeartbeats 4000000 in
set_option maxRecDepth 100000 in
/-- isNode -/
theorem kX5_isNode (l : Launch) (D : va_G) (cI cG cL cB : ClassId) (x : Int32) : ct_i l yX5_isNode (.code yX5_isNode cX5_isNode 1 (some .boolean) :: bw) ({ frames := 0, cells := 0, slots := 0, locals := 0 }) (EN D (tyL cI cG cL cB)) D vwCl ([] : va_W) [.int x] (fun v W => W = [] ∧ ((v = nI 1 ∧ inB x 0 9) ∨ (v = nI 0 ∧ ¬ inB x 0 9))) 0 0 := by
  refine ct_ofi (by decide) (Nat.le_of_ble_eq_true rfl) ?_
  intro p e s m below meth cd A H locs av Q ls hx hb hr hml hown hlocks hnm hbw hEN hQ hP hD hS hA hl
  have hown : s.vm.findClass RX5 = some m.cls := hown
  have hK := hEN.1
  have hl : lv_has ls 1 [(0, .int x)] := hl
  refine lv_iload_n hx hb dX5_isNode_0 rfl (lv_at hl 0 rfl) ?_
  refine lv_if_lt (tgt := 14) hx hb dX5_isNode_1 (by decide) (fun h1 => ?_) (fun h1 => ?_)
  · refine lv_iconst (v := nI 0) hx hb dX5_isNode_14 (by decide) ?_
    rw [hQ]
    exact ct_zret hx hb hr hlocks hP hD hS dX5_isNode_15 (by first | exact Or.inl rfl | exact Or.inr rfl) ⟨rfl, Or.inr ⟨rfl, (fun q => by have q := inB_toInt (by omega) q; have q2 := Int32.lt_iff_toInt_lt.mp h1; have q3 : x.toInt < 0 := q2; omega)⟩⟩
  · refine lv_iload_n hx hb dX5_isNode_4 rfl (lv_at hl 0 rfl) ?_
    refine lv_bipush (v := nI 10) hx hb dX5_isNode_5 (by decide) ?_
    refine lv_icmp_ge (tgt := 14) hx hb dX5_isNode_7 (by decide) (fun h2 => ?_) (fun h2 => ?_)
    · refine lv_iconst (v := nI 0) hx hb dX5_isNode_14 (by decide) ?_
      rw [hQ]
      exact ct_zret hx hb hr hlocks hP hD hS dX5_isNode_15 (by first | exact Or.inl rfl | exact Or.inr rfl) ⟨rfl, Or.inr ⟨rfl, (fun q => by have q := inB_toInt (by omega) q; have q2 := Int32.le_iff_toInt_le.mp h2; rw [nI_toInt (by omega)] at q2; omega)⟩⟩
    · refine lv_iconst (v := nI 1) hx hb dX5_isNode_10 (by decide) ?_
      refine lv_goto (tgt := 15) hx hb dX5_isNode_11 (by decide) ?_
      rw [hQ]
      exact ct_zret hx hb hr hlocks hP hD hS dX5_isNode_15 (by first | exact Or.inl rfl | exact Or.inr rfl) ⟨rfl, Or.inl ⟨rfl, inB_of (by omega) (by have q := Int32.le_iff_toInt_le.mp (Int32.not_lt.mp h1); have q2 : (0 : Int) ≤ x.toInt := q; omega) (by have q := Int32.lt_iff_toInt_lt.mp (Int32.not_le.mp h2); rw [nI_toInt (by omega)] at q; omega)⟩⟩
set_option maxHeartbeats 4000000 in
set_option maxRecDepth 100000 in
/-- isIn -/
theorem kX5_isIn (l : Launch) (D : va_G) (cI cG cL cB : ClassId) (x : Int32) (lw hg : Nat) (h1 : lw < 2 ^ 31) (h2 : hg < 2 ^ 31) : ct_i l yX5_isIn (.code yX5_isIn cX5_isIn 6 (some .boolean) :: bw) ({ frames := 0, cells := 0, slots := 0, locals := 0 }) (EN D (tyL cI cG cL cB)) D vwCl ([] : va_W) [.long x.toInt64, .long (lN lw), .long (lN hg)] (fun v W => W = [] ∧ ((v = nI 1 ∧ inB x lw hg) ∨ (v = nI 0 ∧ ¬ inB x lw hg))) 0 0 := by
  refine ct_ofi (by decide) (Nat.le_of_ble_eq_true rfl) ?_
  intro p e s m below meth cd A H locs av Q ls hx hb hr hml hown hlocks hnm hbw hEN hQ hP hD hS hA hl
  have hown : s.vm.findClass RX5 = some m.cls := hown
  have hK := hEN.1
  have hl : lv_has ls 6 [(0, .long x.toInt64), (2, .long (lN lw)), (4, .long (lN hg))] := hl
  refine lv_lload_n hx hb dX5_isIn_0 rfl (lv_at hl 0 rfl) ?_
  refine lv_lload_n hx hb dX5_isIn_1 rfl (lv_at hl 1 rfl) ?_
  refine nr_cmplt (tgt := 17) hx hb dX5_isIn_2 dX5_isIn_3 (by decide) (fun h3 => ?_) (fun h3 => ?_)
  · refine lv_iconst (v := nI 0) hx hb dX5_isIn_17 (by decide) ?_
    rw [hQ]
    exact ct_zret hx hb hr hlocks hP hD hS dX5_isIn_18 (by first | exact Or.inl rfl | exact Or.inr rfl) ⟨rfl, Or.inr ⟨rfl, fun q => by have q := inB_toInt h2 q; have q2 := (x64_lt x h1).1.mp h3; omega⟩⟩
  · refine lv_lload_n hx hb dX5_isIn_6 rfl (lv_at hl 0 rfl) ?_
    refine lv_lload hx hb dX5_isIn_7 (lv_at hl 2 rfl) ?_
    refine nr_cmpgt (tgt := 17) hx hb dX5_isIn_9 dX5_isIn_10 (by decide) (fun h4 => ?_) (fun h4 => ?_)
    · refine lv_iconst (v := nI 0) hx hb dX5_isIn_17 (by decide) ?_
      rw [hQ]
      exact ct_zret hx hb hr hlocks hP hD hS dX5_isIn_18 (by first | exact Or.inl rfl | exact Or.inr rfl) ⟨rfl, Or.inr ⟨rfl, fun q => by have q := inB_toInt h2 q; have q2 := (x64_lt x h2).2.mp h4; omega⟩⟩
    · refine lv_iconst (v := nI 1) hx hb dX5_isIn_13 (by decide) ?_
      refine lv_goto (tgt := 18) hx hb dX5_isIn_14 (by decide) ?_
      rw [hQ]
      exact ct_zret hx hb hr hlocks hP hD hS dX5_isIn_18 (by first | exact Or.inl rfl | exact Or.inr rfl) ⟨rfl, Or.inl ⟨rfl, inB_of h2 (by have q := mt (x64_lt x h1).1.mpr h3; omega) (by have q := mt (x64_lt x h2).2.mpr h4; omega)⟩⟩
set_option maxHeartbeats 4000000 in
set_option maxRecDepth 100000 in
/-- thrown -/
theorem kX5_thrown (l : Launch) (D : va_G) (cI cG cL cB : ClassId) (g : Nat → Nat) (th n : Nat) (en le ro : Nat → Nat) (sn : Nat) (ar rt oh : Nat → Nat) (cn : Nat) (no ot cu : Nat → Nat) (lim : Nat) (fa wy lo ch bd : Nat → Nat) : ct_i l yX5_thrown (.code yX5_thrown cX5_thrown 1 (some .int) :: bw) ({ frames := 0, cells := 0, slots := 0, locals := 0 }) (EN D (tyL cI cG cL cB)) D vwCl (pM g cI cB th n en le ro sn ar rt oh cn no ot cu lim fa wy lo ch bd) [.ref (g 0)] (fun v W => W = (pM g cI cB th n en le ro sn ar rt oh cn no ot cu lim fa wy lo ch bd) ∧ v = nI th) 0 0 := by
  refine ct_ofi (by decide) (Nat.le_of_ble_eq_true rfl) ?_
  intro p e s m below meth cd A H locs av Q ls hx hb hr hml hown hlocks hnm hbw hEN hQ hP hD hS hA hl
  have hown : s.vm.findClass RX5 = some m.cls := hown
  have hK := hEN.1
  have hl : lv_has ls 1 [(0, .ref (g 0))] := hl
  refine lv_aload_n hx hb dX5_thrown_0 rfl (lv_at hl 0 rfl) ?_
  refine va_get (ci := 5) (v := .int (nI th)) (C := RX5) (T := TX5) (N := 19) hx hb hbw in_X5 hown hK hP 0 rfl rfl 0 (by decide) (hbw _ m_488) (fun _ h9 => h9) rfl dX5_thrown_1 ?_
  rw [hQ]
  exact ct_iret hx hb hr hlocks hP hD hS dX5_thrown_4 ⟨rfl, rfl⟩
set_option maxHeartbeats 4000000 in
set_option maxRecDepth 100000 in
/-- X5_noCable -/
theorem kX5_noCable (l : Launch) (D : va_G) (cI cG cL cB : ClassId) (g : Nat → Nat) (th n : Nat) (en le ro : Nat → Nat) (sn : Nat) (ar rt oh : Nat → Nat) (cn : Nat) (no ot cu : Nat → Nat) (lim : Nat) (fa wy lo ch bd : Nat → Nat) (x : Int32) (hn : cn ≤ 20) : ct_i l yX5_noCable (.code yX5_noCable cX5_noCable 2 (some .boolean) :: bw) ({ frames := 0, cells := 0, slots := 0, locals := 0 }) (EN D (tyL cI cG cL cB)) D vwCl (pM g cI cB th n en le ro sn ar rt oh cn no ot cu lim fa wy lo ch bd) [.ref (g 0), .int x] (fun v W => W = (pM g cI cB th n en le ro sn ar rt oh cn no ot cu lim fa wy lo ch bd) ∧ ((v = nI 1 ∧ ¬ ∃ k, k < cn ∧ x = nI k) ∨ (v = nI 0 ∧ ∃ k, k < cn ∧ x = nI k))) 0 0 := by
  refine ct_ofi (by decide) (Nat.le_of_ble_eq_true rfl) ?_
  intro p e s m below meth cd A H locs av Q ls hx hb hr hml hown hlocks hnm hbw hEN hQ hP hD hS hA hl
  have hown : s.vm.findClass RX5 = some m.cls := hown
  have hK := hEN.1
  have hl : lv_has ls 2 [(0, .ref (g 0)), (1, .int x)] := hl
  refine lv_iload_n hx hb dX5_noCable_0 rfl (lv_at hl 1 rfl) ?_
  refine lv_if_lt (tgt := 12) hx hb dX5_noCable_1 (by decide) (fun h1 => ?_) (fun h1 => ?_)
  · refine lv_iconst (v := nI 1) hx hb dX5_noCable_12 (by decide) ?_
    refine lv_goto (tgt := 17) hx hb dX5_noCable_13 (by decide) ?_
    rw [hQ]
    exact ct_zret hx hb hr hlocks hP hD hS dX5_noCable_17 (by first | exact Or.inl rfl | exact Or.inr rfl) ⟨rfl, Or.inl ⟨rfl, fun ⟨k, hk, e⟩ => by rw [e] at h1; exact nI_pos (by omega) h1⟩⟩
  · refine lv_iload_n hx hb dX5_noCable_4 rfl (lv_at hl 1 rfl) ?_
    refine lv_aload_n hx hb dX5_noCable_5 rfl (lv_at hl 0 rfl) ?_
    refine va_get (ci := 5) (v := .int (nI cn)) (C := RX5) (T := TX5) (N := 19) hx hb hbw in_X5 hown hK hP 0 rfl rfl 9 (by decide) (hbw _ m_497) (fun _ h9 => h9) rfl dX5_noCable_6 ?_
    refine lv_icmp_lt (tgt := 16) hx hb dX5_noCable_9 (by decide) (fun h2 => ?_) (fun h2 => ?_)
    · refine lv_iconst (v := nI 0) hx hb dX5_noCable_16 (by decide) ?_
      obtain ⟨k, hk, e⟩ : ∃ k, k < cn ∧ x = nI k := by
        rcases pk_ix x (n := cn) (by omega) with h | h | ⟨j, h3, h4⟩
        · exact absurd h h1
        · exact absurd h2 (Int32.not_lt.mpr h)
        · exact ⟨j, h3, h4⟩
      rw [hQ]
      exact ct_zret hx hb hr hlocks hP hD hS dX5_noCable_17 (by first | exact Or.inl rfl | exact Or.inr rfl) ⟨rfl, Or.inr ⟨rfl, k, hk, e⟩⟩
    · refine lv_iconst (v := nI 1) hx hb dX5_noCable_12 (by decide) ?_
      refine lv_goto (tgt := 17) hx hb dX5_noCable_13 (by decide) ?_
      rw [hQ]
      exact ct_zret hx hb hr hlocks hP hD hS dX5_noCable_17 (by first | exact Or.inl rfl | exact Or.inr rfl) ⟨rfl, Or.inl ⟨rfl, fun ⟨k, hk, e⟩ => h2 (by rw [e]; exact nI_lt hk (by omega))⟩⟩
set_option maxHeartbeats 4000000 in
set_option maxRecDepth 100000 in
/-- X5_noTray -/
theorem kX5_noTray (l : Launch) (D : va_G) (cI cG cL cB : ClassId) (g : Nat → Nat) (th n : Nat) (en le ro : Nat → Nat) (sn : Nat) (ar rt oh : Nat → Nat) (cn : Nat) (no ot cu : Nat → Nat) (lim : Nat) (fa wy lo ch bd : Nat → Nat) (x : Int32) (hn : n ≤ 15) : ct_i l yX5_noTray (.code yX5_noTray cX5_noTray 2 (some .boolean) :: bw) ({ frames := 0, cells := 0, slots := 0, locals := 0 }) (EN D (tyL cI cG cL cB)) D vwCl (pM g cI cB th n en le ro sn ar rt oh cn no ot cu lim fa wy lo ch bd) [.ref (g 0), .int x] (fun v W => W = (pM g cI cB th n en le ro sn ar rt oh cn no ot cu lim fa wy lo ch bd) ∧ ((v = nI 1 ∧ ¬ ∃ k, k < n ∧ x = nI k) ∨ (v = nI 0 ∧ ∃ k, k < n ∧ x = nI k))) 0 0 := by
  refine ct_ofi (by decide) (Nat.le_of_ble_eq_true rfl) ?_
  intro p e s m below meth cd A H locs av Q ls hx hb hr hml hown hlocks hnm hbw hEN hQ hP hD hS hA hl
  have hown : s.vm.findClass RX5 = some m.cls := hown
  have hK := hEN.1
  have hl : lv_has ls 2 [(0, .ref (g 0)), (1, .int x)] := hl
  refine lv_iload_n hx hb dX5_noTray_0 rfl (lv_at hl 1 rfl) ?_
  refine lv_if_lt (tgt := 12) hx hb dX5_noTray_1 (by decide) (fun h1 => ?_) (fun h1 => ?_)
  · refine lv_iconst (v := nI 1) hx hb dX5_noTray_12 (by decide) ?_
    refine lv_goto (tgt := 17) hx hb dX5_noTray_13 (by decide) ?_
    rw [hQ]
    exact ct_zret hx hb hr hlocks hP hD hS dX5_noTray_17 (by first | exact Or.inl rfl | exact Or.inr rfl) ⟨rfl, Or.inl ⟨rfl, fun ⟨k, hk, e⟩ => by rw [e] at h1; exact nI_pos (by omega) h1⟩⟩
  · refine lv_iload_n hx hb dX5_noTray_4 rfl (lv_at hl 1 rfl) ?_
    refine lv_aload_n hx hb dX5_noTray_5 rfl (lv_at hl 0 rfl) ?_
    refine va_get (ci := 5) (v := .int (nI n)) (C := RX5) (T := TX5) (N := 19) hx hb hbw in_X5 hown hK hP 0 rfl rfl 1 (by decide) (hbw _ m_489) (fun _ h9 => h9) rfl dX5_noTray_6 ?_
    refine lv_icmp_lt (tgt := 16) hx hb dX5_noTray_9 (by decide) (fun h2 => ?_) (fun h2 => ?_)
    · refine lv_iconst (v := nI 0) hx hb dX5_noTray_16 (by decide) ?_
      obtain ⟨k, hk, e⟩ : ∃ k, k < n ∧ x = nI k := by
        rcases pk_ix x (n := n) (by omega) with h | h | ⟨j, h3, h4⟩
        · exact absurd h h1
        · exact absurd h2 (Int32.not_lt.mpr h)
        · exact ⟨j, h3, h4⟩
      rw [hQ]
      exact ct_zret hx hb hr hlocks hP hD hS dX5_noTray_17 (by first | exact Or.inl rfl | exact Or.inr rfl) ⟨rfl, Or.inr ⟨rfl, k, hk, e⟩⟩
    · refine lv_iconst (v := nI 1) hx hb dX5_noTray_12 (by decide) ?_
      refine lv_goto (tgt := 17) hx hb dX5_noTray_13 (by decide) ?_
      rw [hQ]
      exact ct_zret hx hb hr hlocks hP hD hS dX5_noTray_17 (by first | exact Or.inl rfl | exact Or.inr rfl) ⟨rfl, Or.inl ⟨rfl, fun ⟨k, hk, e⟩ => h2 (by rw [e]; exact nI_lt hk (by omega))⟩⟩
set_option maxHeartbeats 4000000 in
set_option maxRecDepth 100000 in
/-- behind -/
theorem kX5_behind (l : Launch) (D : va_G) (cI cG cL cB : ClassId) (g : Nat → Nat) (th n : Nat) (en le ro : Nat → Nat) (sn : Nat) (ar rt oh : Nat → Nat) (cn : Nat) (no ot cu : Nat → Nat) (lim : Nat) (fa wy lo ch bd : Nat → Nat) (t u : Nat) (ht : t < 15) (hu : u < 10) (hen : ∀ j, en j < 10) : ct_i l yX5_behind (.code yX5_behind cX5_behind 3 (some .int) :: bw) ({ frames := 0, cells := 0, slots := 0, locals := 0 }) (EN D (tyL cI cG cL cB)) D vwCl (pM g cI cB th n en le ro sn ar rt oh cn no ot cu lim fa wy lo ch bd) [.ref (g 0), .int (nI t), .int (nI u)] (fun v W => W = (pM g cI cB th n en le ro sn ar rt oh cn no ot cu lim fa wy lo ch bd) ∧ v = oI (cw_nx (fun t => en (2 * t)) (fun t => en (2 * t + 1)) t u)) 0 0 := by
  refine ct_ofi (by decide) (Nat.le_of_ble_eq_true rfl) ?_
  intro p e s m below meth cd A H locs av Q ls hx hb hr hml hown hlocks hnm hbw hEN hQ hP hD hS hA hl
  have hown : s.vm.findClass RX5 = some m.cls := hown
  have hK := hEN.1
  have hl : lv_has ls 3 [(0, .ref (g 0)), (1, .int (nI t)), (2, .int (nI u))] := hl
  refine lv_aload_n hx hb dX5_behind_0 rfl (lv_at hl 0 rfl) ?_
  refine va_get (ci := 5) (v := .ref (g 1)) (C := RX5) (T := TX5) (N := 19) hx hb hbw in_X5 hown hK hP 0 rfl rfl 2 (by decide) (hbw _ m_490) (fun _ h9 => h9) rfl dX5_behind_1 ?_
  refine lv_iconst (v := nI 2) hx hb dX5_behind_4 (by decide) ?_
  refine lv_iload_n hx hb dX5_behind_5 rfl (lv_at hl 1 rfl) ?_
  refine nr_imul hx hb dX5_behind_6 ?_
  refine nr_iald hx hb hK hP 1 0 rfl rfl (k := 2 * t) (by omega) (by omega) dX5_behind_7 ?_
  have b_1 := hen (2 * t)
  refine lv_iload_n hx hb dX5_behind_8 rfl (lv_at hl 2 rfl) ?_
  refine nr_icmp_ne (x := en (2 * t)) (y := u) (tgt := 25) hx hb (by omega) (by omega) dX5_behind_9 (by decide) (fun h1 => ?_) (fun h1 => ?_)
  · refine lv_aload_n hx hb dX5_behind_25 rfl (lv_at hl 0 rfl) ?_
    refine va_get (ci := 5) (v := .ref (g 1)) (C := RX5) (T := TX5) (N := 19) hx hb hbw in_X5 hown hK hP 0 rfl rfl 2 (by decide) (hbw _ m_490) (fun _ h9 => h9) rfl dX5_behind_26 ?_
    refine lv_iconst (v := nI 2) hx hb dX5_behind_29 (by decide) ?_
    refine lv_iload_n hx hb dX5_behind_30 rfl (lv_at hl 1 rfl) ?_
    refine nr_imul hx hb dX5_behind_31 ?_
    refine lv_iconst (v := nI 1) hx hb dX5_behind_32 (by decide) ?_
    refine nr_iadd hx hb dX5_behind_33 ?_
    refine nr_iald hx hb hK hP 1 0 rfl rfl (k := (2 * t) + 1) (by omega) (by omega) dX5_behind_34 ?_
    have b_2 := hen ((2 * t) + 1)
    refine lv_iload_n hx hb dX5_behind_35 rfl (lv_at hl 2 rfl) ?_
    refine nr_icmp_ne (x := en ((2 * t) + 1)) (y := u) (tgt := 50) hx hb (by omega) (by omega) dX5_behind_36 (by decide) (fun h2 => ?_) (fun h2 => ?_)
    · refine lv_iconst (v := (-1)) hx hb dX5_behind_50 (by decide) ?_
      have e1 : cw_nx (fun t => en (2 * t)) (fun t => en (2 * t + 1)) t u = none := by unfold cw_nx; rw [if_neg h1, if_neg h2]
      rw [hQ]
      exact ct_iret hx hb hr hlocks hP hD hS dX5_behind_51 ⟨rfl, by rw [e1]; rfl⟩
    · refine lv_aload_n hx hb dX5_behind_39 rfl (lv_at hl 0 rfl) ?_
      refine va_get (ci := 5) (v := .ref (g 1)) (C := RX5) (T := TX5) (N := 19) hx hb hbw in_X5 hown hK hP 0 rfl rfl 2 (by decide) (hbw _ m_490) (fun _ h9 => h9) rfl dX5_behind_40 ?_
      refine lv_iconst (v := nI 2) hx hb dX5_behind_43 (by decide) ?_
      refine lv_iload_n hx hb dX5_behind_44 rfl (lv_at hl 1 rfl) ?_
      refine nr_imul hx hb dX5_behind_45 ?_
      refine nr_iald hx hb hK hP 1 0 rfl rfl (k := 2 * t) (by omega) (by omega) dX5_behind_46 ?_
      have b_3 := hen (2 * t)
      refine lv_goto (tgt := 51) hx hb dX5_behind_47 (by decide) ?_
      have e1 : cw_nx (fun t => en (2 * t)) (fun t => en (2 * t + 1)) t u = some (en (2 * t)) := by unfold cw_nx; rw [if_neg h1, if_pos h2]
      rw [hQ]
      exact ct_iret hx hb hr hlocks hP hD hS dX5_behind_51 ⟨rfl, by rw [e1]; rfl⟩
  · refine lv_aload_n hx hb dX5_behind_12 rfl (lv_at hl 0 rfl) ?_
    refine va_get (ci := 5) (v := .ref (g 1)) (C := RX5) (T := TX5) (N := 19) hx hb hbw in_X5 hown hK hP 0 rfl rfl 2 (by decide) (hbw _ m_490) (fun _ h9 => h9) rfl dX5_behind_13 ?_
    refine lv_iconst (v := nI 2) hx hb dX5_behind_16 (by decide) ?_
    refine lv_iload_n hx hb dX5_behind_17 rfl (lv_at hl 1 rfl) ?_
    refine nr_imul hx hb dX5_behind_18 ?_
    refine lv_iconst (v := nI 1) hx hb dX5_behind_19 (by decide) ?_
    refine nr_iadd hx hb dX5_behind_20 ?_
    refine nr_iald hx hb hK hP 1 0 rfl rfl (k := (2 * t) + 1) (by omega) (by omega) dX5_behind_21 ?_
    have b_4 := hen ((2 * t) + 1)
    refine lv_goto (tgt := 51) hx hb dX5_behind_22 (by decide) ?_
    have e1 : cw_nx (fun t => en (2 * t)) (fun t => en (2 * t + 1)) t u = some (en (2 * t + 1)) := by unfold cw_nx; rw [if_pos h1]
    rw [hQ]
    exact ct_iret hx hb hr hlocks hP hD hS dX5_behind_51 ⟨rfl, by rw [e1]; rfl⟩
theorem cw_rd_any {T : Nat} {a b ln : Nat → Nat} {v F k : Nat} {g : Bool} {d : Nat → Nat} (h : cw_rd T a b ln v F k g d) : cw_rd T a b ln v F k true d := ⟨h.1, h.2.1, h.2.2.1, fun q => by cases q⟩
theorem nr_up_same (d : Nat → Nat) (k : Nat) : nr_up d k (d k) = d := by
  funext j
  unfold nr_up
  split
  · rename_i h; rw [h]
  · rfl
theorem cw_sh_pos {d : Nat → Nat} {u w x : Nat} (h : d w + x < d u) : cw_sh d u w x = nr_up d u (d w + x) := if_pos h
theorem cw_sh_neg {d : Nat → Nat} {u w x : Nat} (h : d u ≤ d w + x) : cw_sh d u w x = d := if_neg (Nat.not_lt.mpr h)
theorem pM_far {D : va_G} {H : Heap} {g : Nat → Nat} {cI cB : ClassId} {th n : Nat} {en le ro : Nat → Nat} {sn : Nat} {ar rt oh : Nat → Nat} {cn : Nat} {no ot cu : Nat → Nat} {lim : Nat} {fa wy lo ch bd fa' : Nat → Nat} (h : ∀ j, j < 10 → fa j = fa' j) (hP : va_P D vwCl (pM g cI cB th n en le ro sn ar rt oh cn no ot cu lim fa wy lo ch bd) H) : va_P D vwCl (pM g cI cB th n en le ro sn ar rt oh cn no ot cu lim fa' wy lo ch bd) H := by
  intro k x hx
  by_cases hk : k = 10
  · subst hk
    cases hx
    have h1 := pF_congr (D := D) (cl := vwCl) (H := H) (qa := g 10) (cI := cI) (nn := 10) h (hP.sub (ws' := pF (g 10) cI 10 fa) [10] rfl)
    exact h1 0 _ rfl
  · have key : (pM g cI cB th n en le ro sn ar rt oh cn no ot cu lim fa wy lo ch bd)[k]? = some x := by
      have h15 : k < 15 := (List.getElem?_eq_some_iff.mp hx).1
      rw [← hx]
      rcases (show k = 0 ∨ k = 1 ∨ k = 2 ∨ k = 3 ∨ k = 4 ∨ k = 5 ∨ k = 6 ∨ k = 7 ∨ k = 8 ∨ k = 9 ∨ k = 11 ∨ k = 12 ∨ k = 13 ∨ k = 14 by omega) with rfl | rfl | rfl | rfl | rfl | rfl | rfl | rfl | rfl | rfl | rfl | rfl | rfl | rfl <;> rfl
    exact hP k x key
theorem pM_farD {A : Nat → Prop} {g : Nat → Nat} {cI cB : ClassId} {th n : Nat} {en le ro : Nat → Nat} {sn : Nat} {ar rt oh : Nat → Nat} {cn : Nat} {no ot cu : Nat → Nat} {lim : Nat} {fa wy lo ch bd fa' : Nat → Nat} (hD : va_D A (pM g cI cB th n en le ro sn ar rt oh cn no ot cu lim fa wy lo ch bd)) : va_D A (pM g cI cB th n en le ro sn ar rt oh cn no ot cu lim fa' wy lo ch bd) := hD.set (p := 10) (e := .inl (cI, 10, .inl (fun j => nI (fa' j)))) rfl
set_option maxHeartbeats 4000000 in
set_option maxRecDepth 100000 in
/-- measure -/
theorem kX5_measure (l : Launch) (D : va_G) (cI cG cL cB : ClassId) (g : Nat → Nat) (th n : Nat) (en le ro : Nat → Nat) (sn : Nat) (ar rt oh : Nat → Nat) (cn : Nat) (no ot cu : Nat → Nat) (lim : Nat) (fa wy lo ch bd : Nat → Nat) (v : Nat) (hv : v < 10) (hn : n ≤ 15) (hok : cw_ok n (fun t => en (2 * t)) (fun t => en (2 * t + 1)) le) (hen : ∀ j, en j < 10) (hl0 : ∀ j, le j ≤ 100) : ct_v l yX5_measure (.code yX5_measure cX5_measure 6 none :: bw) ({ frames := 0, cells := 0, slots := 0, locals := 0 }) (EN D (tyL cI cG cL cB)) D vwCl (pM g cI cB th n en le ro sn ar rt oh cn no ot cu lim fa wy lo ch bd) [.ref (g 0), .int (nI v)] (fun W => ∃ d, W = (pM g cI cB th n en le ro sn ar rt oh cn no ot cu lim d wy lo ch bd) ∧ cw_ds n (fun t => en (2 * t)) (fun t => en (2 * t + 1)) le v 1000000 d) 0 0 := by
  refine ct_ofv (by decide) (Nat.le_of_ble_eq_true rfl) ?_
  intro p e s m below meth cd A H locs av Q ls hx hb hr hml hown hlocks hnm hbw hEN hQ hP hD hS hA hl
  have hown : s.vm.findClass RX5 = some m.cls := hown
  have hK := hEN.1
  have hl : lv_has ls 6 [(0, .ref (g 0)), (1, .int (nI v))] := hl
  refine lv_iconst (v := nI 0) hx hb dX5_measure_0 (by decide) ?_
  refine lv_istore_n (lv' := [(2, .int (nI 0)), (0, .ref (g 0)), (1, .int (nI v))]) hx hb dX5_measure_1 rfl hl (by decide) rfl (fun ls hl => ?_)
  have lp : ∀ (k : Nat) (i : Nat) (fa : Nat → Nat), (hk : 10 < i + k) → (hi : i ≤ 10) → (hf : ∀ j, j < i → fa j = if j = v then 0 else 1000000) → ∀ (H : Heap) (locs : List Loc) (ls : Array Slot), va_P D vwCl (pM g cI cB th n en le ro sn ar rt oh cn no ot cu lim fa wy lo ch bd) H → va_D A (pM g cI cB th n en le ro sn ar rt oh cn no ot cu lim fa wy lo ch bd) → va_S A s.heap H locs → lv_has ls 6 [(0, .ref (g 0)), (1, .int (nI v)), (2, .int (nI i))] → W p l e ({ frames := 0, cells := 0, slots := 0, locals := 0 }) s m av below meth cd H locs 0 0 Q (F0 m 2 ls []) := by
    intro k
    induction k with
    | zero => intro i fa hk hi hf; exact absurd hk (by omega)
    | succ k ih =>
      intro i fa hk hi hf H locs ls hP hD hS hl
      refine lv_iload_n hx hb dX5_measure_2 rfl (lv_at hl 2 rfl) ?_
      refine lv_bipush (v := nI 10) hx hb dX5_measure_3 (by decide) ?_
      refine nr_icmp_ge (x := i) (y := 10) (tgt := 31) hx hb (by omega) (by omega) dX5_measure_5 (by decide) (fun h1 => ?_) (fun h1 => ?_)
      · obtain rfl : i = 10 := by omega
        have hP : va_P D vwCl (pM g cI cB th n en le ro sn ar rt oh cn no ot cu lim (nr_up (fun _ => 1000000) v 0) wy lo ch bd) H := pM_far (fun j hj => by rw [hf j hj]; rfl) hP
        have hD : va_D A (pM g cI cB th n en le ro sn ar rt oh cn no ot cu lim (nr_up (fun _ => 1000000) v 0) wy lo ch bd) := pM_farD hD
        refine lv_iconst (v := nI 0) hx hb dX5_measure_31 (by decide) ?_
        refine lv_istore_n (lv' := [(2, .int (nI 0)), (0, .ref (g 0)), (1, .int (nI v))]) hx hb dX5_measure_32 rfl hl (by decide) rfl (fun ls hl => ?_)
        have lq : ∀ (k : Nat) (rd : Nat) (d : Nat → Nat), (hk2 : 10 < rd + k) → (hi2 : rd ≤ 10) → (hd : cw_rd n (fun t => en (2 * t)) (fun t => en (2 * t + 1)) le v 1000000 rd true d) → ∀ (H : Heap) (locs : List Loc) (ls : Array Slot), va_P D vwCl (pM g cI cB th n en le ro sn ar rt oh cn no ot cu lim d wy lo ch bd) H → va_D A (pM g cI cB th n en le ro sn ar rt oh cn no ot cu lim d wy lo ch bd) → va_S A s.heap H locs → lv_has ls 6 [(0, .ref (g 0)), (1, .int (nI v)), (2, .int (nI rd))] → W p l e ({ frames := 0, cells := 0, slots := 0, locals := 0 }) s m av below meth cd H locs 0 0 Q (F0 m 33 ls []) := by
          intro k
          induction k with
          | zero => intro rd d hk2 hi2 hd; exact absurd hk2 (by omega)
          | succ k ih2 =>
            intro rd d hk2 hi2 hd H locs ls hP hD hS hl
            refine lv_iload_n hx hb dX5_measure_33 rfl (lv_at hl 2 rfl) ?_
            refine lv_bipush (v := nI 10) hx hb dX5_measure_34 (by decide) ?_
            refine nr_icmp_ge (x := rd) (y := 10) (tgt := 193) hx hb (by omega) (by omega) dX5_measure_36 (by decide) (fun h2 => ?_) (fun h2 => ?_)
            · rw [hQ]
              exact ct_vret hx hb hr hlocks hP hD hS dX5_measure_193 ⟨d, rfl, cw_rd_10 hok hv (show 9 ≤ rd by omega) hd⟩
            · refine lv_iconst (v := nI 0) hx hb dX5_measure_39 (by decide) ?_
              refine lv_istore_n (lv' := [(3, .int (nI 0)), (0, .ref (g 0)), (1, .int (nI v)), (2, .int (nI rd))]) hx hb dX5_measure_40 rfl hl (by decide) rfl (fun ls hl => ?_)
              have l3 : ∀ (k : Nat) (t : Nat) (gg : Bool) (d : Nat → Nat), (hk3 : n < t + k) → (ht : t ≤ n) → (hd : cw_in n (fun t => en (2 * t)) (fun t => en (2 * t + 1)) le v 1000000 rd t gg d) → ∀ (H : Heap) (locs : List Loc) (ls : Array Slot), va_P D vwCl (pM g cI cB th n en le ro sn ar rt oh cn no ot cu lim d wy lo ch bd) H → va_D A (pM g cI cB th n en le ro sn ar rt oh cn no ot cu lim d wy lo ch bd) → va_S A s.heap H locs → lv_has ls 6 [(0, .ref (g 0)), (1, .int (nI v)), (2, .int (nI rd)), (3, .int (nI t))] → W p l e ({ frames := 0, cells := 0, slots := 0, locals := 0 }) s m av below meth cd H locs 0 0 Q (F0 m 41 ls []) := by
                intro k
                induction k with
                | zero => intro t gg d hk3 ht hd; exact absurd hk3 (by omega)
                | succ k ih3 =>
                  intro t gg d hk3 ht hd H locs ls hP hD hS hl
                  have hd0 : ∀ j, d j ≤ 1000000 := hd.1.1
                  refine lv_iload_n hx hb dX5_measure_41 rfl (lv_at hl 3 rfl) ?_
                  refine lv_aload_n hx hb dX5_measure_42 rfl (lv_at hl 0 rfl) ?_
                  refine va_get (ci := 5) (v := .int (nI n)) (C := RX5) (T := TX5) (N := 19) hx hb hbw in_X5 hown hK hP 0 rfl rfl 1 (by decide) (hbw _ m_489) (fun _ h9 => h9) rfl dX5_measure_43 ?_
                  refine nr_icmp_ge (x := t) (y := n) (tgt := 187) hx hb (by omega) (by omega) dX5_measure_46 (by decide) (fun h3 => ?_) (fun h3 => ?_)
                  · have e9 : t = n := by omega
                    rw [e9] at hd
                    refine lv_iinc (v := nI (rd + 1)) (lv' := [(2, .int (nI (rd + 1))), (0, .ref (g 0)), (1, .int (nI v)), (3, .int (nI t))]) hx hb dX5_measure_187 hl (k := 2) rfl (nI_1 _) (by decide) rfl (fun ls hl => ?_)
                    refine lv_goto (tgt := 33) hx hb dX5_measure_190 (by decide) ?_
                    exact ih2 (rd + 1) d (by omega) (by omega) (cw_rd_any (cw_in_end hd)) _ _ _ hP hD hS (lv_sub hl [1, 2, 0] rfl)
                  · have hs := cw_in_s hok h3 hd
                    refine lv_aload_n hx hb dX5_measure_49 rfl (lv_at hl 0 rfl) ?_
                    refine va_get (ci := 5) (v := .ref (g 1)) (C := RX5) (T := TX5) (N := 19) hx hb hbw in_X5 hown hK hP 0 rfl rfl 2 (by decide) (hbw _ m_490) (fun _ h9 => h9) rfl dX5_measure_50 ?_
                    refine lv_iconst (v := nI 2) hx hb dX5_measure_53 (by decide) ?_
                    refine lv_iload_n hx hb dX5_measure_54 rfl (lv_at hl 3 rfl) ?_
                    refine nr_imul hx hb dX5_measure_55 ?_
                    refine nr_iald hx hb hK hP 1 0 rfl rfl (k := 2 * t) (by omega) (by omega) dX5_measure_56 ?_
                    have b_1 := hen (2 * t)
                    refine lv_istore (lv' := [(4, .int (nI (en (2 * t)))), (0, .ref (g 0)), (1, .int (nI v)), (2, .int (nI rd)), (3, .int (nI t))]) hx hb dX5_measure_57 hl (by decide) rfl (fun ls hl => ?_)
                    refine lv_aload_n hx hb dX5_measure_59 rfl (lv_at hl 1 rfl) ?_
                    refine va_get (ci := 5) (v := .ref (g 1)) (C := RX5) (T := TX5) (N := 19) hx hb hbw in_X5 hown hK hP 0 rfl rfl 2 (by decide) (hbw _ m_490) (fun _ h9 => h9) rfl dX5_measure_60 ?_
                    refine lv_iconst (v := nI 2) hx hb dX5_measure_63 (by decide) ?_
                    refine lv_iload_n hx hb dX5_measure_64 rfl (lv_at hl 4 rfl) ?_
                    refine nr_imul hx hb dX5_measure_65 ?_
                    refine lv_iconst (v := nI 1) hx hb dX5_measure_66 (by decide) ?_
                    refine nr_iadd hx hb dX5_measure_67 ?_
                    refine nr_iald hx hb hK hP 1 0 rfl rfl (k := (2 * t) + 1) (by omega) (by omega) dX5_measure_68 ?_
                    have b_2 := hen ((2 * t) + 1)
                    refine lv_istore (lv' := [(5, .int (nI (en ((2 * t) + 1)))), (4, .int (nI (en (2 * t)))), (0, .ref (g 0)), (1, .int (nI v)), (2, .int (nI rd)), (3, .int (nI t))]) hx hb dX5_measure_69 hl (by decide) rfl (fun ls hl => ?_)
                    refine lv_aload_n hx hb dX5_measure_71 rfl (lv_at hl 2 rfl) ?_
                    refine va_get (ci := 5) (v := .ref (g 10)) (C := RX5) (T := TX5) (N := 19) hx hb hbw in_X5 hown hK hP 0 rfl rfl 14 (by decide) (hbw _ m_502) (fun _ h9 => h9) rfl dX5_measure_72 ?_
                    refine lv_iload hx hb dX5_measure_75 (lv_at hl 1 rfl) ?_
                    refine lv_aload_n hx hb dX5_measure_77 rfl (lv_at hl 2 rfl) ?_
                    refine va_get (ci := 5) (v := .ref (g 10)) (C := RX5) (T := TX5) (N := 19) hx hb hbw in_X5 hown hK hP 0 rfl rfl 14 (by decide) (hbw _ m_502) (fun _ h9 => h9) rfl dX5_measure_78 ?_
                    refine lv_iload hx hb dX5_measure_81 (lv_at hl 0 rfl) ?_
                    refine nr_iald hx hb hK hP 10 0 rfl rfl (k := en ((2 * t) + 1)) (by omega) (by omega) dX5_measure_83 ?_
                    have b_3 := hd0 (en ((2 * t) + 1))
                    refine lv_aload_n hx hb dX5_measure_84 rfl (lv_at hl 2 rfl) ?_
                    refine va_get (ci := 5) (v := .ref (g 2)) (C := RX5) (T := TX5) (N := 19) hx hb hbw in_X5 hown hK hP 0 rfl rfl 3 (by decide) (hbw _ m_491) (fun _ h9 => h9) rfl dX5_measure_85 ?_
                    refine lv_iload_n hx hb dX5_measure_88 rfl (lv_at hl 5 rfl) ?_
                    refine nr_iald hx hb hK hP 2 0 rfl rfl (k := t) (by omega) (by omega) dX5_measure_89 ?_
                    have b_4 := hl0 t
                    refine nr_iadd hx hb dX5_measure_90 ?_
                    refine lv_aload_n hx hb dX5_measure_91 rfl (lv_at hl 2 rfl) ?_
                    refine va_get (ci := 5) (v := .ref (g 10)) (C := RX5) (T := TX5) (N := 19) hx hb hbw in_X5 hown hK hP 0 rfl rfl 14 (by decide) (hbw _ m_502) (fun _ h9 => h9) rfl dX5_measure_92 ?_
                    refine lv_iload hx hb dX5_measure_95 (lv_at hl 1 rfl) ?_
                    refine nr_iald hx hb hK hP 10 0 rfl rfl (k := en (2 * t)) (by omega) (by omega) dX5_measure_97 ?_
                    have b_5 := hd0 (en (2 * t))
                    refine nr_icmp_ge (x := (d (en ((2 * t) + 1))) + (le t)) (y := d (en (2 * t))) (tgt := 118) hx hb (by omega) (by omega) dX5_measure_98 (by decide) (fun h4 => ?_) (fun h4 => ?_)
                    · refine lv_aload_n hx hb dX5_measure_118 rfl (lv_at hl 2 rfl) ?_
                      refine va_get (ci := 5) (v := .ref (g 10)) (C := RX5) (T := TX5) (N := 19) hx hb hbw in_X5 hown hK hP 0 rfl rfl 14 (by decide) (hbw _ m_502) (fun _ h9 => h9) rfl dX5_measure_119 ?_
                      refine lv_iload hx hb dX5_measure_122 (lv_at hl 1 rfl) ?_
                      refine nr_iald hx hb hK hP 10 0 rfl rfl (k := en (2 * t)) (by omega) (by omega) dX5_measure_124 ?_
                      have b_6 := hd0 (en (2 * t))
                      refine nr_iast hx hb hK hP hD hS 10 0 rfl rfl (k := en (2 * t)) (v := d (en (2 * t))) (by omega) (by omega) dX5_measure_125 (fun H locs hP hD hS => ?_)
                      have hP : va_P D vwCl (pM g cI cB th n en le ro sn ar rt oh cn no ot cu lim (nr_up d (en (2 * t)) (d (en (2 * t)))) wy lo ch bd) H := hP
                      have hD : va_D A (pM g cI cB th n en le ro sn ar rt oh cn no ot cu lim (nr_up d (en (2 * t)) (d (en (2 * t)))) wy lo ch bd) := hD
                      have e7 : cw_sh d (en (2 * t)) (en (2 * t + 1)) (le t) = d := cw_sh_neg (by omega)
                      rw [nr_up_same, ← e7] at hP hD
                      have hd1 : ∀ j, cw_sh d (en (2 * t)) (en (2 * t + 1)) (le t) j ≤ 1000000 := fun j => Nat.le_trans (cw_sh_le d _ _ _ j) (hd0 j)
                      have hP : va_P D vwCl (pM g cI cB th n en le ro sn ar rt oh cn no ot cu lim (cw_sh d (en (2 * t)) (en (2 * t + 1)) (le t)) wy lo ch bd) H := hP
                      have hD : va_D A (pM g cI cB th n en le ro sn ar rt oh cn no ot cu lim (cw_sh d (en (2 * t)) (en (2 * t + 1)) (le t)) wy lo ch bd) := hD
                      refine lv_aload_n hx hb dX5_measure_126 rfl (lv_at hl 2 rfl) ?_
                      refine va_get (ci := 5) (v := .ref (g 10)) (C := RX5) (T := TX5) (N := 19) hx hb hbw in_X5 hown hK hP 0 rfl rfl 14 (by decide) (hbw _ m_502) (fun _ h9 => h9) rfl dX5_measure_127 ?_
                      refine lv_iload hx hb dX5_measure_130 (lv_at hl 0 rfl) ?_
                      refine lv_aload_n hx hb dX5_measure_132 rfl (lv_at hl 2 rfl) ?_
                      refine va_get (ci := 5) (v := .ref (g 10)) (C := RX5) (T := TX5) (N := 19) hx hb hbw in_X5 hown hK hP 0 rfl rfl 14 (by decide) (hbw _ m_502) (fun _ h9 => h9) rfl dX5_measure_133 ?_
                      refine lv_iload hx hb dX5_measure_136 (lv_at hl 1 rfl) ?_
                      refine nr_iald hx hb hK hP 10 0 rfl rfl (k := en (2 * t)) (by omega) (by omega) dX5_measure_138 ?_
                      have b_7 := hd1 (en (2 * t))
                      refine lv_aload_n hx hb dX5_measure_139 rfl (lv_at hl 2 rfl) ?_
                      refine va_get (ci := 5) (v := .ref (g 2)) (C := RX5) (T := TX5) (N := 19) hx hb hbw in_X5 hown hK hP 0 rfl rfl 3 (by decide) (hbw _ m_491) (fun _ h9 => h9) rfl dX5_measure_140 ?_
                      refine lv_iload_n hx hb dX5_measure_143 rfl (lv_at hl 5 rfl) ?_
                      refine nr_iald hx hb hK hP 2 0 rfl rfl (k := t) (by omega) (by omega) dX5_measure_144 ?_
                      have b_8 := hl0 t
                      refine nr_iadd hx hb dX5_measure_145 ?_
                      refine lv_aload_n hx hb dX5_measure_146 rfl (lv_at hl 2 rfl) ?_
                      refine va_get (ci := 5) (v := .ref (g 10)) (C := RX5) (T := TX5) (N := 19) hx hb hbw in_X5 hown hK hP 0 rfl rfl 14 (by decide) (hbw _ m_502) (fun _ h9 => h9) rfl dX5_measure_147 ?_
                      refine lv_iload hx hb dX5_measure_150 (lv_at hl 0 rfl) ?_
                      refine nr_iald hx hb hK hP 10 0 rfl rfl (k := en ((2 * t) + 1)) (by omega) (by omega) dX5_measure_152 ?_
                      have b_9 := hd1 (en ((2 * t) + 1))
                      refine nr_icmp_ge (x := ((cw_sh d (en (2 * t)) (en (2 * t + 1)) (le t)) (en (2 * t))) + (le t)) (y := (cw_sh d (en (2 * t)) (en (2 * t + 1)) (le t)) (en ((2 * t) + 1))) (tgt := 173) hx hb (by omega) (by omega) dX5_measure_153 (by decide) (fun h5 => ?_) (fun h5 => ?_)
                      · refine lv_aload_n hx hb dX5_measure_173 rfl (lv_at hl 2 rfl) ?_
                        refine va_get (ci := 5) (v := .ref (g 10)) (C := RX5) (T := TX5) (N := 19) hx hb hbw in_X5 hown hK hP 0 rfl rfl 14 (by decide) (hbw _ m_502) (fun _ h9 => h9) rfl dX5_measure_174 ?_
                        refine lv_iload hx hb dX5_measure_177 (lv_at hl 0 rfl) ?_
                        refine nr_iald hx hb hK hP 10 0 rfl rfl (k := en ((2 * t) + 1)) (by omega) (by omega) dX5_measure_179 ?_
                        have b_10 := hd1 (en ((2 * t) + 1))
                        refine nr_iast hx hb hK hP hD hS 10 0 rfl rfl (k := en ((2 * t) + 1)) (v := (cw_sh d (en (2 * t)) (en (2 * t + 1)) (le t)) (en ((2 * t) + 1))) (by omega) (by omega) dX5_measure_180 (fun H locs hP hD hS => ?_)
                        have hP : va_P D vwCl (pM g cI cB th n en le ro sn ar rt oh cn no ot cu lim (nr_up (cw_sh d (en (2 * t)) (en (2 * t + 1)) (le t)) (en ((2 * t) + 1)) ((cw_sh d (en (2 * t)) (en (2 * t + 1)) (le t)) (en ((2 * t) + 1)))) wy lo ch bd) H := hP
                        have hD : va_D A (pM g cI cB th n en le ro sn ar rt oh cn no ot cu lim (nr_up (cw_sh d (en (2 * t)) (en (2 * t + 1)) (le t)) (en ((2 * t) + 1)) ((cw_sh d (en (2 * t)) (en (2 * t + 1)) (le t)) (en ((2 * t) + 1)))) wy lo ch bd) := hD
                        have e8 : cw_sh (cw_sh d (en (2 * t)) (en (2 * t + 1)) (le t)) (en (2 * t + 1)) (en (2 * t)) (le t) = cw_sh d (en (2 * t)) (en (2 * t + 1)) (le t) := cw_sh_neg (by omega)
                        rw [nr_up_same, ← e8] at hP hD
                        have hP : va_P D vwCl (pM g cI cB th n en le ro sn ar rt oh cn no ot cu lim (cw_sh (cw_sh d (en (2 * t)) (en (2 * t + 1)) (le t)) (en (2 * t + 1)) (en (2 * t)) (le t)) wy lo ch bd) H := hP
                        have hD : va_D A (pM g cI cB th n en le ro sn ar rt oh cn no ot cu lim (cw_sh (cw_sh d (en (2 * t)) (en (2 * t + 1)) (le t)) (en (2 * t + 1)) (en (2 * t)) (le t)) wy lo ch bd) := hD
                        refine lv_iinc (v := nI (t + 1)) (lv' := [(3, .int (nI (t + 1))), (5, .int (nI (en ((2 * t) + 1)))), (4, .int (nI (en (2 * t)))), (0, .ref (g 0)), (1, .int (nI v)), (2, .int (nI rd))]) hx hb dX5_measure_181 hl (k := 5) rfl (nI_1 _) (by decide) rfl (fun ls hl => ?_)
                        refine lv_goto (tgt := 41) hx hb dX5_measure_184 (by decide) ?_
                        exact ih3 (t + 1) _ _ (by omega) (by omega) hs _ _ _ hP hD hS (lv_sub hl [3, 4, 5, 0] rfl)
                      · refine lv_aload_n hx hb dX5_measure_156 rfl (lv_at hl 2 rfl) ?_
                        refine va_get (ci := 5) (v := .ref (g 10)) (C := RX5) (T := TX5) (N := 19) hx hb hbw in_X5 hown hK hP 0 rfl rfl 14 (by decide) (hbw _ m_502) (fun _ h9 => h9) rfl dX5_measure_157 ?_
                        refine lv_iload hx hb dX5_measure_160 (lv_at hl 1 rfl) ?_
                        refine nr_iald hx hb hK hP 10 0 rfl rfl (k := en (2 * t)) (by omega) (by omega) dX5_measure_162 ?_
                        have b_11 := hd1 (en (2 * t))
                        refine lv_aload_n hx hb dX5_measure_163 rfl (lv_at hl 2 rfl) ?_
                        refine va_get (ci := 5) (v := .ref (g 2)) (C := RX5) (T := TX5) (N := 19) hx hb hbw in_X5 hown hK hP 0 rfl rfl 3 (by decide) (hbw _ m_491) (fun _ h9 => h9) rfl dX5_measure_164 ?_
                        refine lv_iload_n hx hb dX5_measure_167 rfl (lv_at hl 5 rfl) ?_
                        refine nr_iald hx hb hK hP 2 0 rfl rfl (k := t) (by omega) (by omega) dX5_measure_168 ?_
                        have b_12 := hl0 t
                        refine nr_iadd hx hb dX5_measure_169 ?_
                        refine lv_goto (tgt := 180) hx hb dX5_measure_170 (by decide) ?_
                        refine nr_iast hx hb hK hP hD hS 10 0 rfl rfl (k := en ((2 * t) + 1)) (v := ((cw_sh d (en (2 * t)) (en (2 * t + 1)) (le t)) (en (2 * t))) + (le t)) (by omega) (by omega) dX5_measure_180 (fun H locs hP hD hS => ?_)
                        have hP : va_P D vwCl (pM g cI cB th n en le ro sn ar rt oh cn no ot cu lim (nr_up (cw_sh d (en (2 * t)) (en (2 * t + 1)) (le t)) (en ((2 * t) + 1)) (((cw_sh d (en (2 * t)) (en (2 * t + 1)) (le t)) (en (2 * t))) + (le t))) wy lo ch bd) H := hP
                        have hD : va_D A (pM g cI cB th n en le ro sn ar rt oh cn no ot cu lim (nr_up (cw_sh d (en (2 * t)) (en (2 * t + 1)) (le t)) (en ((2 * t) + 1)) (((cw_sh d (en (2 * t)) (en (2 * t + 1)) (le t)) (en (2 * t))) + (le t))) wy lo ch bd) := hD
                        rw [← cw_sh_pos (by omega)] at hP hD
                        have hP : va_P D vwCl (pM g cI cB th n en le ro sn ar rt oh cn no ot cu lim (cw_sh (cw_sh d (en (2 * t)) (en (2 * t + 1)) (le t)) (en (2 * t + 1)) (en (2 * t)) (le t)) wy lo ch bd) H := hP
                        have hD : va_D A (pM g cI cB th n en le ro sn ar rt oh cn no ot cu lim (cw_sh (cw_sh d (en (2 * t)) (en (2 * t + 1)) (le t)) (en (2 * t + 1)) (en (2 * t)) (le t)) wy lo ch bd) := hD
                        refine lv_iinc (v := nI (t + 1)) (lv' := [(3, .int (nI (t + 1))), (5, .int (nI (en ((2 * t) + 1)))), (4, .int (nI (en (2 * t)))), (0, .ref (g 0)), (1, .int (nI v)), (2, .int (nI rd))]) hx hb dX5_measure_181 hl (k := 5) rfl (nI_1 _) (by decide) rfl (fun ls hl => ?_)
                        refine lv_goto (tgt := 41) hx hb dX5_measure_184 (by decide) ?_
                        exact ih3 (t + 1) _ _ (by omega) (by omega) hs _ _ _ hP hD hS (lv_sub hl [3, 4, 5, 0] rfl)
                    · refine lv_aload_n hx hb dX5_measure_101 rfl (lv_at hl 2 rfl) ?_
                      refine va_get (ci := 5) (v := .ref (g 10)) (C := RX5) (T := TX5) (N := 19) hx hb hbw in_X5 hown hK hP 0 rfl rfl 14 (by decide) (hbw _ m_502) (fun _ h9 => h9) rfl dX5_measure_102 ?_
                      refine lv_iload hx hb dX5_measure_105 (lv_at hl 0 rfl) ?_
                      refine nr_iald hx hb hK hP 10 0 rfl rfl (k := en ((2 * t) + 1)) (by omega) (by omega) dX5_measure_107 ?_
                      have b_13 := hd0 (en ((2 * t) + 1))
                      refine lv_aload_n hx hb dX5_measure_108 rfl (lv_at hl 2 rfl) ?_
                      refine va_get (ci := 5) (v := .ref (g 2)) (C := RX5) (T := TX5) (N := 19) hx hb hbw in_X5 hown hK hP 0 rfl rfl 3 (by decide) (hbw _ m_491) (fun _ h9 => h9) rfl dX5_measure_109 ?_
                      refine lv_iload_n hx hb dX5_measure_112 rfl (lv_at hl 5 rfl) ?_
                      refine nr_iald hx hb hK hP 2 0 rfl rfl (k := t) (by omega) (by omega) dX5_measure_113 ?_
                      have b_14 := hl0 t
                      refine nr_iadd hx hb dX5_measure_114 ?_
                      refine lv_goto (tgt := 125) hx hb dX5_measure_115 (by decide) ?_
                      refine nr_iast hx hb hK hP hD hS 10 0 rfl rfl (k := en (2 * t)) (v := (d (en ((2 * t) + 1))) + (le t)) (by omega) (by omega) dX5_measure_125 (fun H locs hP hD hS => ?_)
                      have hP : va_P D vwCl (pM g cI cB th n en le ro sn ar rt oh cn no ot cu lim (nr_up d (en (2 * t)) ((d (en ((2 * t) + 1))) + (le t))) wy lo ch bd) H := hP
                      have hD : va_D A (pM g cI cB th n en le ro sn ar rt oh cn no ot cu lim (nr_up d (en (2 * t)) ((d (en ((2 * t) + 1))) + (le t))) wy lo ch bd) := hD
                      rw [← cw_sh_pos (by omega)] at hP hD
                      have hd1 : ∀ j, cw_sh d (en (2 * t)) (en (2 * t + 1)) (le t) j ≤ 1000000 := fun j => Nat.le_trans (cw_sh_le d _ _ _ j) (hd0 j)
                      have hP : va_P D vwCl (pM g cI cB th n en le ro sn ar rt oh cn no ot cu lim (cw_sh d (en (2 * t)) (en (2 * t + 1)) (le t)) wy lo ch bd) H := hP
                      have hD : va_D A (pM g cI cB th n en le ro sn ar rt oh cn no ot cu lim (cw_sh d (en (2 * t)) (en (2 * t + 1)) (le t)) wy lo ch bd) := hD
                      refine lv_aload_n hx hb dX5_measure_126 rfl (lv_at hl 2 rfl) ?_
                      refine va_get (ci := 5) (v := .ref (g 10)) (C := RX5) (T := TX5) (N := 19) hx hb hbw in_X5 hown hK hP 0 rfl rfl 14 (by decide) (hbw _ m_502) (fun _ h9 => h9) rfl dX5_measure_127 ?_
                      refine lv_iload hx hb dX5_measure_130 (lv_at hl 0 rfl) ?_
                      refine lv_aload_n hx hb dX5_measure_132 rfl (lv_at hl 2 rfl) ?_
                      refine va_get (ci := 5) (v := .ref (g 10)) (C := RX5) (T := TX5) (N := 19) hx hb hbw in_X5 hown hK hP 0 rfl rfl 14 (by decide) (hbw _ m_502) (fun _ h9 => h9) rfl dX5_measure_133 ?_
                      refine lv_iload hx hb dX5_measure_136 (lv_at hl 1 rfl) ?_
                      refine nr_iald hx hb hK hP 10 0 rfl rfl (k := en (2 * t)) (by omega) (by omega) dX5_measure_138 ?_
                      have b_15 := hd1 (en (2 * t))
                      refine lv_aload_n hx hb dX5_measure_139 rfl (lv_at hl 2 rfl) ?_
                      refine va_get (ci := 5) (v := .ref (g 2)) (C := RX5) (T := TX5) (N := 19) hx hb hbw in_X5 hown hK hP 0 rfl rfl 3 (by decide) (hbw _ m_491) (fun _ h9 => h9) rfl dX5_measure_140 ?_
                      refine lv_iload_n hx hb dX5_measure_143 rfl (lv_at hl 5 rfl) ?_
                      refine nr_iald hx hb hK hP 2 0 rfl rfl (k := t) (by omega) (by omega) dX5_measure_144 ?_
                      have b_16 := hl0 t
                      refine nr_iadd hx hb dX5_measure_145 ?_
                      refine lv_aload_n hx hb dX5_measure_146 rfl (lv_at hl 2 rfl) ?_
                      refine va_get (ci := 5) (v := .ref (g 10)) (C := RX5) (T := TX5) (N := 19) hx hb hbw in_X5 hown hK hP 0 rfl rfl 14 (by decide) (hbw _ m_502) (fun _ h9 => h9) rfl dX5_measure_147 ?_
                      refine lv_iload hx hb dX5_measure_150 (lv_at hl 0 rfl) ?_
                      refine nr_iald hx hb hK hP 10 0 rfl rfl (k := en ((2 * t) + 1)) (by omega) (by omega) dX5_measure_152 ?_
                      have b_17 := hd1 (en ((2 * t) + 1))
                      refine nr_icmp_ge (x := ((cw_sh d (en (2 * t)) (en (2 * t + 1)) (le t)) (en (2 * t))) + (le t)) (y := (cw_sh d (en (2 * t)) (en (2 * t + 1)) (le t)) (en ((2 * t) + 1))) (tgt := 173) hx hb (by omega) (by omega) dX5_measure_153 (by decide) (fun h5 => ?_) (fun h5 => ?_)
                      · refine lv_aload_n hx hb dX5_measure_173 rfl (lv_at hl 2 rfl) ?_
                        refine va_get (ci := 5) (v := .ref (g 10)) (C := RX5) (T := TX5) (N := 19) hx hb hbw in_X5 hown hK hP 0 rfl rfl 14 (by decide) (hbw _ m_502) (fun _ h9 => h9) rfl dX5_measure_174 ?_
                        refine lv_iload hx hb dX5_measure_177 (lv_at hl 0 rfl) ?_
                        refine nr_iald hx hb hK hP 10 0 rfl rfl (k := en ((2 * t) + 1)) (by omega) (by omega) dX5_measure_179 ?_
                        have b_18 := hd1 (en ((2 * t) + 1))
                        refine nr_iast hx hb hK hP hD hS 10 0 rfl rfl (k := en ((2 * t) + 1)) (v := (cw_sh d (en (2 * t)) (en (2 * t + 1)) (le t)) (en ((2 * t) + 1))) (by omega) (by omega) dX5_measure_180 (fun H locs hP hD hS => ?_)
                        have hP : va_P D vwCl (pM g cI cB th n en le ro sn ar rt oh cn no ot cu lim (nr_up (cw_sh d (en (2 * t)) (en (2 * t + 1)) (le t)) (en ((2 * t) + 1)) ((cw_sh d (en (2 * t)) (en (2 * t + 1)) (le t)) (en ((2 * t) + 1)))) wy lo ch bd) H := hP
                        have hD : va_D A (pM g cI cB th n en le ro sn ar rt oh cn no ot cu lim (nr_up (cw_sh d (en (2 * t)) (en (2 * t + 1)) (le t)) (en ((2 * t) + 1)) ((cw_sh d (en (2 * t)) (en (2 * t + 1)) (le t)) (en ((2 * t) + 1)))) wy lo ch bd) := hD
                        have e8 : cw_sh (cw_sh d (en (2 * t)) (en (2 * t + 1)) (le t)) (en (2 * t + 1)) (en (2 * t)) (le t) = cw_sh d (en (2 * t)) (en (2 * t + 1)) (le t) := cw_sh_neg (by omega)
                        rw [nr_up_same, ← e8] at hP hD
                        have hP : va_P D vwCl (pM g cI cB th n en le ro sn ar rt oh cn no ot cu lim (cw_sh (cw_sh d (en (2 * t)) (en (2 * t + 1)) (le t)) (en (2 * t + 1)) (en (2 * t)) (le t)) wy lo ch bd) H := hP
                        have hD : va_D A (pM g cI cB th n en le ro sn ar rt oh cn no ot cu lim (cw_sh (cw_sh d (en (2 * t)) (en (2 * t + 1)) (le t)) (en (2 * t + 1)) (en (2 * t)) (le t)) wy lo ch bd) := hD
                        refine lv_iinc (v := nI (t + 1)) (lv' := [(3, .int (nI (t + 1))), (5, .int (nI (en ((2 * t) + 1)))), (4, .int (nI (en (2 * t)))), (0, .ref (g 0)), (1, .int (nI v)), (2, .int (nI rd))]) hx hb dX5_measure_181 hl (k := 5) rfl (nI_1 _) (by decide) rfl (fun ls hl => ?_)
                        refine lv_goto (tgt := 41) hx hb dX5_measure_184 (by decide) ?_
                        exact ih3 (t + 1) _ _ (by omega) (by omega) hs _ _ _ hP hD hS (lv_sub hl [3, 4, 5, 0] rfl)
                      · refine lv_aload_n hx hb dX5_measure_156 rfl (lv_at hl 2 rfl) ?_
                        refine va_get (ci := 5) (v := .ref (g 10)) (C := RX5) (T := TX5) (N := 19) hx hb hbw in_X5 hown hK hP 0 rfl rfl 14 (by decide) (hbw _ m_502) (fun _ h9 => h9) rfl dX5_measure_157 ?_
                        refine lv_iload hx hb dX5_measure_160 (lv_at hl 1 rfl) ?_
                        refine nr_iald hx hb hK hP 10 0 rfl rfl (k := en (2 * t)) (by omega) (by omega) dX5_measure_162 ?_
                        have b_19 := hd1 (en (2 * t))
                        refine lv_aload_n hx hb dX5_measure_163 rfl (lv_at hl 2 rfl) ?_
                        refine va_get (ci := 5) (v := .ref (g 2)) (C := RX5) (T := TX5) (N := 19) hx hb hbw in_X5 hown hK hP 0 rfl rfl 3 (by decide) (hbw _ m_491) (fun _ h9 => h9) rfl dX5_measure_164 ?_
                        refine lv_iload_n hx hb dX5_measure_167 rfl (lv_at hl 5 rfl) ?_
                        refine nr_iald hx hb hK hP 2 0 rfl rfl (k := t) (by omega) (by omega) dX5_measure_168 ?_
                        have b_20 := hl0 t
                        refine nr_iadd hx hb dX5_measure_169 ?_
                        refine lv_goto (tgt := 180) hx hb dX5_measure_170 (by decide) ?_
                        refine nr_iast hx hb hK hP hD hS 10 0 rfl rfl (k := en ((2 * t) + 1)) (v := ((cw_sh d (en (2 * t)) (en (2 * t + 1)) (le t)) (en (2 * t))) + (le t)) (by omega) (by omega) dX5_measure_180 (fun H locs hP hD hS => ?_)
                        have hP : va_P D vwCl (pM g cI cB th n en le ro sn ar rt oh cn no ot cu lim (nr_up (cw_sh d (en (2 * t)) (en (2 * t + 1)) (le t)) (en ((2 * t) + 1)) (((cw_sh d (en (2 * t)) (en (2 * t + 1)) (le t)) (en (2 * t))) + (le t))) wy lo ch bd) H := hP
                        have hD : va_D A (pM g cI cB th n en le ro sn ar rt oh cn no ot cu lim (nr_up (cw_sh d (en (2 * t)) (en (2 * t + 1)) (le t)) (en ((2 * t) + 1)) (((cw_sh d (en (2 * t)) (en (2 * t + 1)) (le t)) (en (2 * t))) + (le t))) wy lo ch bd) := hD
                        rw [← cw_sh_pos (by omega)] at hP hD
                        have hP : va_P D vwCl (pM g cI cB th n en le ro sn ar rt oh cn no ot cu lim (cw_sh (cw_sh d (en (2 * t)) (en (2 * t + 1)) (le t)) (en (2 * t + 1)) (en (2 * t)) (le t)) wy lo ch bd) H := hP
                        have hD : va_D A (pM g cI cB th n en le ro sn ar rt oh cn no ot cu lim (cw_sh (cw_sh d (en (2 * t)) (en (2 * t + 1)) (le t)) (en (2 * t + 1)) (en (2 * t)) (le t)) wy lo ch bd) := hD
                        refine lv_iinc (v := nI (t + 1)) (lv' := [(3, .int (nI (t + 1))), (5, .int (nI (en ((2 * t) + 1)))), (4, .int (nI (en (2 * t)))), (0, .ref (g 0)), (1, .int (nI v)), (2, .int (nI rd))]) hx hb dX5_measure_181 hl (k := 5) rfl (nI_1 _) (by decide) rfl (fun ls hl => ?_)
                        refine lv_goto (tgt := 41) hx hb dX5_measure_184 (by decide) ?_
                        exact ih3 (t + 1) _ _ (by omega) (by omega) hs _ _ _ hP hD hS (lv_sub hl [3, 4, 5, 0] rfl)
              exact l3 (n + 1) 0 false d (by omega) (Nat.zero_le n) (cw_in_0 hd) _ _ _ hP hD hS (lv_sub hl [1, 2, 3, 0] rfl)
        exact lq 11 0 _ (by omega) (by omega) (cw_rd_0 (by omega)) _ _ _ hP hD hS (lv_sub hl [1, 2, 0] rfl)
      · refine lv_aload_n hx hb dX5_measure_8 rfl (lv_at hl 0 rfl) ?_
        refine va_get (ci := 5) (v := .ref (g 10)) (C := RX5) (T := TX5) (N := 19) hx hb hbw in_X5 hown hK hP 0 rfl rfl 14 (by decide) (hbw _ m_502) (fun _ h9 => h9) rfl dX5_measure_9 ?_
        refine lv_iload_n hx hb dX5_measure_12 rfl (lv_at hl 2 rfl) ?_
        refine lv_iload_n hx hb dX5_measure_13 rfl (lv_at hl 2 rfl) ?_
        refine lv_iload_n hx hb dX5_measure_14 rfl (lv_at hl 1 rfl) ?_
        refine nr_icmp_ne (x := i) (y := v) (tgt := 22) hx hb (by omega) (by omega) dX5_measure_15 (by decide) (fun h6 => ?_) (fun h6 => ?_)
        · refine lv_ldc (v := nI 1000000) hx hb hown (hbw _ m_604) dX5_measure_22 ?_
          refine nr_iast hx hb hK hP hD hS 10 0 rfl rfl (k := i) (v := 1000000) (by omega) (by omega) dX5_measure_24 (fun H locs hP hD hS => ?_)
          have hP : va_P D vwCl (pM g cI cB th n en le ro sn ar rt oh cn no ot cu lim (nr_up fa i 1000000) wy lo ch bd) H := hP
          have hD : va_D A (pM g cI cB th n en le ro sn ar rt oh cn no ot cu lim (nr_up fa i 1000000) wy lo ch bd) := hD
          refine lv_iinc (v := nI (i + 1)) (lv' := [(2, .int (nI (i + 1))), (0, .ref (g 0)), (1, .int (nI v))]) hx hb dX5_measure_25 hl (k := 2) rfl (nI_1 _) (by decide) rfl (fun ls hl => ?_)
          refine lv_goto (tgt := 2) hx hb dX5_measure_28 (by decide) ?_
          exact ih (i + 1) _ (by omega) (by omega) (fun j hj => by by_cases e : j = i; rw [e, nr_up_s, if_neg h6]; rw [nr_up_n _ _ e]; exact hf j (by omega)) _ _ _ hP hD hS (lv_sub hl [1, 2, 0] rfl)
        · refine lv_iconst (v := nI 0) hx hb dX5_measure_18 (by decide) ?_
          refine lv_goto (tgt := 24) hx hb dX5_measure_19 (by decide) ?_
          refine nr_iast hx hb hK hP hD hS 10 0 rfl rfl (k := i) (v := 0) (by omega) (by omega) dX5_measure_24 (fun H locs hP hD hS => ?_)
          have hP : va_P D vwCl (pM g cI cB th n en le ro sn ar rt oh cn no ot cu lim (nr_up fa i 0) wy lo ch bd) H := hP
          have hD : va_D A (pM g cI cB th n en le ro sn ar rt oh cn no ot cu lim (nr_up fa i 0) wy lo ch bd) := hD
          refine lv_iinc (v := nI (i + 1)) (lv' := [(2, .int (nI (i + 1))), (0, .ref (g 0)), (1, .int (nI v))]) hx hb dX5_measure_25 hl (k := 2) rfl (nI_1 _) (by decide) rfl (fun ls hl => ?_)
          refine lv_goto (tgt := 2) hx hb dX5_measure_28 (by decide) ?_
          exact ih (i + 1) _ (by omega) (by omega) (fun j hj => by by_cases e : j = i; rw [e, nr_up_s, if_pos h6]; rw [nr_up_n _ _ e]; exact hf j (by omega)) _ _ _ hP hD hS (lv_sub hl [1, 2, 0] rfl)
  exact lp 11 0 fa (by omega) (by omega) (lt_0) H locs ls hP hD hS (lv_sub hl [1, 2, 0] rfl)
