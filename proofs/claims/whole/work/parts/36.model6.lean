set_option maxHeartbeats 4000000 in
set_option maxRecDepth 100000 in
/-- size -/
theorem kX5_size (l : Launch) (D : va_G) (cI cG cL cB : ClassId) (g : Nat → Nat) (th n : Nat) (en le ro : Nat → Nat) (sn : Nat) (ar rt oh : Nat → Nat) (cn : Nat) (no ot cu : Nat → Nat) (lim : Nat) (fa wy lo ch bd : Nat → Nat) (x0 x1 x2 : Int32) (hn : n ≤ 15) (hsn : sn ≤ 6) (hcn : cn ≤ 20) (har : ∀ j, ar j ≤ 100) (hrt : ∀ j, rt j ≤ 1000) (hoh : ∀ j, oh j ≤ 1000) : ct_i l yX5_size (.code yX5_size cX5_size 6 (some .int) :: bw) ({ frames := 1, cells := 0, slots := 0, locals := 25 }) (EN D (tyL cI cG cL cB)) D vwCl (pM g cI cB th n en le ro sn ar rt oh cn no ot cu lim fa wy lo ch bd) [.ref (g 0), .int x0, .int x1, .int x2] (fun v W => (¬ (inB x0 1 100 ∧ inB x1 1 1000 ∧ inB x2 0 1000) ∧ W = (pM g cI cB 1 n en le ro sn ar rt oh cn no ot cu lim fa wy lo ch bd)) ∨ (∃ x y z, (x0 = nI x ∧ x1 = nI y ∧ x2 = nI z ∧ 1 ≤ x ∧ x ≤ 100 ∧ 1 ≤ y ∧ y ≤ 1000 ∧ z ≤ 1000) ∧ ((¬ (sn < 6 ∧ cz_fol sn ar rt oh x y z = true) ∧ W = (pM g cI cB 2 n en le ro sn ar rt oh cn no ot cu lim fa wy lo ch bd)) ∨ (sn < 6 ∧ cz_fol sn ar rt oh x y z = true ∧ v = nI sn ∧ W = (pM g cI cB 0 n en le ro (sn + 1) (nr_up ar sn x) (nr_up rt sn y) (nr_up oh sn z) cn no ot cu lim fa wy lo ch bd))))) 0 0 := by
  refine ct_ofi (by decide) (Nat.le_of_ble_eq_true rfl) ?_
  intro p e s m below meth cd A H locs av Q ls hx hb hr hml hown hlocks hnm hbw hEN hQ hP hD hS hA hl
  have hown : s.vm.findClass RX5 = some m.cls := hown
  have hK := hEN.1
  have hl : lv_has ls 6 [(0, .ref (g 0)), (1, .int x0), (2, .int x1), (3, .int x2)] := hl
  have ct2 : ∀ (gd : Nat) (bs : Nat), (hgd : (gd = 1 ∧ (inB x0 1 100 ∧ inB x1 1 1000 ∧ inB x2 0 1000)) ∨ (gd = 0 ∧ ¬ (inB x0 1 100 ∧ inB x1 1 1000 ∧ inB x2 0 1000))) → (hbs : (bs = 1 ∧ (sn = 0 ∨ (sn < 6 ∧ nI (ar (sn - 1)) < x0 ∧ nI (rt (sn - 1)) ≤ x1 ∧ x2 ≤ nI (oh (sn - 1))))) ∨ (bs = 0 ∧ ¬ (sn = 0 ∨ (sn < 6 ∧ nI (ar (sn - 1)) < x0 ∧ nI (rt (sn - 1)) ≤ x1 ∧ x2 ≤ nI (oh (sn - 1)))))) → ∀ (H : Heap) (locs : List Loc) (ls : Array Slot), va_P D vwCl (pM g cI cB th n en le ro sn ar rt oh cn no ot cu lim fa wy lo ch bd) H → va_D A (pM g cI cB th n en le ro sn ar rt oh cn no ot cu lim fa wy lo ch bd) → va_S A s.heap H locs → lv_has ls 6 [(0, .ref (g 0)), (1, .int x0), (2, .int x1), (3, .int x2), (4, .int (nI gd)), (5, .int (nI bs))] → W p l e ({ frames := 1, cells := 0, slots := 0, locals := 25 }) s m av below meth cd H locs 0 0 Q (F0 m 111 ls []) := by
    intro gd bs hgd hbs H locs ls hP hD hS hl
    rcases hgd with ⟨hgd, hG⟩ | ⟨hgd, hG⟩
    · subst hgd
      obtain ⟨⟨x, hx0, hx1, hx2⟩, ⟨y, hy0, hy1, hy2⟩, ⟨z, hz0, -, hz2⟩⟩ := id hG
      subst hx0; subst hy0; subst hz0
      have b_1 := har (sn - 1)
      have b_2 := hrt (sn - 1)
      have b_3 := hoh (sn - 1)
      have hfol : (sn < 6 ∧ cz_fol sn ar rt oh x y z = true) ↔ (sn = 0 ∨ (sn < 6 ∧ nI (ar (sn - 1)) < nI x ∧ nI (rt (sn - 1)) ≤ nI y ∧ nI z ≤ nI (oh (sn - 1)))) := by
        rw [nI_ltI (by omega) (by omega), nI_leI (by omega) (by omega), nI_leI (by omega) (by omega)]
        unfold cz_fol
        rw [decide_eq_true_iff]
        omega
      refine lv_aload_n hx hb dX5_size_111 rfl (lv_at hl 0 rfl) ?_
      refine lv_iload hx hb dX5_size_112 (lv_at hl 4 rfl) ?_
      refine nr_if_ne (x := 1) (tgt := 121) hx hb (by omega) dX5_size_114 (by decide) (fun _ => ?_) (fun h => absurd h (by omega))
      rcases hbs with ⟨hbs, hB⟩ | ⟨hbs, hB⟩
      · subst hbs
        obtain ⟨hs6, hfl⟩ := hfol.mpr hB
        refine lv_iload hx hb dX5_size_121 (lv_at hl 5 rfl) ?_
        refine nr_if_ne (x := 1) (tgt := 130) hx hb (by omega) dX5_size_123 (by decide) (fun _ => ?_) (fun h => absurd h (by omega))
        refine lv_iconst (v := nI 0) hx hb dX5_size_130 (by decide) ?_
        refine va_put (ci := 5) (v := .int (nI 0)) (ty := .int) (C := RX5) (T := TX5) (N := 19) hx hb hbw in_X5 tyX5 tyX5_ok nmX5 hown hK hP hD hS 0 rfl rfl 0 (by decide) (hbw _ m_488) (fun _ h9 => h9) rfl (by decide +kernel) rfl rfl (Nat.le_of_ble_eq_true rfl) dX5_size_131 (fun H locs hP hD hS => ?_)
        have hP : va_P D vwCl (pM g cI cB 0 n en le ro sn ar rt oh cn no ot cu lim fa wy lo ch bd) H := hP
        have hD : va_D A (pM g cI cB 0 n en le ro sn ar rt oh cn no ot cu lim fa wy lo ch bd) := hD
        refine lv_aload_n hx hb dX5_size_134 rfl (lv_at hl 0 rfl) ?_
        refine va_get (ci := 5) (v := .int (nI 0)) (C := RX5) (T := TX5) (N := 19) hx hb hbw in_X5 hown hK hP 0 rfl rfl 0 (by decide) (hbw _ m_488) (fun _ h9 => h9) rfl dX5_size_135 ?_
        refine lv_if_le (tgt := 143) hx hb dX5_size_138 (by decide) (fun _ => ?_) (fun h => absurd h (by decide))
        refine lv_aload_n hx hb dX5_size_143 rfl (lv_at hl 0 rfl) ?_
        refine va_get (ci := 5) (v := .ref (g 4)) (C := RX5) (T := TX5) (N := 19) hx hb hbw in_X5 hown hK hP 0 rfl rfl 6 (by decide) (hbw _ m_494) (fun _ h9 => h9) rfl dX5_size_144 ?_
        refine lv_aload_n hx hb dX5_size_147 rfl (lv_at hl 0 rfl) ?_
        refine va_get (ci := 5) (v := .int (nI sn)) (C := RX5) (T := TX5) (N := 19) hx hb hbw in_X5 hown hK hP 0 rfl rfl 5 (by decide) (hbw _ m_493) (fun _ h9 => h9) rfl dX5_size_148 ?_
        refine lv_iload_n hx hb dX5_size_151 rfl (lv_at hl 1 rfl) ?_
        refine nr_iast hx hb hK hP hD hS 4 0 rfl rfl (k := sn) (v := x) (by omega) (by omega) dX5_size_152 (fun H locs hP hD hS => ?_)
        have hP : va_P D vwCl (pM g cI cB 0 n en le ro sn (nr_up ar sn x) rt oh cn no ot cu lim fa wy lo ch bd) H := hP
        have hD : va_D A (pM g cI cB 0 n en le ro sn (nr_up ar sn x) rt oh cn no ot cu lim fa wy lo ch bd) := hD
        refine lv_aload_n hx hb dX5_size_153 rfl (lv_at hl 0 rfl) ?_
        refine va_get (ci := 5) (v := .ref (g 5)) (C := RX5) (T := TX5) (N := 19) hx hb hbw in_X5 hown hK hP 0 rfl rfl 7 (by decide) (hbw _ m_495) (fun _ h9 => h9) rfl dX5_size_154 ?_
        refine lv_aload_n hx hb dX5_size_157 rfl (lv_at hl 0 rfl) ?_
        refine va_get (ci := 5) (v := .int (nI sn)) (C := RX5) (T := TX5) (N := 19) hx hb hbw in_X5 hown hK hP 0 rfl rfl 5 (by decide) (hbw _ m_493) (fun _ h9 => h9) rfl dX5_size_158 ?_
        refine lv_iload_n hx hb dX5_size_161 rfl (lv_at hl 2 rfl) ?_
        refine nr_iast hx hb hK hP hD hS 5 0 rfl rfl (k := sn) (v := y) (by omega) (by omega) dX5_size_162 (fun H locs hP hD hS => ?_)
        have hP : va_P D vwCl (pM g cI cB 0 n en le ro sn (nr_up ar sn x) (nr_up rt sn y) oh cn no ot cu lim fa wy lo ch bd) H := hP
        have hD : va_D A (pM g cI cB 0 n en le ro sn (nr_up ar sn x) (nr_up rt sn y) oh cn no ot cu lim fa wy lo ch bd) := hD
        refine lv_aload_n hx hb dX5_size_163 rfl (lv_at hl 0 rfl) ?_
        refine va_get (ci := 5) (v := .ref (g 6)) (C := RX5) (T := TX5) (N := 19) hx hb hbw in_X5 hown hK hP 0 rfl rfl 8 (by decide) (hbw _ m_496) (fun _ h9 => h9) rfl dX5_size_164 ?_
        refine lv_aload_n hx hb dX5_size_167 rfl (lv_at hl 0 rfl) ?_
        refine va_get (ci := 5) (v := .int (nI sn)) (C := RX5) (T := TX5) (N := 19) hx hb hbw in_X5 hown hK hP 0 rfl rfl 5 (by decide) (hbw _ m_493) (fun _ h9 => h9) rfl dX5_size_168 ?_
        refine lv_iload_n hx hb dX5_size_171 rfl (lv_at hl 3 rfl) ?_
        refine nr_iast hx hb hK hP hD hS 6 0 rfl rfl (k := sn) (v := z) (by omega) (by omega) dX5_size_172 (fun H locs hP hD hS => ?_)
        have hP : va_P D vwCl (pM g cI cB 0 n en le ro sn (nr_up ar sn x) (nr_up rt sn y) (nr_up oh sn z) cn no ot cu lim fa wy lo ch bd) H := hP
        have hD : va_D A (pM g cI cB 0 n en le ro sn (nr_up ar sn x) (nr_up rt sn y) (nr_up oh sn z) cn no ot cu lim fa wy lo ch bd) := hD
        refine lv_aload_n hx hb dX5_size_173 rfl (lv_at hl 0 rfl) ?_
        refine lv_dup hx hb dX5_size_174 rfl ?_
        refine va_get (ci := 5) (v := .int (nI sn)) (C := RX5) (T := TX5) (N := 19) hx hb hbw in_X5 hown hK hP 0 rfl rfl 5 (by decide) (hbw _ m_493) (fun _ h9 => h9) rfl dX5_size_175 ?_
        refine lv_iconst (v := nI 1) hx hb dX5_size_178 (by decide) ?_
        refine nr_iadd hx hb dX5_size_179 ?_
        refine va_put (ci := 5) (v := .int (nI (sn + 1))) (ty := .int) (C := RX5) (T := TX5) (N := 19) hx hb hbw in_X5 tyX5 tyX5_ok nmX5 hown hK hP hD hS 0 rfl rfl 5 (by decide) (hbw _ m_493) (fun _ h9 => h9) rfl (by decide +kernel) rfl rfl (Nat.le_of_ble_eq_true rfl) dX5_size_180 (fun H locs hP hD hS => ?_)
        have hP : va_P D vwCl (pM g cI cB 0 n en le ro (sn + 1) (nr_up ar sn x) (nr_up rt sn y) (nr_up oh sn z) cn no ot cu lim fa wy lo ch bd) H := hP
        have hD : va_D A (pM g cI cB 0 n en le ro (sn + 1) (nr_up ar sn x) (nr_up rt sn y) (nr_up oh sn z) cn no ot cu lim fa wy lo ch bd) := hD
        refine lv_aload_n hx hb dX5_size_183 rfl (lv_at hl 0 rfl) ?_
        refine va_get (ci := 5) (v := .int (nI (sn + 1))) (C := RX5) (T := TX5) (N := 19) hx hb hbw in_X5 hown hK hP 0 rfl rfl 5 (by decide) (hbw _ m_493) (fun _ h9 => h9) rfl dX5_size_184 ?_
        refine lv_iconst (v := nI 1) hx hb dX5_size_187 (by decide) ?_
        refine nr_isub hx hb (by omega) dX5_size_188 ?_
        rw [hQ]
        exact ct_iret hx hb hr hlocks hP hD hS dX5_size_189 (Or.inr ⟨x, y, z, ⟨rfl, rfl, rfl, hx1, hx2, hy1, hy2, hz2⟩, Or.inr ⟨hs6, hfl, by rw [Nat.add_sub_cancel], rfl⟩⟩)
      · subst hbs
        refine lv_iload hx hb dX5_size_121 (lv_at hl 5 rfl) ?_
        refine nr_if_ne (x := 0) (tgt := 130) hx hb (by omega) dX5_size_123 (by decide) (fun h => absurd h (by omega)) (fun _ => ?_)
        refine lv_iconst (v := nI 2) hx hb dX5_size_126 (by decide) ?_
        refine lv_goto (tgt := 131) hx hb dX5_size_127 (by decide) ?_
        refine va_put (ci := 5) (v := .int (nI 2)) (ty := .int) (C := RX5) (T := TX5) (N := 19) hx hb hbw in_X5 tyX5 tyX5_ok nmX5 hown hK hP hD hS 0 rfl rfl 0 (by decide) (hbw _ m_488) (fun _ h9 => h9) rfl (by decide +kernel) rfl rfl (Nat.le_of_ble_eq_true rfl) dX5_size_131 (fun H locs hP hD hS => ?_)
        have hP : va_P D vwCl (pM g cI cB 2 n en le ro sn ar rt oh cn no ot cu lim fa wy lo ch bd) H := hP
        have hD : va_D A (pM g cI cB 2 n en le ro sn ar rt oh cn no ot cu lim fa wy lo ch bd) := hD
        refine lv_aload_n hx hb dX5_size_134 rfl (lv_at hl 0 rfl) ?_
        refine va_get (ci := 5) (v := .int (nI 2)) (C := RX5) (T := TX5) (N := 19) hx hb hbw in_X5 hown hK hP 0 rfl rfl 0 (by decide) (hbw _ m_488) (fun _ h9 => h9) rfl dX5_size_135 ?_
        refine lv_if_le (tgt := 143) hx hb dX5_size_138 (by decide) (fun h => absurd h (by decide)) (fun _ => ?_)
        refine lv_iconst (v := nI 0) hx hb dX5_size_141 (by decide) ?_
        rw [hQ]
        exact ct_iret hx hb hr hlocks hP hD hS dX5_size_142 (Or.inr ⟨x, y, z, ⟨rfl, rfl, rfl, hx1, hx2, hy1, hy2, hz2⟩, Or.inl ⟨fun q => hB (hfol.mp q), rfl⟩⟩)
    · subst hgd
      refine lv_aload_n hx hb dX5_size_111 rfl (lv_at hl 0 rfl) ?_
      refine lv_iload hx hb dX5_size_112 (lv_at hl 4 rfl) ?_
      refine nr_if_ne (x := 0) (tgt := 121) hx hb (by omega) dX5_size_114 (by decide) (fun h => absurd h (by omega)) (fun _ => ?_)
      refine lv_iconst (v := nI 1) hx hb dX5_size_117 (by decide) ?_
      refine lv_goto (tgt := 131) hx hb dX5_size_118 (by decide) ?_
      refine va_put (ci := 5) (v := .int (nI 1)) (ty := .int) (C := RX5) (T := TX5) (N := 19) hx hb hbw in_X5 tyX5 tyX5_ok nmX5 hown hK hP hD hS 0 rfl rfl 0 (by decide) (hbw _ m_488) (fun _ h9 => h9) rfl (by decide +kernel) rfl rfl (Nat.le_of_ble_eq_true rfl) dX5_size_131 (fun H locs hP hD hS => ?_)
      have hP : va_P D vwCl (pM g cI cB 1 n en le ro sn ar rt oh cn no ot cu lim fa wy lo ch bd) H := hP
      have hD : va_D A (pM g cI cB 1 n en le ro sn ar rt oh cn no ot cu lim fa wy lo ch bd) := hD
      refine lv_aload_n hx hb dX5_size_134 rfl (lv_at hl 0 rfl) ?_
      refine va_get (ci := 5) (v := .int (nI 1)) (C := RX5) (T := TX5) (N := 19) hx hb hbw in_X5 hown hK hP 0 rfl rfl 0 (by decide) (hbw _ m_488) (fun _ h9 => h9) rfl dX5_size_135 ?_
      refine lv_if_le (tgt := 143) hx hb dX5_size_138 (by decide) (fun h => absurd h (by decide)) (fun _ => ?_)
      refine lv_iconst (v := nI 0) hx hb dX5_size_141 (by decide) ?_
      rw [hQ]
      exact ct_iret hx hb hr hlocks hP hD hS dX5_size_142 (Or.inl ⟨hG, rfl⟩)
  have ct1 : ∀ (gd : Nat), (hgd : (gd = 1 ∧ (inB x0 1 100 ∧ inB x1 1 1000 ∧ inB x2 0 1000)) ∨ (gd = 0 ∧ ¬ (inB x0 1 100 ∧ inB x1 1 1000 ∧ inB x2 0 1000))) → ∀ (H : Heap) (locs : List Loc) (ls : Array Slot), va_P D vwCl (pM g cI cB th n en le ro sn ar rt oh cn no ot cu lim fa wy lo ch bd) H → va_D A (pM g cI cB th n en le ro sn ar rt oh cn no ot cu lim fa wy lo ch bd) → va_S A s.heap H locs → lv_has ls 6 [(0, .ref (g 0)), (1, .int x0), (2, .int x1), (3, .int x2)] → W p l e ({ frames := 1, cells := 0, slots := 0, locals := 25 }) s m av below meth cd H locs 0 0 Q (F0 m 41 ls [.int (nI gd)]) := by
    intro gd hgd H locs ls hP hD hS hl
    refine lv_istore (lv' := [(4, .int (nI gd)), (0, .ref (g 0)), (1, .int x0), (2, .int x1), (3, .int x2)]) hx hb dX5_size_41 hl (by decide) rfl (fun ls hl => ?_)
    refine lv_aload_n hx hb dX5_size_43 rfl (lv_at hl 1 rfl) ?_
    refine va_get (ci := 5) (v := .int (nI sn)) (C := RX5) (T := TX5) (N := 19) hx hb hbw in_X5 hown hK hP 0 rfl rfl 5 (by decide) (hbw _ m_493) (fun _ h9 => h9) rfl dX5_size_44 ?_
    refine nr_if_eq (x := sn) (tgt := 104) hx hb (by omega) dX5_size_47 (by decide) (fun h1 => ?_) (fun h1 => ?_)
    · refine lv_iconst (v := nI 1) hx hb dX5_size_104 (by decide) ?_
      refine lv_goto (tgt := 109) hx hb dX5_size_105 (by decide) ?_
      refine lv_istore (lv' := [(5, .int (nI 1)), (4, .int (nI gd)), (0, .ref (g 0)), (1, .int x0), (2, .int x1), (3, .int x2)]) hx hb dX5_size_109 hl (by decide) rfl (fun ls hl => ?_)
      exact ct2 gd 1 hgd (Or.inl ⟨rfl, Or.inl h1⟩) _ _ _ hP hD hS (lv_sub hl [2, 3, 4, 5, 1, 0] rfl)
    · refine lv_aload_n hx hb dX5_size_50 rfl (lv_at hl 1 rfl) ?_
      refine va_get (ci := 5) (v := .int (nI sn)) (C := RX5) (T := TX5) (N := 19) hx hb hbw in_X5 hown hK hP 0 rfl rfl 5 (by decide) (hbw _ m_493) (fun _ h9 => h9) rfl dX5_size_51 ?_
      refine lv_bipush (v := nI 6) hx hb dX5_size_54 (by decide) ?_
      refine nr_icmp_ge (x := sn) (y := 6) (tgt := 108) hx hb (by omega) (by omega) dX5_size_56 (by decide) (fun h2 => ?_) (fun h2 => ?_)
      · refine lv_iconst (v := nI 0) hx hb dX5_size_108 (by decide) ?_
        refine lv_istore (lv' := [(5, .int (nI 0)), (4, .int (nI gd)), (0, .ref (g 0)), (1, .int x0), (2, .int x1), (3, .int x2)]) hx hb dX5_size_109 hl (by decide) rfl (fun ls hl => ?_)
        exact ct2 gd 0 hgd (Or.inr ⟨rfl, fun q => by rcases q with q | ⟨q, -⟩ <;> omega⟩) _ _ _ hP hD hS (lv_sub hl [2, 3, 4, 5, 1, 0] rfl)
      · refine lv_iload_n hx hb dX5_size_59 rfl (lv_at hl 2 rfl) ?_
        refine lv_aload_n hx hb dX5_size_60 rfl (lv_at hl 1 rfl) ?_
        refine va_get (ci := 5) (v := .ref (g 4)) (C := RX5) (T := TX5) (N := 19) hx hb hbw in_X5 hown hK hP 0 rfl rfl 6 (by decide) (hbw _ m_494) (fun _ h9 => h9) rfl dX5_size_61 ?_
        refine lv_aload_n hx hb dX5_size_64 rfl (lv_at hl 1 rfl) ?_
        refine va_get (ci := 5) (v := .int (nI sn)) (C := RX5) (T := TX5) (N := 19) hx hb hbw in_X5 hown hK hP 0 rfl rfl 5 (by decide) (hbw _ m_493) (fun _ h9 => h9) rfl dX5_size_65 ?_
        refine lv_iconst (v := nI 1) hx hb dX5_size_68 (by decide) ?_
        refine nr_isub hx hb (by omega) dX5_size_69 ?_
        refine nr_iald hx hb hK hP 4 0 rfl rfl (k := sn - 1) (by omega) (by omega) dX5_size_70 ?_
        have b_1 := har (sn - 1)
        refine lv_icmp_le (tgt := 108) hx hb dX5_size_71 (by decide) (fun h3 => ?_) (fun h3 => ?_)
        · refine lv_iconst (v := nI 0) hx hb dX5_size_108 (by decide) ?_
          refine lv_istore (lv' := [(5, .int (nI 0)), (4, .int (nI gd)), (0, .ref (g 0)), (1, .int x0), (2, .int x1), (3, .int x2)]) hx hb dX5_size_109 hl (by decide) rfl (fun ls hl => ?_)
          exact ct2 gd 0 hgd (Or.inr ⟨rfl, (fun q => by rcases q with q | ⟨-, q, -⟩; omega; exact absurd q (Int32.not_lt.mpr h3))⟩) _ _ _ hP hD hS (lv_sub hl [2, 3, 4, 5, 1, 0] rfl)
        · refine lv_iload_n hx hb dX5_size_74 rfl (lv_at hl 3 rfl) ?_
          refine lv_aload_n hx hb dX5_size_75 rfl (lv_at hl 1 rfl) ?_
          refine va_get (ci := 5) (v := .ref (g 5)) (C := RX5) (T := TX5) (N := 19) hx hb hbw in_X5 hown hK hP 0 rfl rfl 7 (by decide) (hbw _ m_495) (fun _ h9 => h9) rfl dX5_size_76 ?_
          refine lv_aload_n hx hb dX5_size_79 rfl (lv_at hl 1 rfl) ?_
          refine va_get (ci := 5) (v := .int (nI sn)) (C := RX5) (T := TX5) (N := 19) hx hb hbw in_X5 hown hK hP 0 rfl rfl 5 (by decide) (hbw _ m_493) (fun _ h9 => h9) rfl dX5_size_80 ?_
          refine lv_iconst (v := nI 1) hx hb dX5_size_83 (by decide) ?_
          refine nr_isub hx hb (by omega) dX5_size_84 ?_
          refine nr_iald hx hb hK hP 5 0 rfl rfl (k := sn - 1) (by omega) (by omega) dX5_size_85 ?_
          have b_2 := hrt (sn - 1)
          refine lv_icmp_lt (tgt := 108) hx hb dX5_size_86 (by decide) (fun h4 => ?_) (fun h4 => ?_)
          · refine lv_iconst (v := nI 0) hx hb dX5_size_108 (by decide) ?_
            refine lv_istore (lv' := [(5, .int (nI 0)), (4, .int (nI gd)), (0, .ref (g 0)), (1, .int x0), (2, .int x1), (3, .int x2)]) hx hb dX5_size_109 hl (by decide) rfl (fun ls hl => ?_)
            exact ct2 gd 0 hgd (Or.inr ⟨rfl, (fun q => by rcases q with q | ⟨-, -, q, -⟩; omega; exact absurd h4 (Int32.not_lt.mpr q))⟩) _ _ _ hP hD hS (lv_sub hl [2, 3, 4, 5, 1, 0] rfl)
          · refine lv_iload_n hx hb dX5_size_89 rfl (lv_at hl 4 rfl) ?_
            refine lv_aload_n hx hb dX5_size_90 rfl (lv_at hl 1 rfl) ?_
            refine va_get (ci := 5) (v := .ref (g 6)) (C := RX5) (T := TX5) (N := 19) hx hb hbw in_X5 hown hK hP 0 rfl rfl 8 (by decide) (hbw _ m_496) (fun _ h9 => h9) rfl dX5_size_91 ?_
            refine lv_aload_n hx hb dX5_size_94 rfl (lv_at hl 1 rfl) ?_
            refine va_get (ci := 5) (v := .int (nI sn)) (C := RX5) (T := TX5) (N := 19) hx hb hbw in_X5 hown hK hP 0 rfl rfl 5 (by decide) (hbw _ m_493) (fun _ h9 => h9) rfl dX5_size_95 ?_
            refine lv_iconst (v := nI 1) hx hb dX5_size_98 (by decide) ?_
            refine nr_isub hx hb (by omega) dX5_size_99 ?_
            refine nr_iald hx hb hK hP 6 0 rfl rfl (k := sn - 1) (by omega) (by omega) dX5_size_100 ?_
            have b_3 := hoh (sn - 1)
            refine lv_icmp_gt (tgt := 108) hx hb dX5_size_101 (by decide) (fun h5 => ?_) (fun h5 => ?_)
            · refine lv_iconst (v := nI 0) hx hb dX5_size_108 (by decide) ?_
              refine lv_istore (lv' := [(5, .int (nI 0)), (4, .int (nI gd)), (0, .ref (g 0)), (1, .int x0), (2, .int x1), (3, .int x2)]) hx hb dX5_size_109 hl (by decide) rfl (fun ls hl => ?_)
              exact ct2 gd 0 hgd (Or.inr ⟨rfl, (fun q => by rcases q with q | ⟨-, -, -, q⟩; omega; exact absurd h5 (Int32.not_lt.mpr q))⟩) _ _ _ hP hD hS (lv_sub hl [2, 3, 4, 5, 1, 0] rfl)
            · refine lv_iconst (v := nI 1) hx hb dX5_size_104 (by decide) ?_
              refine lv_goto (tgt := 109) hx hb dX5_size_105 (by decide) ?_
              refine lv_istore (lv' := [(5, .int (nI 1)), (4, .int (nI gd)), (0, .ref (g 0)), (1, .int x0), (2, .int x1), (3, .int x2)]) hx hb dX5_size_109 hl (by decide) rfl (fun ls hl => ?_)
              exact ct2 gd 1 hgd (Or.inl ⟨rfl, Or.inr ⟨h2, Int32.not_le.mp h3, Int32.not_lt.mp h4, Int32.not_lt.mp h5⟩⟩) _ _ _ hP hD hS (lv_sub hl [2, 3, 4, 5, 1, 0] rfl)
  refine lv_iload_n hx hb dX5_size_0 rfl (lv_at hl 1 rfl) ?_
  refine lv_i2l (v := (x0).toInt64) hx hb dX5_size_1 rfl ?_
  refine lv_lconst (v := lN 1) hx hb dX5_size_2 (by decide) ?_
  refine lv_ldc2 (v := lN 100) hx hb hown (hbw _ m_558) dX5_size_3 ?_
  refine ct_Si (wc := ([] : va_W)) (wr := (pM g cI cB th n en le ro sn ar rt oh cn no ot cu lim fa wy lo ch bd)) (As := [.long ((x0).toInt64), .long (lN 1), .long (lN 100)]) (rest := []) ⟨hx, hb, hml, hown, hbw⟩ (EN_E D _) hEN (kX5_isIn l D cI cG cL cB x0 1 100 (by omega) (by omega)) (gS 3 hbw m_559 m_560 m_23 m_561 rfl rfl (by decide +kernel) ⟨Nat.le_of_ble_eq_true rfl, Nat.le_of_ble_eq_true rfl⟩) hP hD hS hA [] [0, 1, 2, 3, 4, 5, 6, 7, 8, 9, 10, 11, 12, 13, 14] rfl rfl (by decide) (by decide) (by decide) rfl hl.1 rfl (Nat.le_of_ble_eq_true rfl) dX5_size_6 ⟨Nat.le_of_ble_eq_true rfl, Nat.le_of_ble_eq_true rfl⟩ (fun r_4 w_4 H locs hw hP hD hS => ?_)
  obtain ⟨rfl, hr9⟩ := hw
  have hP := hP.sub (ws' := (pM g cI cB th n en le ro sn ar rt oh cn no ot cu lim fa wy lo ch bd)) [0, 1, 2, 3, 4, 5, 6, 7, 8, 9, 10, 11, 12, 13, 14] rfl
  have hD := hD.sub (ws' := (pM g cI cB th n en le ro sn ar rt oh cn no ot cu lim fa wy lo ch bd)) [0, 1, 2, 3, 4, 5, 6, 7, 8, 9, 10, 11, 12, 13, 14] (by decide) rfl
  rcases hr9 with ⟨hr9, g1⟩ | ⟨hr9, g1⟩
  · subst hr9
    refine nr_if_eq (x := 1) (tgt := 40) hx hb (by omega) dX5_size_9 (by decide) (fun h => absurd h (by omega)) (fun _ => ?_)
    refine lv_iload_n hx hb dX5_size_12 rfl (lv_at hl 2 rfl) ?_
    refine lv_i2l (v := (x1).toInt64) hx hb dX5_size_13 rfl ?_
    refine lv_lconst (v := lN 1) hx hb dX5_size_14 (by decide) ?_
    refine lv_ldc2 (v := lN 1000) hx hb hown (hbw _ m_562) dX5_size_15 ?_
    refine ct_Si (wc := ([] : va_W)) (wr := (pM g cI cB th n en le ro sn ar rt oh cn no ot cu lim fa wy lo ch bd)) (As := [.long ((x1).toInt64), .long (lN 1), .long (lN 1000)]) (rest := []) ⟨hx, hb, hml, hown, hbw⟩ (EN_E D _) hEN (kX5_isIn l D cI cG cL cB x1 1 1000 (by omega) (by omega)) (gS 3 hbw m_559 m_560 m_23 m_561 rfl rfl (by decide +kernel) ⟨Nat.le_of_ble_eq_true rfl, Nat.le_of_ble_eq_true rfl⟩) hP hD hS hA [] [0, 1, 2, 3, 4, 5, 6, 7, 8, 9, 10, 11, 12, 13, 14] rfl rfl (by decide) (by decide) (by decide) rfl hl.1 rfl (Nat.le_of_ble_eq_true rfl) dX5_size_18 ⟨Nat.le_of_ble_eq_true rfl, Nat.le_of_ble_eq_true rfl⟩ (fun r_5 w_5 H locs hw hP hD hS => ?_)
    obtain ⟨rfl, hr9⟩ := hw
    have hP := hP.sub (ws' := (pM g cI cB th n en le ro sn ar rt oh cn no ot cu lim fa wy lo ch bd)) [0, 1, 2, 3, 4, 5, 6, 7, 8, 9, 10, 11, 12, 13, 14] rfl
    have hD := hD.sub (ws' := (pM g cI cB th n en le ro sn ar rt oh cn no ot cu lim fa wy lo ch bd)) [0, 1, 2, 3, 4, 5, 6, 7, 8, 9, 10, 11, 12, 13, 14] (by decide) rfl
    rcases hr9 with ⟨hr9, g2⟩ | ⟨hr9, g2⟩
    · subst hr9
      refine nr_if_eq (x := 1) (tgt := 40) hx hb (by omega) dX5_size_21 (by decide) (fun h => absurd h (by omega)) (fun _ => ?_)
      refine lv_iload_n hx hb dX5_size_24 rfl (lv_at hl 3 rfl) ?_
      refine lv_i2l (v := (x2).toInt64) hx hb dX5_size_25 rfl ?_
      refine lv_lconst (v := lN 0) hx hb dX5_size_26 (by decide) ?_
      refine lv_ldc2 (v := lN 1000) hx hb hown (hbw _ m_562) dX5_size_27 ?_
      refine ct_Si (wc := ([] : va_W)) (wr := (pM g cI cB th n en le ro sn ar rt oh cn no ot cu lim fa wy lo ch bd)) (As := [.long ((x2).toInt64), .long (lN 0), .long (lN 1000)]) (rest := []) ⟨hx, hb, hml, hown, hbw⟩ (EN_E D _) hEN (kX5_isIn l D cI cG cL cB x2 0 1000 (by omega) (by omega)) (gS 3 hbw m_559 m_560 m_23 m_561 rfl rfl (by decide +kernel) ⟨Nat.le_of_ble_eq_true rfl, Nat.le_of_ble_eq_true rfl⟩) hP hD hS hA [] [0, 1, 2, 3, 4, 5, 6, 7, 8, 9, 10, 11, 12, 13, 14] rfl rfl (by decide) (by decide) (by decide) rfl hl.1 rfl (Nat.le_of_ble_eq_true rfl) dX5_size_30 ⟨Nat.le_of_ble_eq_true rfl, Nat.le_of_ble_eq_true rfl⟩ (fun r_6 w_6 H locs hw hP hD hS => ?_)
      obtain ⟨rfl, hr9⟩ := hw
      have hP := hP.sub (ws' := (pM g cI cB th n en le ro sn ar rt oh cn no ot cu lim fa wy lo ch bd)) [0, 1, 2, 3, 4, 5, 6, 7, 8, 9, 10, 11, 12, 13, 14] rfl
      have hD := hD.sub (ws' := (pM g cI cB th n en le ro sn ar rt oh cn no ot cu lim fa wy lo ch bd)) [0, 1, 2, 3, 4, 5, 6, 7, 8, 9, 10, 11, 12, 13, 14] (by decide) rfl
      rcases hr9 with ⟨hr9, g3⟩ | ⟨hr9, g3⟩
      · subst hr9
        refine nr_if_eq (x := 1) (tgt := 40) hx hb (by omega) dX5_size_33 (by decide) (fun h => absurd h (by omega)) (fun _ => ?_)
        refine lv_iconst (v := nI 1) hx hb dX5_size_36 (by decide) ?_
        refine lv_goto (tgt := 41) hx hb dX5_size_37 (by decide) ?_
        exact ct1 1 (Or.inl ⟨rfl, g1, g2, g3⟩) _ _ _ hP hD hS (lv_sub hl [0, 1, 2, 3] rfl)
      · subst hr9
        refine nr_if_eq (x := 0) (tgt := 40) hx hb (by omega) dX5_size_33 (by decide) (fun _ => ?_) (fun h => absurd h (by omega))
        refine lv_iconst (v := nI 0) hx hb dX5_size_40 (by decide) ?_
        exact ct1 0 (Or.inr ⟨rfl, fun h => g3 h.2.2⟩) _ _ _ hP hD hS (lv_sub hl [0, 1, 2, 3] rfl)
    · subst hr9
      refine nr_if_eq (x := 0) (tgt := 40) hx hb (by omega) dX5_size_21 (by decide) (fun _ => ?_) (fun h => absurd h (by omega))
      refine lv_iconst (v := nI 0) hx hb dX5_size_40 (by decide) ?_
      exact ct1 0 (Or.inr ⟨rfl, fun h => g2 h.2.1⟩) _ _ _ hP hD hS (lv_sub hl [0, 1, 2, 3] rfl)
  · subst hr9
    refine nr_if_eq (x := 0) (tgt := 40) hx hb (by omega) dX5_size_9 (by decide) (fun _ => ?_) (fun h => absurd h (by omega))
    refine lv_iconst (v := nI 0) hx hb dX5_size_40 (by decide) ?_
    exact ct1 0 (Or.inr ⟨rfl, fun h => g1 h.1⟩) _ _ _ hP hD hS (lv_sub hl [0, 1, 2, 3] rfl)
set_option maxHeartbeats 4000000 in
set_option maxRecDepth 100000 in
/-- settled -/
theorem kX5_settled (l : Launch) (D : va_G) (cI cG cL cB : ClassId) (g : Nat → Nat) (th n : Nat) (en le ro : Nat → Nat) (sn : Nat) (ar rt oh : Nat → Nat) (cn : Nat) (no ot cu : Nat → Nat) (lim : Nat) (fa wy lo ch bd : Nat → Nat) (wc wl : Nat → Nat) (wt : Nat → Nat → Nat) (hok : cw_ok n (fun t => en (2 * t)) (fun t => en (2 * t + 1)) le) (hen : ∀ j, en j < 10) (hl0 : ∀ j, le j ≤ 100) (hno : ∀ j, no j < 10) (hot : ∀ j, ot j < 10) (hne : ∀ c, c < cn → no c ≠ ot c) (hW : ∀ c, c < cn → cw_W n (fun t => en (2 * t)) (fun t => en (2 * t + 1)) le (no c) (ot c) (wc c) (wt c) (wl c)) (hz : okZ sn ar rt oh cn cu wc wl wt) (hy : okY n ro cn wc wt) (hch : ∀ j, ch j < 6) (hlim : lim ≤ 1000000) : ct_i l yX5_settled (.code yX5_settled cX5_settled 1 (some .boolean) :: bw) ({ frames := 6, cells := 0, slots := 0, locals := 135 }) (EN D (tyL cI cG cL cB)) D vwCl (pM g cI cB th n en le ro sn ar rt oh cn no ot cu lim fa wy lo ch bd) [.ref (g 0)] (fun v W => ∃ bb p, v = nI (bN bb) ∧ cs_ans cn sn ar rt oh cu wc wl ro wt lim bb p ∧ (∃ fa' wy' lo' ch' bd', W = (pM g cI cB 0 n en le ro sn ar rt oh cn no ot cu lim fa' wy' lo' ch' bd') ∧ (∀ j, ch' j < 6))) 0 0 := by
  refine ct_ofi (by decide) (Nat.le_of_ble_eq_true rfl) ?_
  intro p e s m below meth cd A H locs av Q ls hx hb hr hml hown hlocks hnm hbw hEN hQ hP hD hS hA hl
  have hown : s.vm.findClass RX5 = some m.cls := hown
  have hK := hEN.1
  have hl : lv_has ls 1 [(0, .ref (g 0))] := hl
  refine lv_aload_n hx hb dX5_settled_0 rfl (lv_at hl 0 rfl) ?_
  refine lv_iconst (v := nI 0) hx hb dX5_settled_1 (by decide) ?_
  refine va_put (ci := 5) (v := .int (nI 0)) (ty := .int) (C := RX5) (T := TX5) (N := 19) hx hb hbw in_X5 tyX5 tyX5_ok nmX5 hown hK hP hD hS 0 rfl rfl 0 (by decide) (hbw _ m_488) (fun _ h9 => h9) rfl (by decide +kernel) rfl rfl (Nat.le_of_ble_eq_true rfl) dX5_settled_2 (fun H locs hP hD hS => ?_)
  have hP : va_P D vwCl (pM g cI cB 0 n en le ro sn ar rt oh cn no ot cu lim fa wy lo ch bd) H := hP
  have hD : va_D A (pM g cI cB 0 n en le ro sn ar rt oh cn no ot cu lim fa wy lo ch bd) := hD
  refine lv_aload_n hx hb dX5_settled_5 rfl (lv_at hl 0 rfl) ?_
  refine ct_Vi (wc := (pM g cI cB 0 n en le ro sn ar rt oh cn no ot cu lim fa wy lo ch bd)) (wr := ([] : va_W)) (As := []) (rest := []) ⟨hx, hb, hml, hown, hbw⟩ (EN_E D _) hEN (kX5_choose l D cI cG cL cB g 0 n en le ro sn ar rt oh cn no ot cu lim fa wy lo ch bd wc wl wt hok hen hl0 hno hot hne hW hz hy hch hlim) (cwV (C := "CableSizesModel") 0 hbw (gV m_617 m_619 m_10 m_23 m_620) rfl rfl rfl (by decide +kernel) ⟨Nat.le_of_ble_eq_true rfl, Nat.le_of_ble_eq_true rfl⟩) (va_recv hK hP (ci := 5) (q0 := 0) rfl rfl) hP hD hS hA [0, 1, 2, 3, 4, 5, 6, 7, 8, 9, 10, 11, 12, 13, 14] [] rfl rfl (by decide) (by decide) (by decide) rfl hl.1 rfl (Nat.le_of_ble_eq_true rfl) dX5_settled_6 ⟨Nat.le_of_ble_eq_true rfl, Nat.le_of_ble_eq_true rfl⟩ (fun r_1 w_1 H locs hw hP hD hS => ?_)
  obtain ⟨fa, wy, lo, ch, bd, rfl, he, hch, hres⟩ := hw
  have hP := hP.sub (ws' := (pM g cI cB 0 n en le ro sn ar rt oh cn no ot cu lim fa wy lo ch bd)) [0, 1, 2, 3, 4, 5, 6, 7, 8, 9, 10, 11, 12, 13, 14] rfl
  have hD := hD.sub (ws' := (pM g cI cB 0 n en le ro sn ar rt oh cn no ot cu lim fa wy lo ch bd)) [0, 1, 2, 3, 4, 5, 6, 7, 8, 9, 10, 11, 12, 13, 14] (by decide) rfl
  obtain ⟨bb, hbb, hans⟩ : ∃ bb, r_1 = nI (bN bb) ∧ cs_ans cn sn ar rt oh cu wc wl ro wt lim bb ch := by
    rcases hres with ⟨q1, q2, q3⟩ | ⟨q1, q2⟩
    · exact ⟨true, q1, Or.inl ⟨rfl, q2, q3⟩⟩
    · exact ⟨false, q1, Or.inr ⟨rfl, q2⟩⟩
  subst hbb
  have hb2 : bN bb ≤ 1 := by unfold bN; split <;> omega
  rw [hQ]
  exact ct_zret hx hb hr hlocks hP hD hS dX5_settled_9 (by cases bb; exact Or.inl rfl; exact Or.inr rfl) ⟨bb, ch, rfl, hans, fa, wy, lo, ch, bd, rfl, hch⟩
set_option maxHeartbeats 4000000 in
set_option maxRecDepth 100000 in
/-- chosen -/
theorem kX5_chosen (l : Launch) (D : va_G) (cI cG cL cB : ClassId) (g : Nat → Nat) (th n : Nat) (en le ro : Nat → Nat) (sn : Nat) (ar rt oh : Nat → Nat) (cn : Nat) (no ot cu : Nat → Nat) (lim : Nat) (fa wy lo ch bd : Nat → Nat) (wc wl : Nat → Nat) (wt : Nat → Nat → Nat) (x0 : Int32) (hok : cw_ok n (fun t => en (2 * t)) (fun t => en (2 * t + 1)) le) (hen : ∀ j, en j < 10) (hl0 : ∀ j, le j ≤ 100) (hno : ∀ j, no j < 10) (hot : ∀ j, ot j < 10) (hne : ∀ c, c < cn → no c ≠ ot c) (hW : ∀ c, c < cn → cw_W n (fun t => en (2 * t)) (fun t => en (2 * t + 1)) le (no c) (ot c) (wc c) (wt c) (wl c)) (hz : okZ sn ar rt oh cn cu wc wl wt) (hy : okY n ro cn wc wt) (hch : ∀ j, ch j < 6) (hlim : lim ≤ 1000000) : ct_i l yX5_chosen (.code yX5_chosen cX5_chosen 2 (some .int) :: bw) ({ frames := 6, cells := 0, slots := 0, locals := 135 }) (EN D (tyL cI cG cL cB)) D vwCl (pM g cI cB th n en le ro sn ar rt oh cn no ot cu lim fa wy lo ch bd) [.ref (g 0), .int x0] (fun v W => ((¬ ∃ k, k < cn ∧ x0 = nI k) ∧ (∃ fa' wy' lo' ch' bd', W = (pM g cI cB 1 n en le ro sn ar rt oh cn no ot cu lim fa' wy' lo' ch' bd') ∧ (∀ j, ch' j < 6))) ∨ (∃ k, (k < cn ∧ x0 = nI k) ∧ (∃ bb p, v = (if bb = true then nI (p k) else -1) ∧ cs_ans cn sn ar rt oh cu wc wl ro wt lim bb p) ∧ (∃ fa' wy' lo' ch' bd', W = (pM g cI cB 0 n en le ro sn ar rt oh cn no ot cu lim fa' wy' lo' ch' bd') ∧ (∀ j, ch' j < 6)))) 0 0 := by
  refine ct_ofi (by decide) (Nat.le_of_ble_eq_true rfl) ?_
  intro p e s m below meth cd A H locs av Q ls hx hb hr hml hown hlocks hnm hbw hEN hQ hP hD hS hA hl
  have hown : s.vm.findClass RX5 = some m.cls := hown
  have hK := hEN.1
  have hl : lv_has ls 2 [(0, .ref (g 0)), (1, .int x0)] := hl
  obtain ⟨hsn, har, hrt, hoh, hcn, hcu, hwc, hwl, hwt⟩ := id hz
  obtain ⟨hn, hro, hro1, hway, hnd⟩ := id hy
  refine lv_aload_n hx hb dX5_chosen_0 rfl (lv_at hl 0 rfl) ?_
  refine lv_aload_n hx hb dX5_chosen_1 rfl (lv_at hl 0 rfl) ?_
  refine lv_iload_n hx hb dX5_chosen_2 rfl (lv_at hl 1 rfl) ?_
  refine ct_Vi (wc := (pM g cI cB th n en le ro sn ar rt oh cn no ot cu lim fa wy lo ch bd)) (wr := ([] : va_W)) (As := [.int x0]) (rest := [.ref (g 0)]) ⟨hx, hb, hml, hown, hbw⟩ (EN_E D _) hEN (kX5_noCable l D cI cG cL cB g th n en le ro sn ar rt oh cn no ot cu lim fa wy lo ch bd x0 (by omega)) (cwV (C := "CableSizesModel") 1 hbw (gV m_575 m_577 m_5 m_23 m_578) rfl rfl rfl (by decide +kernel) ⟨Nat.le_of_ble_eq_true rfl, Nat.le_of_ble_eq_true rfl⟩) (va_recv hK hP (ci := 5) (q0 := 0) rfl rfl) hP hD hS hA [0, 1, 2, 3, 4, 5, 6, 7, 8, 9, 10, 11, 12, 13, 14] [] rfl rfl (by decide) (by decide) (by decide) rfl hl.1 rfl (Nat.le_of_ble_eq_true rfl) dX5_chosen_3 ⟨Nat.le_of_ble_eq_true rfl, Nat.le_of_ble_eq_true rfl⟩ (fun r_1 w_1 H locs hw hP hD hS => ?_)
  obtain ⟨rfl, hr9⟩ := hw
  have hP := hP.sub (ws' := (pM g cI cB th n en le ro sn ar rt oh cn no ot cu lim fa wy lo ch bd)) [0, 1, 2, 3, 4, 5, 6, 7, 8, 9, 10, 11, 12, 13, 14] rfl
  have hD := hD.sub (ws' := (pM g cI cB th n en le ro sn ar rt oh cn no ot cu lim fa wy lo ch bd)) [0, 1, 2, 3, 4, 5, 6, 7, 8, 9, 10, 11, 12, 13, 14] (by decide) rfl
  rcases hr9 with ⟨hr9, g1⟩ | ⟨hr9, g1⟩
  · subst hr9
    refine nr_if_eq (x := 1) (tgt := 13) hx hb (by omega) dX5_chosen_6 (by decide) (fun h => absurd h (by omega)) (fun _ => ?_)
    refine lv_iconst (v := nI 1) hx hb dX5_chosen_9 (by decide) ?_
    refine lv_goto (tgt := 14) hx hb dX5_chosen_10 (by decide) ?_
    refine va_put (ci := 5) (v := .int (nI 1)) (ty := .int) (C := RX5) (T := TX5) (N := 19) hx hb hbw in_X5 tyX5 tyX5_ok nmX5 hown hK hP hD hS 0 rfl rfl 0 (by decide) (hbw _ m_488) (fun _ h9 => h9) rfl (by decide +kernel) rfl rfl (Nat.le_of_ble_eq_true rfl) dX5_chosen_14 (fun H locs hP hD hS => ?_)
    have hP : va_P D vwCl (pM g cI cB 1 n en le ro sn ar rt oh cn no ot cu lim fa wy lo ch bd) H := hP
    have hD : va_D A (pM g cI cB 1 n en le ro sn ar rt oh cn no ot cu lim fa wy lo ch bd) := hD
    refine lv_aload_n hx hb dX5_chosen_17 rfl (lv_at hl 0 rfl) ?_
    refine va_get (ci := 5) (v := .int (nI 1)) (C := RX5) (T := TX5) (N := 19) hx hb hbw in_X5 hown hK hP 0 rfl rfl 0 (by decide) (hbw _ m_488) (fun _ h9 => h9) rfl dX5_chosen_18 ?_
    refine lv_if_le (tgt := 28) hx hb dX5_chosen_21 (by decide) (fun h => absurd h (by decide)) (fun _ => ?_)
    refine lv_iconst (v := nI 0) hx hb dX5_chosen_24 (by decide) ?_
    refine lv_goto (tgt := 45) hx hb dX5_chosen_25 (by decide) ?_
    rw [hQ]
    exact ct_iret hx hb hr hlocks hP hD hS dX5_chosen_45 (Or.inl ⟨g1, fa, wy, lo, ch, bd, rfl, hch⟩)
  · subst hr9
    refine nr_if_eq (x := 0) (tgt := 13) hx hb (by omega) dX5_chosen_6 (by decide) (fun _ => ?_) (fun h => absurd h (by omega))
    obtain ⟨k, hk, rfl⟩ := g1
    refine lv_iconst (v := nI 0) hx hb dX5_chosen_13 (by decide) ?_
    refine va_put (ci := 5) (v := .int (nI 0)) (ty := .int) (C := RX5) (T := TX5) (N := 19) hx hb hbw in_X5 tyX5 tyX5_ok nmX5 hown hK hP hD hS 0 rfl rfl 0 (by decide) (hbw _ m_488) (fun _ h9 => h9) rfl (by decide +kernel) rfl rfl (Nat.le_of_ble_eq_true rfl) dX5_chosen_14 (fun H locs hP hD hS => ?_)
    have hP : va_P D vwCl (pM g cI cB 0 n en le ro sn ar rt oh cn no ot cu lim fa wy lo ch bd) H := hP
    have hD : va_D A (pM g cI cB 0 n en le ro sn ar rt oh cn no ot cu lim fa wy lo ch bd) := hD
    refine lv_aload_n hx hb dX5_chosen_17 rfl (lv_at hl 0 rfl) ?_
    refine va_get (ci := 5) (v := .int (nI 0)) (C := RX5) (T := TX5) (N := 19) hx hb hbw in_X5 hown hK hP 0 rfl rfl 0 (by decide) (hbw _ m_488) (fun _ h9 => h9) rfl dX5_chosen_18 ?_
    refine lv_if_le (tgt := 28) hx hb dX5_chosen_21 (by decide) (fun _ => ?_) (fun h => absurd h (by decide))
    refine lv_aload_n hx hb dX5_chosen_28 rfl (lv_at hl 0 rfl) ?_
    refine ct_Vi (wc := (pM g cI cB 0 n en le ro sn ar rt oh cn no ot cu lim fa wy lo ch bd)) (wr := ([] : va_W)) (As := []) (rest := []) ⟨hx, hb, hml, hown, hbw⟩ (EN_E D _) hEN (kX5_choose l D cI cG cL cB g 0 n en le ro sn ar rt oh cn no ot cu lim fa wy lo ch bd wc wl wt hok hen hl0 hno hot hne hW hz hy hch hlim) (cwV (C := "CableSizesModel") 0 hbw (gV m_617 m_619 m_10 m_23 m_620) rfl rfl rfl (by decide +kernel) ⟨Nat.le_of_ble_eq_true rfl, Nat.le_of_ble_eq_true rfl⟩) (va_recv hK hP (ci := 5) (q0 := 0) rfl rfl) hP hD hS hA [0, 1, 2, 3, 4, 5, 6, 7, 8, 9, 10, 11, 12, 13, 14] [] rfl rfl (by decide) (by decide) (by decide) rfl hl.1 rfl (Nat.le_of_ble_eq_true rfl) dX5_chosen_29 ⟨Nat.le_of_ble_eq_true rfl, Nat.le_of_ble_eq_true rfl⟩ (fun r_2 w_2 H locs hw hP hD hS => ?_)
    obtain ⟨fa, wy, lo, ch, bd, rfl, he, hch, hres⟩ := hw
    have hP := hP.sub (ws' := (pM g cI cB 0 n en le ro sn ar rt oh cn no ot cu lim fa wy lo ch bd)) [0, 1, 2, 3, 4, 5, 6, 7, 8, 9, 10, 11, 12, 13, 14] rfl
    have hD := hD.sub (ws' := (pM g cI cB 0 n en le ro sn ar rt oh cn no ot cu lim fa wy lo ch bd)) [0, 1, 2, 3, 4, 5, 6, 7, 8, 9, 10, 11, 12, 13, 14] (by decide) rfl
    obtain ⟨bb, hbb, hans⟩ : ∃ bb, r_2 = nI (bN bb) ∧ cs_ans cn sn ar rt oh cu wc wl ro wt lim bb ch := by
      rcases hres with ⟨q1, q2, q3⟩ | ⟨q1, q2⟩
      · exact ⟨true, q1, Or.inl ⟨rfl, q2, q3⟩⟩
      · exact ⟨false, q1, Or.inr ⟨rfl, q2⟩⟩
    subst hbb
    have hb2 : bN bb ≤ 1 := by unfold bN; split <;> omega
    refine nr_if_eq (x := bN bb) (tgt := 44) hx hb (by omega) dX5_chosen_32 (by decide) (fun h1 => ?_) (fun h1 => ?_)
    · have eb := bN_f h1
      refine lv_iconst (v := (-1)) hx hb dX5_chosen_44 (by decide) ?_
      rw [hQ]
      exact ct_iret hx hb hr hlocks hP hD hS dX5_chosen_45 (Or.inr ⟨k, ⟨hk, rfl⟩, ⟨bb, ch, by rw [eb]; rfl, hans⟩, fa, wy, lo, ch, bd, rfl, hch⟩)
    · have eb := bN_t h1
      refine lv_aload_n hx hb dX5_chosen_35 rfl (lv_at hl 0 rfl) ?_
      refine va_get (ci := 5) (v := .ref (g 13)) (C := RX5) (T := TX5) (N := 19) hx hb hbw in_X5 hown hK hP 0 rfl rfl 17 (by decide) (hbw _ m_505) (fun _ h9 => h9) rfl dX5_chosen_36 ?_
      refine lv_iload_n hx hb dX5_chosen_39 rfl (lv_at hl 1 rfl) ?_
      refine nr_iald hx hb hK hP 13 0 rfl rfl (k := k) (by omega) (by omega) dX5_chosen_40 ?_
      have b_3 := hch k
      refine lv_goto (tgt := 45) hx hb dX5_chosen_41 (by decide) ?_
      rw [hQ]
      exact ct_iret hx hb hr hlocks hP hD hS dX5_chosen_45 (Or.inr ⟨k, ⟨hk, rfl⟩, ⟨bb, ch, by rw [eb]; rfl, hans⟩, fa, wy, lo, ch, bd, rfl, hch⟩)
set_option maxHeartbeats 4000000 in
set_option maxRecDepth 100000 in
/-- cableAt -/
theorem kX5_cableAt (l : Launch) (D : va_G) (cI cG cL cB : ClassId) (g : Nat → Nat) (th n : Nat) (en le ro : Nat → Nat) (sn : Nat) (ar rt oh : Nat → Nat) (cn : Nat) (no ot cu : Nat → Nat) (lim : Nat) (fa wy lo ch bd : Nat → Nat) (wc wl : Nat → Nat) (wt : Nat → Nat → Nat) (x0 x1 : Int32) (hok : cw_ok n (fun t => en (2 * t)) (fun t => en (2 * t + 1)) le) (hen : ∀ j, en j < 10) (hl0 : ∀ j, le j ≤ 100) (hno : ∀ j, no j < 10) (hot : ∀ j, ot j < 10) (hne : ∀ c, c < cn → no c ≠ ot c) (hW : ∀ c, c < cn → cw_W n (fun t => en (2 * t)) (fun t => en (2 * t + 1)) le (no c) (ot c) (wc c) (wt c) (wl c)) (hz : okZ sn ar rt oh cn cu wc wl wt) (hy : okY n ro cn wc wt) (hch : ∀ j, ch j < 6) (hlim : lim ≤ 1000000) : ct_i l yX5_cableAt (.code yX5_cableAt cX5_cableAt 3 (some .int) :: bw) ({ frames := 6, cells := 0, slots := 0, locals := 135 }) (EN D (tyL cI cG cL cB)) D vwCl (pM g cI cB th n en le ro sn ar rt oh cn no ot cu lim fa wy lo ch bd) [.ref (g 0), .int x0, .int x1] (fun v W => (¬ ((∃ k, k < cn ∧ x0 = nI k) ∧ inB x1 0 1) ∧ (∃ fa' wy' lo' ch' bd', W = (pM g cI cB 1 n en le ro sn ar rt oh cn no ot cu lim fa' wy' lo' ch' bd') ∧ (∀ j, ch' j < 6))) ∨ (∃ k j, (k < cn ∧ x0 = nI k ∧ x1 = nI j ∧ j ≤ 1) ∧ (∃ bb p, v = (if bb = true then (if j = 0 then nI (cz_drop oh cu wl p k) else nI (cy_carry rt wc p (cz_fill cn ar wc ro wt p) wt k)) else -1) ∧ cs_ans cn sn ar rt oh cu wc wl ro wt lim bb p) ∧ (∃ fa' wy' lo' ch' bd', W = (pM g cI cB 0 n en le ro sn ar rt oh cn no ot cu lim fa' wy' lo' ch' bd') ∧ (∀ j, ch' j < 6)))) 0 0 := by
  refine ct_ofi (by decide) (Nat.le_of_ble_eq_true rfl) ?_
  intro p e s m below meth cd A H locs av Q ls hx hb hr hml hown hlocks hnm hbw hEN hQ hP hD hS hA hl
  have hown : s.vm.findClass RX5 = some m.cls := hown
  have hK := hEN.1
  have hl : lv_has ls 3 [(0, .ref (g 0)), (1, .int x0), (2, .int x1)] := hl
  obtain ⟨hsn, har, hrt, hoh, hcn, hcu, hwc, hwl, hwt⟩ := id hz
  obtain ⟨hn, hro, hro1, hway, hnd⟩ := id hy
  refine lv_aload_n hx hb dX5_cableAt_0 rfl (lv_at hl 0 rfl) ?_
  refine lv_aload_n hx hb dX5_cableAt_1 rfl (lv_at hl 0 rfl) ?_
  refine lv_iload_n hx hb dX5_cableAt_2 rfl (lv_at hl 1 rfl) ?_
  refine ct_Vi (wc := (pM g cI cB th n en le ro sn ar rt oh cn no ot cu lim fa wy lo ch bd)) (wr := ([] : va_W)) (As := [.int x0]) (rest := [.ref (g 0)]) ⟨hx, hb, hml, hown, hbw⟩ (EN_E D _) hEN (kX5_noCable l D cI cG cL cB g th n en le ro sn ar rt oh cn no ot cu lim fa wy lo ch bd x0 (by omega)) (cwV (C := "CableSizesModel") 1 hbw (gV m_575 m_577 m_5 m_23 m_578) rfl rfl rfl (by decide +kernel) ⟨Nat.le_of_ble_eq_true rfl, Nat.le_of_ble_eq_true rfl⟩) (va_recv hK hP (ci := 5) (q0 := 0) rfl rfl) hP hD hS hA [0, 1, 2, 3, 4, 5, 6, 7, 8, 9, 10, 11, 12, 13, 14] [] rfl rfl (by decide) (by decide) (by decide) rfl hl.1 rfl (Nat.le_of_ble_eq_true rfl) dX5_cableAt_3 ⟨Nat.le_of_ble_eq_true rfl, Nat.le_of_ble_eq_true rfl⟩ (fun r_1 w_1 H locs hw hP hD hS => ?_)
  obtain ⟨rfl, hr9⟩ := hw
  have hP := hP.sub (ws' := (pM g cI cB th n en le ro sn ar rt oh cn no ot cu lim fa wy lo ch bd)) [0, 1, 2, 3, 4, 5, 6, 7, 8, 9, 10, 11, 12, 13, 14] rfl
  have hD := hD.sub (ws' := (pM g cI cB th n en le ro sn ar rt oh cn no ot cu lim fa wy lo ch bd)) [0, 1, 2, 3, 4, 5, 6, 7, 8, 9, 10, 11, 12, 13, 14] (by decide) rfl
  rcases hr9 with ⟨hr9, g1⟩ | ⟨hr9, g1⟩
  · subst hr9
    refine nr_if_ne (x := 1) (tgt := 19) hx hb (by omega) dX5_cableAt_6 (by decide) (fun _ => ?_) (fun h => absurd h (by omega))
    refine lv_iconst (v := nI 1) hx hb dX5_cableAt_19 (by decide) ?_
    refine lv_goto (tgt := 24) hx hb dX5_cableAt_20 (by decide) ?_
    refine va_put (ci := 5) (v := .int (nI 1)) (ty := .int) (C := RX5) (T := TX5) (N := 19) hx hb hbw in_X5 tyX5 tyX5_ok nmX5 hown hK hP hD hS 0 rfl rfl 0 (by decide) (hbw _ m_488) (fun _ h9 => h9) rfl (by decide +kernel) rfl rfl (Nat.le_of_ble_eq_true rfl) dX5_cableAt_24 (fun H locs hP hD hS => ?_)
    have hP : va_P D vwCl (pM g cI cB 1 n en le ro sn ar rt oh cn no ot cu lim fa wy lo ch bd) H := hP
    have hD : va_D A (pM g cI cB 1 n en le ro sn ar rt oh cn no ot cu lim fa wy lo ch bd) := hD
    refine lv_aload_n hx hb dX5_cableAt_27 rfl (lv_at hl 0 rfl) ?_
    refine va_get (ci := 5) (v := .int (nI 1)) (C := RX5) (T := TX5) (N := 19) hx hb hbw in_X5 hown hK hP 0 rfl rfl 0 (by decide) (hbw _ m_488) (fun _ h9 => h9) rfl dX5_cableAt_28 ?_
    refine lv_if_le (tgt := 36) hx hb dX5_cableAt_31 (by decide) (fun h => absurd h (by decide)) (fun _ => ?_)
    refine lv_iconst (v := nI 0) hx hb dX5_cableAt_34 (by decide) ?_
    rw [hQ]
    exact ct_iret hx hb hr hlocks hP hD hS dX5_cableAt_35 (Or.inl ⟨fun h => g1 h.1, fa, wy, lo, ch, bd, rfl, hch⟩)
  · subst hr9
    refine nr_if_ne (x := 0) (tgt := 19) hx hb (by omega) dX5_cableAt_6 (by decide) (fun h => absurd h (by omega)) (fun _ => ?_)
    refine lv_iload_n hx hb dX5_cableAt_9 rfl (lv_at hl 2 rfl) ?_
    refine lv_i2l (v := (x1).toInt64) hx hb dX5_cableAt_10 rfl ?_
    refine lv_lconst (v := lN 0) hx hb dX5_cableAt_11 (by decide) ?_
    refine lv_lconst (v := lN 1) hx hb dX5_cableAt_12 (by decide) ?_
    refine ct_Si (wc := ([] : va_W)) (wr := (pM g cI cB th n en le ro sn ar rt oh cn no ot cu lim fa wy lo ch bd)) (As := [.long ((x1).toInt64), .long (lN 0), .long (lN 1)]) (rest := [.ref (g 0)]) ⟨hx, hb, hml, hown, hbw⟩ (EN_E D _) hEN (kX5_isIn l D cI cG cL cB x1 0 1 (by omega) (by omega)) (gS 3 hbw m_559 m_560 m_23 m_561 rfl rfl (by decide +kernel) ⟨Nat.le_of_ble_eq_true rfl, Nat.le_of_ble_eq_true rfl⟩) hP hD hS hA [] [0, 1, 2, 3, 4, 5, 6, 7, 8, 9, 10, 11, 12, 13, 14] rfl rfl (by decide) (by decide) (by decide) rfl hl.1 rfl (Nat.le_of_ble_eq_true rfl) dX5_cableAt_13 ⟨Nat.le_of_ble_eq_true rfl, Nat.le_of_ble_eq_true rfl⟩ (fun r_2 w_2 H locs hw hP hD hS => ?_)
    obtain ⟨rfl, hr9⟩ := hw
    have hP := hP.sub (ws' := (pM g cI cB th n en le ro sn ar rt oh cn no ot cu lim fa wy lo ch bd)) [0, 1, 2, 3, 4, 5, 6, 7, 8, 9, 10, 11, 12, 13, 14] rfl
    have hD := hD.sub (ws' := (pM g cI cB th n en le ro sn ar rt oh cn no ot cu lim fa wy lo ch bd)) [0, 1, 2, 3, 4, 5, 6, 7, 8, 9, 10, 11, 12, 13, 14] (by decide) rfl
    rcases hr9 with ⟨hr9, g2⟩ | ⟨hr9, g2⟩
    · subst hr9
      refine nr_if_ne (x := 1) (tgt := 23) hx hb (by omega) dX5_cableAt_16 (by decide) (fun _ => ?_) (fun h => absurd h (by omega))
      obtain ⟨k, hk, rfl⟩ := g1
      obtain ⟨j, rfl, -, hj⟩ := g2
      refine lv_iconst (v := nI 0) hx hb dX5_cableAt_23 (by decide) ?_
      refine va_put (ci := 5) (v := .int (nI 0)) (ty := .int) (C := RX5) (T := TX5) (N := 19) hx hb hbw in_X5 tyX5 tyX5_ok nmX5 hown hK hP hD hS 0 rfl rfl 0 (by decide) (hbw _ m_488) (fun _ h9 => h9) rfl (by decide +kernel) rfl rfl (Nat.le_of_ble_eq_true rfl) dX5_cableAt_24 (fun H locs hP hD hS => ?_)
      have hP : va_P D vwCl (pM g cI cB 0 n en le ro sn ar rt oh cn no ot cu lim fa wy lo ch bd) H := hP
      have hD : va_D A (pM g cI cB 0 n en le ro sn ar rt oh cn no ot cu lim fa wy lo ch bd) := hD
      refine lv_aload_n hx hb dX5_cableAt_27 rfl (lv_at hl 0 rfl) ?_
      refine va_get (ci := 5) (v := .int (nI 0)) (C := RX5) (T := TX5) (N := 19) hx hb hbw in_X5 hown hK hP 0 rfl rfl 0 (by decide) (hbw _ m_488) (fun _ h9 => h9) rfl dX5_cableAt_28 ?_
      refine lv_if_le (tgt := 36) hx hb dX5_cableAt_31 (by decide) (fun _ => ?_) (fun h => absurd h (by decide))
      refine lv_aload_n hx hb dX5_cableAt_36 rfl (lv_at hl 0 rfl) ?_
      refine ct_Vi (wc := (pM g cI cB 0 n en le ro sn ar rt oh cn no ot cu lim fa wy lo ch bd)) (wr := ([] : va_W)) (As := []) (rest := []) ⟨hx, hb, hml, hown, hbw⟩ (EN_E D _) hEN (kX5_choose l D cI cG cL cB g 0 n en le ro sn ar rt oh cn no ot cu lim fa wy lo ch bd wc wl wt hok hen hl0 hno hot hne hW hz hy hch hlim) (cwV (C := "CableSizesModel") 0 hbw (gV m_617 m_619 m_10 m_23 m_620) rfl rfl rfl (by decide +kernel) ⟨Nat.le_of_ble_eq_true rfl, Nat.le_of_ble_eq_true rfl⟩) (va_recv hK hP (ci := 5) (q0 := 0) rfl rfl) hP hD hS hA [0, 1, 2, 3, 4, 5, 6, 7, 8, 9, 10, 11, 12, 13, 14] [] rfl rfl (by decide) (by decide) (by decide) rfl hl.1 rfl (Nat.le_of_ble_eq_true rfl) dX5_cableAt_37 ⟨Nat.le_of_ble_eq_true rfl, Nat.le_of_ble_eq_true rfl⟩ (fun r_3 w_3 H locs hw hP hD hS => ?_)
      obtain ⟨fa, wy, lo, ch, bd, rfl, he, hch, hres⟩ := hw
      have hP := hP.sub (ws' := (pM g cI cB 0 n en le ro sn ar rt oh cn no ot cu lim fa wy lo ch bd)) [0, 1, 2, 3, 4, 5, 6, 7, 8, 9, 10, 11, 12, 13, 14] rfl
      have hD := hD.sub (ws' := (pM g cI cB 0 n en le ro sn ar rt oh cn no ot cu lim fa wy lo ch bd)) [0, 1, 2, 3, 4, 5, 6, 7, 8, 9, 10, 11, 12, 13, 14] (by decide) rfl
      obtain ⟨bb, hbb, hans⟩ : ∃ bb, r_3 = nI (bN bb) ∧ cs_ans cn sn ar rt oh cu wc wl ro wt lim bb ch := by
        rcases hres with ⟨q1, q2, q3⟩ | ⟨q1, q2⟩
        · exact ⟨true, q1, Or.inl ⟨rfl, q2, q3⟩⟩
        · exact ⟨false, q1, Or.inr ⟨rfl, q2⟩⟩
      subst hbb
      have hb2 : bN bb ≤ 1 := by unfold bN; split <;> omega
      refine nr_if_ne (x := bN bb) (tgt := 47) hx hb (by omega) dX5_cableAt_40 (by decide) (fun h1 => ?_) (fun h1 => ?_)
      · have eb := bN_t h1
        refine lv_iload_n hx hb dX5_cableAt_47 rfl (lv_at hl 2 rfl) ?_
        refine nr_if_ne (x := j) (tgt := 59) hx hb (by omega) dX5_cableAt_48 (by decide) (fun h2 => ?_) (fun h2 => ?_)
        · refine lv_aload_n hx hb dX5_cableAt_59 rfl (lv_at hl 0 rfl) ?_
          refine lv_iload_n hx hb dX5_cableAt_60 rfl (lv_at hl 1 rfl) ?_
          refine ct_Vi (wc := (pM g cI cB 0 n en le ro sn ar rt oh cn no ot cu lim fa wy lo ch bd)) (wr := ([] : va_W)) (As := [.int (nI k)]) (rest := []) ⟨hx, hb, hml, hown, hbw⟩ (EN_E D _) hEN (kX5_carries l D cI cG cL cB g 0 n en le ro sn ar rt oh cn no ot cu lim fa wy lo ch bd wc wl wt k hk hz hy hch hlim he) (cwV (C := "CableSizesModel") 1 hbw (gV m_625 m_627 m_12 m_23 m_628) rfl rfl rfl (by decide +kernel) ⟨Nat.le_of_ble_eq_true rfl, Nat.le_of_ble_eq_true rfl⟩) (va_recv hK hP (ci := 5) (q0 := 0) rfl rfl) hP hD hS hA [0, 1, 2, 3, 4, 5, 6, 7, 8, 9, 10, 11, 12, 13, 14] [] rfl rfl (by decide) (by decide) (by decide) rfl hl.1 rfl (Nat.le_of_ble_eq_true rfl) dX5_cableAt_61 ⟨Nat.le_of_ble_eq_true rfl, Nat.le_of_ble_eq_true rfl⟩ (fun r_4 w_4 H locs hw hP hD hS => ?_)
          obtain ⟨rfl, rfl⟩ := hw
          have hP := hP.sub (ws' := (pM g cI cB 0 n en le ro sn ar rt oh cn no ot cu lim fa wy lo ch bd)) [0, 1, 2, 3, 4, 5, 6, 7, 8, 9, 10, 11, 12, 13, 14] rfl
          have hD := hD.sub (ws' := (pM g cI cB 0 n en le ro sn ar rt oh cn no ot cu lim fa wy lo ch bd)) [0, 1, 2, 3, 4, 5, 6, 7, 8, 9, 10, 11, 12, 13, 14] (by decide) rfl
          rw [hQ]
          exact ct_iret hx hb hr hlocks hP hD hS dX5_cableAt_64 (Or.inr ⟨k, j, ⟨hk, rfl, rfl, hj⟩, ⟨bb, ch, by rw [if_pos eb, if_neg (by omega)], hans⟩, fa, wy, lo, ch, bd, rfl, hch⟩)
        · refine lv_aload_n hx hb dX5_cableAt_51 rfl (lv_at hl 0 rfl) ?_
          refine lv_iload_n hx hb dX5_cableAt_52 rfl (lv_at hl 1 rfl) ?_
          refine ct_Vi (wc := (pM g cI cB 0 n en le ro sn ar rt oh cn no ot cu lim fa wy lo ch bd)) (wr := ([] : va_W)) (As := [.int (nI k)]) (rest := []) ⟨hx, hb, hml, hown, hbw⟩ (EN_E D _) hEN (kX5_drop l D cI cG cL cB g 0 n en le ro sn ar rt oh cn no ot cu lim fa wy lo ch bd wc wl wt k hk hz hy hch hlim he) (cwV (C := "CableSizesModel") 1 hbw (gV m_641 m_643 m_16 m_23 m_644) rfl rfl rfl (by decide +kernel) ⟨Nat.le_of_ble_eq_true rfl, Nat.le_of_ble_eq_true rfl⟩) (va_recv hK hP (ci := 5) (q0 := 0) rfl rfl) hP hD hS hA [0, 1, 2, 3, 4, 5, 6, 7, 8, 9, 10, 11, 12, 13, 14] [] rfl rfl (by decide) (by decide) (by decide) rfl hl.1 rfl (Nat.le_of_ble_eq_true rfl) dX5_cableAt_53 ⟨Nat.le_of_ble_eq_true rfl, Nat.le_of_ble_eq_true rfl⟩ (fun r_5 w_5 H locs hw hP hD hS => ?_)
          obtain ⟨rfl, rfl⟩ := hw
          have hP := hP.sub (ws' := (pM g cI cB 0 n en le ro sn ar rt oh cn no ot cu lim fa wy lo ch bd)) [0, 1, 2, 3, 4, 5, 6, 7, 8, 9, 10, 11, 12, 13, 14] rfl
          have hD := hD.sub (ws' := (pM g cI cB 0 n en le ro sn ar rt oh cn no ot cu lim fa wy lo ch bd)) [0, 1, 2, 3, 4, 5, 6, 7, 8, 9, 10, 11, 12, 13, 14] (by decide) rfl
          refine lv_goto (tgt := 64) hx hb dX5_cableAt_56 (by decide) ?_
          rw [hQ]
          exact ct_iret hx hb hr hlocks hP hD hS dX5_cableAt_64 (Or.inr ⟨k, j, ⟨hk, rfl, rfl, hj⟩, ⟨bb, ch, by rw [if_pos eb, if_pos h2], hans⟩, fa, wy, lo, ch, bd, rfl, hch⟩)
      · have eb := bN_f h1
        refine lv_iconst (v := (-1)) hx hb dX5_cableAt_43 (by decide) ?_
        refine lv_goto (tgt := 64) hx hb dX5_cableAt_44 (by decide) ?_
        rw [hQ]
        exact ct_iret hx hb hr hlocks hP hD hS dX5_cableAt_64 (Or.inr ⟨k, j, ⟨hk, rfl, rfl, hj⟩, ⟨bb, ch, by rw [eb]; rfl, hans⟩, fa, wy, lo, ch, bd, rfl, hch⟩)
    · subst hr9
      refine nr_if_ne (x := 0) (tgt := 23) hx hb (by omega) dX5_cableAt_16 (by decide) (fun h => absurd h (by omega)) (fun _ => ?_)
      refine lv_iconst (v := nI 1) hx hb dX5_cableAt_19 (by decide) ?_
      refine lv_goto (tgt := 24) hx hb dX5_cableAt_20 (by decide) ?_
      refine va_put (ci := 5) (v := .int (nI 1)) (ty := .int) (C := RX5) (T := TX5) (N := 19) hx hb hbw in_X5 tyX5 tyX5_ok nmX5 hown hK hP hD hS 0 rfl rfl 0 (by decide) (hbw _ m_488) (fun _ h9 => h9) rfl (by decide +kernel) rfl rfl (Nat.le_of_ble_eq_true rfl) dX5_cableAt_24 (fun H locs hP hD hS => ?_)
      have hP : va_P D vwCl (pM g cI cB 1 n en le ro sn ar rt oh cn no ot cu lim fa wy lo ch bd) H := hP
      have hD : va_D A (pM g cI cB 1 n en le ro sn ar rt oh cn no ot cu lim fa wy lo ch bd) := hD
      refine lv_aload_n hx hb dX5_cableAt_27 rfl (lv_at hl 0 rfl) ?_
      refine va_get (ci := 5) (v := .int (nI 1)) (C := RX5) (T := TX5) (N := 19) hx hb hbw in_X5 hown hK hP 0 rfl rfl 0 (by decide) (hbw _ m_488) (fun _ h9 => h9) rfl dX5_cableAt_28 ?_
      refine lv_if_le (tgt := 36) hx hb dX5_cableAt_31 (by decide) (fun h => absurd h (by decide)) (fun _ => ?_)
      refine lv_iconst (v := nI 0) hx hb dX5_cableAt_34 (by decide) ?_
      rw [hQ]
      exact ct_iret hx hb hr hlocks hP hD hS dX5_cableAt_35 (Or.inl ⟨fun h => g2 h.2, fa, wy, lo, ch, bd, rfl, hch⟩)
set_option maxHeartbeats 4000000 in
set_option maxRecDepth 100000 in
/-- told -/
theorem kX5_told (l : Launch) (D : va_G) (cI cG cL cB : ClassId) (g : Nat → Nat) (th n : Nat) (en le ro : Nat → Nat) (sn : Nat) (ar rt oh : Nat → Nat) (cn : Nat) (no ot cu : Nat → Nat) (lim : Nat) (fa wy lo ch bd : Nat → Nat) (wc wl : Nat → Nat) (wt : Nat → Nat → Nat) (x0 x1 : Int32) (hok : cw_ok n (fun t => en (2 * t)) (fun t => en (2 * t + 1)) le) (hen : ∀ j, en j < 10) (hl0 : ∀ j, le j ≤ 100) (hno : ∀ j, no j < 10) (hot : ∀ j, ot j < 10) (hne : ∀ c, c < cn → no c ≠ ot c) (hW : ∀ c, c < cn → cw_W n (fun t => en (2 * t)) (fun t => en (2 * t + 1)) le (no c) (ot c) (wc c) (wt c) (wl c)) (hz : okZ sn ar rt oh cn cu wc wl wt) (hy : okY n ro cn wc wt) (hch : ∀ j, ch j < 6) (hlim : lim ≤ 1000000) : ct_i l yX5_told (.code yX5_told cX5_told 6 (some .int) :: bw) ({ frames := 6, cells := 0, slots := 0, locals := 135 }) (EN D (tyL cI cG cL cB)) D vwCl (pM g cI cB th n en le ro sn ar rt oh cn no ot cu lim fa wy lo ch bd) [.ref (g 0), .int x0, .int x1] (fun v W => (¬ ((∃ k, k < n ∧ x0 = nI k) ∧ inB x1 0 2) ∧ (∃ fa' wy' lo' ch' bd', W = (pM g cI cB 1 n en le ro sn ar rt oh cn no ot cu lim fa' wy' lo' ch' bd') ∧ (∀ j, ch' j < 6))) ∨ (∃ k j, (k < n ∧ x0 = nI k ∧ x1 = nI j ∧ j ≤ 2) ∧ (∃ bb p, v = (if j = 2 then nI (cz_sum (fun c => cz_occ wc wt c k) cn) else if bb = true then (if j = 0 then nI (cz_fill cn ar wc ro wt p k) else nI (cz_fac (cz_fill cn ar wc ro wt p k))) else -1) ∧ cs_ans cn sn ar rt oh cu wc wl ro wt lim bb p) ∧ (∃ fa' wy' lo' ch' bd', W = (pM g cI cB 0 n en le ro sn ar rt oh cn no ot cu lim fa' wy' lo' ch' bd') ∧ (∀ j, ch' j < 6)))) 0 0 := by
  refine ct_ofi (by decide) (Nat.le_of_ble_eq_true rfl) ?_
  intro p e s m below meth cd A H locs av Q ls hx hb hr hml hown hlocks hnm hbw hEN hQ hP hD hS hA hl
  have hown : s.vm.findClass RX5 = some m.cls := hown
  have hK := hEN.1
  have hl : lv_has ls 6 [(0, .ref (g 0)), (1, .int x0), (2, .int x1)] := hl
  obtain ⟨hsn, har, hrt, hoh, hcn, hcu, hwc, hwl, hwt⟩ := id hz
  obtain ⟨hn, hro, hro1, hway, hnd⟩ := id hy
  refine lv_aload_n hx hb dX5_told_0 rfl (lv_at hl 0 rfl) ?_
  refine lv_aload_n hx hb dX5_told_1 rfl (lv_at hl 0 rfl) ?_
  refine lv_iload_n hx hb dX5_told_2 rfl (lv_at hl 1 rfl) ?_
  refine ct_Vi (wc := (pM g cI cB th n en le ro sn ar rt oh cn no ot cu lim fa wy lo ch bd)) (wr := ([] : va_W)) (As := [.int x0]) (rest := [.ref (g 0)]) ⟨hx, hb, hml, hown, hbw⟩ (EN_E D _) hEN (kX5_noTray l D cI cG cL cB g th n en le ro sn ar rt oh cn no ot cu lim fa wy lo ch bd x0 (by omega)) (cwV (C := "CableSizesModel") 1 hbw (gV m_583 m_585 m_6 m_23 m_586) rfl rfl rfl (by decide +kernel) ⟨Nat.le_of_ble_eq_true rfl, Nat.le_of_ble_eq_true rfl⟩) (va_recv hK hP (ci := 5) (q0 := 0) rfl rfl) hP hD hS hA [0, 1, 2, 3, 4, 5, 6, 7, 8, 9, 10, 11, 12, 13, 14] [] rfl rfl (by decide) (by decide) (by decide) rfl hl.1 rfl (Nat.le_of_ble_eq_true rfl) dX5_told_3 ⟨Nat.le_of_ble_eq_true rfl, Nat.le_of_ble_eq_true rfl⟩ (fun r_1 w_1 H locs hw hP hD hS => ?_)
  obtain ⟨rfl, hr9⟩ := hw
  have hP := hP.sub (ws' := (pM g cI cB th n en le ro sn ar rt oh cn no ot cu lim fa wy lo ch bd)) [0, 1, 2, 3, 4, 5, 6, 7, 8, 9, 10, 11, 12, 13, 14] rfl
  have hD := hD.sub (ws' := (pM g cI cB th n en le ro sn ar rt oh cn no ot cu lim fa wy lo ch bd)) [0, 1, 2, 3, 4, 5, 6, 7, 8, 9, 10, 11, 12, 13, 14] (by decide) rfl
  rcases hr9 with ⟨hr9, g1⟩ | ⟨hr9, g1⟩
  · subst hr9
    refine nr_if_ne (x := 1) (tgt := 21) hx hb (by omega) dX5_told_6 (by decide) (fun _ => ?_) (fun h => absurd h (by omega))
    refine lv_iconst (v := nI 1) hx hb dX5_told_21 (by decide) ?_
    refine lv_goto (tgt := 26) hx hb dX5_told_22 (by decide) ?_
    refine va_put (ci := 5) (v := .int (nI 1)) (ty := .int) (C := RX5) (T := TX5) (N := 19) hx hb hbw in_X5 tyX5 tyX5_ok nmX5 hown hK hP hD hS 0 rfl rfl 0 (by decide) (hbw _ m_488) (fun _ h9 => h9) rfl (by decide +kernel) rfl rfl (Nat.le_of_ble_eq_true rfl) dX5_told_26 (fun H locs hP hD hS => ?_)
    have hP : va_P D vwCl (pM g cI cB 1 n en le ro sn ar rt oh cn no ot cu lim fa wy lo ch bd) H := hP
    have hD : va_D A (pM g cI cB 1 n en le ro sn ar rt oh cn no ot cu lim fa wy lo ch bd) := hD
    refine lv_aload_n hx hb dX5_told_29 rfl (lv_at hl 0 rfl) ?_
    refine va_get (ci := 5) (v := .int (nI 1)) (C := RX5) (T := TX5) (N := 19) hx hb hbw in_X5 hown hK hP 0 rfl rfl 0 (by decide) (hbw _ m_488) (fun _ h9 => h9) rfl dX5_told_30 ?_
    refine lv_if_le (tgt := 38) hx hb dX5_told_33 (by decide) (fun h => absurd h (by decide)) (fun _ => ?_)
    refine lv_iconst (v := nI 0) hx hb dX5_told_36 (by decide) ?_
    rw [hQ]
    exact ct_iret hx hb hr hlocks hP hD hS dX5_told_37 (Or.inl ⟨fun h => g1 h.1, fa, wy, lo, ch, bd, rfl, hch⟩)
  · subst hr9
    refine nr_if_ne (x := 0) (tgt := 21) hx hb (by omega) dX5_told_6 (by decide) (fun h => absurd h (by omega)) (fun _ => ?_)
    refine lv_iload_n hx hb dX5_told_9 rfl (lv_at hl 2 rfl) ?_
    refine lv_i2l (v := (x1).toInt64) hx hb dX5_told_10 rfl ?_
    refine lv_lconst (v := lN 0) hx hb dX5_told_11 (by decide) ?_
    refine lv_ldc2 (v := lN 2) hx hb hown (hbw _ m_653) dX5_told_12 ?_
    refine ct_Si (wc := ([] : va_W)) (wr := (pM g cI cB th n en le ro sn ar rt oh cn no ot cu lim fa wy lo ch bd)) (As := [.long ((x1).toInt64), .long (lN 0), .long (lN 2)]) (rest := [.ref (g 0)]) ⟨hx, hb, hml, hown, hbw⟩ (EN_E D _) hEN (kX5_isIn l D cI cG cL cB x1 0 2 (by omega) (by omega)) (gS 3 hbw m_559 m_560 m_23 m_561 rfl rfl (by decide +kernel) ⟨Nat.le_of_ble_eq_true rfl, Nat.le_of_ble_eq_true rfl⟩) hP hD hS hA [] [0, 1, 2, 3, 4, 5, 6, 7, 8, 9, 10, 11, 12, 13, 14] rfl rfl (by decide) (by decide) (by decide) rfl hl.1 rfl (Nat.le_of_ble_eq_true rfl) dX5_told_15 ⟨Nat.le_of_ble_eq_true rfl, Nat.le_of_ble_eq_true rfl⟩ (fun r_2 w_2 H locs hw hP hD hS => ?_)
    obtain ⟨rfl, hr9⟩ := hw
    have hP := hP.sub (ws' := (pM g cI cB th n en le ro sn ar rt oh cn no ot cu lim fa wy lo ch bd)) [0, 1, 2, 3, 4, 5, 6, 7, 8, 9, 10, 11, 12, 13, 14] rfl
    have hD := hD.sub (ws' := (pM g cI cB th n en le ro sn ar rt oh cn no ot cu lim fa wy lo ch bd)) [0, 1, 2, 3, 4, 5, 6, 7, 8, 9, 10, 11, 12, 13, 14] (by decide) rfl
    rcases hr9 with ⟨hr9, g2⟩ | ⟨hr9, g2⟩
    · subst hr9
      refine nr_if_ne (x := 1) (tgt := 25) hx hb (by omega) dX5_told_18 (by decide) (fun _ => ?_) (fun h => absurd h (by omega))
      obtain ⟨k, hk, rfl⟩ := g1
      obtain ⟨j, rfl, -, hj⟩ := g2
      refine lv_iconst (v := nI 0) hx hb dX5_told_25 (by decide) ?_
      refine va_put (ci := 5) (v := .int (nI 0)) (ty := .int) (C := RX5) (T := TX5) (N := 19) hx hb hbw in_X5 tyX5 tyX5_ok nmX5 hown hK hP hD hS 0 rfl rfl 0 (by decide) (hbw _ m_488) (fun _ h9 => h9) rfl (by decide +kernel) rfl rfl (Nat.le_of_ble_eq_true rfl) dX5_told_26 (fun H locs hP hD hS => ?_)
      have hP : va_P D vwCl (pM g cI cB 0 n en le ro sn ar rt oh cn no ot cu lim fa wy lo ch bd) H := hP
      have hD : va_D A (pM g cI cB 0 n en le ro sn ar rt oh cn no ot cu lim fa wy lo ch bd) := hD
      refine lv_aload_n hx hb dX5_told_29 rfl (lv_at hl 0 rfl) ?_
      refine va_get (ci := 5) (v := .int (nI 0)) (C := RX5) (T := TX5) (N := 19) hx hb hbw in_X5 hown hK hP 0 rfl rfl 0 (by decide) (hbw _ m_488) (fun _ h9 => h9) rfl dX5_told_30 ?_
      refine lv_if_le (tgt := 38) hx hb dX5_told_33 (by decide) (fun _ => ?_) (fun h => absurd h (by decide))
      refine lv_aload_n hx hb dX5_told_38 rfl (lv_at hl 0 rfl) ?_
      refine ct_Vi (wc := (pM g cI cB 0 n en le ro sn ar rt oh cn no ot cu lim fa wy lo ch bd)) (wr := ([] : va_W)) (As := []) (rest := []) ⟨hx, hb, hml, hown, hbw⟩ (EN_E D _) hEN (kX5_choose l D cI cG cL cB g 0 n en le ro sn ar rt oh cn no ot cu lim fa wy lo ch bd wc wl wt hok hen hl0 hno hot hne hW hz hy hch hlim) (cwV (C := "CableSizesModel") 0 hbw (gV m_617 m_619 m_10 m_23 m_620) rfl rfl rfl (by decide +kernel) ⟨Nat.le_of_ble_eq_true rfl, Nat.le_of_ble_eq_true rfl⟩) (va_recv hK hP (ci := 5) (q0 := 0) rfl rfl) hP hD hS hA [0, 1, 2, 3, 4, 5, 6, 7, 8, 9, 10, 11, 12, 13, 14] [] rfl rfl (by decide) (by decide) (by decide) rfl hl.1 rfl (Nat.le_of_ble_eq_true rfl) dX5_told_39 ⟨Nat.le_of_ble_eq_true rfl, Nat.le_of_ble_eq_true rfl⟩ (fun r_3 w_3 H locs hw hP hD hS => ?_)
      obtain ⟨fa, wy, lo, ch, bd, rfl, he, hch, hres⟩ := hw
      have hP := hP.sub (ws' := (pM g cI cB 0 n en le ro sn ar rt oh cn no ot cu lim fa wy lo ch bd)) [0, 1, 2, 3, 4, 5, 6, 7, 8, 9, 10, 11, 12, 13, 14] rfl
      have hD := hD.sub (ws' := (pM g cI cB 0 n en le ro sn ar rt oh cn no ot cu lim fa wy lo ch bd)) [0, 1, 2, 3, 4, 5, 6, 7, 8, 9, 10, 11, 12, 13, 14] (by decide) rfl
      obtain ⟨bb, hbb, hans⟩ : ∃ bb, r_3 = nI (bN bb) ∧ cs_ans cn sn ar rt oh cu wc wl ro wt lim bb ch := by
        rcases hres with ⟨q1, q2, q3⟩ | ⟨q1, q2⟩
        · exact ⟨true, q1, Or.inl ⟨rfl, q2, q3⟩⟩
        · exact ⟨false, q1, Or.inr ⟨rfl, q2⟩⟩
      subst hbb
      have hb2 : bN bb ≤ 1 := by unfold bN; split <;> omega
      refine lv_istore_n (lv' := [(3, .int (nI (bN bb))), (0, .ref (g 0)), (1, .int (nI k)), (2, .int (nI j))]) hx hb dX5_told_42 rfl hl (by decide) rfl (fun ls hl => ?_)
      refine lv_iload_n hx hb dX5_told_43 rfl (lv_at hl 3 rfl) ?_
      refine lv_iconst (v := nI 2) hx hb dX5_told_44 (by decide) ?_
      refine nr_icmp_ne (x := j) (y := 2) (tgt := 93) hx hb (by omega) (by omega) dX5_told_45 (by decide) (fun h2 => ?_) (fun h2 => ?_)
      · refine lv_iload_n hx hb dX5_told_93 rfl (lv_at hl 0 rfl) ?_
        refine nr_if_ne (x := bN bb) (tgt := 101) hx hb (by omega) dX5_told_94 (by decide) (fun h1 => ?_) (fun h1 => ?_)
        · have eb := bN_t h1
          refine lv_iload_n hx hb dX5_told_101 rfl (lv_at hl 3 rfl) ?_
          refine nr_if_ne (x := j) (tgt := 113) hx hb (by omega) dX5_told_102 (by decide) (fun h3 => ?_) (fun h3 => ?_)
          · refine lv_aload_n hx hb dX5_told_113 rfl (lv_at hl 1 rfl) ?_
            refine lv_iload_n hx hb dX5_told_114 rfl (lv_at hl 2 rfl) ?_
            refine ct_Vi (wc := (pM g cI cB 0 n en le ro sn ar rt oh cn no ot cu lim fa wy lo ch bd)) (wr := ([] : va_W)) (As := [.int (nI k)]) (rest := []) ⟨hx, hb, hml, hown, hbw⟩ (EN_E D _) hEN (kX5_factor l D cI cG cL cB g 0 n en le ro sn ar rt oh cn no ot cu lim fa wy lo ch bd wc wl wt k hk hz hy hch hlim he) (cwV (C := "CableSizesModel") 1 hbw (gV m_629 m_631 m_13 m_23 m_632) rfl rfl rfl (by decide +kernel) ⟨Nat.le_of_ble_eq_true rfl, Nat.le_of_ble_eq_true rfl⟩) (va_recv hK hP (ci := 5) (q0 := 0) rfl rfl) hP hD hS hA [0, 1, 2, 3, 4, 5, 6, 7, 8, 9, 10, 11, 12, 13, 14] [] rfl rfl (by decide) (by decide) (by decide) rfl hl.1 rfl (Nat.le_of_ble_eq_true rfl) dX5_told_115 ⟨Nat.le_of_ble_eq_true rfl, Nat.le_of_ble_eq_true rfl⟩ (fun r_4 w_4 H locs hw hP hD hS => ?_)
            obtain ⟨rfl, rfl⟩ := hw
            have hP := hP.sub (ws' := (pM g cI cB 0 n en le ro sn ar rt oh cn no ot cu lim fa wy lo ch bd)) [0, 1, 2, 3, 4, 5, 6, 7, 8, 9, 10, 11, 12, 13, 14] rfl
            have hD := hD.sub (ws' := (pM g cI cB 0 n en le ro sn ar rt oh cn no ot cu lim fa wy lo ch bd)) [0, 1, 2, 3, 4, 5, 6, 7, 8, 9, 10, 11, 12, 13, 14] (by decide) rfl
            rw [hQ]
            exact ct_iret hx hb hr hlocks hP hD hS dX5_told_118 (Or.inr ⟨k, j, ⟨hk, rfl, rfl, hj⟩, ⟨bb, ch, by rw [if_neg h2, if_pos eb, if_neg (by omega)], hans⟩, fa, wy, lo, ch, bd, rfl, hch⟩)
          · refine lv_aload_n hx hb dX5_told_105 rfl (lv_at hl 1 rfl) ?_
            refine lv_iload_n hx hb dX5_told_106 rfl (lv_at hl 2 rfl) ?_
            refine ct_Vi (wc := (pM g cI cB 0 n en le ro sn ar rt oh cn no ot cu lim fa wy lo ch bd)) (wr := ([] : va_W)) (As := [.int (nI k)]) (rest := []) ⟨hx, hb, hml, hown, hbw⟩ (EN_E D _) hEN (kX5_fill l D cI cG cL cB g 0 n en le ro sn ar rt oh cn no ot cu lim fa wy lo ch bd wc wl wt k hk hz hy hch hlim he) (cwV (C := "CableSizesModel") 1 hbw (gV m_633 m_635 m_14 m_23 m_636) rfl rfl rfl (by decide +kernel) ⟨Nat.le_of_ble_eq_true rfl, Nat.le_of_ble_eq_true rfl⟩) (va_recv hK hP (ci := 5) (q0 := 0) rfl rfl) hP hD hS hA [0, 1, 2, 3, 4, 5, 6, 7, 8, 9, 10, 11, 12, 13, 14] [] rfl rfl (by decide) (by decide) (by decide) rfl hl.1 rfl (Nat.le_of_ble_eq_true rfl) dX5_told_107 ⟨Nat.le_of_ble_eq_true rfl, Nat.le_of_ble_eq_true rfl⟩ (fun r_5 w_5 H locs hw hP hD hS => ?_)
            obtain ⟨rfl, rfl⟩ := hw
            have hP := hP.sub (ws' := (pM g cI cB 0 n en le ro sn ar rt oh cn no ot cu lim fa wy lo ch bd)) [0, 1, 2, 3, 4, 5, 6, 7, 8, 9, 10, 11, 12, 13, 14] rfl
            have hD := hD.sub (ws' := (pM g cI cB 0 n en le ro sn ar rt oh cn no ot cu lim fa wy lo ch bd)) [0, 1, 2, 3, 4, 5, 6, 7, 8, 9, 10, 11, 12, 13, 14] (by decide) rfl
            refine lv_goto (tgt := 118) hx hb dX5_told_110 (by decide) ?_
            rw [hQ]
            exact ct_iret hx hb hr hlocks hP hD hS dX5_told_118 (Or.inr ⟨k, j, ⟨hk, rfl, rfl, hj⟩, ⟨bb, ch, by rw [if_neg h2, if_pos eb, if_pos h3], hans⟩, fa, wy, lo, ch, bd, rfl, hch⟩)
        · have eb := bN_f h1
          refine lv_iconst (v := (-1)) hx hb dX5_told_97 (by decide) ?_
          refine lv_goto (tgt := 118) hx hb dX5_told_98 (by decide) ?_
          rw [hQ]
          exact ct_iret hx hb hr hlocks hP hD hS dX5_told_118 (Or.inr ⟨k, j, ⟨hk, rfl, rfl, hj⟩, ⟨bb, ch, by rw [if_neg h2, eb]; rfl, hans⟩, fa, wy, lo, ch, bd, rfl, hch⟩)
      · refine lv_iconst (v := nI 0) hx hb dX5_told_48 (by decide) ?_
        refine lv_istore (lv' := [(4, .int (nI 0)), (3, .int (nI (bN bb))), (0, .ref (g 0)), (1, .int (nI k)), (2, .int (nI j))]) hx hb dX5_told_49 hl (by decide) rfl (fun ls hl => ?_)
        refine lv_iconst (v := nI 0) hx hb dX5_told_51 (by decide) ?_
        refine lv_istore (lv' := [(5, .int (nI 0)), (4, .int (nI 0)), (3, .int (nI (bN bb))), (0, .ref (g 0)), (1, .int (nI k)), (2, .int (nI j))]) hx hb dX5_told_52 hl (by decide) rfl (fun ls hl => ?_)
        have lp : ∀ (kk c : Nat), (hkk : cn < c + kk) → (hi : c ≤ cn) → ∀ (H : Heap) (locs : List Loc) (ls : Array Slot), va_P D vwCl (pM g cI cB 0 n en le ro sn ar rt oh cn no ot cu lim fa wy lo ch bd) H → va_D A (pM g cI cB 0 n en le ro sn ar rt oh cn no ot cu lim fa wy lo ch bd) → va_S A s.heap H locs → lv_has ls 6 [(0, .ref (g 0)), (1, .int (nI k)), (2, .int (nI j)), (3, .int (nI (bN bb))), (4, .int (nI (cz_sum (fun c => cz_occ wc wt c k) c))), (5, .int (nI c))] → W p l e ({ frames := 6, cells := 0, slots := 0, locals := 135 }) s m av below meth cd H locs 0 0 Q (F0 m 54 ls []) := by
          intro kk
          induction kk with
          | zero => intro c hkk hi; exact absurd hkk (by omega)
          | succ kk ih =>
            intro c hkk hi H locs ls hP hD hS hl
            refine lv_iload hx hb dX5_told_54 (lv_at hl 5 rfl) ?_
            refine lv_aload_n hx hb dX5_told_56 rfl (lv_at hl 0 rfl) ?_
            refine va_get (ci := 5) (v := .int (nI cn)) (C := RX5) (T := TX5) (N := 19) hx hb hbw in_X5 hown hK hP 0 rfl rfl 9 (by decide) (hbw _ m_497) (fun _ h9 => h9) rfl dX5_told_57 ?_
            refine nr_icmp_ge (x := c) (y := cn) (tgt := 90) hx hb (by omega) (by omega) dX5_told_60 (by decide) (fun h4 => ?_) (fun h4 => ?_)
            · have ec : c = cn := by omega
              refine lv_iload hx hb dX5_told_90 (lv_at hl 4 rfl) ?_
              rw [hQ]
              exact ct_iret hx hb hr hlocks hP hD hS dX5_told_92 (Or.inr ⟨k, j, ⟨hk, rfl, rfl, hj⟩, ⟨bb, ch, by rw [if_pos h2, ec], hans⟩, fa, wy, lo, ch, bd, rfl, hch⟩)
            · refine lv_aload_n hx hb dX5_told_63 rfl (lv_at hl 0 rfl) ?_
              refine lv_iload hx hb dX5_told_64 (lv_at hl 5 rfl) ?_
              refine lv_iload_n hx hb dX5_told_66 rfl (lv_at hl 1 rfl) ?_
              refine ct_Vi (wc := (pM g cI cB 0 n en le ro sn ar rt oh cn no ot cu lim fa wy lo ch bd)) (wr := ([] : va_W)) (As := [.int (nI c), .int (nI k)]) (rest := []) ⟨hx, hb, hml, hown, hbw⟩ (EN_E D _) hEN (kX5_isOn l D cI cG cL cB g 0 n en le ro sn ar rt oh cn no ot cu lim fa wy lo ch bd wc wl wt c k h4 (by omega) hz hy hch hlim he) (cwV (C := "CableSizesModel") 2 hbw (gV m_637 m_639 m_15 m_23 m_640) rfl rfl rfl (by decide +kernel) ⟨Nat.le_of_ble_eq_true rfl, Nat.le_of_ble_eq_true rfl⟩) (va_recv hK hP (ci := 5) (q0 := 0) rfl rfl) hP hD hS hA [0, 1, 2, 3, 4, 5, 6, 7, 8, 9, 10, 11, 12, 13, 14] [] rfl rfl (by decide) (by decide) (by decide) rfl hl.1 rfl (Nat.le_of_ble_eq_true rfl) dX5_told_67 ⟨Nat.le_of_ble_eq_true rfl, Nat.le_of_ble_eq_true rfl⟩ (fun r_6 w_6 H locs hw hP hD hS => ?_)
              obtain ⟨rfl, rfl⟩ := hw
              have hP := hP.sub (ws' := (pM g cI cB 0 n en le ro sn ar rt oh cn no ot cu lim fa wy lo ch bd)) [0, 1, 2, 3, 4, 5, 6, 7, 8, 9, 10, 11, 12, 13, 14] rfl
              have hD := hD.sub (ws' := (pM g cI cB 0 n en le ro sn ar rt oh cn no ot cu lim fa wy lo ch bd)) [0, 1, 2, 3, 4, 5, 6, 7, 8, 9, 10, 11, 12, 13, 14] (by decide) rfl
              have b_o := occ_le (wc := wc) (wt := wt) (c := c) (t := k) (hnd c h4)
              refine nr_if_eq (x := cz_occ wc wt c k) (tgt := 80) hx hb (by omega) dX5_told_70 (by decide) (fun h5 => ?_) (fun h5 => ?_)
              · refine lv_iload hx hb dX5_told_80 (lv_at hl 4 rfl) ?_
                refine lv_istore (lv' := [(4, .int (nI (cz_sum (fun c => cz_occ wc wt c k) c))), (0, .ref (g 0)), (1, .int (nI k)), (2, .int (nI j)), (3, .int (nI (bN bb))), (5, .int (nI c))]) hx hb dX5_told_82 hl (by decide) rfl (fun ls hl => ?_)
                refine lv_iinc (v := nI (c + 1)) (lv' := [(5, .int (nI (c + 1))), (4, .int (nI (cz_sum (fun c => cz_occ wc wt c k) c))), (0, .ref (g 0)), (1, .int (nI k)), (2, .int (nI j)), (3, .int (nI (bN bb)))]) hx hb dX5_told_84 hl (k := 5) rfl (nI_1 _) (by decide) rfl (fun ls hl => ?_)
                refine lv_goto (tgt := 54) hx hb dX5_told_87 (by decide) ?_
                have e9 : cz_sum (fun c => cz_occ wc wt c k) (c + 1) = cz_sum (fun c => cz_occ wc wt c k) c := by show cz_sum (fun c => cz_occ wc wt c k) c + cz_occ wc wt c k = _; omega
                rw [← e9] at hl
                exact ih (c + 1) (by omega) (by omega) _ _ _ hP hD hS (lv_sub hl [2, 3, 4, 5, 1, 0] rfl)
              · refine lv_iload hx hb dX5_told_73 (lv_at hl 4 rfl) ?_
                refine lv_iconst (v := nI 1) hx hb dX5_told_75 (by decide) ?_
                refine nr_iadd hx hb dX5_told_76 ?_
                refine lv_goto (tgt := 82) hx hb dX5_told_77 (by decide) ?_
                refine lv_istore (lv' := [(4, .int (nI ((cz_sum (fun c => cz_occ wc wt c k) c) + 1))), (0, .ref (g 0)), (1, .int (nI k)), (2, .int (nI j)), (3, .int (nI (bN bb))), (5, .int (nI c))]) hx hb dX5_told_82 hl (by decide) rfl (fun ls hl => ?_)
                refine lv_iinc (v := nI (c + 1)) (lv' := [(5, .int (nI (c + 1))), (4, .int (nI ((cz_sum (fun c => cz_occ wc wt c k) c) + 1))), (0, .ref (g 0)), (1, .int (nI k)), (2, .int (nI j)), (3, .int (nI (bN bb)))]) hx hb dX5_told_84 hl (k := 5) rfl (nI_1 _) (by decide) rfl (fun ls hl => ?_)
                refine lv_goto (tgt := 54) hx hb dX5_told_87 (by decide) ?_
                have e9 : cz_sum (fun c => cz_occ wc wt c k) (c + 1) = (cz_sum (fun c => cz_occ wc wt c k) c) + 1 := by show cz_sum (fun c => cz_occ wc wt c k) c + cz_occ wc wt c k = _; omega
                rw [← e9] at hl
                exact ih (c + 1) (by omega) (by omega) _ _ _ hP hD hS (lv_sub hl [2, 3, 4, 5, 1, 0] rfl)
        exact lp (cn + 1) 0 (by omega) (Nat.zero_le cn) H locs ls hP hD hS (lv_sub hl [3, 4, 5, 2, 1, 0] rfl)
    · subst hr9
      refine nr_if_ne (x := 0) (tgt := 25) hx hb (by omega) dX5_told_18 (by decide) (fun h => absurd h (by omega)) (fun _ => ?_)
      refine lv_iconst (v := nI 1) hx hb dX5_told_21 (by decide) ?_
      refine lv_goto (tgt := 26) hx hb dX5_told_22 (by decide) ?_
      refine va_put (ci := 5) (v := .int (nI 1)) (ty := .int) (C := RX5) (T := TX5) (N := 19) hx hb hbw in_X5 tyX5 tyX5_ok nmX5 hown hK hP hD hS 0 rfl rfl 0 (by decide) (hbw _ m_488) (fun _ h9 => h9) rfl (by decide +kernel) rfl rfl (Nat.le_of_ble_eq_true rfl) dX5_told_26 (fun H locs hP hD hS => ?_)
      have hP : va_P D vwCl (pM g cI cB 1 n en le ro sn ar rt oh cn no ot cu lim fa wy lo ch bd) H := hP
      have hD : va_D A (pM g cI cB 1 n en le ro sn ar rt oh cn no ot cu lim fa wy lo ch bd) := hD
      refine lv_aload_n hx hb dX5_told_29 rfl (lv_at hl 0 rfl) ?_
      refine va_get (ci := 5) (v := .int (nI 1)) (C := RX5) (T := TX5) (N := 19) hx hb hbw in_X5 hown hK hP 0 rfl rfl 0 (by decide) (hbw _ m_488) (fun _ h9 => h9) rfl dX5_told_30 ?_
      refine lv_if_le (tgt := 38) hx hb dX5_told_33 (by decide) (fun h => absurd h (by decide)) (fun _ => ?_)
      refine lv_iconst (v := nI 0) hx hb dX5_told_36 (by decide) ?_
      rw [hQ]
      exact ct_iret hx hb hr hlocks hP hD hS dX5_told_37 (Or.inl ⟨fun h => g2 h.2, fa, wy, lo, ch, bd, rfl, hch⟩)
set_option maxHeartbeats 4000000 in
set_option maxRecDepth 100000 in
/-- copper -/
theorem kX5_copper (l : Launch) (D : va_G) (cI cG cL cB : ClassId) (g : Nat → Nat) (th n : Nat) (en le ro : Nat → Nat) (sn : Nat) (ar rt oh : Nat → Nat) (cn : Nat) (no ot cu : Nat → Nat) (lim : Nat) (fa wy lo ch bd : Nat → Nat) (wc wl : Nat → Nat) (wt : Nat → Nat → Nat) (hok : cw_ok n (fun t => en (2 * t)) (fun t => en (2 * t + 1)) le) (hen : ∀ j, en j < 10) (hl0 : ∀ j, le j ≤ 100) (hno : ∀ j, no j < 10) (hot : ∀ j, ot j < 10) (hne : ∀ c, c < cn → no c ≠ ot c) (hW : ∀ c, c < cn → cw_W n (fun t => en (2 * t)) (fun t => en (2 * t + 1)) le (no c) (ot c) (wc c) (wt c) (wl c)) (hz : okZ sn ar rt oh cn cu wc wl wt) (hy : okY n ro cn wc wt) (hch : ∀ j, ch j < 6) (hlim : lim ≤ 1000000) : ct_i l yX5_copper (.code yX5_copper cX5_copper 3 (some .int) :: bw) ({ frames := 6, cells := 0, slots := 0, locals := 135 }) (EN D (tyL cI cG cL cB)) D vwCl (pM g cI cB th n en le ro sn ar rt oh cn no ot cu lim fa wy lo ch bd) [.ref (g 0)] (fun v W => (∃ bb p, v = (if bb = true then nI (cz_sum (fun c => ar (p c) * wl c) cn) else -1) ∧ cs_ans cn sn ar rt oh cu wc wl ro wt lim bb p) ∧ (∃ fa' wy' lo' ch' bd', W = (pM g cI cB 0 n en le ro sn ar rt oh cn no ot cu lim fa' wy' lo' ch' bd') ∧ (∀ j, ch' j < 6))) 0 0 := by
  refine ct_ofi (by decide) (Nat.le_of_ble_eq_true rfl) ?_
  intro p e s m below meth cd A H locs av Q ls hx hb hr hml hown hlocks hnm hbw hEN hQ hP hD hS hA hl
  have hown : s.vm.findClass RX5 = some m.cls := hown
  have hK := hEN.1
  have hl : lv_has ls 3 [(0, .ref (g 0))] := hl
  obtain ⟨hsn, har, hrt, hoh, hcn, hcu, hwc, hwl, hwt⟩ := id hz
  obtain ⟨hn, hro, hro1, hway, hnd⟩ := id hy
  refine lv_aload_n hx hb dX5_copper_0 rfl (lv_at hl 0 rfl) ?_
  refine lv_iconst (v := nI 0) hx hb dX5_copper_1 (by decide) ?_
  refine va_put (ci := 5) (v := .int (nI 0)) (ty := .int) (C := RX5) (T := TX5) (N := 19) hx hb hbw in_X5 tyX5 tyX5_ok nmX5 hown hK hP hD hS 0 rfl rfl 0 (by decide) (hbw _ m_488) (fun _ h9 => h9) rfl (by decide +kernel) rfl rfl (Nat.le_of_ble_eq_true rfl) dX5_copper_2 (fun H locs hP hD hS => ?_)
  have hP : va_P D vwCl (pM g cI cB 0 n en le ro sn ar rt oh cn no ot cu lim fa wy lo ch bd) H := hP
  have hD : va_D A (pM g cI cB 0 n en le ro sn ar rt oh cn no ot cu lim fa wy lo ch bd) := hD
  refine lv_aload_n hx hb dX5_copper_5 rfl (lv_at hl 0 rfl) ?_
  refine ct_Vi (wc := (pM g cI cB 0 n en le ro sn ar rt oh cn no ot cu lim fa wy lo ch bd)) (wr := ([] : va_W)) (As := []) (rest := []) ⟨hx, hb, hml, hown, hbw⟩ (EN_E D _) hEN (kX5_choose l D cI cG cL cB g 0 n en le ro sn ar rt oh cn no ot cu lim fa wy lo ch bd wc wl wt hok hen hl0 hno hot hne hW hz hy hch hlim) (cwV (C := "CableSizesModel") 0 hbw (gV m_617 m_619 m_10 m_23 m_620) rfl rfl rfl (by decide +kernel) ⟨Nat.le_of_ble_eq_true rfl, Nat.le_of_ble_eq_true rfl⟩) (va_recv hK hP (ci := 5) (q0 := 0) rfl rfl) hP hD hS hA [0, 1, 2, 3, 4, 5, 6, 7, 8, 9, 10, 11, 12, 13, 14] [] rfl rfl (by decide) (by decide) (by decide) rfl hl.1 rfl (Nat.le_of_ble_eq_true rfl) dX5_copper_6 ⟨Nat.le_of_ble_eq_true rfl, Nat.le_of_ble_eq_true rfl⟩ (fun r_1 w_1 H locs hw hP hD hS => ?_)
  obtain ⟨fa, wy, lo, ch, bd, rfl, he, hch, hres⟩ := hw
  have hP := hP.sub (ws' := (pM g cI cB 0 n en le ro sn ar rt oh cn no ot cu lim fa wy lo ch bd)) [0, 1, 2, 3, 4, 5, 6, 7, 8, 9, 10, 11, 12, 13, 14] rfl
  have hD := hD.sub (ws' := (pM g cI cB 0 n en le ro sn ar rt oh cn no ot cu lim fa wy lo ch bd)) [0, 1, 2, 3, 4, 5, 6, 7, 8, 9, 10, 11, 12, 13, 14] (by decide) rfl
  obtain ⟨bb, hbb, hans⟩ : ∃ bb, r_1 = nI (bN bb) ∧ cs_ans cn sn ar rt oh cu wc wl ro wt lim bb ch := by
    rcases hres with ⟨q1, q2, q3⟩ | ⟨q1, q2⟩
    · exact ⟨true, q1, Or.inl ⟨rfl, q2, q3⟩⟩
    · exact ⟨false, q1, Or.inr ⟨rfl, q2⟩⟩
  subst hbb
  have hb2 : bN bb ≤ 1 := by unfold bN; split <;> omega
  refine nr_if_ne (x := bN bb) (tgt := 14) hx hb (by omega) dX5_copper_9 (by decide) (fun h1 => ?_) (fun h1 => ?_)
  · have eb := bN_t h1
    refine lv_iconst (v := nI 0) hx hb dX5_copper_14 (by decide) ?_
    refine lv_istore_n (lv' := [(1, .int (nI 0)), (0, .ref (g 0))]) hx hb dX5_copper_15 rfl hl (by decide) rfl (fun ls hl => ?_)
    refine lv_iconst (v := nI 0) hx hb dX5_copper_16 (by decide) ?_
    refine lv_istore_n (lv' := [(2, .int (nI 0)), (1, .int (nI 0)), (0, .ref (g 0))]) hx hb dX5_copper_17 rfl hl (by decide) rfl (fun ls hl => ?_)
    have lp : ∀ (k : Nat) (c : Nat), (hk : cn < c + k) → (hi : c ≤ cn) → ∀ (H : Heap) (locs : List Loc) (ls : Array Slot), va_P D vwCl (pM g cI cB 0 n en le ro sn ar rt oh cn no ot cu lim fa wy lo ch bd) H → va_D A (pM g cI cB 0 n en le ro sn ar rt oh cn no ot cu lim fa wy lo ch bd) → va_S A s.heap H locs → lv_has ls 3 [(0, .ref (g 0)), (1, .int (nI (cz_sum (fun c => ar (ch c) * wl c) c))), (2, .int (nI c))] → W p l e ({ frames := 6, cells := 0, slots := 0, locals := 135 }) s m av below meth cd H locs 0 0 Q (F0 m 18 ls []) := by
      intro k
      induction k with
      | zero => intro c hk hi; exact absurd hk (by omega)
      | succ k ih =>
        intro c hk hi H locs ls hP hD hS hl
        refine lv_iload_n hx hb dX5_copper_18 rfl (lv_at hl 2 rfl) ?_
        refine lv_aload_n hx hb dX5_copper_19 rfl (lv_at hl 0 rfl) ?_
        refine va_get (ci := 5) (v := .int (nI cn)) (C := RX5) (T := TX5) (N := 19) hx hb hbw in_X5 hown hK hP 0 rfl rfl 9 (by decide) (hbw _ m_497) (fun _ h9 => h9) rfl dX5_copper_20 ?_
        refine nr_icmp_ge (x := c) (y := cn) (tgt := 67) hx hb (by omega) (by omega) dX5_copper_23 (by decide) (fun h4 => ?_) (fun h4 => ?_)
        · have ec : c = cn := by omega
          refine lv_iload_n hx hb dX5_copper_67 rfl (lv_at hl 1 rfl) ?_
          rw [hQ]
          exact ct_iret hx hb hr hlocks hP hD hS dX5_copper_68 ⟨⟨bb, ch, by rw [if_pos eb, ec], hans⟩, fa, wy, lo, ch, bd, rfl, hch⟩
        · obtain ⟨e1, e2, e3⟩ := he c h4
          have b_w := hwl c
          rcases e3 with ⟨e3, e4, e5⟩ | ⟨e3, e4⟩
          · refine lv_aload_n hx hb dX5_copper_26 rfl (lv_at hl 0 rfl) ?_
            refine va_get (ci := 5) (v := .ref (g 12)) (C := RX5) (T := TX5) (N := 19) hx hb hbw in_X5 hown hK hP 0 rfl rfl 16 (by decide) (hbw _ m_504) (fun _ h9 => h9) rfl dX5_copper_27 ?_
            refine lv_iload_n hx hb dX5_copper_30 rfl (lv_at hl 2 rfl) ?_
            refine nr_mald0 hx hb hK hP 12 0 rfl rfl (k := c) (by omega) (by omega) e4 dX5_copper_31 ?_
            refine lv_iconst (v := (-1)) hx hb dX5_copper_32 (by decide) ?_
            refine lv_icmp_ne (tgt := 40) hx hb dX5_copper_33 (by decide) (fun h => absurd rfl h) (fun _ => ?_)
            refine lv_iload_n hx hb dX5_copper_36 rfl (lv_at hl 1 rfl) ?_
            refine lv_goto (tgt := 60) hx hb dX5_copper_37 (by decide) ?_
            refine lv_istore_n (lv' := [(1, .int (nI (cz_sum (fun c => ar (ch c) * wl c) c))), (0, .ref (g 0)), (2, .int (nI c))]) hx hb dX5_copper_60 rfl hl (by decide) rfl (fun ls hl => ?_)
            refine lv_iinc (v := nI (c + 1)) (lv' := [(2, .int (nI (c + 1))), (1, .int (nI (cz_sum (fun c => ar (ch c) * wl c) c))), (0, .ref (g 0))]) hx hb dX5_copper_61 hl (k := 2) rfl (nI_1 _) (by decide) rfl (fun ls hl => ?_)
            refine lv_goto (tgt := 18) hx hb dX5_copper_64 (by decide) ?_
            have e9 : cz_sum (fun c => ar (ch c) * wl c) (c + 1) = cz_sum (fun c => ar (ch c) * wl c) c := by show cz_sum (fun c => ar (ch c) * wl c) c + ar (ch c) * wl c = _; rw [e5, Nat.mul_zero]; rfl
            rw [← e9] at hl
            exact ih (c + 1) (by omega) (by omega) _ _ _ hP hD hS (lv_sub hl [2, 1, 0] rfl)
          · refine lv_aload_n hx hb dX5_copper_26 rfl (lv_at hl 0 rfl) ?_
            refine va_get (ci := 5) (v := .ref (g 12)) (C := RX5) (T := TX5) (N := 19) hx hb hbw in_X5 hown hK hP 0 rfl rfl 16 (by decide) (hbw _ m_504) (fun _ h9 => h9) rfl dX5_copper_27 ?_
            refine lv_iload_n hx hb dX5_copper_30 rfl (lv_at hl 2 rfl) ?_
            refine nr_mald1 hx hb hK hP 12 0 rfl rfl (k := c) (v := wl c) (by omega) (by omega) e4 dX5_copper_31 ?_
            refine lv_iconst (v := (-1)) hx hb dX5_copper_32 (by decide) ?_
            refine lv_icmp_ne (tgt := 40) hx hb dX5_copper_33 (by decide) (fun _ => ?_) (fun h => absurd h (nI_nm1 (by omega)))
            refine lv_iload_n hx hb dX5_copper_40 rfl (lv_at hl 1 rfl) ?_
            refine lv_aload_n hx hb dX5_copper_41 rfl (lv_at hl 0 rfl) ?_
            refine va_get (ci := 5) (v := .ref (g 4)) (C := RX5) (T := TX5) (N := 19) hx hb hbw in_X5 hown hK hP 0 rfl rfl 6 (by decide) (hbw _ m_494) (fun _ h9 => h9) rfl dX5_copper_42 ?_
            refine lv_aload_n hx hb dX5_copper_45 rfl (lv_at hl 0 rfl) ?_
            refine va_get (ci := 5) (v := .ref (g 13)) (C := RX5) (T := TX5) (N := 19) hx hb hbw in_X5 hown hK hP 0 rfl rfl 17 (by decide) (hbw _ m_505) (fun _ h9 => h9) rfl dX5_copper_46 ?_
            refine lv_iload_n hx hb dX5_copper_49 rfl (lv_at hl 2 rfl) ?_
            refine nr_iald hx hb hK hP 13 0 rfl rfl (k := c) (by omega) (by omega) dX5_copper_50 ?_
            have b_2 := hch c
            refine nr_iald hx hb hK hP 4 0 rfl rfl (k := ch c) (by omega) (by omega) dX5_copper_51 ?_
            have b_3 := har (ch c)
            refine lv_aload_n hx hb dX5_copper_52 rfl (lv_at hl 0 rfl) ?_
            refine va_get (ci := 5) (v := .ref (g 12)) (C := RX5) (T := TX5) (N := 19) hx hb hbw in_X5 hown hK hP 0 rfl rfl 16 (by decide) (hbw _ m_504) (fun _ h9 => h9) rfl dX5_copper_53 ?_
            refine lv_iload_n hx hb dX5_copper_56 rfl (lv_at hl 2 rfl) ?_
            refine nr_mald1 hx hb hK hP 12 0 rfl rfl (k := c) (v := wl c) (by omega) (by omega) e4 dX5_copper_57 ?_
            refine nr_imul hx hb dX5_copper_58 ?_
            refine nr_iadd hx hb dX5_copper_59 ?_
            refine lv_istore_n (lv' := [(1, .int (nI ((cz_sum (fun c => ar (ch c) * wl c) c) + ((ar (ch c)) * (wl c))))), (0, .ref (g 0)), (2, .int (nI c))]) hx hb dX5_copper_60 rfl hl (by decide) rfl (fun ls hl => ?_)
            refine lv_iinc (v := nI (c + 1)) (lv' := [(2, .int (nI (c + 1))), (1, .int (nI ((cz_sum (fun c => ar (ch c) * wl c) c) + ((ar (ch c)) * (wl c))))), (0, .ref (g 0))]) hx hb dX5_copper_61 hl (k := 2) rfl (nI_1 _) (by decide) rfl (fun ls hl => ?_)
            refine lv_goto (tgt := 18) hx hb dX5_copper_64 (by decide) ?_
            have e9 : cz_sum (fun c => ar (ch c) * wl c) (c + 1) = (cz_sum (fun c => ar (ch c) * wl c) c) + ((ar (ch c)) * (wl c)) := by show cz_sum (fun c => ar (ch c) * wl c) c + ar (ch c) * wl c = _; rfl
            rw [← e9] at hl
            exact ih (c + 1) (by omega) (by omega) _ _ _ hP hD hS (lv_sub hl [2, 1, 0] rfl)
    exact lp (cn + 1) 0 (by omega) (Nat.zero_le cn) H locs ls hP hD hS (lv_sub hl [2, 1, 0] rfl)
  · have eb := bN_f h1
    refine lv_iconst (v := (-1)) hx hb dX5_copper_12 (by decide) ?_
    rw [hQ]
    exact ct_iret hx hb hr hlocks hP hD hS dX5_copper_13 ⟨⟨bb, ch, by rw [eb]; rfl, hans⟩, fa, wy, lo, ch, bd, rfl, hch⟩
