/-- what is left of a number behind c digits of the base of 6 -/
def cs_lf (d : Nat) : Nat → Nat
  | 0 => d
  | c + 1 => cs_lf d c / 6
theorem cs_lf_le (d : Nat) : ∀ c, cs_lf d c ≤ d
  | 0 => Nat.le_refl d
  | c + 1 => Nat.le_trans (Nat.div_le_self _ _) (cs_lf_le d c)
/-- the digits mean sizes, and none is behind the last cable -/
def cs_dig (sn cn : Nat) (X : Int64) (d : Nat) : Prop := d < 2 ^ 63 ∧ X = lN d ∧ (∀ c, c < cn → cs_lf d c % 6 < sn) ∧ cs_lf d cn = 0
theorem lN_inj {a b : Nat} (ha : a < 2 ^ 63) (hb : b < 2 ^ 63) (h : lN a = lN b) : a = b := (pk_lEQ ha hb).mp h
set_option maxHeartbeats 4000000 in
set_option maxRecDepth 100000 in
/-- right -/
theorem kX5_right (l : Launch) (D : va_G) (cI cG cL cB : ClassId) (g : Nat → Nat) (th n : Nat) (en le ro : Nat → Nat) (sn : Nat) (ar rt oh : Nat → Nat) (cn : Nat) (no ot cu : Nat → Nat) (lim : Nat) (fa wy lo ch bd : Nat → Nat) (wc wl : Nat → Nat) (wt : Nat → Nat → Nat) (X : Int64) (hok : cw_ok n (fun t => en (2 * t)) (fun t => en (2 * t + 1)) le) (hen : ∀ j, en j < 10) (hl0 : ∀ j, le j ≤ 100) (hno : ∀ j, no j < 10) (hot : ∀ j, ot j < 10) (hne : ∀ c, c < cn → no c ≠ ot c) (hW : ∀ c, c < cn → cw_W n (fun t => en (2 * t)) (fun t => en (2 * t + 1)) le (no c) (ot c) (wc c) (wt c) (wl c)) (hz : okZ sn ar rt oh cn cu wc wl wt) (hy : okY n ro cn wc wt) (hch : ∀ j, ch j < 6) (hlim : lim ≤ 1000000) : ct_i l yX5_right (.code yX5_right cX5_right 8 (some .boolean) :: bw) ({ frames := 5, cells := 0, slots := 0, locals := 113 }) (EN D (tyL cI cG cL cB)) D vwCl (pM g cI cB th n en le ro sn ar rt oh cn no ot cu lim fa wy lo ch bd) [.ref (g 0), .long X] (fun v W => (¬ (∃ d, cs_dig sn cn X d) ∧ (∃ fa' wy' lo' ch' bd', W = (pM g cI cB 1 n en le ro sn ar rt oh cn no ot cu lim fa' wy' lo' ch' bd') ∧ (∀ j, ch' j < 6))) ∨ (∃ d, cs_dig sn cn X d ∧ (∃ bb, v = nI (bN bb) ∧ (bb = true ↔ ∀ c, c < cn → cs_rg cn ar rt oh cu wc wl ro wt lim (fun c => cs_lf d c % 6) c = true)) ∧ (∃ fa' wy' lo' ch' bd', W = (pM g cI cB 0 n en le ro sn ar rt oh cn no ot cu lim fa' wy' lo' ch' bd') ∧ (∀ j, ch' j < 6)))) 0 0 := by
  refine ct_ofi (by decide) (Nat.le_of_ble_eq_true rfl) ?_
  intro p e s m below meth cd A H locs av Q ls hx hb hr hml hown hlocks hnm hbw hEN hQ hP hD hS hA hl
  have hown : s.vm.findClass RX5 = some m.cls := hown
  have hK := hEN.1
  have hl : lv_has ls 8 [(0, .ref (g 0)), (1, .long X)] := hl
  obtain ⟨hsn, har, hrt, hoh, hcn, hcu, hwc, hwl, hwt⟩ := id hz
  obtain ⟨hn, hro, hro1, hway, hnd⟩ := id hy
  refine lv_aload_n hx hb dX5_right_0 rfl (lv_at hl 0 rfl) ?_
  refine ct_Vv (wc := (pM g cI cB th n en le ro sn ar rt oh cn no ot cu lim fa wy lo ch bd)) (wr := ([] : va_W)) (As := []) (rest := []) ⟨hx, hb, hml, hown, hbw⟩ (EN_E D _) hEN (kX5_goAll l D cI cG cL cB g th n en le ro sn ar rt oh cn no ot cu lim fa wy lo ch bd wc wl wt hn hok hen hl0 hcn hno hot hwc hwt hwl hne hW) (cwV (C := "CableSizesModel") 0 hbw (gV m_596 m_598 m_7 m_23 m_599) rfl rfl rfl (by decide +kernel) ⟨Nat.le_of_ble_eq_true rfl, Nat.le_of_ble_eq_true rfl⟩) (va_recv hK hP (ci := 5) (q0 := 0) rfl rfl) hP hD hS hA [0, 1, 2, 3, 4, 5, 6, 7, 8, 9, 10, 11, 12, 13, 14] [] rfl rfl (by decide) (by decide) (by decide) rfl hl.1 rfl (Nat.le_of_ble_eq_true rfl) dX5_right_1 ⟨Nat.le_of_ble_eq_true rfl, Nat.le_of_ble_eq_true rfl⟩ (fun w_1 H locs hw hP hD hS => ?_)
  obtain ⟨fa, wy, lo, rfl, he⟩ := hw
  have hP := hP.sub (ws' := (pM g cI cB th n en le ro sn ar rt oh cn no ot cu lim fa wy lo ch bd)) [0, 1, 2, 3, 4, 5, 6, 7, 8, 9, 10, 11, 12, 13, 14] rfl
  have hD := hD.sub (ws' := (pM g cI cB th n en le ro sn ar rt oh cn no ot cu lim fa wy lo ch bd)) [0, 1, 2, 3, 4, 5, 6, 7, 8, 9, 10, 11, 12, 13, 14] (by decide) rfl
  have ct1 : ∀ (tt : Nat) (ch : Nat → Nat), (hch : ∀ j, ch j < 6) → (htt : (tt = 0 ∧ ∃ d, cs_dig sn cn X d ∧ ∀ j, j < cn → ch j = cs_lf d j % 6) ∨ (tt = 1 ∧ ¬ (∃ d, cs_dig sn cn X d))) → ∀ (H : Heap) (locs : List Loc) (ls : Array Slot), va_P D vwCl (pM g cI cB th n en le ro sn ar rt oh cn no ot cu lim fa wy lo ch bd) H → va_D A (pM g cI cB th n en le ro sn ar rt oh cn no ot cu lim fa wy lo ch bd) → va_S A s.heap H locs → lv_has ls 8 [(0, .ref (g 0))] → W p l e ({ frames := 5, cells := 0, slots := 0, locals := 113 }) s m av below meth cd H locs 0 0 Q (F0 m 99 ls [.int (nI tt), .ref (g 0)]) := by
    intro tt ch hch htt H locs ls hP hD hS hl
    rcases htt with ⟨htt, d, hdg, hcd⟩ | ⟨htt, hG⟩
    · subst htt
      refine va_put (ci := 5) (v := .int (nI 0)) (ty := .int) (C := RX5) (T := TX5) (N := 19) hx hb hbw in_X5 tyX5 tyX5_ok nmX5 hown hK hP hD hS 0 rfl rfl 0 (by decide) (hbw _ m_488) (fun _ h9 => h9) rfl (by decide +kernel) rfl rfl (Nat.le_of_ble_eq_true rfl) dX5_right_99 (fun H locs hP hD hS => ?_)
      have hP : va_P D vwCl (pM g cI cB 0 n en le ro sn ar rt oh cn no ot cu lim fa wy lo ch bd) H := hP
      have hD : va_D A (pM g cI cB 0 n en le ro sn ar rt oh cn no ot cu lim fa wy lo ch bd) := hD
      refine lv_aload_n hx hb dX5_right_102 rfl (lv_at hl 0 rfl) ?_
      refine va_get (ci := 5) (v := .int (nI 0)) (C := RX5) (T := TX5) (N := 19) hx hb hbw in_X5 hown hK hP 0 rfl rfl 0 (by decide) (hbw _ m_488) (fun _ h9 => h9) rfl dX5_right_103 ?_
      refine nr_if_ne (x := 0) (tgt := 113) hx hb (by omega) dX5_right_106 (by decide) (fun h => absurd h (by omega)) (fun _ => ?_)
      refine lv_iconst (v := nI 1) hx hb dX5_right_109 (by decide) ?_
      refine lv_goto (tgt := 114) hx hb dX5_right_110 (by decide) ?_
      refine lv_istore (lv' := [(6, .int (nI 1)), (0, .ref (g 0))]) hx hb dX5_right_114 hl (by decide) rfl (fun ls hl => ?_)
      refine lv_iconst (v := nI 0) hx hb dX5_right_116 (by decide) ?_
      refine lv_istore (lv' := [(7, .int (nI 0)), (6, .int (nI 1)), (0, .ref (g 0))]) hx hb dX5_right_117 hl (by decide) rfl (fun ls hl => ?_)
      have lp : ∀ (k : Nat) (c : Nat) (iz : Nat), (hk : cn < c + k) → (hi : c ≤ cn) → (hv : (iz = 1 ∧ ∀ j, j < c → cs_rg cn ar rt oh cu wc wl ro wt lim ch j = true) ∨ (iz = 0 ∧ ∃ j, j < c ∧ cs_rg cn ar rt oh cu wc wl ro wt lim ch j = false)) → ∀ (H : Heap) (locs : List Loc) (ls : Array Slot), va_P D vwCl (pM g cI cB 0 n en le ro sn ar rt oh cn no ot cu lim fa wy lo ch bd) H → va_D A (pM g cI cB 0 n en le ro sn ar rt oh cn no ot cu lim fa wy lo ch bd) → va_S A s.heap H locs → lv_has ls 8 [(0, .ref (g 0)), (6, .int (nI iz)), (7, .int (nI c))] → W p l e ({ frames := 5, cells := 0, slots := 0, locals := 113 }) s m av below meth cd H locs 0 0 Q (F0 m 119 ls []) := by
        intro k
        induction k with
        | zero => intro c iz hk hi hv; exact absurd hk (by omega)
        | succ k ih =>
          intro c iz hk hi hv H locs ls hP hD hS hl
          have hrg : ∀ j, j < cn → cs_rg cn ar rt oh cu wc wl ro wt lim ch j = cs_rg cn ar rt oh cu wc wl ro wt lim (fun c => cs_lf d c % 6) j := fun j hj => cs_rg_congr hcd hj
          refine lv_iload hx hb dX5_right_119 (lv_at hl 2 rfl) ?_
          refine lv_aload_n hx hb dX5_right_121 rfl (lv_at hl 0 rfl) ?_
          refine va_get (ci := 5) (v := .int (nI cn)) (C := RX5) (T := TX5) (N := 19) hx hb hbw in_X5 hown hK hP 0 rfl rfl 9 (by decide) (hbw _ m_497) (fun _ h9 => h9) rfl dX5_right_122 ?_
          refine nr_icmp_ge (x := c) (y := cn) (tgt := 147) hx hb (by omega) (by omega) dX5_right_125 (by decide) (fun h1 => ?_) (fun h1 => ?_)
          · have ec : c = cn := by omega
            rw [ec] at hv
            rcases hv with ⟨h2, h3⟩ | ⟨h2, j, h3, h4⟩
            · subst h2
              refine lv_iload hx hb dX5_right_147 (lv_at hl 1 rfl) ?_
              rw [hQ]
              exact ct_zret hx hb hr hlocks hP hD hS dX5_right_149 (by first | exact Or.inl rfl | exact Or.inr rfl) (Or.inr ⟨d, hdg, ⟨true, rfl, ⟨fun _ c hc => by rw [← hrg c hc]; exact h3 c hc, fun _ => rfl⟩⟩, fa, wy, lo, ch, bd, rfl, hch⟩)
            · subst h2
              refine lv_iload hx hb dX5_right_147 (lv_at hl 1 rfl) ?_
              rw [hQ]
              exact ct_zret hx hb hr hlocks hP hD hS dX5_right_149 (by first | exact Or.inl rfl | exact Or.inr rfl) (Or.inr ⟨d, hdg, ⟨false, rfl, ⟨fun q => (by cases q), fun q => by have := q j h3; rw [← hrg j h3, h4] at this; cases this⟩⟩, fa, wy, lo, ch, bd, rfl, hch⟩)
          · rcases hv with ⟨h2, h3⟩ | ⟨h2, j, h3, h4⟩
            · subst h2
              refine lv_iload hx hb dX5_right_128 (lv_at hl 1 rfl) ?_
              refine nr_if_eq (x := 1) (tgt := 147) hx hb (by omega) dX5_right_130 (by decide) (fun h => absurd h (by omega)) (fun _ => ?_)
              refine lv_aload_n hx hb dX5_right_133 rfl (lv_at hl 0 rfl) ?_
              refine lv_iload hx hb dX5_right_134 (lv_at hl 2 rfl) ?_
              refine ct_Vi (wc := (pM g cI cB 0 n en le ro sn ar rt oh cn no ot cu lim fa wy lo ch bd)) (wr := ([] : va_W)) (As := [.int (nI c)]) (rest := []) ⟨hx, hb, hml, hown, hbw⟩ (EN_E D _) hEN (kX5_isRight l D cI cG cL cB g 0 n en le ro sn ar rt oh cn no ot cu lim fa wy lo ch bd wc wl wt c h1 hz hy hch hlim he) (cwV (C := "CableSizesModel") 1 hbw (gV m_621 m_623 m_11 m_23 m_624) rfl rfl rfl (by decide +kernel) ⟨Nat.le_of_ble_eq_true rfl, Nat.le_of_ble_eq_true rfl⟩) (va_recv hK hP (ci := 5) (q0 := 0) rfl rfl) hP hD hS hA [0, 1, 2, 3, 4, 5, 6, 7, 8, 9, 10, 11, 12, 13, 14] [] rfl rfl (by decide) (by decide) (by decide) rfl hl.1 rfl (Nat.le_of_ble_eq_true rfl) dX5_right_136 ⟨Nat.le_of_ble_eq_true rfl, Nat.le_of_ble_eq_true rfl⟩ (fun r_2 w_2 H locs hw hP hD hS => ?_)
              obtain ⟨rfl, rfl⟩ := hw
              have hP := hP.sub (ws' := (pM g cI cB 0 n en le ro sn ar rt oh cn no ot cu lim fa wy lo ch bd)) [0, 1, 2, 3, 4, 5, 6, 7, 8, 9, 10, 11, 12, 13, 14] rfl
              have hD := hD.sub (ws' := (pM g cI cB 0 n en le ro sn ar rt oh cn no ot cu lim fa wy lo ch bd)) [0, 1, 2, 3, 4, 5, 6, 7, 8, 9, 10, 11, 12, 13, 14] (by decide) rfl
              refine lv_istore (lv' := [(6, .int (nI (bN (cs_rg cn ar rt oh cu wc wl ro wt lim ch c)))), (0, .ref (g 0)), (7, .int (nI c))]) hx hb dX5_right_139 hl (by decide) rfl (fun ls hl => ?_)
              refine lv_iinc (v := nI (c + 1)) (lv' := [(7, .int (nI (c + 1))), (6, .int (nI (bN (cs_rg cn ar rt oh cu wc wl ro wt lim ch c)))), (0, .ref (g 0))]) hx hb dX5_right_141 hl (k := 2) rfl (nI_1 _) (by decide) rfl (fun ls hl => ?_)
              refine lv_goto (tgt := 119) hx hb dX5_right_144 (by decide) ?_
              cases hq : cs_rg cn ar rt oh cu wc wl ro wt lim ch c with
              | true =>
                rw [hq] at hl
                exact ih (c + 1) 1 (by omega) (by omega) (Or.inl ⟨rfl, lt_s h3 hq⟩) _ _ _ hP hD hS (lv_sub hl [2, 1, 0] rfl)
              | false =>
                rw [hq] at hl
                exact ih (c + 1) 0 (by omega) (by omega) (Or.inr ⟨rfl, c, by omega, hq⟩) _ _ _ hP hD hS (lv_sub hl [2, 1, 0] rfl)
            · subst h2
              refine lv_iload hx hb dX5_right_128 (lv_at hl 1 rfl) ?_
              refine nr_if_eq (x := 0) (tgt := 147) hx hb (by omega) dX5_right_130 (by decide) (fun _ => ?_) (fun h => absurd h (by omega))
              refine lv_iload hx hb dX5_right_147 (lv_at hl 1 rfl) ?_
              rw [hQ]
              exact ct_zret hx hb hr hlocks hP hD hS dX5_right_149 (by first | exact Or.inl rfl | exact Or.inr rfl) (Or.inr ⟨d, hdg, ⟨false, rfl, ⟨fun q => (by cases q), fun q => by have := q j (by omega); rw [← hrg j (by omega), h4] at this; cases this⟩⟩, fa, wy, lo, ch, bd, rfl, hch⟩)
      exact lp (cn + 1) 0 1 (by omega) (Nat.zero_le cn) (Or.inl ⟨rfl, lt_0⟩) H locs ls hP hD hS (lv_sub hl [2, 1, 0] rfl)
    · subst htt
      refine va_put (ci := 5) (v := .int (nI 1)) (ty := .int) (C := RX5) (T := TX5) (N := 19) hx hb hbw in_X5 tyX5 tyX5_ok nmX5 hown hK hP hD hS 0 rfl rfl 0 (by decide) (hbw _ m_488) (fun _ h9 => h9) rfl (by decide +kernel) rfl rfl (Nat.le_of_ble_eq_true rfl) dX5_right_99 (fun H locs hP hD hS => ?_)
      have hP : va_P D vwCl (pM g cI cB 1 n en le ro sn ar rt oh cn no ot cu lim fa wy lo ch bd) H := hP
      have hD : va_D A (pM g cI cB 1 n en le ro sn ar rt oh cn no ot cu lim fa wy lo ch bd) := hD
      refine lv_aload_n hx hb dX5_right_102 rfl (lv_at hl 0 rfl) ?_
      refine va_get (ci := 5) (v := .int (nI 1)) (C := RX5) (T := TX5) (N := 19) hx hb hbw in_X5 hown hK hP 0 rfl rfl 0 (by decide) (hbw _ m_488) (fun _ h9 => h9) rfl dX5_right_103 ?_
      refine nr_if_ne (x := 1) (tgt := 113) hx hb (by omega) dX5_right_106 (by decide) (fun _ => ?_) (fun h => absurd h (by omega))
      refine lv_iconst (v := nI 0) hx hb dX5_right_113 (by decide) ?_
      refine lv_istore (lv' := [(6, .int (nI 0)), (0, .ref (g 0))]) hx hb dX5_right_114 hl (by decide) rfl (fun ls hl => ?_)
      refine lv_iconst (v := nI 0) hx hb dX5_right_116 (by decide) ?_
      refine lv_istore (lv' := [(7, .int (nI 0)), (6, .int (nI 0)), (0, .ref (g 0))]) hx hb dX5_right_117 hl (by decide) rfl (fun ls hl => ?_)
      refine lv_iload hx hb dX5_right_119 (lv_at hl 0 rfl) ?_
      refine lv_aload_n hx hb dX5_right_121 rfl (lv_at hl 2 rfl) ?_
      refine va_get (ci := 5) (v := .int (nI cn)) (C := RX5) (T := TX5) (N := 19) hx hb hbw in_X5 hown hK hP 0 rfl rfl 9 (by decide) (hbw _ m_497) (fun _ h9 => h9) rfl dX5_right_122 ?_
      refine nr_icmp_ge (x := 0) (y := cn) (tgt := 147) hx hb (by omega) (by omega) dX5_right_125 (by decide) (fun h1 => ?_) (fun h1 => ?_)
      · refine lv_iload hx hb dX5_right_147 (lv_at hl 1 rfl) ?_
        rw [hQ]
        exact ct_zret hx hb hr hlocks hP hD hS dX5_right_149 (by first | exact Or.inl rfl | exact Or.inr rfl) (Or.inl ⟨hG, fa, wy, lo, ch, bd, rfl, hch⟩)
      · refine lv_iload hx hb dX5_right_128 (lv_at hl 1 rfl) ?_
        refine nr_if_eq (x := 0) (tgt := 147) hx hb (by omega) dX5_right_130 (by decide) (fun _ => ?_) (fun h => absurd h (by omega))
        refine lv_iload hx hb dX5_right_147 (lv_at hl 1 rfl) ?_
        rw [hQ]
        exact ct_zret hx hb hr hlocks hP hD hS dX5_right_149 (by first | exact Or.inl rfl | exact Or.inr rfl) (Or.inl ⟨hG, fa, wy, lo, ch, bd, rfl, hch⟩)
  refine lv_lload_n hx hb dX5_right_4 rfl (lv_at hl 1 rfl) ?_
  refine lv_lstore_n (lv' := [(3, .long X), (0, .ref (g 0)), (1, .long X)]) hx hb dX5_right_5 rfl hl (by decide) rfl (fun ls hl => ?_)
  refine lv_lload_n hx hb dX5_right_6 rfl (lv_at hl 2 rfl) ?_
  refine lv_lconst (v := lN 0) hx hb dX5_right_7 (by decide) ?_
  refine nr_cmplt (tgt := 16) hx hb dX5_right_8 dX5_right_9 (by decide) (fun hX => ?_) (fun hX => ?_)
  · have hG : ¬ (∃ d, cs_dig sn cn X d) := fun ⟨d, h1, h2, _, _⟩ => by rw [h2] at hX; exact absurd ((pk_lLT h1 (by omega)).mp hX) (by omega)
    refine lv_iconst (v := nI 0) hx hb dX5_right_16 (by decide) ?_
    refine lv_istore (lv' := [(5, .int (nI 0)), (3, .long X), (0, .ref (g 0)), (1, .long X)]) hx hb dX5_right_17 hl (by decide) rfl (fun ls hl => ?_)
    refine lv_iconst (v := nI 0) hx hb dX5_right_19 (by decide) ?_
    refine lv_istore (lv' := [(6, .int (nI 0)), (5, .int (nI 0)), (3, .long X), (0, .ref (g 0)), (1, .long X)]) hx hb dX5_right_20 hl (by decide) rfl (fun ls hl => ?_)
    refine lv_iload hx hb dX5_right_22 (lv_at hl 0 rfl) ?_
    refine lv_aload_n hx hb dX5_right_24 rfl (lv_at hl 3 rfl) ?_
    refine va_get (ci := 5) (v := .int (nI cn)) (C := RX5) (T := TX5) (N := 19) hx hb hbw in_X5 hown hK hP 0 rfl rfl 9 (by decide) (hbw _ m_497) (fun _ h9 => h9) rfl dX5_right_25 ?_
    refine nr_icmp_ge (x := 0) (y := cn) (tgt := 82) hx hb (by omega) (by omega) dX5_right_28 (by decide) (fun h1 => ?_) (fun h1 => ?_)
    · refine lv_aload_n hx hb dX5_right_82 rfl (lv_at hl 3 rfl) ?_
      refine lv_iload hx hb dX5_right_83 (lv_at hl 1 rfl) ?_
      refine nr_if_eq (x := 0) (tgt := 98) hx hb (by omega) dX5_right_85 (by decide) (fun _ => ?_) (fun h => absurd h (by omega))
      refine lv_iconst (v := nI 1) hx hb dX5_right_98 (by decide) ?_
      exact ct1 1 ch hch (Or.inr ⟨rfl, hG⟩) _ _ _ hP hD hS (lv_sub hl [3] rfl)
    · refine lv_iload hx hb dX5_right_31 (lv_at hl 1 rfl) ?_
      refine nr_if_eq (x := 0) (tgt := 82) hx hb (by omega) dX5_right_33 (by decide) (fun _ => ?_) (fun h => absurd h (by omega))
      refine lv_aload_n hx hb dX5_right_82 rfl (lv_at hl 3 rfl) ?_
      refine lv_iload hx hb dX5_right_83 (lv_at hl 1 rfl) ?_
      refine nr_if_eq (x := 0) (tgt := 98) hx hb (by omega) dX5_right_85 (by decide) (fun _ => ?_) (fun h => absurd h (by omega))
      refine lv_iconst (v := nI 1) hx hb dX5_right_98 (by decide) ?_
      exact ct1 1 ch hch (Or.inr ⟨rfl, hG⟩) _ _ _ hP hD hS (lv_sub hl [3] rfl)
  · obtain ⟨d, hd, rfl⟩ := pk_lOf hX
    refine lv_iconst (v := nI 1) hx hb dX5_right_12 (by decide) ?_
    refine lv_goto (tgt := 17) hx hb dX5_right_13 (by decide) ?_
    refine lv_istore (lv' := [(5, .int (nI 1)), (3, .long (lN d)), (0, .ref (g 0)), (1, .long (lN d))]) hx hb dX5_right_17 hl (by decide) rfl (fun ls hl => ?_)
    refine lv_iconst (v := nI 0) hx hb dX5_right_19 (by decide) ?_
    refine lv_istore (lv' := [(6, .int (nI 0)), (5, .int (nI 1)), (3, .long (lN d)), (0, .ref (g 0)), (1, .long (lN d))]) hx hb dX5_right_20 hl (by decide) rfl (fun ls hl => ?_)
    have lq : ∀ (k : Nat) (c : Nat) (gd : Nat) (ch : Nat → Nat), (hk2 : cn < c + k) → (hi : c ≤ cn) → (hcd : ∀ j, j < c → ch j = cs_lf d j % 6) → (hch : ∀ j, ch j < 6) → (hgd : (gd = 1 ∧ ∀ j, j < c → cs_lf d j % 6 < sn) ∨ (gd = 0 ∧ ∃ j, j < c ∧ sn ≤ cs_lf d j % 6)) → ∀ (H : Heap) (locs : List Loc) (ls : Array Slot), va_P D vwCl (pM g cI cB th n en le ro sn ar rt oh cn no ot cu lim fa wy lo ch bd) H → va_D A (pM g cI cB th n en le ro sn ar rt oh cn no ot cu lim fa wy lo ch bd) → va_S A s.heap H locs → lv_has ls 8 [(0, .ref (g 0)), (3, .long (lN (cs_lf d c))), (5, .int (nI gd)), (6, .int (nI c))] → W p l e ({ frames := 5, cells := 0, slots := 0, locals := 113 }) s m av below meth cd H locs 0 0 Q (F0 m 22 ls []) := by
      intro k
      induction k with
      | zero => intro c gd ch hk2 hi hcd hch hgd; exact absurd hk2 (by omega)
      | succ k ih2 =>
        intro c gd ch hk2 hi hcd hch hgd H locs ls hP hD hS hl
        have b_l := cs_lf_le d c
        have hnb : (∃ j, j < c ∧ sn ≤ cs_lf d j % 6) → ¬ (∃ d1, cs_dig sn cn (lN d) d1) := fun ⟨j, q1, q2⟩ ⟨d1, q3, q4, q5, _⟩ => by
          obtain rfl := lN_inj hd q3 q4
          have := q5 j (by omega)
          omega
        refine lv_iload hx hb dX5_right_22 (lv_at hl 3 rfl) ?_
        refine lv_aload_n hx hb dX5_right_24 rfl (lv_at hl 0 rfl) ?_
        refine va_get (ci := 5) (v := .int (nI cn)) (C := RX5) (T := TX5) (N := 19) hx hb hbw in_X5 hown hK hP 0 rfl rfl 9 (by decide) (hbw _ m_497) (fun _ h9 => h9) rfl dX5_right_25 ?_
        refine nr_icmp_ge (x := c) (y := cn) (tgt := 82) hx hb (by omega) (by omega) dX5_right_28 (by decide) (fun h1 => ?_) (fun h1 => ?_)
        · have ec : c = cn := by omega
          rcases hgd with ⟨h2, h3⟩ | ⟨h2, h3⟩
          · subst h2
            refine lv_aload_n hx hb dX5_right_82 rfl (lv_at hl 0 rfl) ?_
            refine lv_iload hx hb dX5_right_83 (lv_at hl 2 rfl) ?_
            refine nr_if_eq (x := 1) (tgt := 98) hx hb (by omega) dX5_right_85 (by decide) (fun h => absurd h (by omega)) (fun _ => ?_)
            refine lv_lload_n hx hb dX5_right_88 rfl (lv_at hl 1 rfl) ?_
            refine lv_lconst (v := lN 0) hx hb dX5_right_89 (by decide) ?_
            refine nr_cmpne (tgt := 98) hx hb dX5_right_90 dX5_right_91 (by decide) (fun h4 => ?_) (fun h4 => ?_)
            · refine lv_iconst (v := nI 1) hx hb dX5_right_98 (by decide) ?_
              exact ct1 1 ch hch (Or.inr ⟨rfl, fun ⟨d1, q3, q4, _, q6⟩ => by obtain rfl := lN_inj hd q3 q4; rw [← ec] at q6; exact h4 (by rw [q6])⟩) _ _ _ hP hD hS (lv_sub hl [0] rfl)
            · refine lv_iconst (v := nI 0) hx hb dX5_right_94 (by decide) ?_
              refine lv_goto (tgt := 99) hx hb dX5_right_95 (by decide) ?_
              exact ct1 0 ch hch (Or.inl ⟨rfl, d, ⟨hd, rfl, by rw [← ec]; exact h3, by rw [← ec]; exact lN_inj (by omega) (by omega) h4⟩, by rw [← ec]; exact hcd⟩) _ _ _ hP hD hS (lv_sub hl [0] rfl)
          · subst h2
            refine lv_aload_n hx hb dX5_right_82 rfl (lv_at hl 0 rfl) ?_
            refine lv_iload hx hb dX5_right_83 (lv_at hl 2 rfl) ?_
            refine nr_if_eq (x := 0) (tgt := 98) hx hb (by omega) dX5_right_85 (by decide) (fun _ => ?_) (fun h => absurd h (by omega))
            refine lv_iconst (v := nI 1) hx hb dX5_right_98 (by decide) ?_
            exact ct1 1 ch hch (Or.inr ⟨rfl, hnb h3⟩) _ _ _ hP hD hS (lv_sub hl [0] rfl)
        · rcases hgd with ⟨h2, h3⟩ | ⟨h2, h3⟩
          · subst h2
            have b_m : cs_lf d c % 6 < 6 := Nat.mod_lt _ (by omega)
            refine lv_iload hx hb dX5_right_31 (lv_at hl 2 rfl) ?_
            refine nr_if_eq (x := 1) (tgt := 82) hx hb (by omega) dX5_right_33 (by decide) (fun h => absurd h (by omega)) (fun _ => ?_)
            refine lv_aload_n hx hb dX5_right_36 rfl (lv_at hl 0 rfl) ?_
            refine va_get (ci := 5) (v := .ref (g 13)) (C := RX5) (T := TX5) (N := 19) hx hb hbw in_X5 hown hK hP 0 rfl rfl 17 (by decide) (hbw _ m_505) (fun _ h9 => h9) rfl dX5_right_37 ?_
            refine lv_iload hx hb dX5_right_40 (lv_at hl 3 rfl) ?_
            refine lv_lload_n hx hb dX5_right_42 rfl (lv_at hl 1 rfl) ?_
            refine lv_ldc2 (v := lN 6) hx hb hown (hbw _ m_666) dX5_right_43 ?_
            refine nr_lrem hx hb (by omega) (by omega) (by omega) dX5_right_46 ?_
            refine lv_l2i (v := nI ((cs_lf d c) % 6)) hx hb dX5_right_47 (lN_i _) ?_
            refine nr_iast hx hb hK hP hD hS 13 0 rfl rfl (k := c) (v := (cs_lf d c) % 6) (by omega) (by omega) dX5_right_48 (fun H locs hP hD hS => ?_)
            have hP : va_P D vwCl (pM g cI cB th n en le ro sn ar rt oh cn no ot cu lim fa wy lo (nr_up ch c ((cs_lf d c) % 6)) bd) H := hP
            have hD : va_D A (pM g cI cB th n en le ro sn ar rt oh cn no ot cu lim fa wy lo (nr_up ch c ((cs_lf d c) % 6)) bd) := hD
            refine lv_aload_n hx hb dX5_right_49 rfl (lv_at hl 0 rfl) ?_
            refine va_get (ci := 5) (v := .ref (g 13)) (C := RX5) (T := TX5) (N := 19) hx hb hbw in_X5 hown hK hP 0 rfl rfl 17 (by decide) (hbw _ m_505) (fun _ h9 => h9) rfl dX5_right_50 ?_
            refine lv_iload hx hb dX5_right_53 (lv_at hl 3 rfl) ?_
            have b_s := nr_up_s ch c (cs_lf d c % 6)
            refine nr_iald hx hb hK hP 13 0 rfl rfl (k := c) (by omega) (by omega) dX5_right_55 ?_
            refine lv_aload_n hx hb dX5_right_56 rfl (lv_at hl 0 rfl) ?_
            refine va_get (ci := 5) (v := .int (nI sn)) (C := RX5) (T := TX5) (N := 19) hx hb hbw in_X5 hown hK hP 0 rfl rfl 5 (by decide) (hbw _ m_493) (fun _ h9 => h9) rfl dX5_right_57 ?_
            refine nr_icmp_ge (x := (nr_up ch c ((cs_lf d c) % 6)) c) (y := sn) (tgt := 67) hx hb (by omega) (by omega) dX5_right_60 (by decide) (fun h5 => ?_) (fun h5 => ?_)
            · refine lv_iconst (v := nI 0) hx hb dX5_right_67 (by decide) ?_
              refine lv_istore (lv' := [(5, .int (nI 0)), (0, .ref (g 0)), (3, .long (lN (cs_lf d c))), (6, .int (nI c))]) hx hb dX5_right_68 hl (by decide) rfl (fun ls hl => ?_)
              refine lv_lload_n hx hb dX5_right_70 rfl (lv_at hl 2 rfl) ?_
              refine lv_ldc2 (v := lN 6) hx hb hown (hbw _ m_666) dX5_right_71 ?_
              refine nr_ldiv hx hb (by omega) (by omega) (by omega) dX5_right_74 ?_
              refine lv_lstore_n (lv' := [(3, .long (lN ((cs_lf d c) / 6))), (5, .int (nI 0)), (0, .ref (g 0)), (6, .int (nI c))]) hx hb dX5_right_75 rfl hl (by decide) rfl (fun ls hl => ?_)
              refine lv_iinc (v := nI (c + 1)) (lv' := [(6, .int (nI (c + 1))), (3, .long (lN ((cs_lf d c) / 6))), (5, .int (nI 0)), (0, .ref (g 0))]) hx hb dX5_right_76 hl (k := 3) rfl (nI_1 _) (by decide) rfl (fun ls hl => ?_)
              refine lv_goto (tgt := 22) hx hb dX5_right_79 (by decide) ?_
              exact ih2 (c + 1) 0 _ (by omega) (by omega) (lt_s (fun j hj => by rw [nr_up_n _ _ (Nat.ne_of_lt hj)]; exact hcd j hj) (nr_up_s _ _ _)) (fun j => by by_cases e : j = c; rw [e, nr_up_s]; exact b_m; rw [nr_up_n _ _ e]; exact hch j) (Or.inr ⟨rfl, c, by omega, by omega⟩) _ _ _ hP hD hS (lv_sub hl [3, 1, 2, 0] rfl)
            · refine lv_iconst (v := nI 1) hx hb dX5_right_63 (by decide) ?_
              refine lv_goto (tgt := 68) hx hb dX5_right_64 (by decide) ?_
              refine lv_istore (lv' := [(5, .int (nI 1)), (0, .ref (g 0)), (3, .long (lN (cs_lf d c))), (6, .int (nI c))]) hx hb dX5_right_68 hl (by decide) rfl (fun ls hl => ?_)
              refine lv_lload_n hx hb dX5_right_70 rfl (lv_at hl 2 rfl) ?_
              refine lv_ldc2 (v := lN 6) hx hb hown (hbw _ m_666) dX5_right_71 ?_
              refine nr_ldiv hx hb (by omega) (by omega) (by omega) dX5_right_74 ?_
              refine lv_lstore_n (lv' := [(3, .long (lN ((cs_lf d c) / 6))), (5, .int (nI 1)), (0, .ref (g 0)), (6, .int (nI c))]) hx hb dX5_right_75 rfl hl (by decide) rfl (fun ls hl => ?_)
              refine lv_iinc (v := nI (c + 1)) (lv' := [(6, .int (nI (c + 1))), (3, .long (lN ((cs_lf d c) / 6))), (5, .int (nI 1)), (0, .ref (g 0))]) hx hb dX5_right_76 hl (k := 3) rfl (nI_1 _) (by decide) rfl (fun ls hl => ?_)
              refine lv_goto (tgt := 22) hx hb dX5_right_79 (by decide) ?_
              exact ih2 (c + 1) 1 _ (by omega) (by omega) (lt_s (fun j hj => by rw [nr_up_n _ _ (Nat.ne_of_lt hj)]; exact hcd j hj) (nr_up_s _ _ _)) (fun j => by by_cases e : j = c; rw [e, nr_up_s]; exact b_m; rw [nr_up_n _ _ e]; exact hch j) (Or.inl ⟨rfl, lt_s h3 (by omega)⟩) _ _ _ hP hD hS (lv_sub hl [3, 1, 2, 0] rfl)
          · subst h2
            refine lv_iload hx hb dX5_right_31 (lv_at hl 2 rfl) ?_
            refine nr_if_eq (x := 0) (tgt := 82) hx hb (by omega) dX5_right_33 (by decide) (fun _ => ?_) (fun h => absurd h (by omega))
            refine lv_aload_n hx hb dX5_right_82 rfl (lv_at hl 0 rfl) ?_
            refine lv_iload hx hb dX5_right_83 (lv_at hl 2 rfl) ?_
            refine nr_if_eq (x := 0) (tgt := 98) hx hb (by omega) dX5_right_85 (by decide) (fun _ => ?_) (fun h => absurd h (by omega))
            refine lv_iconst (v := nI 1) hx hb dX5_right_98 (by decide) ?_
            exact ct1 1 ch hch (Or.inr ⟨rfl, hnb h3⟩) _ _ _ hP hD hS (lv_sub hl [0] rfl)
    exact lq (cn + 1) 0 1 ch (by omega) (Nat.zero_le cn) (lt_0) hch (Or.inl ⟨rfl, lt_0⟩) _ _ _ hP hD hS (lv_sub hl [3, 2, 1, 0] rfl)
