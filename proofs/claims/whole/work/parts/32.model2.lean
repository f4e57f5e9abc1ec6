/-- the reference's rows say the ways wc, wt, wl of cable c -/
def enc (wc : Nat → Nat) (wt : Nat → Nat → Nat) (wl wy lo : Nat → Nat) (c : Nat) : Prop := (∀ i, i < wc c → wy (16 * c + i) = wt c i + 1) ∧ wy (16 * c + wc c) = 0 ∧ ((wc c = 0 ∧ lo c = 0 ∧ wl c = 0) ∨ (0 < wc c ∧ lo c = wl c + 1))
theorem enc_keep {wc : Nat → Nat} {wt : Nat → Nat → Nat} {wl wy lo wy' lo' : Nat → Nat} {c c' : Nat} (h : enc wc wt wl wy lo c) (hc : c < c') (hw : wc c ≤ 9) (h1 : ∀ j, j < 16 * c' → wy' j = wy j) (h2 : ∀ j, j < c' → lo' j = lo j) : enc wc wt wl wy' lo' c := by
  obtain ⟨e1, e2, e3⟩ := h
  refine ⟨fun i hi => ?_, ?_, ?_⟩
  · rw [h1 _ (by omega)]; exact e1 i hi
  · rw [h1 _ (by omega)]; exact e2
  · rw [h2 c hc]; exact e3
set_option maxHeartbeats 4000000 in
set_option maxRecDepth 100000 in
/-- goAll -/
theorem kX5_goAll (l : Launch) (D : va_G) (cI cG cL cB : ClassId) (g : Nat → Nat) (th n : Nat) (en le ro : Nat → Nat) (sn : Nat) (ar rt oh : Nat → Nat) (cn : Nat) (no ot cu : Nat → Nat) (lim : Nat) (fa wy lo ch bd : Nat → Nat) (wc wl : Nat → Nat) (wt : Nat → Nat → Nat) (hn : n ≤ 15) (hok : cw_ok n (fun t => en (2 * t)) (fun t => en (2 * t + 1)) le) (hen : ∀ j, en j < 10) (hl0 : ∀ j, le j ≤ 100) (hcn : cn ≤ 20) (hno : ∀ j, no j < 10) (hot : ∀ j, ot j < 10) (hwc : ∀ j, wc j ≤ 9) (hwt : ∀ i j, wt i j < 15) (hwl : ∀ j, wl j ≤ 900) (hne : ∀ c, c < cn → no c ≠ ot c) (hW : ∀ c, c < cn → cw_W n (fun t => en (2 * t)) (fun t => en (2 * t + 1)) le (no c) (ot c) (wc c) (wt c) (wl c)) : ct_v l yX5_goAll (.code yX5_goAll cX5_goAll 5 none :: bw) ({ frames := 1, cells := 0, slots := 0, locals := 25 }) (EN D (tyL cI cG cL cB)) D vwCl (pM g cI cB th n en le ro sn ar rt oh cn no ot cu lim fa wy lo ch bd) [.ref (g 0)] (fun W => ∃ fa' wy' lo', W = (pM g cI cB th n en le ro sn ar rt oh cn no ot cu lim fa' wy' lo' ch bd) ∧ ∀ c, c < cn → enc wc wt wl wy' lo' c) 0 0 := by
  refine ct_ofv (by decide) (Nat.le_of_ble_eq_true rfl) ?_
  intro p e s m below meth cd A H locs av Q ls hx hb hr hml hown hlocks hnm hbw hEN hQ hP hD hS hA hl
  have hown : s.vm.findClass RX5 = some m.cls := hown
  have hK := hEN.1
  have hl : lv_has ls 5 [(0, .ref (g 0))] := hl
  refine lv_iconst (v := nI 0) hx hb dX5_goAll_0 (by decide) ?_
  refine lv_istore_n (lv' := [(1, .int (nI 0)), (0, .ref (g 0))]) hx hb dX5_goAll_1 rfl hl (by decide) rfl (fun ls hl => ?_)
  have lp : ∀ (k : Nat) (c : Nat) (fa : Nat → Nat) (wy : Nat → Nat) (lo : Nat → Nat), (hk : cn < c + k) → (hi : c ≤ cn) → (he : ∀ j, j < c → enc wc wt wl wy lo j) → ∀ (H : Heap) (locs : List Loc) (ls : Array Slot), va_P D vwCl (pM g cI cB th n en le ro sn ar rt oh cn no ot cu lim fa wy lo ch bd) H → va_D A (pM g cI cB th n en le ro sn ar rt oh cn no ot cu lim fa wy lo ch bd) → va_S A s.heap H locs → lv_has ls 5 [(0, .ref (g 0)), (1, .int (nI c))] → W p l e ({ frames := 1, cells := 0, slots := 0, locals := 25 }) s m av below meth cd H locs 0 0 Q (F0 m 2 ls []) := by
    intro k
    induction k with
    | zero => intro c fa wy lo hk hi he; exact absurd hk (by omega)
    | succ k ih =>
      intro c fa wy lo hk hi he H locs ls hP hD hS hl
      refine lv_iload_n hx hb dX5_goAll_2 rfl (lv_at hl 1 rfl) ?_
      refine lv_aload_n hx hb dX5_goAll_3 rfl (lv_at hl 0 rfl) ?_
      refine va_get (ci := 5) (v := .int (nI cn)) (C := RX5) (T := TX5) (N := 19) hx hb hbw in_X5 hown hK hP 0 rfl rfl 9 (by decide) (hbw _ m_497) (fun _ h9 => h9) rfl dX5_goAll_4 ?_
      refine nr_icmp_ge (x := c) (y := cn) (tgt := 170) hx hb (by omega) (by omega) dX5_goAll_7 (by decide) (fun h1 => ?_) (fun h1 => ?_)
      · have e9 : c = cn := by omega
        rw [e9] at he
        rw [hQ]
        exact ct_vret hx hb hr hlocks hP hD hS dX5_goAll_170 ⟨fa, wy, lo, rfl, he⟩
      · refine lv_aload_n hx hb dX5_goAll_10 rfl (lv_at hl 0 rfl) ?_
        refine lv_aload_n hx hb dX5_goAll_11 rfl (lv_at hl 0 rfl) ?_
        refine va_get (ci := 5) (v := .ref (g 8)) (C := RX5) (T := TX5) (N := 19) hx hb hbw in_X5 hown hK hP 0 rfl rfl 11 (by decide) (hbw _ m_499) (fun _ h9 => h9) rfl dX5_goAll_12 ?_
        refine lv_iload_n hx hb dX5_goAll_15 rfl (lv_at hl 1 rfl) ?_
        refine nr_iald hx hb hK hP 8 0 rfl rfl (k := c) (by omega) (by omega) dX5_goAll_16 ?_
        have b_1 := hot c
        refine ct_Vv (wc := (pM g cI cB th n en le ro sn ar rt oh cn no ot cu lim fa wy lo ch bd)) (wr := ([] : va_W)) (As := [.int (nI (ot c))]) (rest := []) ⟨hx, hb, hml, hown, hbw⟩ (EN_E D _) hEN (kX5_measure l D cI cG cL cB g th n en le ro sn ar rt oh cn no ot cu lim fa wy lo ch bd (ot c) (hot c) hn hok hen hl0) (cwV (C := "CableSizesModel") 1 hbw (gV m_600 m_602 m_8 m_23 m_603) rfl rfl rfl (by decide +kernel) ⟨Nat.le_of_ble_eq_true rfl, Nat.le_of_ble_eq_true rfl⟩) (va_recv hK hP (ci := 5) (q0 := 0) rfl rfl) hP hD hS hA [0, 1, 2, 3, 4, 5, 6, 7, 8, 9, 10, 11, 12, 13, 14] [] rfl rfl (by decide) (by decide) (by decide) rfl hl.1 rfl (Nat.le_of_ble_eq_true rfl) dX5_goAll_17 ⟨Nat.le_of_ble_eq_true rfl, Nat.le_of_ble_eq_true rfl⟩ (fun w_2 H locs hw hP hD hS => ?_)
        obtain ⟨d, rfl, hds⟩ := hw
        have hP := hP.sub (ws' := (pM g cI cB th n en le ro sn ar rt oh cn no ot cu lim d wy lo ch bd)) [0, 1, 2, 3, 4, 5, 6, 7, 8, 9, 10, 11, 12, 13, 14] rfl
        have hD := hD.sub (ws' := (pM g cI cB th n en le ro sn ar rt oh cn no ot cu lim d wy lo ch bd)) [0, 1, 2, 3, 4, 5, 6, 7, 8, 9, 10, 11, 12, 13, 14] (by decide) rfl
        obtain ⟨d', hds', hcase⟩ := hW c h1
        obtain rfl := cw_ds_uniq hds hds'
        have hd0 : ∀ j, d j ≤ 1000000 := hds.1.1
        have b_w := hwc c
        have b_n := hno c
        refine lv_aload_n hx hb dX5_goAll_20 rfl (lv_at hl 0 rfl) ?_
        refine va_get (ci := 5) (v := .ref (g 7)) (C := RX5) (T := TX5) (N := 19) hx hb hbw in_X5 hown hK hP 0 rfl rfl 10 (by decide) (hbw _ m_498) (fun _ h9 => h9) rfl dX5_goAll_21 ?_
        refine lv_iload_n hx hb dX5_goAll_24 rfl (lv_at hl 1 rfl) ?_
        refine nr_iald hx hb hK hP 7 0 rfl rfl (k := c) (by omega) (by omega) dX5_goAll_25 ?_
        have b_3 := hno c
        refine lv_istore_n (lv' := [(2, .int (nI (no c))), (0, .ref (g 0)), (1, .int (nI c))]) hx hb dX5_goAll_26 rfl hl (by decide) rfl (fun ls hl => ?_)
        refine lv_aload_n hx hb dX5_goAll_27 rfl (lv_at hl 1 rfl) ?_
        refine va_get (ci := 5) (v := .ref (g 12)) (C := RX5) (T := TX5) (N := 19) hx hb hbw in_X5 hown hK hP 0 rfl rfl 16 (by decide) (hbw _ m_504) (fun _ h9 => h9) rfl dX5_goAll_28 ?_
        refine lv_iload_n hx hb dX5_goAll_31 rfl (lv_at hl 2 rfl) ?_
        refine lv_aload_n hx hb dX5_goAll_32 rfl (lv_at hl 1 rfl) ?_
        refine va_get (ci := 5) (v := .ref (g 10)) (C := RX5) (T := TX5) (N := 19) hx hb hbw in_X5 hown hK hP 0 rfl rfl 14 (by decide) (hbw _ m_502) (fun _ h9 => h9) rfl dX5_goAll_33 ?_
        refine lv_iload_n hx hb dX5_goAll_36 rfl (lv_at hl 0 rfl) ?_
        refine nr_iald hx hb hK hP 10 0 rfl rfl (k := no c) (by omega) (by omega) dX5_goAll_37 ?_
        have b_4 := hd0 (no c)
        refine lv_ldc (v := nI 1000000) hx hb hown (hbw _ m_604) dX5_goAll_38 ?_
        refine nr_icmp_lt (x := d (no c)) (y := 1000000) (tgt := 47) hx hb (by omega) (by omega) dX5_goAll_40 (by decide) (fun h2 => ?_) (fun h2 => ?_)
        · refine lv_aload_n hx hb dX5_goAll_47 rfl (lv_at hl 1 rfl) ?_
          refine va_get (ci := 5) (v := .ref (g 10)) (C := RX5) (T := TX5) (N := 19) hx hb hbw in_X5 hown hK hP 0 rfl rfl 14 (by decide) (hbw _ m_502) (fun _ h9 => h9) rfl dX5_goAll_48 ?_
          refine lv_iload_n hx hb dX5_goAll_51 rfl (lv_at hl 0 rfl) ?_
          refine nr_iald hx hb hK hP 10 0 rfl rfl (k := no c) (by omega) (by omega) dX5_goAll_52 ?_
          have b_5 := hd0 (no c)
          refine nr_mast hx hb hK hP hD hS 12 0 rfl rfl (k := c) ((d (no c)) + 1) rfl (by omega) (by omega) dX5_goAll_53 (fun H locs hP hD hS => ?_)
          have hP : va_P D vwCl (pM g cI cB th n en le ro sn ar rt oh cn no ot cu lim d wy (nr_up lo c ((d (no c)) + 1)) ch bd) H := hP
          have hD : va_D A (pM g cI cB th n en le ro sn ar rt oh cn no ot cu lim d wy (nr_up lo c ((d (no c)) + 1)) ch bd) := hD
          refine lv_iconst (v := nI 0) hx hb dX5_goAll_54 (by decide) ?_
          refine lv_istore_n (lv' := [(3, .int (nI 0)), (2, .int (nI (no c))), (0, .ref (g 0)), (1, .int (nI c))]) hx hb dX5_goAll_55 rfl hl (by decide) rfl (fun ls hl => ?_)
          obtain ⟨hk9, hgr, hL⟩ : wc c ≤ 9 ∧ cw_gr n (fun t => en (2 * t)) (fun t => en (2 * t + 1)) le d ((List.range (wc c)).map (wt c)) (no c) (ot c) ∧ wl c = d (no c) := by
            rcases hcase with ⟨h, -, -⟩ | ⟨-, h3, h4, h5⟩
            · omega
            · exact ⟨h3, h4, h5⟩
          have hgs := cw_gs_of (f := wt c) (wc c) 0 (no c) (ot c) (by rw [← List.range_eq_range']; exact hgr)
          have lq : ∀ (k : Nat) (i : Nat) (nd : Nat) (wz : Nat → Nat), (hk2 : 9 < i + k) → (hi2 : i ≤ wc c) → (hnd : nd < 10) → (hg2 : cw_gs n (fun t => en (2 * t)) (fun t => en (2 * t + 1)) le d (wt c) (wc c - i) i nd (ot c)) → (hz1 : ∀ j, j < i → wz (16 * c + j) = wt c j + 1) → (hz2 : ∀ j, j < 16 * c → wz j = wy j) → ∀ (H : Heap) (locs : List Loc) (ls : Array Slot), va_P D vwCl (pM g cI cB th n en le ro sn ar rt oh cn no ot cu lim d wz (nr_up lo c (d (no c) + 1)) ch bd) H → va_D A (pM g cI cB th n en le ro sn ar rt oh cn no ot cu lim d wz (nr_up lo c (d (no c) + 1)) ch bd) → va_S A s.heap H locs → lv_has ls 5 [(0, .ref (g 0)), (1, .int (nI c)), (2, .int (nI nd)), (3, .int (nI i))] → W p l e ({ frames := 1, cells := 0, slots := 0, locals := 25 }) s m av below meth cd H locs 0 0 Q (F0 m 56 ls []) := by
            intro k
            induction k with
            | zero => intro i nd wz hk2 hi2 hnd hg2 hz1 hz2; exact absurd hk2 (by omega)
            | succ k ih2 =>
              intro i nd wz hk2 hi2 hnd hg2 hz1 hz2 H locs ls hP hD hS hl
              have hend : nd = ot c ↔ i = wc c := by
                constructor
                · intro e
                  rcases Nat.lt_or_ge i (wc c) with q | q
                  · obtain ⟨r, hr⟩ : ∃ r, wc c - i = r + 1 := ⟨wc c - i - 1, by omega⟩
                    rw [hr] at hg2
                    obtain ⟨q1, ⟨w0, -, q3, -⟩, -⟩ := hg2
                    have q4 := (hok _ q1).2.2.2
                    have q5 := cw_ds_v hds
                    rw [← e] at q5
                    omega
                  · omega
                · intro e
                  rw [e, Nat.sub_self] at hg2
                  exact hg2
              have b_f := hd0 (no c)
              refine lv_aload_n hx hb dX5_goAll_56 rfl (lv_at hl 0 rfl) ?_
              refine va_get (ci := 5) (v := .ref (g 12)) (C := RX5) (T := TX5) (N := 19) hx hb hbw in_X5 hown hK hP 0 rfl rfl 16 (by decide) (hbw _ m_504) (fun _ h9 => h9) rfl dX5_goAll_57 ?_
              refine lv_iload_n hx hb dX5_goAll_60 rfl (lv_at hl 1 rfl) ?_
              refine nr_mald1 hx hb hK hP 12 0 rfl rfl (k := c) (v := d (no c)) (by omega) (by omega) (nr_up_s _ _ _) dX5_goAll_61 ?_
              refine lv_iconst (v := (-1)) hx hb dX5_goAll_62 (by decide) ?_
              refine lv_icmp_eq (tgt := 152) hx hb dX5_goAll_63 (by decide) (fun h => absurd h (nI_nm1 (by omega))) (fun _ => ?_)
              refine lv_iload_n hx hb dX5_goAll_66 rfl (lv_at hl 2 rfl) ?_
              refine lv_aload_n hx hb dX5_goAll_67 rfl (lv_at hl 0 rfl) ?_
              refine va_get (ci := 5) (v := .ref (g 8)) (C := RX5) (T := TX5) (N := 19) hx hb hbw in_X5 hown hK hP 0 rfl rfl 11 (by decide) (hbw _ m_499) (fun _ h9 => h9) rfl dX5_goAll_68 ?_
              refine lv_iload_n hx hb dX5_goAll_71 rfl (lv_at hl 1 rfl) ?_
              refine nr_iald hx hb hK hP 8 0 rfl rfl (k := c) (by omega) (by omega) dX5_goAll_72 ?_
              have b_6 := hot c
              refine nr_icmp_eq (x := nd) (y := ot c) (tgt := 152) hx hb (by omega) (by omega) dX5_goAll_73 (by decide) (fun h3 => ?_) (fun h3 => ?_)
              · have e3 := hend.mp h3
                refine lv_aload_n hx hb dX5_goAll_152 rfl (lv_at hl 0 rfl) ?_
                refine va_get (ci := 5) (v := .ref (g 11)) (C := RX5) (T := TX5) (N := 19) hx hb hbw in_X5 hown hK hP 0 rfl rfl 15 (by decide) (hbw _ m_503) (fun _ h9 => h9) rfl dX5_goAll_153 ?_
                refine lv_bipush (v := nI 16) hx hb dX5_goAll_156 (by decide) ?_
                refine lv_iload_n hx hb dX5_goAll_158 rfl (lv_at hl 1 rfl) ?_
                refine nr_imul hx hb dX5_goAll_159 ?_
                refine lv_iload_n hx hb dX5_goAll_160 rfl (lv_at hl 3 rfl) ?_
                refine nr_iadd hx hb dX5_goAll_161 ?_
                refine lv_iconst (v := (-1)) hx hb dX5_goAll_162 (by decide) ?_
                refine nr_mast hx hb hK hP hD hS 11 0 rfl rfl (k := (16 * c) + i) (0) rfl (by omega) (by omega) dX5_goAll_163 (fun H locs hP hD hS => ?_)
                have hP : va_P D vwCl (pM g cI cB th n en le ro sn ar rt oh cn no ot cu lim d (nr_up wz ((16 * c) + i) 0) (nr_up lo c (d (no c) + 1)) ch bd) H := hP
                have hD : va_D A (pM g cI cB th n en le ro sn ar rt oh cn no ot cu lim d (nr_up wz ((16 * c) + i) 0) (nr_up lo c (d (no c) + 1)) ch bd) := hD
                refine lv_iinc (v := nI (c + 1)) (lv' := [(1, .int (nI (c + 1))), (0, .ref (g 0)), (2, .int (nI nd)), (3, .int (nI i))]) hx hb dX5_goAll_164 hl (k := 1) rfl (nI_1 _) (by decide) rfl (fun ls hl => ?_)
                refine lv_goto (tgt := 2) hx hb dX5_goAll_167 (by decide) ?_
                exact ih (c + 1) d (nr_up wz ((16 * c) + i) 0) (nr_up lo c (d (no c) + 1)) (by omega) (by omega) (lt_s (fun j hj => enc_keep (he j hj) hj (hwc j) (fun k hk => by rw [nr_up_n _ _ (by omega)]; exact hz2 k hk) (fun k hk => nr_up_n _ _ (Nat.ne_of_lt hk))) ⟨fun j hj => by rw [nr_up_n _ _ (by omega)]; exact hz1 j (by omega), by rw [← e3]; exact nr_up_s _ _ _, Or.inr ⟨by rcases Nat.eq_zero_or_pos (wc c) with q | q; rw [q] at hgr; exact absurd hgr (hne c h1); exact q, by rw [nr_up_s, hL]⟩⟩) _ _ _ hP hD hS (lv_sub hl [1, 0] rfl)
              · have hlt : i < wc c := by
                  rcases Nat.lt_or_ge i (wc c) with q | q
                  · exact q
                  · exact absurd (hend.mpr (by omega)) h3
                obtain ⟨r, hr⟩ : ∃ r, wc c - i = r + 1 := ⟨wc c - i - 1, by omega⟩
                rw [hr] at hg2
                obtain ⟨hfT, ⟨w0, hw0, hdw0, hg3⟩, hmin⟩ := hg2
                have hw10 := (cw_nx_lt hok hfT hw0).2.1
                have b_nd := hd0 nd
                refine lv_iconst (v := nI 0) hx hb dX5_goAll_76 (by decide) ?_
                refine lv_istore (lv' := [(4, .int (nI 0)), (0, .ref (g 0)), (1, .int (nI c)), (2, .int (nI nd)), (3, .int (nI i))]) hx hb dX5_goAll_77 hl (by decide) rfl (fun ls hl => ?_)
                have l3 : ∀ (k : Nat) (t : Nat), (hk3 : wt c i < t + k) → (ht : t ≤ wt c i) → ∀ (H : Heap) (locs : List Loc) (ls : Array Slot), va_P D vwCl (pM g cI cB th n en le ro sn ar rt oh cn no ot cu lim d wz (nr_up lo c (d (no c) + 1)) ch bd) H → va_D A (pM g cI cB th n en le ro sn ar rt oh cn no ot cu lim d wz (nr_up lo c (d (no c) + 1)) ch bd) → va_S A s.heap H locs → lv_has ls 5 [(0, .ref (g 0)), (1, .int (nI c)), (2, .int (nI nd)), (3, .int (nI i)), (4, .int (nI t))] → W p l e ({ frames := 1, cells := 0, slots := 0, locals := 25 }) s m av below meth cd H locs 0 0 Q (F0 m 79 ls []) := by
                  intro k
                  induction k with
                  | zero => intro t hk3 ht; exact absurd hk3 (by omega)
                  | succ k ih3 =>
                    intro t hk3 ht H locs ls hP hD hS hl
                    have b_t := hl0 t
                    refine lv_aload_n hx hb dX5_goAll_79 rfl (lv_at hl 0 rfl) ?_
                    refine lv_iload hx hb dX5_goAll_80 (lv_at hl 4 rfl) ?_
                    refine lv_iload_n hx hb dX5_goAll_82 rfl (lv_at hl 2 rfl) ?_
                    refine ct_Vi (wc := (pM g cI cB th n en le ro sn ar rt oh cn no ot cu lim d wz (nr_up lo c (d (no c) + 1)) ch bd)) (wr := ([] : va_W)) (As := [.int (nI t), .int (nI nd)]) (rest := []) ⟨hx, hb, hml, hown, hbw⟩ (EN_E D _) hEN (kX5_behind l D cI cG cL cB g th n en le ro sn ar rt oh cn no ot cu lim d wz (nr_up lo c (d (no c) + 1)) ch bd t nd (by omega) hnd hen) (cwV (C := "CableSizesModel") 2 hbw (gV m_605 m_607 m_9 m_23 m_608) rfl rfl rfl (by decide +kernel) ⟨Nat.le_of_ble_eq_true rfl, Nat.le_of_ble_eq_true rfl⟩) (va_recv hK hP (ci := 5) (q0 := 0) rfl rfl) hP hD hS hA [0, 1, 2, 3, 4, 5, 6, 7, 8, 9, 10, 11, 12, 13, 14] [] rfl rfl (by decide) (by decide) (by decide) rfl hl.1 rfl (Nat.le_of_ble_eq_true rfl) dX5_goAll_83 ⟨Nat.le_of_ble_eq_true rfl, Nat.le_of_ble_eq_true rfl⟩ (fun r_7 w_7 H locs hw hP hD hS => ?_)
                    obtain ⟨rfl, hr1⟩ := hw
                    have hP := hP.sub (ws' := (pM g cI cB th n en le ro sn ar rt oh cn no ot cu lim d wz (nr_up lo c (d (no c) + 1)) ch bd)) [0, 1, 2, 3, 4, 5, 6, 7, 8, 9, 10, 11, 12, 13, 14] rfl
                    have hD := hD.sub (ws' := (pM g cI cB th n en le ro sn ar rt oh cn no ot cu lim d wz (nr_up lo c (d (no c) + 1)) ch bd)) [0, 1, 2, 3, 4, 5, 6, 7, 8, 9, 10, 11, 12, 13, 14] (by decide) rfl
                    refine lv_iconst (v := (-1)) hx hb dX5_goAll_86 (by decide) ?_
                    by_cases htf : t = wt c i
                    · have hw1 : cw_nx (fun t => en (2 * t)) (fun t => en (2 * t + 1)) t nd = some w0 := by rw [htf]; exact hw0
                      have hd1 : d w0 + le t = d nd := by rw [htf]; exact hdw0
                      have hr2 : r_7 = nI w0 := by rw [hr1, hw1]; rfl
                      subst hr2
                      have b_v := hd0 w0
                      have b_10 : w0 < 10 := hw10
                      refine lv_icmp_eq (tgt := 119) hx hb dX5_goAll_87 (by decide) (fun h => absurd h (nI_nm1 (by omega))) (fun _ => ?_)
                      refine lv_aload_n hx hb dX5_goAll_90 rfl (lv_at hl 0 rfl) ?_
                      refine va_get (ci := 5) (v := .ref (g 10)) (C := RX5) (T := TX5) (N := 19) hx hb hbw in_X5 hown hK hP 0 rfl rfl 14 (by decide) (hbw _ m_502) (fun _ h9 => h9) rfl dX5_goAll_91 ?_
                      refine lv_aload_n hx hb dX5_goAll_94 rfl (lv_at hl 0 rfl) ?_
                      refine lv_iload hx hb dX5_goAll_95 (lv_at hl 4 rfl) ?_
                      refine lv_iload_n hx hb dX5_goAll_97 rfl (lv_at hl 2 rfl) ?_
                      refine ct_Vi (wc := (pM g cI cB th n en le ro sn ar rt oh cn no ot cu lim d wz (nr_up lo c (d (no c) + 1)) ch bd)) (wr := ([] : va_W)) (As := [.int (nI t), .int (nI nd)]) (rest := [.ref (g 10)]) ⟨hx, hb, hml, hown, hbw⟩ (EN_E D _) hEN (kX5_behind l D cI cG cL cB g th n en le ro sn ar rt oh cn no ot cu lim d wz (nr_up lo c (d (no c) + 1)) ch bd t nd (by omega) hnd hen) (cwV (C := "CableSizesModel") 2 hbw (gV m_605 m_607 m_9 m_23 m_608) rfl rfl rfl (by decide +kernel) ⟨Nat.le_of_ble_eq_true rfl, Nat.le_of_ble_eq_true rfl⟩) (va_recv hK hP (ci := 5) (q0 := 0) rfl rfl) hP hD hS hA [0, 1, 2, 3, 4, 5, 6, 7, 8, 9, 10, 11, 12, 13, 14] [] rfl rfl (by decide) (by decide) (by decide) rfl hl.1 rfl (Nat.le_of_ble_eq_true rfl) dX5_goAll_98 ⟨Nat.le_of_ble_eq_true rfl, Nat.le_of_ble_eq_true rfl⟩ (fun r_8 w_8 H locs hw hP hD hS => ?_)
                      obtain ⟨rfl, hr3⟩ := hw
                      have hP := hP.sub (ws' := (pM g cI cB th n en le ro sn ar rt oh cn no ot cu lim d wz (nr_up lo c (d (no c) + 1)) ch bd)) [0, 1, 2, 3, 4, 5, 6, 7, 8, 9, 10, 11, 12, 13, 14] rfl
                      have hD := hD.sub (ws' := (pM g cI cB th n en le ro sn ar rt oh cn no ot cu lim d wz (nr_up lo c (d (no c) + 1)) ch bd)) [0, 1, 2, 3, 4, 5, 6, 7, 8, 9, 10, 11, 12, 13, 14] (by decide) rfl
                      have hr4 : r_8 = nI w0 := by rw [hr3, hw1]; rfl
                      subst hr4
                      refine nr_iald hx hb hK hP 10 0 rfl rfl (k := w0) (by omega) (by omega) dX5_goAll_101 ?_
                      have b_9 := hd0 w0
                      refine lv_aload_n hx hb dX5_goAll_102 rfl (lv_at hl 0 rfl) ?_
                      refine va_get (ci := 5) (v := .ref (g 2)) (C := RX5) (T := TX5) (N := 19) hx hb hbw in_X5 hown hK hP 0 rfl rfl 3 (by decide) (hbw _ m_491) (fun _ h9 => h9) rfl dX5_goAll_103 ?_
                      refine lv_iload hx hb dX5_goAll_106 (lv_at hl 4 rfl) ?_
                      refine nr_iald hx hb hK hP 2 0 rfl rfl (k := t) (by omega) (by omega) dX5_goAll_108 ?_
                      have b_10 := hl0 t
                      refine nr_iadd hx hb dX5_goAll_109 ?_
                      refine lv_aload_n hx hb dX5_goAll_110 rfl (lv_at hl 0 rfl) ?_
                      refine va_get (ci := 5) (v := .ref (g 10)) (C := RX5) (T := TX5) (N := 19) hx hb hbw in_X5 hown hK hP 0 rfl rfl 14 (by decide) (hbw _ m_502) (fun _ h9 => h9) rfl dX5_goAll_111 ?_
                      refine lv_iload_n hx hb dX5_goAll_114 rfl (lv_at hl 2 rfl) ?_
                      refine nr_iald hx hb hK hP 10 0 rfl rfl (k := nd) (by omega) (by omega) dX5_goAll_115 ?_
                      have b_11 := hd0 nd
                      refine nr_icmp_eq (x := (d w0) + (le t)) (y := d nd) (tgt := 125) hx hb (by omega) (by omega) dX5_goAll_116 (by decide) (fun _ => ?_) (fun h => absurd h (by omega))
                      refine lv_aload_n hx hb dX5_goAll_125 rfl (lv_at hl 0 rfl) ?_
                      refine va_get (ci := 5) (v := .ref (g 11)) (C := RX5) (T := TX5) (N := 19) hx hb hbw in_X5 hown hK hP 0 rfl rfl 15 (by decide) (hbw _ m_503) (fun _ h9 => h9) rfl dX5_goAll_126 ?_
                      refine lv_bipush (v := nI 16) hx hb dX5_goAll_129 (by decide) ?_
                      refine lv_iload_n hx hb dX5_goAll_131 rfl (lv_at hl 1 rfl) ?_
                      refine nr_imul hx hb dX5_goAll_132 ?_
                      refine lv_iload_n hx hb dX5_goAll_133 rfl (lv_at hl 3 rfl) ?_
                      refine nr_iadd hx hb dX5_goAll_134 ?_
                      refine lv_iload hx hb dX5_goAll_135 (lv_at hl 4 rfl) ?_
                      refine nr_mast hx hb hK hP hD hS 11 0 rfl rfl (k := (16 * c) + i) (t + 1) rfl (by omega) (by omega) dX5_goAll_137 (fun H locs hP hD hS => ?_)
                      have hP : va_P D vwCl (pM g cI cB th n en le ro sn ar rt oh cn no ot cu lim d (nr_up wz ((16 * c) + i) (t + 1)) (nr_up lo c (d (no c) + 1)) ch bd) H := hP
                      have hD : va_D A (pM g cI cB th n en le ro sn ar rt oh cn no ot cu lim d (nr_up wz ((16 * c) + i) (t + 1)) (nr_up lo c (d (no c) + 1)) ch bd) := hD
                      refine lv_iinc (v := nI (i + 1)) (lv' := [(3, .int (nI (i + 1))), (0, .ref (g 0)), (1, .int (nI c)), (2, .int (nI nd)), (4, .int (nI t))]) hx hb dX5_goAll_138 hl (k := 3) rfl (nI_1 _) (by decide) rfl (fun ls hl => ?_)
                      refine lv_aload_n hx hb dX5_goAll_141 rfl (lv_at hl 1 rfl) ?_
                      refine lv_iload hx hb dX5_goAll_142 (lv_at hl 4 rfl) ?_
                      refine lv_iload_n hx hb dX5_goAll_144 rfl (lv_at hl 3 rfl) ?_
                      refine ct_Vi (wc := (pM g cI cB th n en le ro sn ar rt oh cn no ot cu lim d (nr_up wz ((16 * c) + i) (t + 1)) (nr_up lo c (d (no c) + 1)) ch bd)) (wr := ([] : va_W)) (As := [.int (nI t), .int (nI nd)]) (rest := []) ⟨hx, hb, hml, hown, hbw⟩ (EN_E D _) hEN (kX5_behind l D cI cG cL cB g th n en le ro sn ar rt oh cn no ot cu lim d (nr_up wz (16 * c + i) (t + 1)) (nr_up lo c (d (no c) + 1)) ch bd t nd (by omega) hnd hen) (cwV (C := "CableSizesModel") 2 hbw (gV m_605 m_607 m_9 m_23 m_608) rfl rfl rfl (by decide +kernel) ⟨Nat.le_of_ble_eq_true rfl, Nat.le_of_ble_eq_true rfl⟩) (va_recv hK hP (ci := 5) (q0 := 0) rfl rfl) hP hD hS hA [0, 1, 2, 3, 4, 5, 6, 7, 8, 9, 10, 11, 12, 13, 14] [] rfl rfl (by decide) (by decide) (by decide) rfl hl.1 rfl (Nat.le_of_ble_eq_true rfl) dX5_goAll_145 ⟨Nat.le_of_ble_eq_true rfl, Nat.le_of_ble_eq_true rfl⟩ (fun r_12 w_12 H locs hw hP hD hS => ?_)
                      obtain ⟨rfl, hr5⟩ := hw
                      have hP := hP.sub (ws' := (pM g cI cB th n en le ro sn ar rt oh cn no ot cu lim d (nr_up wz ((16 * c) + i) (t + 1)) (nr_up lo c (d (no c) + 1)) ch bd)) [0, 1, 2, 3, 4, 5, 6, 7, 8, 9, 10, 11, 12, 13, 14] rfl
                      have hD := hD.sub (ws' := (pM g cI cB th n en le ro sn ar rt oh cn no ot cu lim d (nr_up wz ((16 * c) + i) (t + 1)) (nr_up lo c (d (no c) + 1)) ch bd)) [0, 1, 2, 3, 4, 5, 6, 7, 8, 9, 10, 11, 12, 13, 14] (by decide) rfl
                      have hr6 : r_12 = nI w0 := by rw [hr5, hw1]; rfl
                      subst hr6
                      refine lv_istore_n (lv' := [(2, .int (nI w0)), (3, .int (nI (i + 1))), (0, .ref (g 0)), (1, .int (nI c)), (4, .int (nI t))]) hx hb dX5_goAll_148 rfl hl (by decide) rfl (fun ls hl => ?_)
                      refine lv_goto (tgt := 56) hx hb dX5_goAll_149 (by decide) ?_
                      exact ih2 (i + 1) w0 _ (by omega) (by omega) hw10 (by rw [show wc c - (i + 1) = r by omega]; exact hg3) (lt_s (fun j hj => by rw [nr_up_n _ _ (by omega)]; exact hz1 j hj) (by rw [nr_up_s, htf])) (fun j hj => by rw [nr_up_n _ _ (by omega)]; exact hz2 j hj) _ _ _ hP hD hS (lv_sub hl [2, 3, 0, 1] rfl)
                    · have hng := hmin t (by omega)
                      cases hn1 : cw_nx (fun t => en (2 * t)) (fun t => en (2 * t + 1)) t nd with
                      | none =>
                        have hr2 : r_7 = -1 := by rw [hr1, hn1]; rfl
                        subst hr2
                        refine lv_icmp_eq (tgt := 119) hx hb dX5_goAll_87 (by decide) (fun _ => ?_) (fun h => absurd rfl h)
                        refine lv_iinc (v := nI (t + 1)) (lv' := [(4, .int (nI (t + 1))), (0, .ref (g 0)), (1, .int (nI c)), (2, .int (nI nd)), (3, .int (nI i))]) hx hb dX5_goAll_119 hl (k := 4) rfl (nI_1 _) (by decide) rfl (fun ls hl => ?_)
                        refine lv_goto (tgt := 79) hx hb dX5_goAll_122 (by decide) ?_
                        exact ih3 (t + 1) (by omega) (by omega) _ _ _ hP hD hS (lv_sub hl [1, 2, 3, 4, 0] rfl)
                      | some v0 =>
                        have hr2 : r_7 = nI v0 := by rw [hr1, hn1]; rfl
                        subst hr2
                        have b_v := hd0 v0
                        have b_10 : v0 < 10 := (cw_nx_lt hok (show t < n by omega) hn1).2.1
                        refine lv_icmp_eq (tgt := 119) hx hb dX5_goAll_87 (by decide) (fun h => absurd h (nI_nm1 (by omega))) (fun _ => ?_)
                        refine lv_aload_n hx hb dX5_goAll_90 rfl (lv_at hl 0 rfl) ?_
                        refine va_get (ci := 5) (v := .ref (g 10)) (C := RX5) (T := TX5) (N := 19) hx hb hbw in_X5 hown hK hP 0 rfl rfl 14 (by decide) (hbw _ m_502) (fun _ h9 => h9) rfl dX5_goAll_91 ?_
                        refine lv_aload_n hx hb dX5_goAll_94 rfl (lv_at hl 0 rfl) ?_
                        refine lv_iload hx hb dX5_goAll_95 (lv_at hl 4 rfl) ?_
                        refine lv_iload_n hx hb dX5_goAll_97 rfl (lv_at hl 2 rfl) ?_
                        refine ct_Vi (wc := (pM g cI cB th n en le ro sn ar rt oh cn no ot cu lim d wz (nr_up lo c (d (no c) + 1)) ch bd)) (wr := ([] : va_W)) (As := [.int (nI t), .int (nI nd)]) (rest := [.ref (g 10)]) ⟨hx, hb, hml, hown, hbw⟩ (EN_E D _) hEN (kX5_behind l D cI cG cL cB g th n en le ro sn ar rt oh cn no ot cu lim d wz (nr_up lo c (d (no c) + 1)) ch bd t nd (by omega) hnd hen) (cwV (C := "CableSizesModel") 2 hbw (gV m_605 m_607 m_9 m_23 m_608) rfl rfl rfl (by decide +kernel) ⟨Nat.le_of_ble_eq_true rfl, Nat.le_of_ble_eq_true rfl⟩) (va_recv hK hP (ci := 5) (q0 := 0) rfl rfl) hP hD hS hA [0, 1, 2, 3, 4, 5, 6, 7, 8, 9, 10, 11, 12, 13, 14] [] rfl rfl (by decide) (by decide) (by decide) rfl hl.1 rfl (Nat.le_of_ble_eq_true rfl) dX5_goAll_98 ⟨Nat.le_of_ble_eq_true rfl, Nat.le_of_ble_eq_true rfl⟩ (fun r_13 w_13 H locs hw hP hD hS => ?_)
                        obtain ⟨rfl, hr3⟩ := hw
                        have hP := hP.sub (ws' := (pM g cI cB th n en le ro sn ar rt oh cn no ot cu lim d wz (nr_up lo c (d (no c) + 1)) ch bd)) [0, 1, 2, 3, 4, 5, 6, 7, 8, 9, 10, 11, 12, 13, 14] rfl
                        have hD := hD.sub (ws' := (pM g cI cB th n en le ro sn ar rt oh cn no ot cu lim d wz (nr_up lo c (d (no c) + 1)) ch bd)) [0, 1, 2, 3, 4, 5, 6, 7, 8, 9, 10, 11, 12, 13, 14] (by decide) rfl
                        have hr4 : r_13 = nI v0 := by rw [hr3, hn1]; rfl
                        subst hr4
                        refine nr_iald hx hb hK hP 10 0 rfl rfl (k := v0) (by omega) (by omega) dX5_goAll_101 ?_
                        have b_14 := hd0 v0
                        refine lv_aload_n hx hb dX5_goAll_102 rfl (lv_at hl 0 rfl) ?_
                        refine va_get (ci := 5) (v := .ref (g 2)) (C := RX5) (T := TX5) (N := 19) hx hb hbw in_X5 hown hK hP 0 rfl rfl 3 (by decide) (hbw _ m_491) (fun _ h9 => h9) rfl dX5_goAll_103 ?_
                        refine lv_iload hx hb dX5_goAll_106 (lv_at hl 4 rfl) ?_
                        refine nr_iald hx hb hK hP 2 0 rfl rfl (k := t) (by omega) (by omega) dX5_goAll_108 ?_
                        have b_15 := hl0 t
                        refine nr_iadd hx hb dX5_goAll_109 ?_
                        refine lv_aload_n hx hb dX5_goAll_110 rfl (lv_at hl 0 rfl) ?_
                        refine va_get (ci := 5) (v := .ref (g 10)) (C := RX5) (T := TX5) (N := 19) hx hb hbw in_X5 hown hK hP 0 rfl rfl 14 (by decide) (hbw _ m_502) (fun _ h9 => h9) rfl dX5_goAll_111 ?_
                        refine lv_iload_n hx hb dX5_goAll_114 rfl (lv_at hl 2 rfl) ?_
                        refine nr_iald hx hb hK hP 10 0 rfl rfl (k := nd) (by omega) (by omega) dX5_goAll_115 ?_
                        have b_16 := hd0 nd
                        refine nr_icmp_eq (x := (d v0) + (le t)) (y := d nd) (tgt := 125) hx hb (by omega) (by omega) dX5_goAll_116 (by decide) (fun h5 => ?_) (fun h5 => ?_)
                        · exact absurd ⟨v0, hn1, h5⟩ hng
                        · refine lv_iinc (v := nI (t + 1)) (lv' := [(4, .int (nI (t + 1))), (0, .ref (g 0)), (1, .int (nI c)), (2, .int (nI nd)), (3, .int (nI i))]) hx hb dX5_goAll_119 hl (k := 4) rfl (nI_1 _) (by decide) rfl (fun ls hl => ?_)
                          refine lv_goto (tgt := 79) hx hb dX5_goAll_122 (by decide) ?_
                          exact ih3 (t + 1) (by omega) (by omega) _ _ _ hP hD hS (lv_sub hl [1, 2, 3, 4, 0] rfl)
                have hf15 := hwt c i
                exact l3 (wt c i + 1) 0 (by omega) (Nat.zero_le _) _ _ _ hP hD hS (lv_sub hl [1, 2, 3, 4, 0] rfl)
          exact lq 10 0 (no c) wy (by omega) (Nat.zero_le _) (hno c) (by rw [Nat.sub_zero]; exact hgs) (lt_0) (fun _ _ => rfl) _ _ _ hP hD hS (lv_sub hl [2, 3, 1, 0] rfl)
        · obtain ⟨hk0, hL0⟩ : wc c = 0 ∧ wl c = 0 := by
            rcases hcase with ⟨-, h3, h4⟩ | ⟨h, -, -, -⟩
            · exact ⟨h3, h4⟩
            · omega
          refine lv_iconst (v := (-1)) hx hb dX5_goAll_43 (by decide) ?_
          refine lv_goto (tgt := 53) hx hb dX5_goAll_44 (by decide) ?_
          refine nr_mast hx hb hK hP hD hS 12 0 rfl rfl (k := c) (0) rfl (by omega) (by omega) dX5_goAll_53 (fun H locs hP hD hS => ?_)
          have hP : va_P D vwCl (pM g cI cB th n en le ro sn ar rt oh cn no ot cu lim d wy (nr_up lo c 0) ch bd) H := hP
          have hD : va_D A (pM g cI cB th n en le ro sn ar rt oh cn no ot cu lim d wy (nr_up lo c 0) ch bd) := hD
          refine lv_iconst (v := nI 0) hx hb dX5_goAll_54 (by decide) ?_
          refine lv_istore_n (lv' := [(3, .int (nI 0)), (2, .int (nI (no c))), (0, .ref (g 0)), (1, .int (nI c))]) hx hb dX5_goAll_55 rfl hl (by decide) rfl (fun ls hl => ?_)
          refine lv_aload_n hx hb dX5_goAll_56 rfl (lv_at hl 2 rfl) ?_
          refine va_get (ci := 5) (v := .ref (g 12)) (C := RX5) (T := TX5) (N := 19) hx hb hbw in_X5 hown hK hP 0 rfl rfl 16 (by decide) (hbw _ m_504) (fun _ h9 => h9) rfl dX5_goAll_57 ?_
          refine lv_iload_n hx hb dX5_goAll_60 rfl (lv_at hl 3 rfl) ?_
          refine nr_mald0 hx hb hK hP 12 0 rfl rfl (k := c) (by omega) (by omega) (nr_up_s _ _ _) dX5_goAll_61 ?_
          refine lv_iconst (v := (-1)) hx hb dX5_goAll_62 (by decide) ?_
          refine lv_icmp_eq (tgt := 152) hx hb dX5_goAll_63 (by decide) (fun _ => ?_) (fun h => absurd rfl h)
          refine lv_aload_n hx hb dX5_goAll_152 rfl (lv_at hl 2 rfl) ?_
          refine va_get (ci := 5) (v := .ref (g 11)) (C := RX5) (T := TX5) (N := 19) hx hb hbw in_X5 hown hK hP 0 rfl rfl 15 (by decide) (hbw _ m_503) (fun _ h9 => h9) rfl dX5_goAll_153 ?_
          refine lv_bipush (v := nI 16) hx hb dX5_goAll_156 (by decide) ?_
          refine lv_iload_n hx hb dX5_goAll_158 rfl (lv_at hl 3 rfl) ?_
          refine nr_imul hx hb dX5_goAll_159 ?_
          refine lv_iload_n hx hb dX5_goAll_160 rfl (lv_at hl 0 rfl) ?_
          refine nr_iadd hx hb dX5_goAll_161 ?_
          refine lv_iconst (v := (-1)) hx hb dX5_goAll_162 (by decide) ?_
          refine nr_mast hx hb hK hP hD hS 11 0 rfl rfl (k := (16 * c) + 0) (0) rfl (by omega) (by omega) dX5_goAll_163 (fun H locs hP hD hS => ?_)
          have hP : va_P D vwCl (pM g cI cB th n en le ro sn ar rt oh cn no ot cu lim d (nr_up wy ((16 * c) + 0) 0) (nr_up lo c 0) ch bd) H := hP
          have hD : va_D A (pM g cI cB th n en le ro sn ar rt oh cn no ot cu lim d (nr_up wy ((16 * c) + 0) 0) (nr_up lo c 0) ch bd) := hD
          refine lv_iinc (v := nI (c + 1)) (lv' := [(1, .int (nI (c + 1))), (3, .int (nI 0)), (2, .int (nI (no c))), (0, .ref (g 0))]) hx hb dX5_goAll_164 hl (k := 3) rfl (nI_1 _) (by decide) rfl (fun ls hl => ?_)
          refine lv_goto (tgt := 2) hx hb dX5_goAll_167 (by decide) ?_
          exact ih (c + 1) d (nr_up wy ((16 * c) + 0) 0) (nr_up lo c 0) (by omega) (by omega) (lt_s (fun j hj => enc_keep (he j hj) hj (hwc j) (fun k hk => nr_up_n _ _ (by omega)) (fun k hk => nr_up_n _ _ (Nat.ne_of_lt hk))) ⟨fun j hj => by omega, by rw [hk0]; exact nr_up_s _ _ _, Or.inl ⟨hk0, nr_up_s _ _ _, hL0⟩⟩) _ _ _ hP hD hS (lv_sub hl [3, 0] rfl)
  exact lp (cn + 1) 0 fa wy lo (by omega) (Nat.zero_le cn) (lt_0) H locs ls hP hD hS (lv_sub hl [1, 0] rfl)
