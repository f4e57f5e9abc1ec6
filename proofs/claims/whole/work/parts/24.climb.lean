set_option maxHeartbeats 4000000 in
set_option maxRecDepth 100000 in
/-- Sizing.fillTrays -/
theorem kX2_fillTrays (l : Launch) (D : va_G) (cI cG cL cB : ClassId) (z0 z1 z2 : Nat) (q r : Nat → Nat) (pk fi : Nat → Nat) (sn : Nat) (ar rt oh : Nat → Nat) (cn : Nat) (no ot cu wc wl : Nat → Nat) (wt : Nat → Nat → Nat) (n : Nat) (a b le ro di : Nat → Nat) (hz : okZ sn ar rt oh cn cu wc wl wt) (hpk : ∀ j, pk j < 6) (hn : n ≤ 15) (hro : ∀ j, ro j ≤ 1000) (hro1 : ∀ j, j < n → 1 ≤ ro j) : ct_v l yX2_fillTrays (.code yX2_fillTrays cX2_fillTrays 3 none :: bw) ({ frames := 1, cells := 0, slots := 0, locals := 23 }) (EN D (tyL cI cG cL cB)) D vwCl (pZ z0 z1 z2 q cI pk fi ++ pT q cI n a b le ro di ++ pS q cI sn ar rt oh ++ pC q r cI cG cn no ot cu wc wl ++ pR r cI wt) [.ref z0] (fun W => ∃ fi', W = pZ z0 z1 z2 q cI pk fi' ++ pT q cI n a b le ro di ++ pS q cI sn ar rt oh ++ pC q r cI cG cn no ot cu wc wl ++ pR r cI wt ∧ (∀ t, t < n → fi' t = cz_fill cn ar wc ro wt pk t) ∧ ∀ j, fi' j ≤ 18000000) 0 0 := by
  refine ct_ofv (by decide) (Nat.le_of_ble_eq_true rfl) ?_
  intro p e s m below meth cd A H locs av Q ls hx hb hr hml hown hlocks hnm hbw hEN hQ hP hD hS hA hl
  have hown : s.vm.findClass RX2 = some m.cls := hown
  have hK := hEN.1
  have hl : lv_has ls 3 [(0, .ref z0)] := hl
  obtain ⟨hsn, har, hrt, hoh, hcn, hcu, hwc, hwl, hwt⟩ := id hz
  refine lv_aload_n hx hb dX2_fillTrays_0 rfl (lv_at hl 0 rfl) ?_
  refine va_get (ci := 2) (v := .ref z2) (C := RX2) (T := TX2) (N := 5) hx hb hbw in_X2 hown hK hP 0 rfl rfl 4 (by decide) (hbw _ m_146) (fun _ h9 => h9) rfl dX2_fillTrays_1 ?_
  refine lv_iconst (v := nI 0) hx hb dX2_fillTrays_4 (by decide) ?_
  refine ct_Sv (wc := [iA z2 cI 15 fi]) (wr := ([(z0, .inr (2, [.ref (q 1), .ref (q 7), .ref (q 11), .ref z1, .ref z2])), iA z1 cI 20 pk] ++ pT q cI n a b le ro di ++ pS q cI sn ar rt oh ++ pC q r cI cG cn no ot cu wc wl ++ pR r cI wt)) (As := [.ref z2, .int (nI 0)]) (rest := []) ⟨hx, hb, hml, hown, hbw⟩ (EN_E D _) hEN (kJ_fill l D cI cG cL cB z2 15 fi 0 (by omega)) (gS 2 hbw m_197 m_198 m_29 m_199 rfl rfl (by decide +kernel) ⟨Nat.le_of_ble_eq_true rfl, Nat.le_of_ble_eq_true rfl⟩) hP hD hS hA [2] [0, 1, 3, 4, 5, 6, 7, 8, 9, 10, 11, 12, 13, 14, 15, 16, 17, 18, 19, 20, 21, 22, 23, 24, 25, 26, 27, 28, 29, 30, 31, 32, 33, 34, 35, 36, 37, 38, 39] rfl rfl (by decide) (by decide) (by decide) rfl hl.1 rfl (Nat.le_of_ble_eq_true rfl) dX2_fillTrays_5 ⟨Nat.le_of_ble_eq_true rfl, Nat.le_of_ble_eq_true rfl⟩ (fun w_1 H locs hw hP hD hS => ?_)
  obtain rfl := hw
  have hP := hP.sub (ws' := (pZ z0 z1 z2 q cI pk (fun _ => 0) ++ pT q cI n a b le ro di ++ pS q cI sn ar rt oh ++ pC q r cI cG cn no ot cu wc wl ++ pR r cI wt)) [0, 1, 39, 2, 3, 4, 5, 6, 7, 8, 9, 10, 11, 12, 13, 14, 15, 16, 17, 18, 19, 20, 21, 22, 23, 24, 25, 26, 27, 28, 29, 30, 31, 32, 33, 34, 35, 36, 37, 38] rfl
  have hD := hD.sub (ws' := (pZ z0 z1 z2 q cI pk (fun _ => 0) ++ pT q cI n a b le ro di ++ pS q cI sn ar rt oh ++ pC q r cI cG cn no ot cu wc wl ++ pR r cI wt)) [0, 1, 39, 2, 3, 4, 5, 6, 7, 8, 9, 10, 11, 12, 13, 14, 15, 16, 17, 18, 19, 20, 21, 22, 23, 24, 25, 26, 27, 28, 29, 30, 31, 32, 33, 34, 35, 36, 37, 38] (by decide) rfl
  refine lv_iconst (v := nI 0) hx hb dX2_fillTrays_8 (by decide) ?_
  refine lv_istore_n (lv' := [(1, .int (nI 0)), (0, .ref z0)]) hx hb dX2_fillTrays_9 rfl hl (by decide) rfl (fun ls hl => ?_)
  have lp : ∀ (k : Nat) (c : Nat) (fi : Nat → Nat), (hk : cn < c + k) → (hi : c ≤ cn) → (hv : ∀ t, fi t = cz_sum (fun c => cz_occ wc wt c t * ar (pk c)) c) → ∀ (H : Heap) (locs : List Loc) (ls : Array Slot), va_P D vwCl (pZ z0 z1 z2 q cI pk fi ++ pT q cI n a b le ro di ++ pS q cI sn ar rt oh ++ pC q r cI cG cn no ot cu wc wl ++ pR r cI wt) H → va_D A (pZ z0 z1 z2 q cI pk fi ++ pT q cI n a b le ro di ++ pS q cI sn ar rt oh ++ pC q r cI cG cn no ot cu wc wl ++ pR r cI wt) → va_S A s.heap H locs → lv_has ls 3 [(0, .ref z0), (1, .int (nI c))] → W p l e ({ frames := 1, cells := 0, slots := 0, locals := 23 }) s m av below meth cd H locs 0 0 Q (F0 m 10 ls []) := by
    intro k
    induction k with
    | zero => intro c fi hk hi hv; exact absurd hk (by omega)
    | succ k ih =>
      intro c fi hk hi hv H locs ls hP hD hS hl
      refine lv_iload_n hx hb dX2_fillTrays_10 rfl (lv_at hl 1 rfl) ?_
      refine lv_aload_n hx hb dX2_fillTrays_11 rfl (lv_at hl 0 rfl) ?_
      refine va_get (ci := 2) (v := .ref (q 11)) (C := RX2) (T := TX2) (N := 5) hx hb hbw in_X2 hown hK hP 0 rfl rfl 2 (by decide) (hbw _ m_143) (fun _ h9 => h9) rfl dX2_fillTrays_12 ?_
      refine va_getN (ci := 0) (v := .int (nI cn)) (C := RX0) (T := TX0) (N := 7) hx hb hbw in_X0 hown hK hP 13 rfl rfl 0 (by decide) (va_Nw.use rfl (hEN.2 _ (List.mem_filter.mpr ⟨mn_87, rfl⟩))) (fun _ h9 => h9) rfl dX2_fillTrays_15 ?_
      refine nr_icmp_ge (x := c) (y := cn) (tgt := 81) hx hb (by omega) (by omega) dX2_fillTrays_18 (by decide) (fun h1 => ?_) (fun h1 => ?_)
      · obtain rfl : cn = c := by omega
        have hb9 : ∀ t, fi t ≤ 18000 := fun t => by rw [hv t]; exact cz_load_bd hcn har hwc
        refine lv_iconst (v := nI 0) hx hb dX2_fillTrays_81 (by decide) ?_
        refine lv_istore_n (lv' := [(1, .int (nI 0)), (0, .ref z0)]) hx hb dX2_fillTrays_82 rfl hl (by decide) rfl (fun ls hl => ?_)
        have l3 : ∀ (k : Nat) (t : Nat) (fi : Nat → Nat), (hk3 : n < t + k) → (ht : t ≤ n) → (hv1 : ∀ j, j < t → fi j = cz_fill cn ar wc ro wt pk j) → (hv2 : ∀ j, t ≤ j → fi j = cz_load cn ar wc wt pk j) → (hv3 : ∀ j, fi j ≤ 18000000) → ∀ (H : Heap) (locs : List Loc) (ls : Array Slot), va_P D vwCl (pZ z0 z1 z2 q cI pk fi ++ pT q cI n a b le ro di ++ pS q cI sn ar rt oh ++ pC q r cI cG cn no ot cu wc wl ++ pR r cI wt) H → va_D A (pZ z0 z1 z2 q cI pk fi ++ pT q cI n a b le ro di ++ pS q cI sn ar rt oh ++ pC q r cI cG cn no ot cu wc wl ++ pR r cI wt) → va_S A s.heap H locs → lv_has ls 3 [(0, .ref z0), (1, .int (nI t))] → W p l e ({ frames := 1, cells := 0, slots := 0, locals := 23 }) s m av below meth cd H locs 0 0 Q (F0 m 83 ls []) := by
          intro k
          induction k with
          | zero => intro t fi hk3 ht hv1 hv2 hv3; exact absurd hk3 (by omega)
          | succ k ih3 =>
            intro t fi hk3 ht hv1 hv2 hv3 H locs ls hP hD hS hl
            refine lv_iload_n hx hb dX2_fillTrays_83 rfl (lv_at hl 1 rfl) ?_
            refine lv_aload_n hx hb dX2_fillTrays_84 rfl (lv_at hl 0 rfl) ?_
            refine va_get (ci := 2) (v := .ref (q 1)) (C := RX2) (T := TX2) (N := 5) hx hb hbw in_X2 hown hK hP 0 rfl rfl 0 (by decide) (hbw _ m_141) (fun _ h9 => h9) rfl dX2_fillTrays_85 ?_
            refine va_getN (ci := 3) (v := .int (nI n)) (C := RX3) (T := TX3) (N := 6) hx hb hbw in_X3 hown hK hP 3 rfl rfl 0 (by decide) (va_Nw.use rfl (hEN.2 _ (List.mem_filter.mpr ⟨mn_30, rfl⟩))) (fun _ h9 => h9) rfl dX2_fillTrays_88 ?_
            refine nr_icmp_ge (x := t) (y := n) (tgt := 126) hx hb (by omega) (by omega) dX2_fillTrays_91 (by decide) (fun h2 => ?_) (fun h2 => ?_)
            · obtain rfl : t = n := by omega
              rw [hQ]
              exact ct_vret hx hb hr hlocks hP hD hS dX2_fillTrays_126 ⟨fi, rfl, hv1, hv3⟩
            · have c_1 := hv2 t (Nat.le_refl t)
              have c_2 : cz_load cn ar wc wt pk t ≤ 18000 := cz_load_bd hcn har hwc
              have c_3 := hro1 t h2
              refine lv_aload_n hx hb dX2_fillTrays_94 rfl (lv_at hl 0 rfl) ?_
              refine va_get (ci := 2) (v := .ref z2) (C := RX2) (T := TX2) (N := 5) hx hb hbw in_X2 hown hK hP 0 rfl rfl 4 (by decide) (hbw _ m_146) (fun _ h9 => h9) rfl dX2_fillTrays_95 ?_
              refine lv_iload_n hx hb dX2_fillTrays_98 rfl (lv_at hl 1 rfl) ?_
              refine lv_aload_n hx hb dX2_fillTrays_99 rfl (lv_at hl 0 rfl) ?_
              refine va_get (ci := 2) (v := .ref z2) (C := RX2) (T := TX2) (N := 5) hx hb hbw in_X2 hown hK hP 0 rfl rfl 4 (by decide) (hbw _ m_146) (fun _ h9 => h9) rfl dX2_fillTrays_100 ?_
              refine lv_iload_n hx hb dX2_fillTrays_103 rfl (lv_at hl 1 rfl) ?_
              refine nr_iald hx hb hK hP 2 0 rfl rfl (k := t) (by omega) (by omega) dX2_fillTrays_104 ?_
              refine lv_sipush (v := nI 1000) hx hb dX2_fillTrays_105 (by decide) ?_
              refine nr_imul hx hb dX2_fillTrays_108 ?_
              refine lv_aload_n hx hb dX2_fillTrays_109 rfl (lv_at hl 0 rfl) ?_
              refine va_get (ci := 2) (v := .ref (q 1)) (C := RX2) (T := TX2) (N := 5) hx hb hbw in_X2 hown hK hP 0 rfl rfl 0 (by decide) (hbw _ m_141) (fun _ h9 => h9) rfl dX2_fillTrays_110 ?_
              refine va_getN (ci := 3) (v := .ref (q 5)) (C := RX3) (T := TX3) (N := 6) hx hb hbw in_X3 hown hK hP 3 rfl rfl 4 (by decide) (va_Nw.use rfl (hEN.2 _ (List.mem_filter.mpr ⟨mn_36, rfl⟩))) (fun _ h9 => h9) rfl dX2_fillTrays_113 ?_
              refine lv_iload_n hx hb dX2_fillTrays_116 rfl (lv_at hl 1 rfl) ?_
              refine nr_iald hx hb hK hP 7 0 rfl rfl (k := t) (by omega) (by omega) dX2_fillTrays_117 ?_
              have b_2 := hro t
              refine nr_idiv hx hb (by omega) (by omega) (by omega) dX2_fillTrays_118 ?_
              refine nr_iast hx hb hK hP hD hS 2 0 rfl rfl (k := t) (v := ((fi t) * 1000) / (ro t)) (by omega) (by omega) dX2_fillTrays_119 (fun H locs hP hD hS => ?_)
              have hP : va_P D vwCl (pZ z0 z1 z2 q cI pk (nr_up fi t (((fi t) * 1000) / (ro t))) ++ pT q cI n a b le ro di ++ pS q cI sn ar rt oh ++ pC q r cI cG cn no ot cu wc wl ++ pR r cI wt) H := hP
              have hD : va_D A (pZ z0 z1 z2 q cI pk (nr_up fi t (((fi t) * 1000) / (ro t))) ++ pT q cI n a b le ro di ++ pS q cI sn ar rt oh ++ pC q r cI cG cn no ot cu wc wl ++ pR r cI wt) := hD
              refine lv_iinc (v := nI (t + 1)) (lv' := [(1, .int (nI (t + 1))), (0, .ref z0)]) hx hb dX2_fillTrays_120 hl (k := 1) rfl (nI_1 _) (by decide) rfl (fun ls hl => ?_)
              refine lv_goto (tgt := 83) hx hb dX2_fillTrays_123 (by decide) ?_
              have c_4 : fi t * 1000 / ro t ≤ 18000000 := Nat.le_trans (Nat.div_le_self _ _) (by omega)
              exact ih3 (t + 1) (nr_up fi t (((fi t) * 1000) / (ro t))) (by omega) (by omega) (lt_s (fun j hj => by rw [nr_up_n _ _ (Nat.ne_of_lt hj)]; exact hv1 j hj) (by rw [nr_up_s, c_1]; rfl)) (fun j hj => by rw [nr_up_n _ _ (by omega)]; exact hv2 j (by omega)) (fun j => by by_cases e : j = t; rw [e, nr_up_s]; exact c_4; rw [nr_up_n _ _ e]; exact hv3 j) _ _ _ hP hD hS (lv_sub hl [1, 0] rfl)
        exact l3 (n + 1) 0 fi (by omega) (Nat.zero_le n) (lt_0) (fun j _ => hv j) (fun j => by have := hb9 j; omega) _ _ _ hP hD hS (lv_sub hl [1, 0] rfl)
      · have b_0 := hwc c
        refine lv_iconst (v := nI 0) hx hb dX2_fillTrays_21 (by decide) ?_
        refine lv_istore_n (lv' := [(2, .int (nI 0)), (0, .ref z0), (1, .int (nI c))]) hx hb dX2_fillTrays_22 rfl hl (by decide) rfl (fun ls hl => ?_)
        have lq : ∀ (k : Nat) (i : Nat) (fi : Nat → Nat), (hk2 : 9 < i + k) → (hi2 : i ≤ wc c) → (hv2 : ∀ t, fi t = cz_sum (fun c => cz_occ wc wt c t * ar (pk c)) c + cz_sum (fun i => if wt c i = t then 1 else 0) i * ar (pk c)) → ∀ (H : Heap) (locs : List Loc) (ls : Array Slot), va_P D vwCl (pZ z0 z1 z2 q cI pk fi ++ pT q cI n a b le ro di ++ pS q cI sn ar rt oh ++ pC q r cI cG cn no ot cu wc wl ++ pR r cI wt) H → va_D A (pZ z0 z1 z2 q cI pk fi ++ pT q cI n a b le ro di ++ pS q cI sn ar rt oh ++ pC q r cI cG cn no ot cu wc wl ++ pR r cI wt) → va_S A s.heap H locs → lv_has ls 3 [(0, .ref z0), (1, .int (nI c)), (2, .int (nI i))] → W p l e ({ frames := 1, cells := 0, slots := 0, locals := 23 }) s m av below meth cd H locs 0 0 Q (F0 m 23 ls []) := by
          intro k
          induction k with
          | zero => intro i fi hk2 hi2 hv2; exact absurd hk2 (by omega)
          | succ k ih2 =>
            intro i fi hk2 hi2 hv2 H locs ls hP hD hS hl
            refine lv_iload_n hx hb dX2_fillTrays_23 rfl (lv_at hl 2 rfl) ?_
            refine lv_aload_n hx hb dX2_fillTrays_24 rfl (lv_at hl 0 rfl) ?_
            refine va_get (ci := 2) (v := .ref (q 11)) (C := RX2) (T := TX2) (N := 5) hx hb hbw in_X2 hown hK hP 0 rfl rfl 2 (by decide) (hbw _ m_143) (fun _ h9 => h9) rfl dX2_fillTrays_25 ?_
            refine va_getN (ci := 0) (v := .ref (q 15)) (C := RX0) (T := TX0) (N := 7) hx hb hbw in_X0 hown hK hP 13 rfl rfl 4 (by decide) (va_Nw.use rfl (hEN.2 _ (List.mem_filter.mpr ⟨mn_95, rfl⟩))) (fun _ h9 => h9) rfl dX2_fillTrays_28 ?_
            refine lv_iload_n hx hb dX2_fillTrays_31 rfl (lv_at hl 1 rfl) ?_
            refine nr_iald hx hb hK hP 17 0 rfl rfl (k := c) (by omega) (by omega) dX2_fillTrays_32 ?_
            have b_3 := hwc c
            refine nr_icmp_ge (x := i) (y := wc c) (tgt := 75) hx hb (by omega) (by omega) dX2_fillTrays_33 (by decide) (fun h2 => ?_) (fun h2 => ?_)
            · refine lv_iinc (v := nI (c + 1)) (lv' := [(1, .int (nI (c + 1))), (0, .ref z0), (2, .int (nI i))]) hx hb dX2_fillTrays_75 hl (k := 1) rfl (nI_1 _) (by decide) rfl (fun ls hl => ?_)
              refine lv_goto (tgt := 10) hx hb dX2_fillTrays_78 (by decide) ?_
              obtain rfl : i = wc c := by omega
              exact ih (c + 1) fi (by omega) (by omega) hv2 _ _ _ hP hD hS (lv_sub hl [1, 0] rfl)
            · refine lv_aload_n hx hb dX2_fillTrays_36 rfl (lv_at hl 0 rfl) ?_
              refine va_get (ci := 2) (v := .ref z2) (C := RX2) (T := TX2) (N := 5) hx hb hbw in_X2 hown hK hP 0 rfl rfl 4 (by decide) (hbw _ m_146) (fun _ h9 => h9) rfl dX2_fillTrays_37 ?_
              refine lv_aload_n hx hb dX2_fillTrays_40 rfl (lv_at hl 0 rfl) ?_
              refine va_get (ci := 2) (v := .ref (q 11)) (C := RX2) (T := TX2) (N := 5) hx hb hbw in_X2 hown hK hP 0 rfl rfl 2 (by decide) (hbw _ m_143) (fun _ h9 => h9) rfl dX2_fillTrays_41 ?_
              refine va_getN (ci := 0) (v := .ref (q 17)) (C := RX0) (T := TX0) (N := 7) hx hb hbw in_X0 hown hK hP 13 rfl rfl 6 (by decide) (va_Nw.use rfl (hEN.2 _ (List.mem_filter.mpr ⟨mn_101, rfl⟩))) (fun _ h9 => h9) rfl dX2_fillTrays_44 ?_
              refine lv_iload_n hx hb dX2_fillTrays_47 rfl (lv_at hl 1 rfl) ?_
              refine gr_ald hx hb hK hP 19 1 rfl rfl (k := c) (by omega) dX2_fillTrays_48 ?_
              refine lv_iload_n hx hb dX2_fillTrays_49 rfl (lv_at hl 2 rfl) ?_
              refine gr_iald hx hb hK hP 0 rfl (i := c) (k := i) (by omega) (by omega) dX2_fillTrays_50 ?_
              have b_4 := hwt c i
              refine lv_dup2_11 hx hb dX2_fillTrays_51 rfl rfl ?_
              refine nr_iald hx hb hK hP 2 0 rfl rfl (k := wt c i) (by omega) (by omega) dX2_fillTrays_52 ?_
              refine lv_aload_n hx hb dX2_fillTrays_53 rfl (lv_at hl 0 rfl) ?_
              refine va_get (ci := 2) (v := .ref (q 7)) (C := RX2) (T := TX2) (N := 5) hx hb hbw in_X2 hown hK hP 0 rfl rfl 1 (by decide) (hbw _ m_142) (fun _ h9 => h9) rfl dX2_fillTrays_54 ?_
              refine va_getN (ci := 1) (v := .ref (q 8)) (C := RX1) (T := TX1) (N := 4) hx hb hbw in_X1 hown hK hP 9 rfl rfl 1 (by decide) (va_Nw.use rfl (hEN.2 _ (List.mem_filter.mpr ⟨mn_64, rfl⟩))) (fun _ h9 => h9) rfl dX2_fillTrays_57 ?_
              refine lv_aload_n hx hb dX2_fillTrays_60 rfl (lv_at hl 0 rfl) ?_
              refine va_get (ci := 2) (v := .ref z1) (C := RX2) (T := TX2) (N := 5) hx hb hbw in_X2 hown hK hP 0 rfl rfl 3 (by decide) (hbw _ m_144) (fun _ h9 => h9) rfl dX2_fillTrays_61 ?_
              refine lv_iload_n hx hb dX2_fillTrays_64 rfl (lv_at hl 1 rfl) ?_
              refine nr_iald hx hb hK hP 1 0 rfl rfl (k := c) (by omega) (by omega) dX2_fillTrays_65 ?_
              have b_5 := hpk c
              refine nr_iald hx hb hK hP 10 0 rfl rfl (k := pk c) (by omega) (by omega) dX2_fillTrays_66 ?_
              have b_6 := har (pk c)
              refine nr_iadd hx hb dX2_fillTrays_67 ?_
              refine nr_iast hx hb hK hP hD hS 2 0 rfl rfl (k := wt c i) (v := (fi (wt c i)) + (ar (pk c))) (by omega) (by omega) dX2_fillTrays_68 (fun H locs hP hD hS => ?_)
              have hP : va_P D vwCl (pZ z0 z1 z2 q cI pk (nr_up fi (wt c i) ((fi (wt c i)) + (ar (pk c)))) ++ pT q cI n a b le ro di ++ pS q cI sn ar rt oh ++ pC q r cI cG cn no ot cu wc wl ++ pR r cI wt) H := hP
              have hD : va_D A (pZ z0 z1 z2 q cI pk (nr_up fi (wt c i) ((fi (wt c i)) + (ar (pk c)))) ++ pT q cI n a b le ro di ++ pS q cI sn ar rt oh ++ pC q r cI cG cn no ot cu wc wl ++ pR r cI wt) := hD
              refine lv_iinc (v := nI (i + 1)) (lv' := [(2, .int (nI (i + 1))), (0, .ref z0), (1, .int (nI c))]) hx hb dX2_fillTrays_69 hl (k := 2) rfl (nI_1 _) (by decide) rfl (fun ls hl => ?_)
              refine lv_goto (tgt := 23) hx hb dX2_fillTrays_72 (by decide) ?_
              exact ih2 (i + 1) (nr_up fi (wt c i) ((fi (wt c i)) + (ar (pk c)))) (by omega) (by omega) (fun t => by
                show _ = _ + (_ + if wt c i = t then 1 else 0) * _
                by_cases e : t = wt c i
                · rw [e, nr_up_s, hv2 (wt c i), if_pos rfl, Nat.add_mul, Nat.one_mul, Nat.add_assoc]
                · rw [nr_up_n _ _ e, hv2 t, if_neg (fun q => e q.symm), Nat.add_zero]) _ _ _ hP hD hS (lv_sub hl [1, 2, 0] rfl)
        exact lq 10 0 fi (by omega) (Nat.zero_le _) (fun t => by rw [hv t]; show _ = _ + 0 * _; rw [Nat.zero_mul, Nat.add_zero]) _ _ _ hP hD hS (lv_sub hl [1, 2, 0] rfl)
  exact lp (cn + 1) 0 (fun _ => 0) (by omega) (Nat.zero_le cn) (fun _ => rfl) H locs ls hP hD hS (lv_sub hl [1, 0] rfl)
theorem cs_six {C S : Nat} {ar rt oh cu wc wl rm : Nat → Nat} {wt : Nat → Nat → Nat} {lim m : Nat} (hS : C = 0 ∨ 0 < S) (hS6 : S ≤ 6) (h : cs_go C S ar rt oh cu wc wl rm wt lim m) : ∀ j, cs_it C ar rt oh cu wc wl rm wt lim m j < 6 := by
  intro j
  by_cases hj : j < C
  · have := (cs_bound hS m h).1 j hj; omega
  · have key : ∀ m, cs_it C ar rt oh cu wc wl rm wt lim m j = 0 := by
      intro m
      induction m with
      | zero => rfl
      | succ m ih =>
        show cy_up _ _ _ j = 0
        unfold cy_up
        rw [if_neg (fun q => hj q.1)]
        exact ih
    rw [key m]; omega
theorem cy_up_congr {rg rg' : Nat → Bool} {pk : Nat → Nat} {i : Nat} (h : ∀ j, j < i → rg j = rg' j) : cy_up rg pk i = cy_up rg' pk i := by
  funext j
  unfold cy_up
  by_cases hj : j < i
  · rw [h j hj]
  · rw [if_neg (fun q => hj q.1), if_neg (fun q => hj q.1)]
set_option maxHeartbeats 4000000 in
set_option maxRecDepth 100000 in
/-- Sizing.climb -/
theorem kX2_climb (l : Launch) (D : va_G) (cI cG cL cB : ClassId) (z0 z1 z2 : Nat) (q r : Nat → Nat) (pk fi : Nat → Nat) (sn : Nat) (ar rt oh : Nat → Nat) (cn : Nat) (no ot cu wc wl : Nat → Nat) (wt : Nat → Nat → Nat) (n : Nat) (a b le ro di : Nat → Nat) (lim : Nat) (hlim : lim ≤ 1000000) (hway : ∀ c, c < cn → ∀ i, i < wc c → wt c i < n) (hz : okZ sn ar rt oh cn cu wc wl wt) (hfi : ∀ j, fi j ≤ 18000000) (hn : n ≤ 15) (hro : ∀ j, ro j ≤ 1000) (hro1 : ∀ j, j < n → 1 ≤ ro j) : ct_i l yX2_climb (.code yX2_climb cX2_climb 3 (some .boolean) :: bw) ({ frames := 4, cells := 0, slots := 0, locals := 89 }) (EN D (tyL cI cG cL cB)) D vwCl (pZ z0 z1 z2 q cI pk fi ++ pT q cI n a b le ro di ++ pS q cI sn ar rt oh ++ pC q r cI cG cn no ot cu wc wl ++ pR r cI wt) [.ref z0, .int (nI lim)] (fun v W => ∃ pk' fi', W = pZ z0 z1 z2 q cI pk' fi' ++ pT q cI n a b le ro di ++ pS q cI sn ar rt oh ++ pC q r cI cG cn no ot cu wc wl ++ pR r cI wt ∧ (∀ j, pk' j < 6) ∧ (∀ j, fi' j ≤ 18000000) ∧ ((v = nI 1 ∧ (cn = 0 ∨ 0 < sn) ∧ ∃ m, pk' = cs_it cn ar rt oh cu wc wl ro wt lim m ∧ cs_go cn sn ar rt oh cu wc wl ro wt lim m ∧ cs_good cn ar rt oh cu wc wl ro wt lim (cs_it cn ar rt oh cu wc wl ro wt lim m) ∧ ∀ t, t < n → fi' t = cz_fill cn ar wc ro wt pk' t) ∨ (v = nI 0 ∧ ((0 < cn ∧ sn = 0) ∨ ((cn = 0 ∨ 0 < sn) ∧ ∃ m, cs_go cn sn ar rt oh cu wc wl ro wt lim m ∧ cs_stuck cn sn ar rt oh cu wc wl ro wt lim (cs_it cn ar rt oh cu wc wl ro wt lim m)))))) 0 0 := by
  refine ct_ofi (by decide) (Nat.le_of_ble_eq_true rfl) ?_
  intro p e s m below meth cd A H locs av Q ls hx hb hr hml hown hlocks hnm hbw hEN hQ hP hD hS hA hl
  have hown : s.vm.findClass RX2 = some m.cls := hown
  have hK := hEN.1
  have hl : lv_has ls 3 [(0, .ref z0), (1, .int (nI lim))] := hl
  obtain ⟨hsn, har, hrt, hoh, hcn, hcu, hwc, hwl, hwt⟩ := id hz
  refine lv_aload_n hx hb dX2_climb_0 rfl (lv_at hl 0 rfl) ?_
  refine va_get (ci := 2) (v := .ref z1) (C := RX2) (T := TX2) (N := 5) hx hb hbw in_X2 hown hK hP 0 rfl rfl 3 (by decide) (hbw _ m_144) (fun _ h9 => h9) rfl dX2_climb_1 ?_
  refine lv_iconst (v := nI 0) hx hb dX2_climb_4 (by decide) ?_
  refine ct_Sv (wc := [iA z1 cI 20 pk]) (wr := ([(z0, .inr (2, [.ref (q 1), .ref (q 7), .ref (q 11), .ref z1, .ref z2])), iA z2 cI 15 fi] ++ pT q cI n a b le ro di ++ pS q cI sn ar rt oh ++ pC q r cI cG cn no ot cu wc wl ++ pR r cI wt)) (As := [.ref z1, .int (nI 0)]) (rest := []) ⟨hx, hb, hml, hown, hbw⟩ (EN_E D _) hEN (kJ_fill l D cI cG cL cB z1 20 pk 0 (by omega)) (gS 2 hbw m_197 m_198 m_29 m_199 rfl rfl (by decide +kernel) ⟨Nat.le_of_ble_eq_true rfl, Nat.le_of_ble_eq_true rfl⟩) hP hD hS hA [1] [0, 2, 3, 4, 5, 6, 7, 8, 9, 10, 11, 12, 13, 14, 15, 16, 17, 18, 19, 20, 21, 22, 23, 24, 25, 26, 27, 28, 29, 30, 31, 32, 33, 34, 35, 36, 37, 38, 39] rfl rfl (by decide) (by decide) (by decide) rfl hl.1 rfl (Nat.le_of_ble_eq_true rfl) dX2_climb_5 ⟨Nat.le_of_ble_eq_true rfl, Nat.le_of_ble_eq_true rfl⟩ (fun w_1 H locs hw hP hD hS => ?_)
  obtain rfl := hw
  have hP := hP.sub (ws' := (pZ z0 z1 z2 q cI (fun _ => 0) fi ++ pT q cI n a b le ro di ++ pS q cI sn ar rt oh ++ pC q r cI cG cn no ot cu wc wl ++ pR r cI wt)) [0, 39, 1, 2, 3, 4, 5, 6, 7, 8, 9, 10, 11, 12, 13, 14, 15, 16, 17, 18, 19, 20, 21, 22, 23, 24, 25, 26, 27, 28, 29, 30, 31, 32, 33, 34, 35, 36, 37, 38] rfl
  have hD := hD.sub (ws' := (pZ z0 z1 z2 q cI (fun _ => 0) fi ++ pT q cI n a b le ro di ++ pS q cI sn ar rt oh ++ pC q r cI cG cn no ot cu wc wl ++ pR r cI wt)) [0, 39, 1, 2, 3, 4, 5, 6, 7, 8, 9, 10, 11, 12, 13, 14, 15, 16, 17, 18, 19, 20, 21, 22, 23, 24, 25, 26, 27, 28, 29, 30, 31, 32, 33, 34, 35, 36, 37, 38] (by decide) rfl
  refine lv_aload_n hx hb dX2_climb_8 rfl (lv_at hl 0 rfl) ?_
  refine va_get (ci := 2) (v := .ref (q 11)) (C := RX2) (T := TX2) (N := 5) hx hb hbw in_X2 hown hK hP 0 rfl rfl 2 (by decide) (hbw _ m_143) (fun _ h9 => h9) rfl dX2_climb_9 ?_
  refine va_getN (ci := 0) (v := .int (nI cn)) (C := RX0) (T := TX0) (N := 7) hx hb hbw in_X0 hown hK hP 13 rfl rfl 0 (by decide) (va_Nw.use rfl (hEN.2 _ (List.mem_filter.mpr ⟨mn_87, rfl⟩))) (fun _ h9 => h9) rfl dX2_climb_12 ?_
  refine lv_if_le (tgt := 30) hx hb dX2_climb_15 (by decide) (fun h1 => ?_) (fun h1 => ?_)
  · have h1 : cn = 0 := by rcases Nat.eq_zero_or_pos cn with h | h; exact h; exact absurd h1 (nI_nle h (by omega))
    have hS0 : cn = 0 ∨ 0 < sn := Or.inl h1
    refine lv_iconst (v := nI 0) hx hb dX2_climb_30 (by decide) ?_
    refine lv_istore_n (lv' := [(2, .int (nI 0)), (0, .ref z0), (1, .int (nI lim))]) hx hb dX2_climb_31 rfl hl (by decide) rfl (fun ls hl => ?_)
    have lp : ∀ (k : Nat) (rd : Nat) (fi : Nat → Nat), (hk : 101 < rd + k) → (hi : rd ≤ 101) → (hgo : cs_go cn sn ar rt oh cu wc wl ro wt lim rd) → (hfi : ∀ j, fi j ≤ 18000000) → ∀ (H : Heap) (locs : List Loc) (ls : Array Slot), va_P D vwCl (pZ z0 z1 z2 q cI (cs_it cn ar rt oh cu wc wl ro wt lim rd) fi ++ pT q cI n a b le ro di ++ pS q cI sn ar rt oh ++ pC q r cI cG cn no ot cu wc wl ++ pR r cI wt) H → va_D A (pZ z0 z1 z2 q cI (cs_it cn ar rt oh cu wc wl ro wt lim rd) fi ++ pT q cI n a b le ro di ++ pS q cI sn ar rt oh ++ pC q r cI cG cn no ot cu wc wl ++ pR r cI wt) → va_S A s.heap H locs → lv_has ls 3 [(0, .ref z0), (1, .int (nI lim)), (2, .int (nI rd))] → W p l e ({ frames := 4, cells := 0, slots := 0, locals := 89 }) s m av below meth cd H locs 0 0 Q (F0 m 32 ls []) := by
      intro k
      induction k with
      | zero => intro rd fi hk hi hgo hfi; exact absurd hk (by omega)
      | succ k ih =>
        intro rd fi hk hi hgo hfi H locs ls hP hD hS hl
        have hrd := cs_rounds hS0 hcn hsn hgo
        have hp6 : ∀ j, cs_it cn ar rt oh cu wc wl ro wt lim rd j < 6 := cs_six hS0 hsn hgo
        refine lv_iload_n hx hb dX2_climb_32 rfl (lv_at hl 2 rfl) ?_
        refine lv_bipush (v := nI 101) hx hb dX2_climb_33 (by decide) ?_
        refine nr_icmp_ge (x := rd) (y := 101) (tgt := 68) hx hb (by omega) (by omega) dX2_climb_35 (by decide) (fun h2 => ?_) (fun h2 => ?_)
        · exact absurd h2 (by omega)
        · refine lv_aload_n hx hb dX2_climb_38 rfl (lv_at hl 0 rfl) ?_
          refine ct_Vv (wc := (pZ z0 z1 z2 q cI (cs_it cn ar rt oh cu wc wl ro wt lim rd) fi ++ pT q cI n a b le ro di ++ pS q cI sn ar rt oh ++ pC q r cI cG cn no ot cu wc wl ++ pR r cI wt)) (wr := ([] : va_W)) (As := []) (rest := []) ⟨hx, hb, hml, hown, hbw⟩ (EN_E D _) hEN (kX2_fillTrays l D cI cG cL cB z0 z1 z2 q r (cs_it cn ar rt oh cu wc wl ro wt lim rd) fi sn ar rt oh cn no ot cu wc wl wt n a b le ro di hz hp6 hn hro hro1) (cwV (C := "CableSizes$Sizing") 0 hbw (gV m_200 m_201 m_202 m_22 m_203) rfl rfl rfl (by decide +kernel) ⟨Nat.le_of_ble_eq_true rfl, Nat.le_of_ble_eq_true rfl⟩) (va_recv hK hP (ci := 2) (q0 := 0) rfl rfl) hP hD hS hA [0, 1, 2, 3, 4, 5, 6, 7, 8, 9, 10, 11, 12, 13, 14, 15, 16, 17, 18, 19, 20, 21, 22, 23, 24, 25, 26, 27, 28, 29, 30, 31, 32, 33, 34, 35, 36, 37, 38, 39] [] rfl rfl (by decide) (by decide) (by decide) rfl hl.1 rfl (Nat.le_of_ble_eq_true rfl) dX2_climb_39 ⟨Nat.le_of_ble_eq_true rfl, Nat.le_of_ble_eq_true rfl⟩ (fun w_2 H locs hw hP hD hS => ?_)
          obtain ⟨fi', rfl, hf1, hf2⟩ := hw
          have hP := hP.sub (ws' := (pZ z0 z1 z2 q cI (cs_it cn ar rt oh cu wc wl ro wt lim rd) fi' ++ pT q cI n a b le ro di ++ pS q cI sn ar rt oh ++ pC q r cI cG cn no ot cu wc wl ++ pR r cI wt)) [0, 1, 2, 3, 4, 5, 6, 7, 8, 9, 10, 11, 12, 13, 14, 15, 16, 17, 18, 19, 20, 21, 22, 23, 24, 25, 26, 27, 28, 29, 30, 31, 32, 33, 34, 35, 36, 37, 38, 39] rfl
          have hD := hD.sub (ws' := (pZ z0 z1 z2 q cI (cs_it cn ar rt oh cu wc wl ro wt lim rd) fi' ++ pT q cI n a b le ro di ++ pS q cI sn ar rt oh ++ pC q r cI cG cn no ot cu wc wl ++ pR r cI wt)) [0, 1, 2, 3, 4, 5, 6, 7, 8, 9, 10, 11, 12, 13, 14, 15, 16, 17, 18, 19, 20, 21, 22, 23, 24, 25, 26, 27, 28, 29, 30, 31, 32, 33, 34, 35, 36, 37, 38, 39] (by decide) rfl
          have hrg : ∀ c, c < cn → cy_right rt oh cu wc wl (cs_it cn ar rt oh cu wc wl ro wt lim rd) fi' wt lim c = cs_rg cn ar rt oh cu wc wl ro wt lim (cs_it cn ar rt oh cu wc wl ro wt lim rd) c := fun c hc => cy_right_fi (fun i hi => hf1 _ (hway c hc i hi))
          refine lv_aload_n hx hb dX2_climb_42 rfl (lv_at hl 0 rfl) ?_
          refine lv_iload_n hx hb dX2_climb_43 rfl (lv_at hl 1 rfl) ?_
          refine ct_Vi (wc := (pZ z0 z1 z2 q cI (cs_it cn ar rt oh cu wc wl ro wt lim rd) fi' ++ pS q cI sn ar rt oh ++ pC q r cI cG cn no ot cu wc wl ++ pR r cI wt)) (wr := (pT q cI n a b le ro di)) (As := [.int (nI lim)]) (rest := []) ⟨hx, hb, hml, hown, hbw⟩ (EN_E D _) hEN (kX2_allAreRight l D cI cG cL cB z0 z1 z2 q r (cs_it cn ar rt oh cu wc wl ro wt lim rd) fi' sn ar rt oh cn no ot cu wc wl wt lim hlim hz hp6 hf2) (cwV (C := "CableSizes$Sizing") 1 hbw (gV m_204 m_205 m_206 m_22 m_207) rfl rfl rfl (by decide +kernel) ⟨Nat.le_of_ble_eq_true rfl, Nat.le_of_ble_eq_true rfl⟩) (va_recv hK hP (ci := 2) (q0 := 0) rfl rfl) hP hD hS hA [0, 1, 2, 9, 10, 11, 12, 13, 14, 15, 16, 17, 18, 19, 20, 21, 22, 23, 24, 25, 26, 27, 28, 29, 30, 31, 32, 33, 34, 35, 36, 37, 38, 39] [3, 4, 5, 6, 7, 8] rfl rfl (by decide) (by decide) (by decide) rfl hl.1 rfl (Nat.le_of_ble_eq_true rfl) dX2_climb_44 ⟨Nat.le_of_ble_eq_true rfl, Nat.le_of_ble_eq_true rfl⟩ (fun r_3 w_3 H locs hw hP hD hS => ?_)
          obtain ⟨rfl, har2⟩ := hw
          have hP := hP.sub (ws' := (pZ z0 z1 z2 q cI (cs_it cn ar rt oh cu wc wl ro wt lim rd) fi' ++ pT q cI n a b le ro di ++ pS q cI sn ar rt oh ++ pC q r cI cG cn no ot cu wc wl ++ pR r cI wt)) [6, 7, 8, 0, 1, 2, 3, 4, 5, 9, 10, 11, 12, 13, 14, 15, 16, 17, 18, 19, 20, 21, 22, 23, 24, 25, 26, 27, 28, 29, 30, 31, 32, 33, 34, 35, 36, 37, 38, 39] rfl
          have hD := hD.sub (ws' := (pZ z0 z1 z2 q cI (cs_it cn ar rt oh cu wc wl ro wt lim rd) fi' ++ pT q cI n a b le ro di ++ pS q cI sn ar rt oh ++ pC q r cI cG cn no ot cu wc wl ++ pR r cI wt)) [6, 7, 8, 0, 1, 2, 3, 4, 5, 9, 10, 11, 12, 13, 14, 15, 16, 17, 18, 19, 20, 21, 22, 23, 24, 25, 26, 27, 28, 29, 30, 31, 32, 33, 34, 35, 36, 37, 38, 39] (by decide) rfl
          rcases har2 with ⟨hr1, hall⟩ | ⟨hr1, hex⟩
          · subst hr1
            refine nr_if_eq (x := 1) (tgt := 52) hx hb (by omega) dX2_climb_47 (by decide) (fun h3 => ?_) (fun h3 => ?_)
            · exact absurd h3 (by omega)
            · refine lv_iconst (v := nI 1) hx hb dX2_climb_50 (by decide) ?_
              rw [hQ]
              exact ct_zret hx hb hr hlocks hP hD hS dX2_climb_51 (by first | exact Or.inl rfl | exact Or.inr rfl) ⟨_, fi', rfl, hp6, hf2, Or.inl ⟨rfl, hS0, rd, rfl, hgo, fun c hc => by rw [← hrg c hc]; exact hall c hc, hf1⟩⟩
          · subst hr1
            refine nr_if_eq (x := 0) (tgt := 52) hx hb (by omega) dX2_climb_47 (by decide) (fun h3 => ?_) (fun h3 => ?_)
            · have hng : ¬ cs_good cn ar rt oh cu wc wl ro wt lim (cs_it cn ar rt oh cu wc wl ro wt lim rd) := fun hg => by obtain ⟨c, hc, h⟩ := hex; rw [hrg c hc, hg c hc] at h; cases h
              refine lv_aload_n hx hb dX2_climb_52 rfl (lv_at hl 0 rfl) ?_
              refine lv_iload_n hx hb dX2_climb_53 rfl (lv_at hl 1 rfl) ?_
              refine ct_Vi (wc := (pZ z0 z1 z2 q cI (cs_it cn ar rt oh cu wc wl ro wt lim rd) fi' ++ pS q cI sn ar rt oh ++ pC q r cI cG cn no ot cu wc wl ++ pR r cI wt)) (wr := (pT q cI n a b le ro di)) (As := [.int (nI lim)]) (rest := []) ⟨hx, hb, hml, hown, hbw⟩ (EN_E D _) hEN (kX2_raiseWrongOnes l D cI cG cL cB z0 z1 z2 q r (cs_it cn ar rt oh cu wc wl ro wt lim rd) fi' sn ar rt oh cn no ot cu wc wl wt lim hlim hz hp6 hf2) (cwV (C := "CableSizes$Sizing") 1 hbw (gV m_231 m_233 m_2 m_22 m_234) rfl rfl rfl (by decide +kernel) ⟨Nat.le_of_ble_eq_true rfl, Nat.le_of_ble_eq_true rfl⟩) (va_recv hK hP (ci := 2) (q0 := 0) rfl rfl) hP hD hS hA [0, 1, 2, 9, 10, 11, 12, 13, 14, 15, 16, 17, 18, 19, 20, 21, 22, 23, 24, 25, 26, 27, 28, 29, 30, 31, 32, 33, 34, 35, 36, 37, 38, 39] [3, 4, 5, 6, 7, 8] rfl rfl (by decide) (by decide) (by decide) rfl hl.1 rfl (Nat.le_of_ble_eq_true rfl) dX2_climb_54 ⟨Nat.le_of_ble_eq_true rfl, Nat.le_of_ble_eq_true rfl⟩ (fun r_4 w_4 H locs hw hP hD hS => ?_)
              obtain ⟨pk', rfl, hp7, hrs⟩ := hw
              have hP := hP.sub (ws' := (pZ z0 z1 z2 q cI pk' fi' ++ pT q cI n a b le ro di ++ pS q cI sn ar rt oh ++ pC q r cI cG cn no ot cu wc wl ++ pR r cI wt)) [6, 7, 8, 0, 1, 2, 3, 4, 5, 9, 10, 11, 12, 13, 14, 15, 16, 17, 18, 19, 20, 21, 22, 23, 24, 25, 26, 27, 28, 29, 30, 31, 32, 33, 34, 35, 36, 37, 38, 39] rfl
              have hD := hD.sub (ws' := (pZ z0 z1 z2 q cI pk' fi' ++ pT q cI n a b le ro di ++ pS q cI sn ar rt oh ++ pC q r cI cG cn no ot cu wc wl ++ pR r cI wt)) [6, 7, 8, 0, 1, 2, 3, 4, 5, 9, 10, 11, 12, 13, 14, 15, 16, 17, 18, 19, 20, 21, 22, 23, 24, 25, 26, 27, 28, 29, 30, 31, 32, 33, 34, 35, 36, 37, 38, 39] (by decide) rfl
              rcases hrs with ⟨hr2, hpk2, hok2⟩ | ⟨hr2, c, hc, hwr, hst⟩
              · subst hr2
                have hpk3 : pk' = cs_it cn ar rt oh cu wc wl ro wt lim (rd + 1) := by rw [hpk2]; exact cy_up_congr hrg
                rw [hpk3] at hP hD
                refine nr_if_ne (x := 1) (tgt := 62) hx hb (by omega) dX2_climb_57 (by decide) (fun h4 => ?_) (fun h4 => ?_)
                · refine lv_iinc (v := nI (rd + 1)) (lv' := [(2, .int (nI (rd + 1))), (0, .ref z0), (1, .int (nI lim))]) hx hb dX2_climb_62 hl (k := 2) rfl (nI_1 _) (by decide) rfl (fun ls hl => ?_)
                  refine lv_goto (tgt := 32) hx hb dX2_climb_65 (by decide) ?_
                  exact ih (rd + 1) fi' (by omega) (by omega) (lt_s hgo ⟨hng, fun ⟨c, hc, h5, h6⟩ => by have := hok2 c hc ((hrg c hc).trans h5); omega⟩) hf2 _ _ _ hP hD hS (lv_sub hl [1, 2, 0] rfl)
                · exact absurd h4 (by omega)
              · subst hr2
                refine nr_if_ne (x := 0) (tgt := 62) hx hb (by omega) dX2_climb_57 (by decide) (fun h4 => ?_) (fun h4 => ?_)
                · exact absurd h4 (by omega)
                · refine lv_iconst (v := nI 0) hx hb dX2_climb_60 (by decide) ?_
                  rw [hQ]
                  exact ct_zret hx hb hr hlocks hP hD hS dX2_climb_61 (by first | exact Or.inl rfl | exact Or.inr rfl) ⟨_, fi', rfl, hp7, hf2, Or.inr ⟨rfl, Or.inr ⟨hS0, rd, hgo, c, hc, (hrg c hc).symm.trans hwr, hst⟩⟩⟩
            · exact absurd h3 (by omega)
    exact lp 102 0 fi (by omega) (by omega) (lt_0) hfi _ _ _ hP hD hS (lv_sub hl [1, 2, 0] rfl)
  · have h1 : 0 < cn := by rcases Nat.eq_zero_or_pos cn with h | h; exact absurd (by rw [h]; decide) h1; exact h
    refine lv_aload_n hx hb dX2_climb_18 rfl (lv_at hl 0 rfl) ?_
    refine va_get (ci := 2) (v := .ref (q 7)) (C := RX2) (T := TX2) (N := 5) hx hb hbw in_X2 hown hK hP 0 rfl rfl 1 (by decide) (hbw _ m_142) (fun _ h9 => h9) rfl dX2_climb_19 ?_
    refine va_getN (ci := 1) (v := .int (nI sn)) (C := RX1) (T := TX1) (N := 4) hx hb hbw in_X1 hown hK hP 9 rfl rfl 0 (by decide) (va_Nw.use rfl (hEN.2 _ (List.mem_filter.mpr ⟨mn_61, rfl⟩))) (fun _ h9 => h9) rfl dX2_climb_22 ?_
    refine nr_if_ne (x := sn) (tgt := 30) hx hb (by omega) dX2_climb_25 (by decide) (fun h5 => ?_) (fun h5 => ?_)
    · have hS0 : cn = 0 ∨ 0 < sn := Or.inr h5
      refine lv_iconst (v := nI 0) hx hb dX2_climb_30 (by decide) ?_
      refine lv_istore_n (lv' := [(2, .int (nI 0)), (0, .ref z0), (1, .int (nI lim))]) hx hb dX2_climb_31 rfl hl (by decide) rfl (fun ls hl => ?_)
      have lp : ∀ (k : Nat) (rd : Nat) (fi : Nat → Nat), (hk : 101 < rd + k) → (hi : rd ≤ 101) → (hgo : cs_go cn sn ar rt oh cu wc wl ro wt lim rd) → (hfi : ∀ j, fi j ≤ 18000000) → ∀ (H : Heap) (locs : List Loc) (ls : Array Slot), va_P D vwCl (pZ z0 z1 z2 q cI (cs_it cn ar rt oh cu wc wl ro wt lim rd) fi ++ pT q cI n a b le ro di ++ pS q cI sn ar rt oh ++ pC q r cI cG cn no ot cu wc wl ++ pR r cI wt) H → va_D A (pZ z0 z1 z2 q cI (cs_it cn ar rt oh cu wc wl ro wt lim rd) fi ++ pT q cI n a b le ro di ++ pS q cI sn ar rt oh ++ pC q r cI cG cn no ot cu wc wl ++ pR r cI wt) → va_S A s.heap H locs → lv_has ls 3 [(0, .ref z0), (1, .int (nI lim)), (2, .int (nI rd))] → W p l e ({ frames := 4, cells := 0, slots := 0, locals := 89 }) s m av below meth cd H locs 0 0 Q (F0 m 32 ls []) := by
        intro k
        induction k with
        | zero => intro rd fi hk hi hgo hfi; exact absurd hk (by omega)
        | succ k ih =>
          intro rd fi hk hi hgo hfi H locs ls hP hD hS hl
          have hrd := cs_rounds hS0 hcn hsn hgo
          have hp6 : ∀ j, cs_it cn ar rt oh cu wc wl ro wt lim rd j < 6 := cs_six hS0 hsn hgo
          refine lv_iload_n hx hb dX2_climb_32 rfl (lv_at hl 2 rfl) ?_
          refine lv_bipush (v := nI 101) hx hb dX2_climb_33 (by decide) ?_
          refine nr_icmp_ge (x := rd) (y := 101) (tgt := 68) hx hb (by omega) (by omega) dX2_climb_35 (by decide) (fun h2 => ?_) (fun h2 => ?_)
          · exact absurd h2 (by omega)
          · refine lv_aload_n hx hb dX2_climb_38 rfl (lv_at hl 0 rfl) ?_
            refine ct_Vv (wc := (pZ z0 z1 z2 q cI (cs_it cn ar rt oh cu wc wl ro wt lim rd) fi ++ pT q cI n a b le ro di ++ pS q cI sn ar rt oh ++ pC q r cI cG cn no ot cu wc wl ++ pR r cI wt)) (wr := ([] : va_W)) (As := []) (rest := []) ⟨hx, hb, hml, hown, hbw⟩ (EN_E D _) hEN (kX2_fillTrays l D cI cG cL cB z0 z1 z2 q r (cs_it cn ar rt oh cu wc wl ro wt lim rd) fi sn ar rt oh cn no ot cu wc wl wt n a b le ro di hz hp6 hn hro hro1) (cwV (C := "CableSizes$Sizing") 0 hbw (gV m_200 m_201 m_202 m_22 m_203) rfl rfl rfl (by decide +kernel) ⟨Nat.le_of_ble_eq_true rfl, Nat.le_of_ble_eq_true rfl⟩) (va_recv hK hP (ci := 2) (q0 := 0) rfl rfl) hP hD hS hA [0, 1, 2, 3, 4, 5, 6, 7, 8, 9, 10, 11, 12, 13, 14, 15, 16, 17, 18, 19, 20, 21, 22, 23, 24, 25, 26, 27, 28, 29, 30, 31, 32, 33, 34, 35, 36, 37, 38, 39] [] rfl rfl (by decide) (by decide) (by decide) rfl hl.1 rfl (Nat.le_of_ble_eq_true rfl) dX2_climb_39 ⟨Nat.le_of_ble_eq_true rfl, Nat.le_of_ble_eq_true rfl⟩ (fun w_5 H locs hw hP hD hS => ?_)
            obtain ⟨fi', rfl, hf1, hf2⟩ := hw
            have hP := hP.sub (ws' := (pZ z0 z1 z2 q cI (cs_it cn ar rt oh cu wc wl ro wt lim rd) fi' ++ pT q cI n a b le ro di ++ pS q cI sn ar rt oh ++ pC q r cI cG cn no ot cu wc wl ++ pR r cI wt)) [0, 1, 2, 3, 4, 5, 6, 7, 8, 9, 10, 11, 12, 13, 14, 15, 16, 17, 18, 19, 20, 21, 22, 23, 24, 25, 26, 27, 28, 29, 30, 31, 32, 33, 34, 35, 36, 37, 38, 39] rfl
            have hD := hD.sub (ws' := (pZ z0 z1 z2 q cI (cs_it cn ar rt oh cu wc wl ro wt lim rd) fi' ++ pT q cI n a b le ro di ++ pS q cI sn ar rt oh ++ pC q r cI cG cn no ot cu wc wl ++ pR r cI wt)) [0, 1, 2, 3, 4, 5, 6, 7, 8, 9, 10, 11, 12, 13, 14, 15, 16, 17, 18, 19, 20, 21, 22, 23, 24, 25, 26, 27, 28, 29, 30, 31, 32, 33, 34, 35, 36, 37, 38, 39] (by decide) rfl
            have hrg : ∀ c, c < cn → cy_right rt oh cu wc wl (cs_it cn ar rt oh cu wc wl ro wt lim rd) fi' wt lim c = cs_rg cn ar rt oh cu wc wl ro wt lim (cs_it cn ar rt oh cu wc wl ro wt lim rd) c := fun c hc => cy_right_fi (fun i hi => hf1 _ (hway c hc i hi))
            refine lv_aload_n hx hb dX2_climb_42 rfl (lv_at hl 0 rfl) ?_
            refine lv_iload_n hx hb dX2_climb_43 rfl (lv_at hl 1 rfl) ?_
            refine ct_Vi (wc := (pZ z0 z1 z2 q cI (cs_it cn ar rt oh cu wc wl ro wt lim rd) fi' ++ pS q cI sn ar rt oh ++ pC q r cI cG cn no ot cu wc wl ++ pR r cI wt)) (wr := (pT q cI n a b le ro di)) (As := [.int (nI lim)]) (rest := []) ⟨hx, hb, hml, hown, hbw⟩ (EN_E D _) hEN (kX2_allAreRight l D cI cG cL cB z0 z1 z2 q r (cs_it cn ar rt oh cu wc wl ro wt lim rd) fi' sn ar rt oh cn no ot cu wc wl wt lim hlim hz hp6 hf2) (cwV (C := "CableSizes$Sizing") 1 hbw (gV m_204 m_205 m_206 m_22 m_207) rfl rfl rfl (by decide +kernel) ⟨Nat.le_of_ble_eq_true rfl, Nat.le_of_ble_eq_true rfl⟩) (va_recv hK hP (ci := 2) (q0 := 0) rfl rfl) hP hD hS hA [0, 1, 2, 9, 10, 11, 12, 13, 14, 15, 16, 17, 18, 19, 20, 21, 22, 23, 24, 25, 26, 27, 28, 29, 30, 31, 32, 33, 34, 35, 36, 37, 38, 39] [3, 4, 5, 6, 7, 8] rfl rfl (by decide) (by decide) (by decide) rfl hl.1 rfl (Nat.le_of_ble_eq_true rfl) dX2_climb_44 ⟨Nat.le_of_ble_eq_true rfl, Nat.le_of_ble_eq_true rfl⟩ (fun r_6 w_6 H locs hw hP hD hS => ?_)
            obtain ⟨rfl, har2⟩ := hw
            have hP := hP.sub (ws' := (pZ z0 z1 z2 q cI (cs_it cn ar rt oh cu wc wl ro wt lim rd) fi' ++ pT q cI n a b le ro di ++ pS q cI sn ar rt oh ++ pC q r cI cG cn no ot cu wc wl ++ pR r cI wt)) [6, 7, 8, 0, 1, 2, 3, 4, 5, 9, 10, 11, 12, 13, 14, 15, 16, 17, 18, 19, 20, 21, 22, 23, 24, 25, 26, 27, 28, 29, 30, 31, 32, 33, 34, 35, 36, 37, 38, 39] rfl
            have hD := hD.sub (ws' := (pZ z0 z1 z2 q cI (cs_it cn ar rt oh cu wc wl ro wt lim rd) fi' ++ pT q cI n a b le ro di ++ pS q cI sn ar rt oh ++ pC q r cI cG cn no ot cu wc wl ++ pR r cI wt)) [6, 7, 8, 0, 1, 2, 3, 4, 5, 9, 10, 11, 12, 13, 14, 15, 16, 17, 18, 19, 20, 21, 22, 23, 24, 25, 26, 27, 28, 29, 30, 31, 32, 33, 34, 35, 36, 37, 38, 39] (by decide) rfl
            rcases har2 with ⟨hr1, hall⟩ | ⟨hr1, hex⟩
            · subst hr1
              refine nr_if_eq (x := 1) (tgt := 52) hx hb (by omega) dX2_climb_47 (by decide) (fun h3 => ?_) (fun h3 => ?_)
              · exact absurd h3 (by omega)
              · refine lv_iconst (v := nI 1) hx hb dX2_climb_50 (by decide) ?_
                rw [hQ]
                exact ct_zret hx hb hr hlocks hP hD hS dX2_climb_51 (by first | exact Or.inl rfl | exact Or.inr rfl) ⟨_, fi', rfl, hp6, hf2, Or.inl ⟨rfl, hS0, rd, rfl, hgo, fun c hc => by rw [← hrg c hc]; exact hall c hc, hf1⟩⟩
            · subst hr1
              refine nr_if_eq (x := 0) (tgt := 52) hx hb (by omega) dX2_climb_47 (by decide) (fun h3 => ?_) (fun h3 => ?_)
              · have hng : ¬ cs_good cn ar rt oh cu wc wl ro wt lim (cs_it cn ar rt oh cu wc wl ro wt lim rd) := fun hg => by obtain ⟨c, hc, h⟩ := hex; rw [hrg c hc, hg c hc] at h; cases h
                refine lv_aload_n hx hb dX2_climb_52 rfl (lv_at hl 0 rfl) ?_
                refine lv_iload_n hx hb dX2_climb_53 rfl (lv_at hl 1 rfl) ?_
                refine ct_Vi (wc := (pZ z0 z1 z2 q cI (cs_it cn ar rt oh cu wc wl ro wt lim rd) fi' ++ pS q cI sn ar rt oh ++ pC q r cI cG cn no ot cu wc wl ++ pR r cI wt)) (wr := (pT q cI n a b le ro di)) (As := [.int (nI lim)]) (rest := []) ⟨hx, hb, hml, hown, hbw⟩ (EN_E D _) hEN (kX2_raiseWrongOnes l D cI cG cL cB z0 z1 z2 q r (cs_it cn ar rt oh cu wc wl ro wt lim rd) fi' sn ar rt oh cn no ot cu wc wl wt lim hlim hz hp6 hf2) (cwV (C := "CableSizes$Sizing") 1 hbw (gV m_231 m_233 m_2 m_22 m_234) rfl rfl rfl (by decide +kernel) ⟨Nat.le_of_ble_eq_true rfl, Nat.le_of_ble_eq_true rfl⟩) (va_recv hK hP (ci := 2) (q0 := 0) rfl rfl) hP hD hS hA [0, 1, 2, 9, 10, 11, 12, 13, 14, 15, 16, 17, 18, 19, 20, 21, 22, 23, 24, 25, 26, 27, 28, 29, 30, 31, 32, 33, 34, 35, 36, 37, 38, 39] [3, 4, 5, 6, 7, 8] rfl rfl (by decide) (by decide) (by decide) rfl hl.1 rfl (Nat.le_of_ble_eq_true rfl) dX2_climb_54 ⟨Nat.le_of_ble_eq_true rfl, Nat.le_of_ble_eq_true rfl⟩ (fun r_7 w_7 H locs hw hP hD hS => ?_)
                obtain ⟨pk', rfl, hp7, hrs⟩ := hw
                have hP := hP.sub (ws' := (pZ z0 z1 z2 q cI pk' fi' ++ pT q cI n a b le ro di ++ pS q cI sn ar rt oh ++ pC q r cI cG cn no ot cu wc wl ++ pR r cI wt)) [6, 7, 8, 0, 1, 2, 3, 4, 5, 9, 10, 11, 12, 13, 14, 15, 16, 17, 18, 19, 20, 21, 22, 23, 24, 25, 26, 27, 28, 29, 30, 31, 32, 33, 34, 35, 36, 37, 38, 39] rfl
                have hD := hD.sub (ws' := (pZ z0 z1 z2 q cI pk' fi' ++ pT q cI n a b le ro di ++ pS q cI sn ar rt oh ++ pC q r cI cG cn no ot cu wc wl ++ pR r cI wt)) [6, 7, 8, 0, 1, 2, 3, 4, 5, 9, 10, 11, 12, 13, 14, 15, 16, 17, 18, 19, 20, 21, 22, 23, 24, 25, 26, 27, 28, 29, 30, 31, 32, 33, 34, 35, 36, 37, 38, 39] (by decide) rfl
                rcases hrs with ⟨hr2, hpk2, hok2⟩ | ⟨hr2, c, hc, hwr, hst⟩
                · subst hr2
                  have hpk3 : pk' = cs_it cn ar rt oh cu wc wl ro wt lim (rd + 1) := by rw [hpk2]; exact cy_up_congr hrg
                  rw [hpk3] at hP hD
                  refine nr_if_ne (x := 1) (tgt := 62) hx hb (by omega) dX2_climb_57 (by decide) (fun h4 => ?_) (fun h4 => ?_)
                  · refine lv_iinc (v := nI (rd + 1)) (lv' := [(2, .int (nI (rd + 1))), (0, .ref z0), (1, .int (nI lim))]) hx hb dX2_climb_62 hl (k := 2) rfl (nI_1 _) (by decide) rfl (fun ls hl => ?_)
                    refine lv_goto (tgt := 32) hx hb dX2_climb_65 (by decide) ?_
                    exact ih (rd + 1) fi' (by omega) (by omega) (lt_s hgo ⟨hng, fun ⟨c, hc, h5, h6⟩ => by have := hok2 c hc ((hrg c hc).trans h5); omega⟩) hf2 _ _ _ hP hD hS (lv_sub hl [1, 2, 0] rfl)
                  · exact absurd h4 (by omega)
                · subst hr2
                  refine nr_if_ne (x := 0) (tgt := 62) hx hb (by omega) dX2_climb_57 (by decide) (fun h4 => ?_) (fun h4 => ?_)
                  · exact absurd h4 (by omega)
                  · refine lv_iconst (v := nI 0) hx hb dX2_climb_60 (by decide) ?_
                    rw [hQ]
                    exact ct_zret hx hb hr hlocks hP hD hS dX2_climb_61 (by first | exact Or.inl rfl | exact Or.inr rfl) ⟨_, fi', rfl, hp7, hf2, Or.inr ⟨rfl, Or.inr ⟨hS0, rd, hgo, c, hc, (hrg c hc).symm.trans hwr, hst⟩⟩⟩
              · exact absurd h3 (by omega)
      exact lp 102 0 fi (by omega) (by omega) (lt_0) hfi _ _ _ hP hD hS (lv_sub hl [1, 2, 0] rfl)
    · refine lv_iconst (v := nI 0) hx hb dX2_climb_28 (by decide) ?_
      rw [hQ]
      exact ct_zret hx hb hr hlocks hP hD hS dX2_climb_29 (by first | exact Or.inl rfl | exact Or.inr rfl) ⟨_, fi, rfl, fun _ => by show 0 < 6; omega, hfi, Or.inr ⟨rfl, Or.inl ⟨h1, h5⟩⟩⟩
