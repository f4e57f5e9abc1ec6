set_option maxHeartbeats 4000000 in
set_option maxRecDepth 100000 in
/-- checkNumber of a number that there is -/
theorem kX4_checkNumber_ok (l : Launch) (D : va_G) (cI cG cL cB : ClassId) (k n : Nat) (hk : k < n) (hn : n < 2 ^ 31) : ct_v l yX4_checkNumber (.code yX4_checkNumber cX4_checkNumber 2 none :: bw) ({ frames := 0, cells := 0, slots := 0, locals := 0 }) (EN D (tyL cI cG cL cB)) D vwCl ([] : va_W) [.int (nI k), .int (nI n)] (fun W => W = []) 0 0 := by
  refine ct_ofv (by decide) (Nat.le_of_ble_eq_true rfl) ?_
  intro p e s m below meth cd A H locs av Q ls hx hb hr hml hown hlocks hnm hbw hEN hQ hP hD hS hA hl
  have hown : s.vm.findClass RX4 = some m.cls := hown
  have hK := hEN.1
  have hl : lv_has ls 2 [(0, .int (nI k)), (1, .int (nI n))] := hl
  refine lv_iload_n hx hb dX4_checkNumber_0 rfl (lv_at hl 0 rfl) ?_
  refine lv_if_lt (tgt := 9) hx hb dX4_checkNumber_1 (by decide) (fun h => absurd h (nI_pos (by omega))) (fun _ => ?_)
  refine lv_iload_n hx hb dX4_checkNumber_4 rfl (lv_at hl 0 rfl) ?_
  refine lv_iload_n hx hb dX4_checkNumber_5 rfl (lv_at hl 1 rfl) ?_
  refine nr_icmp_lt (x := k) (y := n) (tgt := 19) hx hb (by omega) (by omega) dX4_checkNumber_6 (by decide) (fun _ => ?_) (fun h => absurd h (by omega))
  rw [hQ]
  exact ct_vret hx hb hr hlocks hP hD hS dX4_checkNumber_19 rfl
set_option maxHeartbeats 4000000 in
set_option maxRecDepth 100000 in
/-- right -/
theorem kX4_right (l : Launch) (hl9 : l.stackTraces = false) (D : va_G) (cI cG cL cB : ClassId) (o0 z0 z1 z2 y0 y1 y2 : Nat) (q r : Nat → Nat) (pj fj : Nat → Nat) (lim kn ex : Nat) (pk fi : Nat → Nat) (n : Nat) (a b le ro di : Nat → Nat) (sn : Nat) (ar rt oh : Nat → Nat) (cn : Nat) (no ot cu wc wl : Nat → Nat) (wt : Nat → Nat → Nat) (X : Int64) (hT : okT n a b le ro) (hz : okZ sn ar rt oh cn cu wc wl wt) (hC : okC n a b le cn no ot wc wl wt) (hL : okL n ro sn ar rt oh cn cu wc wl wt lim kn ex pk fi) (hlim : lim ≤ 1000000) (hpj : ∀ j, pj j < 6) (hfj : ∀ j, fj j ≤ 18000000) : tx_i l yX4_right (.code yX4_right cX4_right 7 (some .boolean) :: bw) ({ frames := 7, cells := 2, slots := 12, locals := 111 }) (EX D (tyL cI cG cL cB)) D vwCl (pO o0 z0 y0 q lim kn ex ++ pZ z0 z1 z2 q cI pk fi ++ pZ y0 y1 y2 q cI pj fj ++ pT q cI n a b le ro di ++ pS q cI sn ar rt oh ++ pC q r cI cG cn no ot cu wc wl ++ pR r cI wt) [.ref o0, .long X] (fun v W => ∃ d, cs_dig sn cn X d ∧ (∃ bb, v = nI (bN bb) ∧ (bb = true ↔ ∀ c, c < cn → cs_rg cn ar rt oh cu wc wl ro wt lim (fun c => cs_lf d c % 6) c = true)) ∧ ∃ pj' fj', W = (pO o0 z0 y0 q lim kn ex ++ pZ z0 z1 z2 q cI pk fi ++ pZ y0 y1 y2 q cI pj' fj' ++ pT q cI n a b le ro di ++ pS q cI sn ar rt oh ++ pC q r cI cG cn no ot cu wc wl ++ pR r cI wt) ∧ (∀ j, pj' j < 6) ∧ ∀ j, fj' j ≤ 18000000) (fun E W => E = sIAE ∧ ¬ (∃ d, cs_dig sn cn X d) ∧ ∃ pj', W = (pO o0 z0 y0 q lim kn ex ++ pZ z0 z1 z2 q cI pk fi ++ pZ y0 y1 y2 q cI pj' fj ++ pT q cI n a b le ro di ++ pS q cI sn ar rt oh ++ pC q r cI cG cn no ot cu wc wl ++ pR r cI wt) ∧ ∀ j, pj' j < 6) 2 12 := by
  refine tx_ofi (by decide) (Nat.le_of_ble_eq_true rfl) ?_
  intro p e s m below meth cd A H locs av Q ls hx hb hr hml hown hlocks hex hbw hEX hZ hQ hP hD hS hA hl
  have hown : s.vm.findClass RX4 = some m.cls := hown
  have hEN := hEX.1
  have hK := hEN.1
  have hl : lv_has ls 7 [(0, .ref o0), (1, .long X)] := hl
  obtain ⟨hn, hok, ha0, hb0, hl0, hro, hro1⟩ := id hT
  obtain ⟨hsn, har, hrt, hoh, hcn, hcu, hwc, hwl, hwt⟩ := id hz
  have hy := okY_of hT hC
  obtain ⟨hkn, hpk, hfi, hkl⟩ := id hL
  refine lv_lload_n hx hb dX4_right_0 rfl (lv_at hl 1 rfl) ?_
  refine lv_lconst (v := lN 0) hx hb dX4_right_1 (by decide) ?_
  refine nr_cmpge (tgt := 16) hx hb dX4_right_2 dX4_right_3 (by decide) (fun hX => ?_) (fun hX => ?_)
  · obtain ⟨d, hd, rfl⟩ := pk_lOf hX
    refine lv_lload_n hx hb dX4_right_16 rfl (lv_at hl 1 rfl) ?_
    refine lv_lstore_n (lv' := [(3, .long (lN d)), (0, .ref o0), (1, .long (lN d))]) hx hb dX4_right_17 rfl hl (by decide) rfl (fun ls hl => ?_)
    refine lv_iconst (v := nI 0) hx hb dX4_right_18 (by decide) ?_
    refine lv_istore (lv' := [(5, .int (nI 0)), (3, .long (lN d)), (0, .ref o0), (1, .long (lN d))]) hx hb dX4_right_19 hl (by decide) rfl (fun ls hl => ?_)
    have lp : ∀ (k : Nat) (c : Nat) (pj : Nat → Nat), (hk : cn < c + k) → (hi : c ≤ cn) → (hcd : ∀ j, j < c → pj j = cs_lf d j % 6) → (hpj : ∀ j, pj j < 6) → (hgd : ∀ j, j < c → cs_lf d j % 6 < sn) → ∀ (H : Heap) (locs : List Loc) (ls : Array Slot), va_P D vwCl (pO o0 z0 y0 q lim kn ex ++ pZ z0 z1 z2 q cI pk fi ++ pZ y0 y1 y2 q cI pj fj ++ pT q cI n a b le ro di ++ pS q cI sn ar rt oh ++ pC q r cI cG cn no ot cu wc wl ++ pR r cI wt) H → va_D A (pO o0 z0 y0 q lim kn ex ++ pZ z0 z1 z2 q cI pk fi ++ pZ y0 y1 y2 q cI pj fj ++ pT q cI n a b le ro di ++ pS q cI sn ar rt oh ++ pC q r cI cG cn no ot cu wc wl ++ pR r cI wt) → va_S A s.heap H locs → lv_has ls 7 [(0, .ref o0), (3, .long (lN (cs_lf d c))), (5, .int (nI c))] → W p l e ({ frames := 7, cells := 2, slots := 12, locals := 111 }) s m av below meth cd H locs 0 0 Q (F0 m 21 ls []) := by
      intro k
      induction k with
      | zero => intro c pj hk hi hcd hpj hgd; exact absurd hk (by omega)
      | succ k ih =>
        intro c pj hk hi hcd hpj hgd H locs ls hP hD hS hl
        have b_l := cs_lf_le d c
        have b_m : cs_lf d c % 6 < 6 := Nat.mod_lt _ (by omega)
        refine lv_iload hx hb dX4_right_21 (lv_at hl 2 rfl) ?_
        refine lv_aload_n hx hb dX4_right_23 rfl (lv_at hl 0 rfl) ?_
        refine va_get (ci := 4) (v := .ref (q 11)) (C := RX4) (T := TX4) (N := 8) hx hb hbw in_X4 hown hK hP 0 rfl rfl 2 (by decide) (hbw _ m_162) (fun _ h9 => h9) rfl dX4_right_24 ?_
        refine va_getN (ci := 0) (v := .int (nI cn)) (C := RX0) (T := TX0) (N := 7) hx hb hbw in_X0 hown hK hP 17 rfl rfl 0 (by decide) (va_Nw.use rfl (hEN.2 _ (List.mem_filter.mpr ⟨mn_88, rfl⟩))) (fun _ h9 => h9) rfl dX4_right_27 ?_
        refine nr_icmp_ge (x := c) (y := cn) (tgt := 77) hx hb (by omega) (by omega) dX4_right_30 (by decide) (fun h1 => ?_) (fun h1 => ?_)
        · have ec : c = cn := by omega
          refine lv_lload_n hx hb dX4_right_77 rfl (lv_at hl 1 rfl) ?_
          refine lv_lconst (v := lN 0) hx hb dX4_right_78 (by decide) ?_
          refine nr_cmpeq (tgt := 93) hx hb dX4_right_79 dX4_right_80 (by decide) (fun h4 => ?_) (fun h4 => ?_)
          · have e0 := lN_inj (show cs_lf d c < 2 ^ 63 by omega) (by omega) h4
            have hdg : cs_dig sn cn (lN d) d := ⟨hd, rfl, by rw [← ec]; exact hgd, by rw [← ec]; exact e0⟩
            refine lv_aload_n hx hb dX4_right_93 rfl (lv_at hl 0 rfl) ?_
            refine va_get (ci := 4) (v := .ref y0) (C := RX4) (T := TX4) (N := 8) hx hb hbw in_X4 hown hK hP 0 rfl rfl 4 (by decide) (hbw _ m_164) (fun _ h9 => h9) rfl dX4_right_94 ?_
            refine ct_Vv (wc := (pZ y0 y1 y2 q cI pj fj ++ pT q cI n a b le ro di ++ pS q cI sn ar rt oh ++ pC q r cI cG cn no ot cu wc wl ++ pR r cI wt)) (wr := (pO o0 z0 y0 q lim kn ex ++ pZ z0 z1 z2 q cI pk fi)) (As := []) (rest := []) ⟨hx, hb, hml, hown, hbw⟩ (EN_E D _) hEN (kX2_fillTrays l D cI cG cL cB y0 y1 y2 q r pj fj sn ar rt oh cn no ot cu wc wl wt n a b le ro di hz hpj hn hro hro1) (cwV (C := "CableSizes$Sizing") 0 hbw (gV m_479 m_201 m_202 m_22 m_203) rfl rfl rfl (by decide +kernel) ⟨Nat.le_of_ble_eq_true rfl, Nat.le_of_ble_eq_true rfl⟩) (va_recv hK hP (ci := 2) (q0 := 4) rfl rfl) hP hD hS hA [4, 5, 6, 7, 8, 9, 10, 11, 12, 13, 14, 15, 16, 17, 18, 19, 20, 21, 22, 23, 24, 25, 26, 27, 28, 29, 30, 31, 32, 33, 34, 35, 36, 37, 38, 39, 40, 41, 42, 43] [0, 1, 2, 3] rfl rfl (by decide) (by decide) (by decide) rfl hl.1 rfl (Nat.le_of_ble_eq_true rfl) dX4_right_97 ⟨Nat.le_of_ble_eq_true rfl, Nat.le_of_ble_eq_true rfl⟩ (fun w_1 H locs hw hP hD hS => ?_)
            obtain ⟨fj', rfl, hf1, hf2⟩ := hw
            have hP := hP.sub (ws' := (pO o0 z0 y0 q lim kn ex ++ pZ z0 z1 z2 q cI pk fi ++ pZ y0 y1 y2 q cI pj fj' ++ pT q cI n a b le ro di ++ pS q cI sn ar rt oh ++ pC q r cI cG cn no ot cu wc wl ++ pR r cI wt)) [0, 1, 2, 3, 4, 5, 6, 7, 8, 9, 10, 11, 12, 13, 14, 15, 16, 17, 18, 19, 20, 21, 22, 23, 24, 25, 26, 27, 28, 29, 30, 31, 32, 33, 34, 35, 36, 37, 38, 39, 40, 41, 42, 43] rfl
            have hD := hD.sub (ws' := (pO o0 z0 y0 q lim kn ex ++ pZ z0 z1 z2 q cI pk fi ++ pZ y0 y1 y2 q cI pj fj' ++ pT q cI n a b le ro di ++ pS q cI sn ar rt oh ++ pC q r cI cG cn no ot cu wc wl ++ pR r cI wt)) [0, 1, 2, 3, 4, 5, 6, 7, 8, 9, 10, 11, 12, 13, 14, 15, 16, 17, 18, 19, 20, 21, 22, 23, 24, 25, 26, 27, 28, 29, 30, 31, 32, 33, 34, 35, 36, 37, 38, 39, 40, 41, 42, 43] (by decide) rfl
            refine lv_aload_n hx hb dX4_right_100 rfl (lv_at hl 0 rfl) ?_
            refine va_get (ci := 4) (v := .ref y0) (C := RX4) (T := TX4) (N := 8) hx hb hbw in_X4 hown hK hP 0 rfl rfl 4 (by decide) (hbw _ m_164) (fun _ h9 => h9) rfl dX4_right_101 ?_
            refine lv_aload_n hx hb dX4_right_104 rfl (lv_at hl 0 rfl) ?_
            refine va_get (ci := 4) (v := .int (nI lim)) (C := RX4) (T := TX4) (N := 8) hx hb hbw in_X4 hown hK hP 0 rfl rfl 5 (by decide) (hbw _ m_165) (fun _ h9 => h9) rfl dX4_right_105 ?_
            refine ct_Vi (wc := (pZ y0 y1 y2 q cI pj fj' ++ pS q cI sn ar rt oh ++ pC q r cI cG cn no ot cu wc wl ++ pR r cI wt)) (wr := (pO o0 z0 y0 q lim kn ex ++ pZ z0 z1 z2 q cI pk fi ++ pT q cI n a b le ro di)) (As := [.int (nI lim)]) (rest := []) ⟨hx, hb, hml, hown, hbw⟩ (EN_E D _) hEN (kX2_allAreRight l D cI cG cL cB y0 y1 y2 q r pj fj' sn ar rt oh cn no ot cu wc wl wt lim hlim hz hpj hf2) (cwV (C := "CableSizes$Sizing") 1 hbw (gV m_480 m_205 m_206 m_22 m_207) rfl rfl rfl (by decide +kernel) ⟨Nat.le_of_ble_eq_true rfl, Nat.le_of_ble_eq_true rfl⟩) (va_recv hK hP (ci := 2) (q0 := 4) rfl rfl) hP hD hS hA [4, 5, 6, 13, 14, 15, 16, 17, 18, 19, 20, 21, 22, 23, 24, 25, 26, 27, 28, 29, 30, 31, 32, 33, 34, 35, 36, 37, 38, 39, 40, 41, 42, 43] [0, 1, 2, 3, 7, 8, 9, 10, 11, 12] rfl rfl (by decide) (by decide) (by decide) rfl hl.1 rfl (Nat.le_of_ble_eq_true rfl) dX4_right_108 ⟨Nat.le_of_ble_eq_true rfl, Nat.le_of_ble_eq_true rfl⟩ (fun r_2 w_2 H locs hw hP hD hS => ?_)
            obtain ⟨rfl, har2⟩ := hw
            have hP := hP.sub (ws' := (pO o0 z0 y0 q lim kn ex ++ pZ z0 z1 z2 q cI pk fi ++ pZ y0 y1 y2 q cI pj fj' ++ pT q cI n a b le ro di ++ pS q cI sn ar rt oh ++ pC q r cI cG cn no ot cu wc wl ++ pR r cI wt)) [0, 1, 2, 3, 10, 11, 12, 4, 5, 6, 7, 8, 9, 13, 14, 15, 16, 17, 18, 19, 20, 21, 22, 23, 24, 25, 26, 27, 28, 29, 30, 31, 32, 33, 34, 35, 36, 37, 38, 39, 40, 41, 42, 43] rfl
            have hD := hD.sub (ws' := (pO o0 z0 y0 q lim kn ex ++ pZ z0 z1 z2 q cI pk fi ++ pZ y0 y1 y2 q cI pj fj' ++ pT q cI n a b le ro di ++ pS q cI sn ar rt oh ++ pC q r cI cG cn no ot cu wc wl ++ pR r cI wt)) [0, 1, 2, 3, 10, 11, 12, 4, 5, 6, 7, 8, 9, 13, 14, 15, 16, 17, 18, 19, 20, 21, 22, 23, 24, 25, 26, 27, 28, 29, 30, 31, 32, 33, 34, 35, 36, 37, 38, 39, 40, 41, 42, 43] (by decide) rfl
            have hrg : ∀ j, j < cn → cy_right rt oh cu wc wl pj fj' wt lim j = cs_rg cn ar rt oh cu wc wl ro wt lim (fun c => cs_lf d c % 6) j := fun j hj => (cy_right_fi (fun i hi => hf1 _ (hy.2.2.2.1 j hj i hi))).trans (cs_rg_congr (fun c hc => hcd c (by omega)) hj)
            rcases har2 with ⟨h5, h6⟩ | ⟨h5, j, h6, h7⟩
            · subst h5
              rw [hQ]
              exact tx_zret hx hb hr hlocks hP hD hS dX4_right_111 (Nat.le_of_ble_eq_true rfl) (Nat.le_of_ble_eq_true rfl) (by first | exact Or.inl rfl | exact Or.inr rfl) ⟨d, hdg, ⟨true, rfl, ⟨fun _ c hc => by rw [← hrg c hc]; exact h6 c hc, fun _ => rfl⟩⟩, pj, fj', rfl, hpj, hf2⟩
            · subst h5
              rw [hQ]
              exact tx_zret hx hb hr hlocks hP hD hS dX4_right_111 (Nat.le_of_ble_eq_true rfl) (Nat.le_of_ble_eq_true rfl) (by first | exact Or.inl rfl | exact Or.inr rfl) ⟨d, hdg, ⟨false, rfl, ⟨fun q => (by cases q), fun q => (by have := q j h6; rw [← hrg j h6, h7] at this; cases this)⟩⟩, pj, fj', rfl, hpj, hf2⟩
          · rw [hQ]
            exact tx_throw (w := (pO o0 z0 y0 q lim kn ex ++ pZ z0 z1 z2 q cI pk fi ++ pZ y0 y1 y2 q cI pj fj ++ pT q cI n a b le ro di ++ pS q cI sn ar rt oh ++ pC q r cI cG cn no ot cu wc wl ++ pR r cI wt)) hx hb hl9 hown (by decide +kernel) hbw hEX hZ xk_IAE xi_IAE xs_156 x1_IAE x2_IAE xg_IAE hP hD hS (hl.1.trans hml.symm) dX4_right_83 dX4_right_86 dX4_right_87 dX4_right_89 dX4_right_92 hex (Nat.le_of_ble_eq_true rfl) (Nat.le_of_ble_eq_true rfl) (Nat.le_of_ble_eq_true rfl) (Nat.le_of_ble_eq_true rfl) hlocks (Nat.le_of_ble_eq_true rfl) (Nat.le_of_ble_eq_true rfl) ⟨rfl, fun ⟨d1, q3, q4, _, q6⟩ => (by obtain rfl := lN_inj hd q3 q4; rw [← ec] at q6; exact h4 (by rw [q6])), pj, rfl, hpj⟩
        · refine lv_lload_n hx hb dX4_right_33 rfl (lv_at hl 1 rfl) ?_
          refine lv_ldc2 (v := lN 6) hx hb hown (hbw _ m_477) dX4_right_34 ?_
          refine nr_lrem hx hb (by omega) (by omega) (by omega) dX4_right_37 ?_
          refine lv_l2i (v := nI ((cs_lf d c) % 6)) hx hb dX4_right_38 (lN_i _) ?_
          refine lv_istore (lv' := [(6, .int (nI ((cs_lf d c) % 6))), (0, .ref o0), (3, .long (lN (cs_lf d c))), (5, .int (nI c))]) hx hb dX4_right_39 hl (by decide) rfl (fun ls hl => ?_)
          refine lv_iload hx hb dX4_right_41 (lv_at hl 0 rfl) ?_
          refine lv_aload_n hx hb dX4_right_43 rfl (lv_at hl 1 rfl) ?_
          refine va_get (ci := 4) (v := .ref (q 7)) (C := RX4) (T := TX4) (N := 8) hx hb hbw in_X4 hown hK hP 0 rfl rfl 1 (by decide) (hbw _ m_161) (fun _ h9 => h9) rfl dX4_right_44 ?_
          refine va_getN (ci := 1) (v := .int (nI sn)) (C := RX1) (T := TX1) (N := 4) hx hb hbw in_X1 hown hK hP 13 rfl rfl 0 (by decide) (va_Nw.use rfl (hEN.2 _ (List.mem_filter.mpr ⟨mn_62, rfl⟩))) (fun _ h9 => h9) rfl dX4_right_47 ?_
          by_cases hq : cs_lf d c % 6 < sn
          · refine ct_Sv (wc := ([] : va_W)) (wr := (pO o0 z0 y0 q lim kn ex ++ pZ z0 z1 z2 q cI pk fi ++ pZ y0 y1 y2 q cI pj fj ++ pT q cI n a b le ro di ++ pS q cI sn ar rt oh ++ pC q r cI cG cn no ot cu wc wl ++ pR r cI wt)) (As := [.int (nI ((cs_lf d c) % 6)), .int (nI sn)]) (rest := []) ⟨hx, hb, hml, hown, hbw⟩ (EN_E D _) hEN (kX4_checkNumber_ok l D cI cG cL cB (cs_lf d c % 6) sn hq (by omega)) (gS 2 hbw m_406 m_407 m_18 m_408 rfl rfl (by decide +kernel) ⟨Nat.le_of_ble_eq_true rfl, Nat.le_of_ble_eq_true rfl⟩) hP hD hS hA [] [0, 1, 2, 3, 4, 5, 6, 7, 8, 9, 10, 11, 12, 13, 14, 15, 16, 17, 18, 19, 20, 21, 22, 23, 24, 25, 26, 27, 28, 29, 30, 31, 32, 33, 34, 35, 36, 37, 38, 39, 40, 41, 42, 43] rfl rfl (by decide) (by decide) (by decide) rfl hl.1 rfl (Nat.le_of_ble_eq_true rfl) dX4_right_50 ⟨Nat.le_of_ble_eq_true rfl, Nat.le_of_ble_eq_true rfl⟩ (fun w_3 H locs hw hP hD hS => ?_)
            obtain rfl := hw
            have hP := hP.sub (ws' := (pO o0 z0 y0 q lim kn ex ++ pZ z0 z1 z2 q cI pk fi ++ pZ y0 y1 y2 q cI pj fj ++ pT q cI n a b le ro di ++ pS q cI sn ar rt oh ++ pC q r cI cG cn no ot cu wc wl ++ pR r cI wt)) [0, 1, 2, 3, 4, 5, 6, 7, 8, 9, 10, 11, 12, 13, 14, 15, 16, 17, 18, 19, 20, 21, 22, 23, 24, 25, 26, 27, 28, 29, 30, 31, 32, 33, 34, 35, 36, 37, 38, 39, 40, 41, 42, 43] rfl
            have hD := hD.sub (ws' := (pO o0 z0 y0 q lim kn ex ++ pZ z0 z1 z2 q cI pk fi ++ pZ y0 y1 y2 q cI pj fj ++ pT q cI n a b le ro di ++ pS q cI sn ar rt oh ++ pC q r cI cG cn no ot cu wc wl ++ pR r cI wt)) [0, 1, 2, 3, 4, 5, 6, 7, 8, 9, 10, 11, 12, 13, 14, 15, 16, 17, 18, 19, 20, 21, 22, 23, 24, 25, 26, 27, 28, 29, 30, 31, 32, 33, 34, 35, 36, 37, 38, 39, 40, 41, 42, 43] (by decide) rfl
            refine lv_aload_n hx hb dX4_right_53 rfl (lv_at hl 1 rfl) ?_
            refine va_get (ci := 4) (v := .ref y0) (C := RX4) (T := TX4) (N := 8) hx hb hbw in_X4 hown hK hP 0 rfl rfl 4 (by decide) (hbw _ m_164) (fun _ h9 => h9) rfl dX4_right_54 ?_
            refine va_getN (ci := 2) (v := .ref y1) (C := RX2) (T := TX2) (N := 5) hx hb hbw in_X2 hown hK hP 4 rfl rfl 3 (by decide) (va_Nw.use rfl (hEN.2 _ (List.mem_filter.mpr ⟨mn_128, rfl⟩))) (fun _ h9 => h9) rfl dX4_right_57 ?_
            refine lv_iload hx hb dX4_right_60 (lv_at hl 3 rfl) ?_
            refine lv_iload hx hb dX4_right_62 (lv_at hl 0 rfl) ?_
            refine nr_iast hx hb hK hP hD hS 5 0 rfl rfl (k := c) (v := (cs_lf d c) % 6) (by omega) (by omega) dX4_right_64 (fun H locs hP hD hS => ?_)
            have hP : va_P D vwCl (pO o0 z0 y0 q lim kn ex ++ pZ z0 z1 z2 q cI pk fi ++ pZ y0 y1 y2 q cI (nr_up pj c ((cs_lf d c) % 6)) fj ++ pT q cI n a b le ro di ++ pS q cI sn ar rt oh ++ pC q r cI cG cn no ot cu wc wl ++ pR r cI wt) H := hP
            have hD : va_D A (pO o0 z0 y0 q lim kn ex ++ pZ z0 z1 z2 q cI pk fi ++ pZ y0 y1 y2 q cI (nr_up pj c ((cs_lf d c) % 6)) fj ++ pT q cI n a b le ro di ++ pS q cI sn ar rt oh ++ pC q r cI cG cn no ot cu wc wl ++ pR r cI wt) := hD
            refine lv_lload_n hx hb dX4_right_65 rfl (lv_at hl 2 rfl) ?_
            refine lv_ldc2 (v := lN 6) hx hb hown (hbw _ m_477) dX4_right_66 ?_
            refine nr_ldiv hx hb (by omega) (by omega) (by omega) dX4_right_69 ?_
            refine lv_lstore_n (lv' := [(3, .long (lN ((cs_lf d c) / 6))), (6, .int (nI ((cs_lf d c) % 6))), (0, .ref o0), (5, .int (nI c))]) hx hb dX4_right_70 rfl hl (by decide) rfl (fun ls hl => ?_)
            refine lv_iinc (v := nI (c + 1)) (lv' := [(5, .int (nI (c + 1))), (3, .long (lN ((cs_lf d c) / 6))), (6, .int (nI ((cs_lf d c) % 6))), (0, .ref o0)]) hx hb dX4_right_71 hl (k := 3) rfl (nI_1 _) (by decide) rfl (fun ls hl => ?_)
            refine lv_goto (tgt := 21) hx hb dX4_right_74 (by decide) ?_
            exact ih (c + 1) _ (by omega) (by omega) (lt_s (fun j hj => by rw [nr_up_n _ _ (Nat.ne_of_lt hj)]; exact hcd j hj) (nr_up_s _ _ _)) (fun j => by by_cases e : j = c; rw [e, nr_up_s]; exact b_m; rw [nr_up_n _ _ e]; exact hpj j) (lt_s hgd hq) _ _ _ hP hD hS (lv_sub hl [3, 1, 0] rfl)
          · rw [hQ]
            refine tx_Sv (wc := ([] : va_W)) (wr := (pO o0 z0 y0 q lim kn ex ++ pZ z0 z1 z2 q cI pk fi ++ pZ y0 y1 y2 q cI pj fj ++ pT q cI n a b le ro di ++ pS q cI sn ar rt oh ++ pC q r cI cG cn no ot cu wc wl ++ pR r cI wt)) (As := [.int (nI ((cs_lf d c) % 6)), .int (nI sn)]) (rest := []) ⟨hx, hb, hml, hown, hbw⟩ (EX_E D _) hEX hZ hex hlocks (kX4_checkNumber l hl9 D cI cG cL cB (nI (cs_lf d c % 6)) sn (by omega)) (gS 2 hbw m_406 m_407 m_18 m_408 rfl rfl (by decide +kernel) ⟨Nat.le_of_ble_eq_true rfl, Nat.le_of_ble_eq_true rfl⟩) hP hD hS hA [] [0, 1, 2, 3, 4, 5, 6, 7, 8, 9, 10, 11, 12, 13, 14, 15, 16, 17, 18, 19, 20, 21, 22, 23, 24, 25, 26, 27, 28, 29, 30, 31, 32, 33, 34, 35, 36, 37, 38, 39, 40, 41, 42, 43] rfl rfl (by decide) (by decide) (by decide) rfl hl.1 rfl (Nat.le_of_ble_eq_true rfl) dX4_right_50 ⟨Nat.le_of_ble_eq_true rfl, Nat.le_of_ble_eq_true rfl⟩ (Nat.le_of_ble_eq_true rfl) (Nat.le_of_ble_eq_true rfl) (fun E w1 hp => ⟨hp.1, fun ⟨d1, q3, q4, q5, _⟩ => (by obtain rfl := lN_inj hd q3 q4; exact hq (q5 c h1)), pj, by rw [hp.2.1, List.append_nil], hpj⟩) (fun w1 H locs hw hP hD hS => ?_)
            rw [← hQ]
            obtain ⟨rfl, k9, hk9, e9⟩ := hw
            rw [List.append_nil] at hP hD
            exact absurd (by rw [(nI_eq (by omega) (by omega)).mp e9]; exact hk9) hq
    exact lp (cn + 1) 0 pj (by omega) (Nat.zero_le cn) (lt_0) hpj (lt_0) _ _ _ hP hD hS (lv_sub hl [2, 1, 0] rfl)
  · rw [hQ]
    exact tx_throw (w := (pO o0 z0 y0 q lim kn ex ++ pZ z0 z1 z2 q cI pk fi ++ pZ y0 y1 y2 q cI pj fj ++ pT q cI n a b le ro di ++ pS q cI sn ar rt oh ++ pC q r cI cG cn no ot cu wc wl ++ pR r cI wt)) hx hb hl9 hown (by decide +kernel) hbw hEX hZ xk_IAE xi_IAE xs_152 x1_IAE x2_IAE xg_IAE hP hD hS (hl.1.trans hml.symm) dX4_right_6 dX4_right_9 dX4_right_10 dX4_right_12 dX4_right_15 hex (Nat.le_of_ble_eq_true rfl) (Nat.le_of_ble_eq_true rfl) (Nat.le_of_ble_eq_true rfl) (Nat.le_of_ble_eq_true rfl) hlocks (Nat.le_of_ble_eq_true rfl) (Nat.le_of_ble_eq_true rfl) ⟨rfl, fun ⟨d, h1, h2, _, _⟩ => (by rw [h2] at hX; exact absurd ((pk_lLT h1 (by omega)).mp hX) (by omega)), pj, rfl, hpj⟩
