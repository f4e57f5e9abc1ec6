theorem cz_load_congr {C : Nat} {ar wc p p' : Nat → Nat} {wt : Nat → Nat → Nat} {t : Nat} (h : ∀ c, c < C → p c = p' c) : cz_load C ar wc wt p t = cz_load C ar wc wt p' t := cz_sum_eq (fun c hc => by rw [h c hc])
theorem cs_rg_congr {C : Nat} {ar rt oh cu wc wl rm : Nat → Nat} {wt : Nat → Nat → Nat} {lim : Nat} {p p' : Nat → Nat} (h : ∀ c, c < C → p c = p' c) {c : Nat} (hc : c < C) : cs_rg C ar rt oh cu wc wl rm wt lim p c = cs_rg C ar rt oh cu wc wl rm wt lim p' c := by
  unfold cs_rg
  rw [cy_right_congr (h c hc)]
  apply cy_right_fi
  intro i _
  unfold cz_fill
  rw [cz_load_congr h]
set_option maxHeartbeats 4000000 in
set_option maxRecDepth 100000 in
/-- choose -/
theorem kX5_choose (l : Launch) (D : va_G) (cI cG cL cB : ClassId) (g : Nat → Nat) (th n : Nat) (en le ro : Nat → Nat) (sn : Nat) (ar rt oh : Nat → Nat) (cn : Nat) (no ot cu : Nat → Nat) (lim : Nat) (fa wy lo ch bd : Nat → Nat) (wc wl : Nat → Nat) (wt : Nat → Nat → Nat) (hok : cw_ok n (fun t => en (2 * t)) (fun t => en (2 * t + 1)) le) (hen : ∀ j, en j < 10) (hl0 : ∀ j, le j ≤ 100) (hno : ∀ j, no j < 10) (hot : ∀ j, ot j < 10) (hne : ∀ c, c < cn → no c ≠ ot c) (hW : ∀ c, c < cn → cw_W n (fun t => en (2 * t)) (fun t => en (2 * t + 1)) le (no c) (ot c) (wc c) (wt c) (wl c)) (hz : okZ sn ar rt oh cn cu wc wl wt) (hy : okY n ro cn wc wt) (hch : ∀ j, ch j < 6) (hlim : lim ≤ 1000000) : ct_i l yX5_choose (.code yX5_choose cX5_choose 3 (some .boolean) :: bw) ({ frames := 5, cells := 0, slots := 0, locals := 113 }) (EN D (tyL cI cG cL cB)) D vwCl (pM g cI cB th n en le ro sn ar rt oh cn no ot cu lim fa wy lo ch bd) [.ref (g 0)] (fun v W => ∃ fa' wy' lo' ch' bd', W = (pM g cI cB th n en le ro sn ar rt oh cn no ot cu lim fa' wy' lo' ch' bd') ∧ (∀ c, c < cn → enc wc wt wl wy' lo' c) ∧ (∀ j, ch' j < 6) ∧ ((v = nI 1 ∧ (cn = 0 ∨ 0 < sn) ∧ ∃ m, (∀ c, c < cn → ch' c = cs_it cn ar rt oh cu wc wl ro wt lim m c) ∧ cs_go cn sn ar rt oh cu wc wl ro wt lim m ∧ cs_good cn ar rt oh cu wc wl ro wt lim (cs_it cn ar rt oh cu wc wl ro wt lim m)) ∨ (v = nI 0 ∧ ((0 < cn ∧ sn = 0) ∨ ((cn = 0 ∨ 0 < sn) ∧ ∃ m, cs_go cn sn ar rt oh cu wc wl ro wt lim m ∧ cs_stuck cn sn ar rt oh cu wc wl ro wt lim (cs_it cn ar rt oh cu wc wl ro wt lim m)))))) 0 0 := by
  refine ct_ofi (by decide) (Nat.le_of_ble_eq_true rfl) ?_
  intro p e s m below meth cd A H locs av Q ls hx hb hr hml hown hlocks hnm hbw hEN hQ hP hD hS hA hl
  have hown : s.vm.findClass RX5 = some m.cls := hown
  have hK := hEN.1
  have hl : lv_has ls 3 [(0, .ref (g 0))] := hl
  obtain ⟨hsn, har, hrt, hoh, hcn, hcu, hwc, hwl, hwt⟩ := id hz
  obtain ⟨hn, hro, hro1, hway, hnd⟩ := id hy
  refine lv_aload_n hx hb dX5_choose_0 rfl (lv_at hl 0 rfl) ?_
  refine ct_Vv (wc := (pM g cI cB th n en le ro sn ar rt oh cn no ot cu lim fa wy lo ch bd)) (wr := ([] : va_W)) (As := []) (rest := []) ⟨hx, hb, hml, hown, hbw⟩ (EN_E D _) hEN (kX5_goAll l D cI cG cL cB g th n en le ro sn ar rt oh cn no ot cu lim fa wy lo ch bd wc wl wt hn hok hen hl0 hcn hno hot hwc hwt hwl hne hW) (cwV (C := "CableSizesModel") 0 hbw (gV m_596 m_598 m_7 m_23 m_599) rfl rfl rfl (by decide +kernel) ⟨Nat.le_of_ble_eq_true rfl, Nat.le_of_ble_eq_true rfl⟩) (va_recv hK hP (ci := 5) (q0 := 0) rfl rfl) hP hD hS hA [0, 1, 2, 3, 4, 5, 6, 7, 8, 9, 10, 11, 12, 13, 14] [] rfl rfl (by decide) (by decide) (by decide) rfl hl.1 rfl (Nat.le_of_ble_eq_true rfl) dX5_choose_1 ⟨Nat.le_of_ble_eq_true rfl, Nat.le_of_ble_eq_true rfl⟩ (fun w_1 H locs hw hP hD hS => ?_)
  obtain ⟨fa, wy, lo, rfl, he⟩ := hw
  have hP := hP.sub (ws' := (pM g cI cB th n en le ro sn ar rt oh cn no ot cu lim fa wy lo ch bd)) [0, 1, 2, 3, 4, 5, 6, 7, 8, 9, 10, 11, 12, 13, 14] rfl
  have hD := hD.sub (ws' := (pM g cI cB th n en le ro sn ar rt oh cn no ot cu lim fa wy lo ch bd)) [0, 1, 2, 3, 4, 5, 6, 7, 8, 9, 10, 11, 12, 13, 14] (by decide) rfl
  refine lv_aload_n hx hb dX5_choose_4 rfl (lv_at hl 0 rfl) ?_
  refine va_get (ci := 5) (v := .int (nI sn)) (C := RX5) (T := TX5) (N := 19) hx hb hbw in_X5 hown hK hP 0 rfl rfl 5 (by decide) (hbw _ m_493) (fun _ h9 => h9) rfl dX5_choose_5 ?_
  refine nr_if_ne (x := sn) (tgt := 24) hx hb (by omega) dX5_choose_8 (by decide) (fun h1 => ?_) (fun h1 => ?_)
  · refine lv_iconst (v := nI 0) hx hb dX5_choose_24 (by decide) ?_
    refine lv_istore_n (lv' := [(1, .int (nI 0)), (0, .ref (g 0))]) hx hb dX5_choose_25 rfl hl (by decide) rfl (fun ls hl => ?_)
    have l0 : ∀ (k : Nat) (i : Nat) (ch : Nat → Nat), (hk0 : cn < i + k) → (hi : i ≤ cn) → (hc0 : ∀ j, j < i → ch j = 0) → (hch : ∀ j, ch j < 6) → ∀ (H : Heap) (locs : List Loc) (ls : Array Slot), va_P D vwCl (pM g cI cB th n en le ro sn ar rt oh cn no ot cu lim fa wy lo ch bd) H → va_D A (pM g cI cB th n en le ro sn ar rt oh cn no ot cu lim fa wy lo ch bd) → va_S A s.heap H locs → lv_has ls 3 [(0, .ref (g 0)), (1, .int (nI i))] → W p l e ({ frames := 5, cells := 0, slots := 0, locals := 113 }) s m av below meth cd H locs 0 0 Q (F0 m 26 ls []) := by
      intro k
      induction k with
      | zero => intro i ch hk0 hi hc0 hch; exact absurd hk0 (by omega)
      | succ k ih0 =>
        intro i ch hk0 hi hc0 hch H locs ls hP hD hS hl
        refine lv_iload_n hx hb dX5_choose_26 rfl (lv_at hl 1 rfl) ?_
        refine lv_aload_n hx hb dX5_choose_27 rfl (lv_at hl 0 rfl) ?_
        refine va_get (ci := 5) (v := .int (nI cn)) (C := RX5) (T := TX5) (N := 19) hx hb hbw in_X5 hown hK hP 0 rfl rfl 9 (by decide) (hbw _ m_497) (fun _ h9 => h9) rfl dX5_choose_28 ?_
        refine nr_icmp_ge (x := i) (y := cn) (tgt := 47) hx hb (by omega) (by omega) dX5_choose_31 (by decide) (fun h2 => ?_) (fun h2 => ?_)
        · have ei : i = cn := by omega
          rw [ei] at hc0
          refine lv_iconst (v := nI 1) hx hb dX5_choose_47 (by decide) ?_
          refine lv_istore_n (lv' := [(1, .int (nI 1)), (0, .ref (g 0))]) hx hb dX5_choose_48 rfl hl (by decide) rfl (fun ls hl => ?_)
          have lp : ∀ (k : Nat) (rd : Nat) (mo : Nat) (ch : Nat → Nat) (bd : Nat → Nat), (hk : 101 < (rd + 1 - mo) + k) → (hrd : rd ≤ 100) → (hgo : cs_go cn sn ar rt oh cu wc wl ro wt lim rd) → (hag : ∀ c, c < cn → ch c = cs_it cn ar rt oh cu wc wl ro wt lim rd c) → (hch : ∀ j, ch j < 6) → (hmo : mo = 1 ∨ (mo = 0 ∧ cs_good cn ar rt oh cu wc wl ro wt lim (cs_it cn ar rt oh cu wc wl ro wt lim rd))) → ∀ (H : Heap) (locs : List Loc) (ls : Array Slot), va_P D vwCl (pM g cI cB th n en le ro sn ar rt oh cn no ot cu lim fa wy lo ch bd) H → va_D A (pM g cI cB th n en le ro sn ar rt oh cn no ot cu lim fa wy lo ch bd) → va_S A s.heap H locs → lv_has ls 3 [(0, .ref (g 0)), (1, .int (nI mo))] → W p l e ({ frames := 5, cells := 0, slots := 0, locals := 113 }) s m av below meth cd H locs 0 0 Q (F0 m 49 ls []) := by
            intro k
            induction k with
            | zero => intro rd mo ch bd hk hrd hgo hag hch hmo; exact absurd hk (by omega)
            | succ k ih =>
              intro rd mo ch bd hk hrd hgo hag hch hmo H locs ls hP hD hS hl
              refine lv_iload_n hx hb dX5_choose_49 rfl (lv_at hl 1 rfl) ?_
              refine nr_if_eq (x := mo) (tgt := 186) hx hb (by omega) dX5_choose_50 (by decide) (fun h3 => ?_) (fun h3 => ?_)
              · refine lv_iconst (v := nI 1) hx hb dX5_choose_186 (by decide) ?_
                rw [hQ]
                exact ct_zret hx hb hr hlocks hP hD hS dX5_choose_187 (by first | exact Or.inl rfl | exact Or.inr rfl) ⟨_, _, _, ch, bd, rfl, he, hch, Or.inl ⟨rfl, Or.inr h1, rd, hag, hgo, by rcases hmo with h | ⟨-, h⟩; omega; exact h⟩⟩
              · have hm1 : mo = 1 := by omega
                have hrg : ∀ c, c < cn → cs_rg cn ar rt oh cu wc wl ro wt lim ch c = cs_rg cn ar rt oh cu wc wl ro wt lim (cs_it cn ar rt oh cu wc wl ro wt lim rd) c := fun c hc => cs_rg_congr hag hc
                refine lv_iconst (v := nI 0) hx hb dX5_choose_53 (by decide) ?_
                refine lv_istore_n (lv' := [(1, .int (nI 0)), (0, .ref (g 0))]) hx hb dX5_choose_54 rfl hl (by decide) rfl (fun ls hl => ?_)
                refine lv_iconst (v := nI 0) hx hb dX5_choose_55 (by decide) ?_
                refine lv_istore_n (lv' := [(2, .int (nI 0)), (1, .int (nI 0)), (0, .ref (g 0))]) hx hb dX5_choose_56 rfl hl (by decide) rfl (fun ls hl => ?_)
                have lq : ∀ (k : Nat) (i : Nat) (m1 : Nat) (bd : Nat → Nat), (hk2 : cn < i + k) → (hi2 : i ≤ cn) → (hbd : ∀ c, c < i → bd c = bN (!(cs_rg cn ar rt oh cu wc wl ro wt lim ch c))) → (hm2 : (m1 = 0 ∧ ∀ c, c < i → cs_rg cn ar rt oh cu wc wl ro wt lim ch c = true) ∨ (m1 = 1 ∧ ∃ c, c < i ∧ cs_rg cn ar rt oh cu wc wl ro wt lim ch c = false)) → ∀ (H : Heap) (locs : List Loc) (ls : Array Slot), va_P D vwCl (pM g cI cB th n en le ro sn ar rt oh cn no ot cu lim fa wy lo ch bd) H → va_D A (pM g cI cB th n en le ro sn ar rt oh cn no ot cu lim fa wy lo ch bd) → va_S A s.heap H locs → lv_has ls 3 [(0, .ref (g 0)), (1, .int (nI m1)), (2, .int (nI i))] → W p l e ({ frames := 5, cells := 0, slots := 0, locals := 113 }) s m av below meth cd H locs 0 0 Q (F0 m 57 ls []) := by
                  intro k
                  induction k with
                  | zero => intro i m1 bd hk2 hi2 hbd hm2; exact absurd hk2 (by omega)
                  | succ k ih2 =>
                    intro i m1 bd hk2 hi2 hbd hm2 H locs ls hP hD hS hl
                    refine lv_iload_n hx hb dX5_choose_57 rfl (lv_at hl 2 rfl) ?_
                    refine lv_aload_n hx hb dX5_choose_58 rfl (lv_at hl 0 rfl) ?_
                    refine va_get (ci := 5) (v := .int (nI cn)) (C := RX5) (T := TX5) (N := 19) hx hb hbw in_X5 hown hK hP 0 rfl rfl 9 (by decide) (hbw _ m_497) (fun _ h9 => h9) rfl dX5_choose_59 ?_
                    refine nr_icmp_ge (x := i) (y := cn) (tgt := 109) hx hb (by omega) (by omega) dX5_choose_62 (by decide) (fun h4 => ?_) (fun h4 => ?_)
                    · have ei2 : i = cn := by omega
                      rw [ei2] at hbd hm2
                      refine lv_iconst (v := nI 0) hx hb dX5_choose_109 (by decide) ?_
                      refine lv_istore_n (lv' := [(2, .int (nI 0)), (0, .ref (g 0)), (1, .int (nI m1))]) hx hb dX5_choose_110 rfl hl (by decide) rfl (fun ls hl => ?_)
                      have l3 : ∀ (k : Nat) (k2 : Nat) (c2 : Nat → Nat), (hk3 : cn < k2 + k) → (hi3 : k2 ≤ cn) → (hc2 : ∀ j, j < k2 → c2 j = if cs_rg cn ar rt oh cu wc wl ro wt lim ch j = false then ch j + 1 else ch j) → (hc3 : ∀ j, k2 ≤ j → c2 j = ch j) → (hns : ∀ c, c < k2 → cs_rg cn ar rt oh cu wc wl ro wt lim ch c = false → ch c + 1 < sn) → (hc6 : ∀ j, c2 j < 6) → ∀ (H : Heap) (locs : List Loc) (ls : Array Slot), va_P D vwCl (pM g cI cB th n en le ro sn ar rt oh cn no ot cu lim fa wy lo c2 bd) H → va_D A (pM g cI cB th n en le ro sn ar rt oh cn no ot cu lim fa wy lo c2 bd) → va_S A s.heap H locs → lv_has ls 3 [(0, .ref (g 0)), (1, .int (nI m1)), (2, .int (nI k2))] → W p l e ({ frames := 5, cells := 0, slots := 0, locals := 113 }) s m av below meth cd H locs 0 0 Q (F0 m 111 ls []) := by
                        intro k
                        induction k with
                        | zero => intro k2 c2 hk3 hi3 hc2 hc3 hns hc6; exact absurd hk3 (by omega)
                        | succ k ih3 =>
                          intro k2 c2 hk3 hi3 hc2 hc3 hns hc6 H locs ls hP hD hS hl
                          refine lv_iload_n hx hb dX5_choose_111 rfl (lv_at hl 2 rfl) ?_
                          refine lv_aload_n hx hb dX5_choose_112 rfl (lv_at hl 0 rfl) ?_
                          refine va_get (ci := 5) (v := .int (nI cn)) (C := RX5) (T := TX5) (N := 19) hx hb hbw in_X5 hown hK hP 0 rfl rfl 9 (by decide) (hbw _ m_497) (fun _ h9 => h9) rfl dX5_choose_113 ?_
                          refine nr_icmp_ge (x := k2) (y := cn) (tgt := 183) hx hb (by omega) (by omega) dX5_choose_116 (by decide) (fun h5 => ?_) (fun h5 => ?_)
                          · have ek : k2 = cn := by omega
                            rw [ek] at hc2 hns
                            refine lv_goto (tgt := 49) hx hb dX5_choose_183 (by decide) ?_
                            rcases hm2 with ⟨hm3, hall⟩ | ⟨hm3, c0, hc0c, hc0w⟩
                            · exact ih rd m1 c2 bd (by omega) hrd hgo (fun c hc => by rw [hc2 c hc, if_neg (by rw [hall c hc]; simp)]; exact hag c hc) hc6 (Or.inr ⟨hm3, fun c hc => by rw [← hrg c hc]; exact hall c hc⟩) _ _ _ hP hD hS (lv_sub hl [0, 1] rfl)
                            · have hgo2 : cs_go cn sn ar rt oh cu wc wl ro wt lim (rd + 1) := lt_s hgo ⟨fun hg => (by have := hg c0 hc0c; rw [← hrg c0 hc0c, hc0w] at this; cases this), fun ⟨c, hc, q1, q2⟩ => (by have q3 := hns c hc ((hrg c hc).trans q1); rw [hag c hc] at q3; omega)⟩
                              have hrd2 := cs_rounds (Or.inr h1) hcn hsn hgo2
                              exact ih (rd + 1) m1 c2 bd (by omega) hrd2 hgo2 (fun c hc => by
                                rw [hc2 c hc]
                                show _ = cy_up _ _ _ c
                                unfold cy_up
                                rw [← hrg c hc, hag c hc]
                                by_cases q : cs_rg cn ar rt oh cu wc wl ro wt lim ch c = false
                                · rw [if_pos q, if_pos ⟨hc, q⟩]
                                · rw [if_neg q, if_neg (fun q2 => q q2.2)]) hc6 (Or.inl hm3) _ _ _ hP hD hS (lv_sub hl [0, 1] rfl)
                          · have hbk := hbd k2 h5
                            have hck := hc3 k2 (Nat.le_refl _)
                            have hlt6 : ch k2 < sn := by rw [hag k2 h5]; exact (cs_bound (Or.inr h1) rd hgo).1 k2 h5
                            have b_6 := hc6 k2
                            cases hq : cs_rg cn ar rt oh cu wc wl ro wt lim ch k2 with
                            | true =>
                              rw [hq] at hbk
                              have hbk : bd k2 = 0 := hbk
                              refine lv_aload_n hx hb dX5_choose_119 rfl (lv_at hl 0 rfl) ?_
                              refine va_get (ci := 5) (v := .ref (g 14)) (C := RX5) (T := TX5) (N := 19) hx hb hbw in_X5 hown hK hP 0 rfl rfl 18 (by decide) (hbw _ m_506) (fun _ h9 => h9) rfl dX5_choose_120 ?_
                              refine lv_iload_n hx hb dX5_choose_123 rfl (lv_at hl 2 rfl) ?_
                              refine nr_zald hx hb hK hP 14 3 rfl rfl (k := k2) (by omega) (by omega) dX5_choose_124 ?_
                              refine nr_if_eq (x := bd k2) (tgt := 145) hx hb (by omega) dX5_choose_125 (by decide) (fun _ => ?_) (fun h => absurd h (by omega))
                              refine lv_aload_n hx hb dX5_choose_145 rfl (lv_at hl 0 rfl) ?_
                              refine va_get (ci := 5) (v := .ref (g 13)) (C := RX5) (T := TX5) (N := 19) hx hb hbw in_X5 hown hK hP 0 rfl rfl 17 (by decide) (hbw _ m_505) (fun _ h9 => h9) rfl dX5_choose_146 ?_
                              refine lv_iload_n hx hb dX5_choose_149 rfl (lv_at hl 2 rfl) ?_
                              refine lv_aload_n hx hb dX5_choose_150 rfl (lv_at hl 0 rfl) ?_
                              refine va_get (ci := 5) (v := .ref (g 14)) (C := RX5) (T := TX5) (N := 19) hx hb hbw in_X5 hown hK hP 0 rfl rfl 18 (by decide) (hbw _ m_506) (fun _ h9 => h9) rfl dX5_choose_151 ?_
                              refine lv_iload_n hx hb dX5_choose_154 rfl (lv_at hl 2 rfl) ?_
                              refine nr_zald hx hb hK hP 14 3 rfl rfl (k := k2) (by omega) (by omega) dX5_choose_155 ?_
                              refine nr_if_eq (x := bd k2) (tgt := 170) hx hb (by omega) dX5_choose_156 (by decide) (fun _ => ?_) (fun h => absurd h (by omega))
                              refine lv_aload_n hx hb dX5_choose_170 rfl (lv_at hl 0 rfl) ?_
                              refine va_get (ci := 5) (v := .ref (g 13)) (C := RX5) (T := TX5) (N := 19) hx hb hbw in_X5 hown hK hP 0 rfl rfl 17 (by decide) (hbw _ m_505) (fun _ h9 => h9) rfl dX5_choose_171 ?_
                              refine lv_iload_n hx hb dX5_choose_174 rfl (lv_at hl 2 rfl) ?_
                              refine nr_iald hx hb hK hP 13 0 rfl rfl (k := k2) (by omega) (by omega) dX5_choose_175 ?_
                              have b_2 := hc6 k2
                              refine nr_iast hx hb hK hP hD hS 13 0 rfl rfl (k := k2) (v := c2 k2) (by omega) (by omega) dX5_choose_176 (fun H locs hP hD hS => ?_)
                              have hP : va_P D vwCl (pM g cI cB th n en le ro sn ar rt oh cn no ot cu lim fa wy lo (nr_up c2 k2 (c2 k2)) bd) H := hP
                              have hD : va_D A (pM g cI cB th n en le ro sn ar rt oh cn no ot cu lim fa wy lo (nr_up c2 k2 (c2 k2)) bd) := hD
                              rw [nr_up_same] at hP hD
                              have hP : va_P D vwCl (pM g cI cB th n en le ro sn ar rt oh cn no ot cu lim fa wy lo c2 bd) H := hP
                              have hD : va_D A (pM g cI cB th n en le ro sn ar rt oh cn no ot cu lim fa wy lo c2 bd) := hD
                              refine lv_iinc (v := nI (k2 + 1)) (lv' := [(2, .int (nI (k2 + 1))), (0, .ref (g 0)), (1, .int (nI m1))]) hx hb dX5_choose_177 hl (k := 2) rfl (nI_1 _) (by decide) rfl (fun ls hl => ?_)
                              refine lv_goto (tgt := 111) hx hb dX5_choose_180 (by decide) ?_
                              exact ih3 (k2 + 1) c2 (by omega) (by omega) (lt_s hc2 (by rw [hq, hck]; rfl)) (fun j hj => hc3 j (by omega)) (lt_s hns (fun h => by rw [hq] at h; cases h)) hc6 _ _ _ hP hD hS (lv_sub hl [1, 2, 0] rfl)
                            | false =>
                              rw [hq] at hbk
                              have hbk : bd k2 = 1 := hbk
                              refine lv_aload_n hx hb dX5_choose_119 rfl (lv_at hl 0 rfl) ?_
                              refine va_get (ci := 5) (v := .ref (g 14)) (C := RX5) (T := TX5) (N := 19) hx hb hbw in_X5 hown hK hP 0 rfl rfl 18 (by decide) (hbw _ m_506) (fun _ h9 => h9) rfl dX5_choose_120 ?_
                              refine lv_iload_n hx hb dX5_choose_123 rfl (lv_at hl 2 rfl) ?_
                              refine nr_zald hx hb hK hP 14 3 rfl rfl (k := k2) (by omega) (by omega) dX5_choose_124 ?_
                              refine nr_if_eq (x := bd k2) (tgt := 145) hx hb (by omega) dX5_choose_125 (by decide) (fun h => absurd h (by omega)) (fun _ => ?_)
                              refine lv_aload_n hx hb dX5_choose_128 rfl (lv_at hl 0 rfl) ?_
                              refine va_get (ci := 5) (v := .ref (g 13)) (C := RX5) (T := TX5) (N := 19) hx hb hbw in_X5 hown hK hP 0 rfl rfl 17 (by decide) (hbw _ m_505) (fun _ h9 => h9) rfl dX5_choose_129 ?_
                              refine lv_iload_n hx hb dX5_choose_132 rfl (lv_at hl 2 rfl) ?_
                              refine nr_iald hx hb hK hP 13 0 rfl rfl (k := k2) (by omega) (by omega) dX5_choose_133 ?_
                              have b_3 := hc6 k2
                              refine lv_aload_n hx hb dX5_choose_134 rfl (lv_at hl 0 rfl) ?_
                              refine va_get (ci := 5) (v := .int (nI sn)) (C := RX5) (T := TX5) (N := 19) hx hb hbw in_X5 hown hK hP 0 rfl rfl 5 (by decide) (hbw _ m_493) (fun _ h9 => h9) rfl dX5_choose_135 ?_
                              refine lv_iconst (v := nI 1) hx hb dX5_choose_138 (by decide) ?_
                              refine nr_isub hx hb (by omega) dX5_choose_139 ?_
                              refine nr_icmp_ne (x := c2 k2) (y := sn - 1) (tgt := 145) hx hb (by omega) (by omega) dX5_choose_140 (by decide) (fun h6 => ?_) (fun h6 => ?_)
                              · refine lv_aload_n hx hb dX5_choose_145 rfl (lv_at hl 0 rfl) ?_
                                refine va_get (ci := 5) (v := .ref (g 13)) (C := RX5) (T := TX5) (N := 19) hx hb hbw in_X5 hown hK hP 0 rfl rfl 17 (by decide) (hbw _ m_505) (fun _ h9 => h9) rfl dX5_choose_146 ?_
                                refine lv_iload_n hx hb dX5_choose_149 rfl (lv_at hl 2 rfl) ?_
                                refine lv_aload_n hx hb dX5_choose_150 rfl (lv_at hl 0 rfl) ?_
                                refine va_get (ci := 5) (v := .ref (g 14)) (C := RX5) (T := TX5) (N := 19) hx hb hbw in_X5 hown hK hP 0 rfl rfl 18 (by decide) (hbw _ m_506) (fun _ h9 => h9) rfl dX5_choose_151 ?_
                                refine lv_iload_n hx hb dX5_choose_154 rfl (lv_at hl 2 rfl) ?_
                                refine nr_zald hx hb hK hP 14 3 rfl rfl (k := k2) (by omega) (by omega) dX5_choose_155 ?_
                                refine nr_if_eq (x := bd k2) (tgt := 170) hx hb (by omega) dX5_choose_156 (by decide) (fun h => absurd h (by omega)) (fun _ => ?_)
                                refine lv_aload_n hx hb dX5_choose_159 rfl (lv_at hl 0 rfl) ?_
                                refine va_get (ci := 5) (v := .ref (g 13)) (C := RX5) (T := TX5) (N := 19) hx hb hbw in_X5 hown hK hP 0 rfl rfl 17 (by decide) (hbw _ m_505) (fun _ h9 => h9) rfl dX5_choose_160 ?_
                                refine lv_iload_n hx hb dX5_choose_163 rfl (lv_at hl 2 rfl) ?_
                                refine nr_iald hx hb hK hP 13 0 rfl rfl (k := k2) (by omega) (by omega) dX5_choose_164 ?_
                                have b_4 := hc6 k2
                                refine lv_iconst (v := nI 1) hx hb dX5_choose_165 (by decide) ?_
                                refine nr_iadd hx hb dX5_choose_166 ?_
                                refine lv_goto (tgt := 176) hx hb dX5_choose_167 (by decide) ?_
                                refine nr_iast hx hb hK hP hD hS 13 0 rfl rfl (k := k2) (v := (c2 k2) + 1) (by omega) (by omega) dX5_choose_176 (fun H locs hP hD hS => ?_)
                                have hP : va_P D vwCl (pM g cI cB th n en le ro sn ar rt oh cn no ot cu lim fa wy lo (nr_up c2 k2 ((c2 k2) + 1)) bd) H := hP
                                have hD : va_D A (pM g cI cB th n en le ro sn ar rt oh cn no ot cu lim fa wy lo (nr_up c2 k2 ((c2 k2) + 1)) bd) := hD
                                refine lv_iinc (v := nI (k2 + 1)) (lv' := [(2, .int (nI (k2 + 1))), (0, .ref (g 0)), (1, .int (nI m1))]) hx hb dX5_choose_177 hl (k := 2) rfl (nI_1 _) (by decide) rfl (fun ls hl => ?_)
                                refine lv_goto (tgt := 111) hx hb dX5_choose_180 (by decide) ?_
                                exact ih3 (k2 + 1) _ (by omega) (by omega) (lt_s (fun j hj => by rw [nr_up_n _ _ (Nat.ne_of_lt hj)]; exact hc2 j hj) (by rw [nr_up_s, hq, hck]; rfl)) (fun j hj => by rw [nr_up_n _ _ (by omega)]; exact hc3 j (by omega)) (lt_s hns (fun _ => by omega)) (fun j => by by_cases e : j = k2; rw [e, nr_up_s]; omega; rw [nr_up_n _ _ e]; exact hc6 j) _ _ _ hP hD hS (lv_sub hl [1, 2, 0] rfl)
                              · refine lv_iconst (v := nI 0) hx hb dX5_choose_143 (by decide) ?_
                                rw [hQ]
                                exact ct_zret hx hb hr hlocks hP hD hS dX5_choose_144 (by first | exact Or.inl rfl | exact Or.inr rfl) ⟨_, _, _, c2, bd, rfl, he, hc6, Or.inr ⟨rfl, Or.inr ⟨Or.inr h1, rd, hgo, k2, h5, by rw [← hrg k2 h5]; exact hq, by rw [← hag k2 h5]; omega⟩⟩⟩
                      exact l3 (cn + 1) 0 ch (by omega) (Nat.zero_le cn) (lt_0) (fun _ _ => rfl) (lt_0) hch _ _ _ hP hD hS (lv_sub hl [1, 2, 0] rfl)
                    · refine lv_aload_n hx hb dX5_choose_65 rfl (lv_at hl 0 rfl) ?_
                      refine va_get (ci := 5) (v := .ref (g 14)) (C := RX5) (T := TX5) (N := 19) hx hb hbw in_X5 hown hK hP 0 rfl rfl 18 (by decide) (hbw _ m_506) (fun _ h9 => h9) rfl dX5_choose_66 ?_
                      refine lv_iload_n hx hb dX5_choose_69 rfl (lv_at hl 2 rfl) ?_
                      refine lv_aload_n hx hb dX5_choose_70 rfl (lv_at hl 0 rfl) ?_
                      refine lv_iload_n hx hb dX5_choose_71 rfl (lv_at hl 2 rfl) ?_
                      refine ct_Vi (wc := (pM g cI cB th n en le ro sn ar rt oh cn no ot cu lim fa wy lo ch bd)) (wr := ([] : va_W)) (As := [.int (nI i)]) (rest := [.int (nI i), .ref (g 14)]) ⟨hx, hb, hml, hown, hbw⟩ (EN_E D _) hEN (kX5_isRight l D cI cG cL cB g th n en le ro sn ar rt oh cn no ot cu lim fa wy lo ch bd wc wl wt i h4 hz hy hch hlim he) (cwV (C := "CableSizesModel") 1 hbw (gV m_621 m_623 m_11 m_23 m_624) rfl rfl rfl (by decide +kernel) ⟨Nat.le_of_ble_eq_true rfl, Nat.le_of_ble_eq_true rfl⟩) (va_recv hK hP (ci := 5) (q0 := 0) rfl rfl) hP hD hS hA [0, 1, 2, 3, 4, 5, 6, 7, 8, 9, 10, 11, 12, 13, 14] [] rfl rfl (by decide) (by decide) (by decide) rfl hl.1 rfl (Nat.le_of_ble_eq_true rfl) dX5_choose_72 ⟨Nat.le_of_ble_eq_true rfl, Nat.le_of_ble_eq_true rfl⟩ (fun r_5 w_5 H locs hw hP hD hS => ?_)
                      obtain ⟨rfl, rfl⟩ := hw
                      have hP := hP.sub (ws' := (pM g cI cB th n en le ro sn ar rt oh cn no ot cu lim fa wy lo ch bd)) [0, 1, 2, 3, 4, 5, 6, 7, 8, 9, 10, 11, 12, 13, 14] rfl
                      have hD := hD.sub (ws' := (pM g cI cB th n en le ro sn ar rt oh cn no ot cu lim fa wy lo ch bd)) [0, 1, 2, 3, 4, 5, 6, 7, 8, 9, 10, 11, 12, 13, 14] (by decide) rfl
                      refine nr_if_ne (x := bN (cs_rg cn ar rt oh cu wc wl ro wt lim ch i)) (tgt := 82) hx hb (by unfold bN; split <;> omega) dX5_choose_75 (by decide) (fun h6 => ?_) (fun h6 => ?_)
                      · refine lv_iconst (v := nI 0) hx hb dX5_choose_82 (by decide) ?_
                        have hq : cs_rg cn ar rt oh cu wc wl ro wt lim ch i = true := bN_t h6
                        have b_s := nr_up_s bd i 0
                        refine nr_zast hx hb hK hP hD hS 14 3 rfl rfl (k := i) (v := 0) (by omega) (by omega) (by omega) dX5_choose_83 (fun H locs hP hD hS => ?_)
                        have hP : va_P D vwCl (pM g cI cB th n en le ro sn ar rt oh cn no ot cu lim fa wy lo ch (nr_up bd i 0)) H := hP
                        have hD : va_D A (pM g cI cB th n en le ro sn ar rt oh cn no ot cu lim fa wy lo ch (nr_up bd i 0)) := hD
                        refine lv_iload_n hx hb dX5_choose_84 rfl (lv_at hl 1 rfl) ?_
                        refine nr_if_ne (x := m1) (tgt := 97) hx hb (by omega) dX5_choose_85 (by decide) (fun h7 => ?_) (fun h7 => ?_)
                        · refine lv_iconst (v := nI 1) hx hb dX5_choose_97 (by decide) ?_
                          refine lv_goto (tgt := 102) hx hb dX5_choose_98 (by decide) ?_
                          refine lv_istore_n (lv' := [(1, .int (nI 1)), (0, .ref (g 0)), (2, .int (nI i))]) hx hb dX5_choose_102 rfl hl (by decide) rfl (fun ls hl => ?_)
                          refine lv_iinc (v := nI (i + 1)) (lv' := [(2, .int (nI (i + 1))), (1, .int (nI 1)), (0, .ref (g 0))]) hx hb dX5_choose_103 hl (k := 2) rfl (nI_1 _) (by decide) rfl (fun ls hl => ?_)
                          refine lv_goto (tgt := 57) hx hb dX5_choose_106 (by decide) ?_
                          exact ih2 (i + 1) 1 _ (by omega) (by omega) (lt_s (fun j hj => by rw [nr_up_n _ _ (Nat.ne_of_lt hj)]; exact hbd j hj) (by rw [nr_up_s, hq]; rfl)) (by rcases hm2 with ⟨q1, q2⟩ | ⟨q1, c0, q2, q3⟩; exact Or.inl ⟨by omega, lt_s q2 hq⟩; exact Or.inr ⟨rfl, c0, by omega, q3⟩) _ _ _ hP hD hS (lv_sub hl [2, 1, 0] rfl)
                        · refine lv_aload_n hx hb dX5_choose_88 rfl (lv_at hl 0 rfl) ?_
                          refine va_get (ci := 5) (v := .ref (g 14)) (C := RX5) (T := TX5) (N := 19) hx hb hbw in_X5 hown hK hP 0 rfl rfl 18 (by decide) (hbw _ m_506) (fun _ h9 => h9) rfl dX5_choose_89 ?_
                          refine lv_iload_n hx hb dX5_choose_92 rfl (lv_at hl 2 rfl) ?_
                          refine nr_zald hx hb hK hP 14 3 rfl rfl (k := i) (by omega) (by omega) dX5_choose_93 ?_
                          refine nr_if_eq (x := (nr_up bd i 0) i) (tgt := 101) hx hb (by omega) dX5_choose_94 (by decide) (fun _ => ?_) (fun h => absurd h (by omega))
                          refine lv_iconst (v := nI 0) hx hb dX5_choose_101 (by decide) ?_
                          refine lv_istore_n (lv' := [(1, .int (nI 0)), (0, .ref (g 0)), (2, .int (nI i))]) hx hb dX5_choose_102 rfl hl (by decide) rfl (fun ls hl => ?_)
                          refine lv_iinc (v := nI (i + 1)) (lv' := [(2, .int (nI (i + 1))), (1, .int (nI 0)), (0, .ref (g 0))]) hx hb dX5_choose_103 hl (k := 2) rfl (nI_1 _) (by decide) rfl (fun ls hl => ?_)
                          refine lv_goto (tgt := 57) hx hb dX5_choose_106 (by decide) ?_
                          exact ih2 (i + 1) 0 _ (by omega) (by omega) (lt_s (fun j hj => by rw [nr_up_n _ _ (Nat.ne_of_lt hj)]; exact hbd j hj) (by rw [nr_up_s, hq]; rfl)) (by rcases hm2 with ⟨q1, q2⟩ | ⟨q1, c0, q2, q3⟩; exact Or.inl ⟨rfl, lt_s q2 hq⟩; omega) _ _ _ hP hD hS (lv_sub hl [2, 1, 0] rfl)
                      · refine lv_iconst (v := nI 1) hx hb dX5_choose_78 (by decide) ?_
                        refine lv_goto (tgt := 83) hx hb dX5_choose_79 (by decide) ?_
                        have hq : cs_rg cn ar rt oh cu wc wl ro wt lim ch i = false := bN_f h6
                        have b_s := nr_up_s bd i 1
                        refine nr_zast hx hb hK hP hD hS 14 3 rfl rfl (k := i) (v := 1) (by omega) (by omega) (by omega) dX5_choose_83 (fun H locs hP hD hS => ?_)
                        have hP : va_P D vwCl (pM g cI cB th n en le ro sn ar rt oh cn no ot cu lim fa wy lo ch (nr_up bd i 1)) H := hP
                        have hD : va_D A (pM g cI cB th n en le ro sn ar rt oh cn no ot cu lim fa wy lo ch (nr_up bd i 1)) := hD
                        refine lv_iload_n hx hb dX5_choose_84 rfl (lv_at hl 1 rfl) ?_
                        refine nr_if_ne (x := m1) (tgt := 97) hx hb (by omega) dX5_choose_85 (by decide) (fun h7 => ?_) (fun h7 => ?_)
                        · refine lv_iconst (v := nI 1) hx hb dX5_choose_97 (by decide) ?_
                          refine lv_goto (tgt := 102) hx hb dX5_choose_98 (by decide) ?_
                          refine lv_istore_n (lv' := [(1, .int (nI 1)), (0, .ref (g 0)), (2, .int (nI i))]) hx hb dX5_choose_102 rfl hl (by decide) rfl (fun ls hl => ?_)
                          refine lv_iinc (v := nI (i + 1)) (lv' := [(2, .int (nI (i + 1))), (1, .int (nI 1)), (0, .ref (g 0))]) hx hb dX5_choose_103 hl (k := 2) rfl (nI_1 _) (by decide) rfl (fun ls hl => ?_)
                          refine lv_goto (tgt := 57) hx hb dX5_choose_106 (by decide) ?_
                          exact ih2 (i + 1) 1 _ (by omega) (by omega) (lt_s (fun j hj => by rw [nr_up_n _ _ (Nat.ne_of_lt hj)]; exact hbd j hj) (by rw [nr_up_s, hq]; rfl)) (Or.inr ⟨rfl, i, by omega, hq⟩) _ _ _ hP hD hS (lv_sub hl [2, 1, 0] rfl)
                        · refine lv_aload_n hx hb dX5_choose_88 rfl (lv_at hl 0 rfl) ?_
                          refine va_get (ci := 5) (v := .ref (g 14)) (C := RX5) (T := TX5) (N := 19) hx hb hbw in_X5 hown hK hP 0 rfl rfl 18 (by decide) (hbw _ m_506) (fun _ h9 => h9) rfl dX5_choose_89 ?_
                          refine lv_iload_n hx hb dX5_choose_92 rfl (lv_at hl 2 rfl) ?_
                          refine nr_zald hx hb hK hP 14 3 rfl rfl (k := i) (by omega) (by omega) dX5_choose_93 ?_
                          refine nr_if_eq (x := (nr_up bd i 1) i) (tgt := 101) hx hb (by omega) dX5_choose_94 (by decide) (fun h => absurd h (by omega)) (fun _ => ?_)
                          refine lv_iconst (v := nI 1) hx hb dX5_choose_97 (by decide) ?_
                          refine lv_goto (tgt := 102) hx hb dX5_choose_98 (by decide) ?_
                          refine lv_istore_n (lv' := [(1, .int (nI 1)), (0, .ref (g 0)), (2, .int (nI i))]) hx hb dX5_choose_102 rfl hl (by decide) rfl (fun ls hl => ?_)
                          refine lv_iinc (v := nI (i + 1)) (lv' := [(2, .int (nI (i + 1))), (1, .int (nI 1)), (0, .ref (g 0))]) hx hb dX5_choose_103 hl (k := 2) rfl (nI_1 _) (by decide) rfl (fun ls hl => ?_)
                          refine lv_goto (tgt := 57) hx hb dX5_choose_106 (by decide) ?_
                          exact ih2 (i + 1) 1 _ (by omega) (by omega) (lt_s (fun j hj => by rw [nr_up_n _ _ (Nat.ne_of_lt hj)]; exact hbd j hj) (by rw [nr_up_s, hq]; rfl)) (Or.inr ⟨rfl, i, by omega, hq⟩) _ _ _ hP hD hS (lv_sub hl [2, 1, 0] rfl)
                exact lq (cn + 1) 0 0 bd (by omega) (Nat.zero_le cn) (lt_0) (Or.inl ⟨rfl, lt_0⟩) _ _ _ hP hD hS (lv_sub hl [2, 1, 0] rfl)
          exact lp 102 0 1 ch bd (by omega) (by omega) (lt_0) (fun c hc => by rw [hc0 c hc]; rfl) hch (Or.inl rfl) _ _ _ hP hD hS (lv_sub hl [1, 0] rfl)
        · refine lv_aload_n hx hb dX5_choose_34 rfl (lv_at hl 0 rfl) ?_
          refine va_get (ci := 5) (v := .ref (g 13)) (C := RX5) (T := TX5) (N := 19) hx hb hbw in_X5 hown hK hP 0 rfl rfl 17 (by decide) (hbw _ m_505) (fun _ h9 => h9) rfl dX5_choose_35 ?_
          refine lv_iload_n hx hb dX5_choose_38 rfl (lv_at hl 1 rfl) ?_
          refine lv_iconst (v := nI 0) hx hb dX5_choose_39 (by decide) ?_
          refine nr_iast hx hb hK hP hD hS 13 0 rfl rfl (k := i) (v := 0) (by omega) (by omega) dX5_choose_40 (fun H locs hP hD hS => ?_)
          have hP : va_P D vwCl (pM g cI cB th n en le ro sn ar rt oh cn no ot cu lim fa wy lo (nr_up ch i 0) bd) H := hP
          have hD : va_D A (pM g cI cB th n en le ro sn ar rt oh cn no ot cu lim fa wy lo (nr_up ch i 0) bd) := hD
          refine lv_iinc (v := nI (i + 1)) (lv' := [(1, .int (nI (i + 1))), (0, .ref (g 0))]) hx hb dX5_choose_41 hl (k := 1) rfl (nI_1 _) (by decide) rfl (fun ls hl => ?_)
          refine lv_goto (tgt := 26) hx hb dX5_choose_44 (by decide) ?_
          exact ih0 (i + 1) _ (by omega) (by omega) (lt_s (fun j hj => by rw [nr_up_n _ _ (Nat.ne_of_lt hj)]; exact hc0 j hj) (nr_up_s _ _ _)) (fun j => by by_cases e : j = i; rw [e, nr_up_s]; omega; rw [nr_up_n _ _ e]; exact hch j) _ _ _ hP hD hS (lv_sub hl [1, 0] rfl)
    exact l0 (cn + 1) 0 ch (by omega) (Nat.zero_le cn) (lt_0) hch _ _ _ hP hD hS (lv_sub hl [1, 0] rfl)
  · refine lv_aload_n hx hb dX5_choose_11 rfl (lv_at hl 0 rfl) ?_
    refine va_get (ci := 5) (v := .int (nI cn)) (C := RX5) (T := TX5) (N := 19) hx hb hbw in_X5 hown hK hP 0 rfl rfl 9 (by decide) (hbw _ m_497) (fun _ h9 => h9) rfl dX5_choose_12 ?_
    refine nr_if_ne (x := cn) (tgt := 22) hx hb (by omega) dX5_choose_15 (by decide) (fun h8 => ?_) (fun h8 => ?_)
    · refine lv_iconst (v := nI 0) hx hb dX5_choose_22 (by decide) ?_
      rw [hQ]
      exact ct_zret hx hb hr hlocks hP hD hS dX5_choose_23 (by first | exact Or.inl rfl | exact Or.inr rfl) ⟨_, _, _, ch, bd, rfl, he, hch, Or.inr ⟨rfl, Or.inl ⟨h8, h1⟩⟩⟩
    · refine lv_iconst (v := nI 1) hx hb dX5_choose_18 (by decide) ?_
      refine lv_goto (tgt := 23) hx hb dX5_choose_19 (by decide) ?_
      rw [hQ]
      exact ct_zret hx hb hr hlocks hP hD hS dX5_choose_23 (by first | exact Or.inl rfl | exact Or.inr rfl) ⟨_, _, _, ch, bd, rfl, he, hch, Or.inl ⟨rfl, Or.inl h8, 0, fun c hc => by omega, lt_0, fun c hc => by omega⟩⟩
