/-- the sizes that are the least ones, or none -/
def cs_ans (C S : Nat) (ar rt oh cu wc wl rm : Nat → Nat) (wt : Nat → Nat → Nat) (lim : Nat) (v : Bool) (p : Nat → Nat) : Prop := (v = true ∧ (C = 0 ∨ 0 < S) ∧ ∃ m, (∀ c, c < C → p c = cs_it C ar rt oh cu wc wl rm wt lim m c) ∧ cs_go C S ar rt oh cu wc wl rm wt lim m ∧ cs_good C ar rt oh cu wc wl rm wt lim (cs_it C ar rt oh cu wc wl rm wt lim m)) ∨ (v = false ∧ ((0 < C ∧ S = 0) ∨ ((C = 0 ∨ 0 < S) ∧ ∃ m, cs_go C S ar rt oh cu wc wl rm wt lim m ∧ cs_stuck C S ar rt oh cu wc wl rm wt lim (cs_it C ar rt oh cu wc wl rm wt lim m))))
theorem cs_ans_uniq {C S : Nat} {ar rt oh cu wc wl rm : Nat → Nat} {wt : Nat → Nat → Nat} {lim : Nat} {v v' : Bool} {p p' : Nat → Nat} (h : cs_ans C S ar rt oh cu wc wl rm wt lim v p) (h' : cs_ans C S ar rt oh cu wc wl rm wt lim v' p') : v = v' ∧ (v = true → ∀ c, c < C → p c = p' c) := by
  rcases h with ⟨rfl, h0, m, h1, h2, h3⟩ | ⟨rfl, h0⟩
  · rcases h' with ⟨rfl, -, m', k1, k2, k3⟩ | ⟨rfl, k0⟩
    · obtain rfl := cs_end_uniq h2 k2 (Or.inl h3) (Or.inl k3)
      exact ⟨rfl, fun _ c hc => (h1 c hc).trans (k1 c hc).symm⟩
    · rcases k0 with ⟨k1, k2⟩ | ⟨-, m', k1, k2⟩
      · omega
      · obtain rfl := cs_end_uniq h2 k1 (Or.inl h3) (Or.inr k2)
        exact absurd k2 (fun q => cs_not_both h3 q)
  · rcases h' with ⟨rfl, k9, m', k1, k2, k3⟩ | ⟨rfl, k0⟩
    · rcases h0 with ⟨h1, h2⟩ | ⟨-, m, h1, h2⟩
      · omega
      · obtain rfl := cs_end_uniq h1 k2 (Or.inr h2) (Or.inl k3)
        exact absurd h2 (fun q => cs_not_both k3 q)
    · exact ⟨rfl, fun q => by cases q⟩
set_option maxHeartbeats 4000000 in
set_option maxRecDepth 100000 in
/-- tray -/
theorem kX5_tray (l : Launch) (D : va_G) (cI cG cL cB : ClassId) (g : Nat → Nat) (th n : Nat) (en le ro : Nat → Nat) (sn : Nat) (ar rt oh : Nat → Nat) (cn : Nat) (no ot cu : Nat → Nat) (lim : Nat) (fa wy lo ch bd : Nat → Nat) (x0 x1 x2 x3 : Int32) (hn : n ≤ 15) (hsn : sn ≤ 6) (hcn : cn ≤ 20) : ct_i l yX5_tray (.code yX5_tray cX5_tray 6 (some .int) :: bw) ({ frames := 1, cells := 0, slots := 0, locals := 25 }) (EN D (tyL cI cG cL cB)) D vwCl (pM g cI cB th n en le ro sn ar rt oh cn no ot cu lim fa wy lo ch bd) [.ref (g 0), .int x0, .int x1, .int x2, .int x3] (fun v W => (¬ (inB x0 0 9 ∧ inB x1 0 9 ∧ x0 ≠ x1 ∧ inB x2 1 100 ∧ inB x3 1 1000) ∧ W = (pM g cI cB 1 n en le ro sn ar rt oh cn no ot cu lim fa wy lo ch bd)) ∨ ((inB x0 0 9 ∧ inB x1 0 9 ∧ x0 ≠ x1 ∧ inB x2 1 100 ∧ inB x3 1 1000) ∧ n = 15 ∧ W = (pM g cI cB 2 n en le ro sn ar rt oh cn no ot cu lim fa wy lo ch bd)) ∨ (∃ u v0 L R, (x0 = nI u ∧ x1 = nI v0 ∧ x2 = nI L ∧ x3 = nI R ∧ u < 10 ∧ v0 < 10 ∧ u ≠ v0 ∧ 1 ≤ L ∧ L ≤ 100 ∧ 1 ≤ R ∧ R ≤ 1000) ∧ n < 15 ∧ v = nI n ∧ W = (pM g cI cB 0 (n + 1) (nr_up (nr_up en (2 * n) u) (2 * n + 1) v0) (nr_up le n L) (nr_up ro n R) sn ar rt oh cn no ot cu lim fa wy lo ch bd))) 0 0 := by
  refine ct_ofi (by decide) (Nat.le_of_ble_eq_true rfl) ?_
  intro p e s m below meth cd A H locs av Q ls hx hb hr hml hown hlocks hnm hbw hEN hQ hP hD hS hA hl
  have hown : s.vm.findClass RX5 = some m.cls := hown
  have hK := hEN.1
  have hl : lv_has ls 6 [(0, .ref (g 0)), (1, .int x0), (2, .int x1), (3, .int x2), (4, .int x3)] := hl
  have ct1 : ∀ (gd : Nat), (hgd : (gd = 1 ∧ (inB x0 0 9 ∧ inB x1 0 9 ∧ x0 ≠ x1 ∧ inB x2 1 100 ∧ inB x3 1 1000)) ∨ (gd = 0 ∧ ¬ (inB x0 0 9 ∧ inB x1 0 9 ∧ x0 ≠ x1 ∧ inB x2 1 100 ∧ inB x3 1 1000))) → ∀ (H : Heap) (locs : List Loc) (ls : Array Slot), va_P D vwCl (pM g cI cB th n en le ro sn ar rt oh cn no ot cu lim fa wy lo ch bd) H → va_D A (pM g cI cB th n en le ro sn ar rt oh cn no ot cu lim fa wy lo ch bd) → va_S A s.heap H locs → lv_has ls 6 [(0, .ref (g 0)), (1, .int x0), (2, .int x1), (3, .int x2), (4, .int x3)] → W p l e ({ frames := 1, cells := 0, slots := 0, locals := 25 }) s m av below meth cd H locs 0 0 Q (F0 m 49 ls [.int (nI gd)]) := by
    intro gd hgd H locs ls hP hD hS hl
    rcases hgd with ⟨hgd, hG⟩ | ⟨hgd, hG⟩
    · subst hgd
      obtain ⟨⟨u, hu, -, hu9⟩, ⟨v0, hv, -, hv9⟩, huv, ⟨L, hL, hL1, hL2⟩, ⟨R, hR, hR1, hR2⟩⟩ := id hG
      refine lv_istore (lv' := [(5, .int (nI 1)), (0, .ref (g 0)), (1, .int x0), (2, .int x1), (3, .int x2), (4, .int x3)]) hx hb dX5_tray_49 hl (by decide) rfl (fun ls hl => ?_)
      refine lv_aload_n hx hb dX5_tray_51 rfl (lv_at hl 1 rfl) ?_
      refine lv_iload hx hb dX5_tray_52 (lv_at hl 0 rfl) ?_
      refine nr_if_ne (x := 1) (tgt := 61) hx hb (by omega) dX5_tray_54 (by decide) (fun _ => ?_) (fun h => absurd h (by omega))
      refine lv_aload_n hx hb dX5_tray_61 rfl (lv_at hl 1 rfl) ?_
      refine va_get (ci := 5) (v := .int (nI n)) (C := RX5) (T := TX5) (N := 19) hx hb hbw in_X5 hown hK hP 0 rfl rfl 1 (by decide) (hbw _ m_489) (fun _ h9 => h9) rfl dX5_tray_62 ?_
      refine lv_bipush (v := nI 15) hx hb dX5_tray_65 (by decide) ?_
      refine nr_icmp_ne (x := n) (y := 15) (tgt := 74) hx hb (by omega) (by omega) dX5_tray_67 (by decide) (fun h1 => ?_) (fun h1 => ?_)
      · subst hu; subst hv; subst hL; subst hR
        refine lv_iconst (v := nI 0) hx hb dX5_tray_74 (by decide) ?_
        refine va_put (ci := 5) (v := .int (nI 0)) (ty := .int) (C := RX5) (T := TX5) (N := 19) hx hb hbw in_X5 tyX5 tyX5_ok nmX5 hown hK hP hD hS 0 rfl rfl 0 (by decide) (hbw _ m_488) (fun _ h9 => h9) rfl (by decide +kernel) rfl rfl (Nat.le_of_ble_eq_true rfl) dX5_tray_75 (fun H locs hP hD hS => ?_)
        have hP : va_P D vwCl (pM g cI cB 0 n en le ro sn ar rt oh cn no ot cu lim fa wy lo ch bd) H := hP
        have hD : va_D A (pM g cI cB 0 n en le ro sn ar rt oh cn no ot cu lim fa wy lo ch bd) := hD
        refine lv_aload_n hx hb dX5_tray_78 rfl (lv_at hl 1 rfl) ?_
        refine va_get (ci := 5) (v := .int (nI 0)) (C := RX5) (T := TX5) (N := 19) hx hb hbw in_X5 hown hK hP 0 rfl rfl 0 (by decide) (hbw _ m_488) (fun _ h9 => h9) rfl dX5_tray_79 ?_
        refine lv_if_le (tgt := 87) hx hb dX5_tray_82 (by decide) (fun _ => ?_) (fun h => absurd h (by decide))
        refine lv_aload_n hx hb dX5_tray_87 rfl (lv_at hl 1 rfl) ?_
        refine va_get (ci := 5) (v := .ref (g 1)) (C := RX5) (T := TX5) (N := 19) hx hb hbw in_X5 hown hK hP 0 rfl rfl 2 (by decide) (hbw _ m_490) (fun _ h9 => h9) rfl dX5_tray_88 ?_
        refine lv_iconst (v := nI 2) hx hb dX5_tray_91 (by decide) ?_
        refine lv_aload_n hx hb dX5_tray_92 rfl (lv_at hl 1 rfl) ?_
        refine va_get (ci := 5) (v := .int (nI n)) (C := RX5) (T := TX5) (N := 19) hx hb hbw in_X5 hown hK hP 0 rfl rfl 1 (by decide) (hbw _ m_489) (fun _ h9 => h9) rfl dX5_tray_93 ?_
        refine nr_imul hx hb dX5_tray_96 ?_
        refine lv_iload_n hx hb dX5_tray_97 rfl (lv_at hl 2 rfl) ?_
        refine nr_iast hx hb hK hP hD hS 1 0 rfl rfl (k := 2 * n) (v := u) (by omega) (by omega) dX5_tray_98 (fun H locs hP hD hS => ?_)
        have hP : va_P D vwCl (pM g cI cB 0 n (nr_up en (2 * n) u) le ro sn ar rt oh cn no ot cu lim fa wy lo ch bd) H := hP
        have hD : va_D A (pM g cI cB 0 n (nr_up en (2 * n) u) le ro sn ar rt oh cn no ot cu lim fa wy lo ch bd) := hD
        refine lv_aload_n hx hb dX5_tray_99 rfl (lv_at hl 1 rfl) ?_
        refine va_get (ci := 5) (v := .ref (g 1)) (C := RX5) (T := TX5) (N := 19) hx hb hbw in_X5 hown hK hP 0 rfl rfl 2 (by decide) (hbw _ m_490) (fun _ h9 => h9) rfl dX5_tray_100 ?_
        refine lv_iconst (v := nI 2) hx hb dX5_tray_103 (by decide) ?_
        refine lv_aload_n hx hb dX5_tray_104 rfl (lv_at hl 1 rfl) ?_
        refine va_get (ci := 5) (v := .int (nI n)) (C := RX5) (T := TX5) (N := 19) hx hb hbw in_X5 hown hK hP 0 rfl rfl 1 (by decide) (hbw _ m_489) (fun _ h9 => h9) rfl dX5_tray_105 ?_
        refine nr_imul hx hb dX5_tray_108 ?_
        refine lv_iconst (v := nI 1) hx hb dX5_tray_109 (by decide) ?_
        refine nr_iadd hx hb dX5_tray_110 ?_
        refine lv_iload_n hx hb dX5_tray_111 rfl (lv_at hl 3 rfl) ?_
        refine nr_iast hx hb hK hP hD hS 1 0 rfl rfl (k := (2 * n) + 1) (v := v0) (by omega) (by omega) dX5_tray_112 (fun H locs hP hD hS => ?_)
        have hP : va_P D vwCl (pM g cI cB 0 n (nr_up (nr_up en (2 * n) u) ((2 * n) + 1) v0) le ro sn ar rt oh cn no ot cu lim fa wy lo ch bd) H := hP
        have hD : va_D A (pM g cI cB 0 n (nr_up (nr_up en (2 * n) u) ((2 * n) + 1) v0) le ro sn ar rt oh cn no ot cu lim fa wy lo ch bd) := hD
        refine lv_aload_n hx hb dX5_tray_113 rfl (lv_at hl 1 rfl) ?_
        refine va_get (ci := 5) (v := .ref (g 2)) (C := RX5) (T := TX5) (N := 19) hx hb hbw in_X5 hown hK hP 0 rfl rfl 3 (by decide) (hbw _ m_491) (fun _ h9 => h9) rfl dX5_tray_114 ?_
        refine lv_aload_n hx hb dX5_tray_117 rfl (lv_at hl 1 rfl) ?_
        refine va_get (ci := 5) (v := .int (nI n)) (C := RX5) (T := TX5) (N := 19) hx hb hbw in_X5 hown hK hP 0 rfl rfl 1 (by decide) (hbw _ m_489) (fun _ h9 => h9) rfl dX5_tray_118 ?_
        refine lv_iload_n hx hb dX5_tray_121 rfl (lv_at hl 4 rfl) ?_
        refine nr_iast hx hb hK hP hD hS 2 0 rfl rfl (k := n) (v := L) (by omega) (by omega) dX5_tray_122 (fun H locs hP hD hS => ?_)
        have hP : va_P D vwCl (pM g cI cB 0 n (nr_up (nr_up en (2 * n) u) ((2 * n) + 1) v0) (nr_up le n L) ro sn ar rt oh cn no ot cu lim fa wy lo ch bd) H := hP
        have hD : va_D A (pM g cI cB 0 n (nr_up (nr_up en (2 * n) u) ((2 * n) + 1) v0) (nr_up le n L) ro sn ar rt oh cn no ot cu lim fa wy lo ch bd) := hD
        refine lv_aload_n hx hb dX5_tray_123 rfl (lv_at hl 1 rfl) ?_
        refine va_get (ci := 5) (v := .ref (g 3)) (C := RX5) (T := TX5) (N := 19) hx hb hbw in_X5 hown hK hP 0 rfl rfl 4 (by decide) (hbw _ m_492) (fun _ h9 => h9) rfl dX5_tray_124 ?_
        refine lv_aload_n hx hb dX5_tray_127 rfl (lv_at hl 1 rfl) ?_
        refine va_get (ci := 5) (v := .int (nI n)) (C := RX5) (T := TX5) (N := 19) hx hb hbw in_X5 hown hK hP 0 rfl rfl 1 (by decide) (hbw _ m_489) (fun _ h9 => h9) rfl dX5_tray_128 ?_
        refine lv_iload hx hb dX5_tray_131 (lv_at hl 5 rfl) ?_
        refine nr_iast hx hb hK hP hD hS 3 0 rfl rfl (k := n) (v := R) (by omega) (by omega) dX5_tray_133 (fun H locs hP hD hS => ?_)
        have hP : va_P D vwCl (pM g cI cB 0 n (nr_up (nr_up en (2 * n) u) ((2 * n) + 1) v0) (nr_up le n L) (nr_up ro n R) sn ar rt oh cn no ot cu lim fa wy lo ch bd) H := hP
        have hD : va_D A (pM g cI cB 0 n (nr_up (nr_up en (2 * n) u) ((2 * n) + 1) v0) (nr_up le n L) (nr_up ro n R) sn ar rt oh cn no ot cu lim fa wy lo ch bd) := hD
        refine lv_aload_n hx hb dX5_tray_134 rfl (lv_at hl 1 rfl) ?_
        refine lv_dup hx hb dX5_tray_135 rfl ?_
        refine va_get (ci := 5) (v := .int (nI n)) (C := RX5) (T := TX5) (N := 19) hx hb hbw in_X5 hown hK hP 0 rfl rfl 1 (by decide) (hbw _ m_489) (fun _ h9 => h9) rfl dX5_tray_136 ?_
        refine lv_iconst (v := nI 1) hx hb dX5_tray_139 (by decide) ?_
        refine nr_iadd hx hb dX5_tray_140 ?_
        refine va_put (ci := 5) (v := .int (nI (n + 1))) (ty := .int) (C := RX5) (T := TX5) (N := 19) hx hb hbw in_X5 tyX5 tyX5_ok nmX5 hown hK hP hD hS 0 rfl rfl 1 (by decide) (hbw _ m_489) (fun _ h9 => h9) rfl (by decide +kernel) rfl rfl (Nat.le_of_ble_eq_true rfl) dX5_tray_141 (fun H locs hP hD hS => ?_)
        have hP : va_P D vwCl (pM g cI cB 0 (n + 1) (nr_up (nr_up en (2 * n) u) ((2 * n) + 1) v0) (nr_up le n L) (nr_up ro n R) sn ar rt oh cn no ot cu lim fa wy lo ch bd) H := hP
        have hD : va_D A (pM g cI cB 0 (n + 1) (nr_up (nr_up en (2 * n) u) ((2 * n) + 1) v0) (nr_up le n L) (nr_up ro n R) sn ar rt oh cn no ot cu lim fa wy lo ch bd) := hD
        refine lv_aload_n hx hb dX5_tray_144 rfl (lv_at hl 1 rfl) ?_
        refine va_get (ci := 5) (v := .int (nI (n + 1))) (C := RX5) (T := TX5) (N := 19) hx hb hbw in_X5 hown hK hP 0 rfl rfl 1 (by decide) (hbw _ m_489) (fun _ h9 => h9) rfl dX5_tray_145 ?_
        refine lv_iconst (v := nI 1) hx hb dX5_tray_148 (by decide) ?_
        refine nr_isub hx hb (by omega) dX5_tray_149 ?_
        rw [hQ]
        exact ct_iret hx hb hr hlocks hP hD hS dX5_tray_150 (Or.inr (Or.inr ⟨u, v0, L, R, ⟨rfl, rfl, rfl, rfl, by omega, by omega, fun e => huv (by rw [e]), hL1, hL2, hR1, hR2⟩, by omega, by rw [Nat.add_sub_cancel], rfl⟩))
      · refine lv_iconst (v := nI 2) hx hb dX5_tray_70 (by decide) ?_
        refine lv_goto (tgt := 75) hx hb dX5_tray_71 (by decide) ?_
        refine va_put (ci := 5) (v := .int (nI 2)) (ty := .int) (C := RX5) (T := TX5) (N := 19) hx hb hbw in_X5 tyX5 tyX5_ok nmX5 hown hK hP hD hS 0 rfl rfl 0 (by decide) (hbw _ m_488) (fun _ h9 => h9) rfl (by decide +kernel) rfl rfl (Nat.le_of_ble_eq_true rfl) dX5_tray_75 (fun H locs hP hD hS => ?_)
        have hP : va_P D vwCl (pM g cI cB 2 n en le ro sn ar rt oh cn no ot cu lim fa wy lo ch bd) H := hP
        have hD : va_D A (pM g cI cB 2 n en le ro sn ar rt oh cn no ot cu lim fa wy lo ch bd) := hD
        refine lv_aload_n hx hb dX5_tray_78 rfl (lv_at hl 1 rfl) ?_
        refine va_get (ci := 5) (v := .int (nI 2)) (C := RX5) (T := TX5) (N := 19) hx hb hbw in_X5 hown hK hP 0 rfl rfl 0 (by decide) (hbw _ m_488) (fun _ h9 => h9) rfl dX5_tray_79 ?_
        refine lv_if_le (tgt := 87) hx hb dX5_tray_82 (by decide) (fun h => absurd h (by decide)) (fun _ => ?_)
        refine lv_iconst (v := nI 0) hx hb dX5_tray_85 (by decide) ?_
        rw [hQ]
        exact ct_iret hx hb hr hlocks hP hD hS dX5_tray_86 (Or.inr (Or.inl ⟨hG, h1, rfl⟩))
    · subst hgd
      refine lv_istore (lv' := [(5, .int (nI 0)), (0, .ref (g 0)), (1, .int x0), (2, .int x1), (3, .int x2), (4, .int x3)]) hx hb dX5_tray_49 hl (by decide) rfl (fun ls hl => ?_)
      refine lv_aload_n hx hb dX5_tray_51 rfl (lv_at hl 1 rfl) ?_
      refine lv_iload hx hb dX5_tray_52 (lv_at hl 0 rfl) ?_
      refine nr_if_ne (x := 0) (tgt := 61) hx hb (by omega) dX5_tray_54 (by decide) (fun h => absurd h (by omega)) (fun _ => ?_)
      refine lv_iconst (v := nI 1) hx hb dX5_tray_57 (by decide) ?_
      refine lv_goto (tgt := 75) hx hb dX5_tray_58 (by decide) ?_
      refine va_put (ci := 5) (v := .int (nI 1)) (ty := .int) (C := RX5) (T := TX5) (N := 19) hx hb hbw in_X5 tyX5 tyX5_ok nmX5 hown hK hP hD hS 0 rfl rfl 0 (by decide) (hbw _ m_488) (fun _ h9 => h9) rfl (by decide +kernel) rfl rfl (Nat.le_of_ble_eq_true rfl) dX5_tray_75 (fun H locs hP hD hS => ?_)
      have hP : va_P D vwCl (pM g cI cB 1 n en le ro sn ar rt oh cn no ot cu lim fa wy lo ch bd) H := hP
      have hD : va_D A (pM g cI cB 1 n en le ro sn ar rt oh cn no ot cu lim fa wy lo ch bd) := hD
      refine lv_aload_n hx hb dX5_tray_78 rfl (lv_at hl 1 rfl) ?_
      refine va_get (ci := 5) (v := .int (nI 1)) (C := RX5) (T := TX5) (N := 19) hx hb hbw in_X5 hown hK hP 0 rfl rfl 0 (by decide) (hbw _ m_488) (fun _ h9 => h9) rfl dX5_tray_79 ?_
      refine lv_if_le (tgt := 87) hx hb dX5_tray_82 (by decide) (fun h => absurd h (by decide)) (fun _ => ?_)
      refine lv_iconst (v := nI 0) hx hb dX5_tray_85 (by decide) ?_
      rw [hQ]
      exact ct_iret hx hb hr hlocks hP hD hS dX5_tray_86 (Or.inl ⟨hG, rfl⟩)
  refine lv_iload_n hx hb dX5_tray_0 rfl (lv_at hl 1 rfl) ?_
  refine ct_Si (wc := ([] : va_W)) (wr := (pM g cI cB th n en le ro sn ar rt oh cn no ot cu lim fa wy lo ch bd)) (As := [.int x0]) (rest := []) ⟨hx, hb, hml, hown, hbw⟩ (EN_E D _) hEN (kX5_isNode l D cI cG cL cB x0) (gS 1 hbw m_555 m_556 m_23 m_557 rfl rfl (by decide +kernel) ⟨Nat.le_of_ble_eq_true rfl, Nat.le_of_ble_eq_true rfl⟩) hP hD hS hA [] [0, 1, 2, 3, 4, 5, 6, 7, 8, 9, 10, 11, 12, 13, 14] rfl rfl (by decide) (by decide) (by decide) rfl hl.1 rfl (Nat.le_of_ble_eq_true rfl) dX5_tray_1 ⟨Nat.le_of_ble_eq_true rfl, Nat.le_of_ble_eq_true rfl⟩ (fun r_1 w_1 H locs hw hP hD hS => ?_)
  obtain ⟨rfl, hr9⟩ := hw
  have hP := hP.sub (ws' := (pM g cI cB th n en le ro sn ar rt oh cn no ot cu lim fa wy lo ch bd)) [0, 1, 2, 3, 4, 5, 6, 7, 8, 9, 10, 11, 12, 13, 14] rfl
  have hD := hD.sub (ws' := (pM g cI cB th n en le ro sn ar rt oh cn no ot cu lim fa wy lo ch bd)) [0, 1, 2, 3, 4, 5, 6, 7, 8, 9, 10, 11, 12, 13, 14] (by decide) rfl
  rcases hr9 with ⟨hr9, g1⟩ | ⟨hr9, g1⟩
  · subst hr9
    refine nr_if_eq (x := 1) (tgt := 48) hx hb (by omega) dX5_tray_4 (by decide) (fun h => absurd h (by omega)) (fun _ => ?_)
    refine lv_iload_n hx hb dX5_tray_7 rfl (lv_at hl 2 rfl) ?_
    refine ct_Si (wc := ([] : va_W)) (wr := (pM g cI cB th n en le ro sn ar rt oh cn no ot cu lim fa wy lo ch bd)) (As := [.int x1]) (rest := []) ⟨hx, hb, hml, hown, hbw⟩ (EN_E D _) hEN (kX5_isNode l D cI cG cL cB x1) (gS 1 hbw m_555 m_556 m_23 m_557 rfl rfl (by decide +kernel) ⟨Nat.le_of_ble_eq_true rfl, Nat.le_of_ble_eq_true rfl⟩) hP hD hS hA [] [0, 1, 2, 3, 4, 5, 6, 7, 8, 9, 10, 11, 12, 13, 14] rfl rfl (by decide) (by decide) (by decide) rfl hl.1 rfl (Nat.le_of_ble_eq_true rfl) dX5_tray_8 ⟨Nat.le_of_ble_eq_true rfl, Nat.le_of_ble_eq_true rfl⟩ (fun r_2 w_2 H locs hw hP hD hS => ?_)
    obtain ⟨rfl, hr9⟩ := hw
    have hP := hP.sub (ws' := (pM g cI cB th n en le ro sn ar rt oh cn no ot cu lim fa wy lo ch bd)) [0, 1, 2, 3, 4, 5, 6, 7, 8, 9, 10, 11, 12, 13, 14] rfl
    have hD := hD.sub (ws' := (pM g cI cB th n en le ro sn ar rt oh cn no ot cu lim fa wy lo ch bd)) [0, 1, 2, 3, 4, 5, 6, 7, 8, 9, 10, 11, 12, 13, 14] (by decide) rfl
    rcases hr9 with ⟨hr9, g2⟩ | ⟨hr9, g2⟩
    · subst hr9
      refine nr_if_eq (x := 1) (tgt := 48) hx hb (by omega) dX5_tray_11 (by decide) (fun h => absurd h (by omega)) (fun _ => ?_)
      refine lv_iload_n hx hb dX5_tray_14 rfl (lv_at hl 1 rfl) ?_
      refine lv_iload_n hx hb dX5_tray_15 rfl (lv_at hl 2 rfl) ?_
      by_cases g3 : x0 = x1
      · refine lv_icmp_eq (tgt := 48) hx hb dX5_tray_16 (by decide) (fun _ => ?_) (fun h => absurd g3 h)
        refine lv_iconst (v := nI 0) hx hb dX5_tray_48 (by decide) ?_
        exact ct1 0 (Or.inr ⟨rfl, fun h => h.2.2.1 g3⟩) _ _ _ hP hD hS (lv_sub hl [0, 1, 2, 3, 4] rfl)
      · refine lv_icmp_eq (tgt := 48) hx hb dX5_tray_16 (by decide) (fun h => absurd h g3) (fun _ => ?_)
        refine lv_iload_n hx hb dX5_tray_19 rfl (lv_at hl 3 rfl) ?_
        refine lv_i2l (v := (x2).toInt64) hx hb dX5_tray_20 rfl ?_
        refine lv_lconst (v := lN 1) hx hb dX5_tray_21 (by decide) ?_
        refine lv_ldc2 (v := lN 100) hx hb hown (hbw _ m_558) dX5_tray_22 ?_
        refine ct_Si (wc := ([] : va_W)) (wr := (pM g cI cB th n en le ro sn ar rt oh cn no ot cu lim fa wy lo ch bd)) (As := [.long ((x2).toInt64), .long (lN 1), .long (lN 100)]) (rest := []) ⟨hx, hb, hml, hown, hbw⟩ (EN_E D _) hEN (kX5_isIn l D cI cG cL cB x2 1 100 (by omega) (by omega)) (gS 3 hbw m_559 m_560 m_23 m_561 rfl rfl (by decide +kernel) ⟨Nat.le_of_ble_eq_true rfl, Nat.le_of_ble_eq_true rfl⟩) hP hD hS hA [] [0, 1, 2, 3, 4, 5, 6, 7, 8, 9, 10, 11, 12, 13, 14] rfl rfl (by decide) (by decide) (by decide) rfl hl.1 rfl (Nat.le_of_ble_eq_true rfl) dX5_tray_25 ⟨Nat.le_of_ble_eq_true rfl, Nat.le_of_ble_eq_true rfl⟩ (fun r_3 w_3 H locs hw hP hD hS => ?_)
        obtain ⟨rfl, hr9⟩ := hw
        have hP := hP.sub (ws' := (pM g cI cB th n en le ro sn ar rt oh cn no ot cu lim fa wy lo ch bd)) [0, 1, 2, 3, 4, 5, 6, 7, 8, 9, 10, 11, 12, 13, 14] rfl
        have hD := hD.sub (ws' := (pM g cI cB th n en le ro sn ar rt oh cn no ot cu lim fa wy lo ch bd)) [0, 1, 2, 3, 4, 5, 6, 7, 8, 9, 10, 11, 12, 13, 14] (by decide) rfl
        rcases hr9 with ⟨hr9, g4⟩ | ⟨hr9, g4⟩
        · subst hr9
          refine nr_if_eq (x := 1) (tgt := 48) hx hb (by omega) dX5_tray_28 (by decide) (fun h => absurd h (by omega)) (fun _ => ?_)
          refine lv_iload hx hb dX5_tray_31 (lv_at hl 4 rfl) ?_
          refine lv_i2l (v := (x3).toInt64) hx hb dX5_tray_33 rfl ?_
          refine lv_lconst (v := lN 1) hx hb dX5_tray_34 (by decide) ?_
          refine lv_ldc2 (v := lN 1000) hx hb hown (hbw _ m_562) dX5_tray_35 ?_
          refine ct_Si (wc := ([] : va_W)) (wr := (pM g cI cB th n en le ro sn ar rt oh cn no ot cu lim fa wy lo ch bd)) (As := [.long ((x3).toInt64), .long (lN 1), .long (lN 1000)]) (rest := []) ⟨hx, hb, hml, hown, hbw⟩ (EN_E D _) hEN (kX5_isIn l D cI cG cL cB x3 1 1000 (by omega) (by omega)) (gS 3 hbw m_559 m_560 m_23 m_561 rfl rfl (by decide +kernel) ⟨Nat.le_of_ble_eq_true rfl, Nat.le_of_ble_eq_true rfl⟩) hP hD hS hA [] [0, 1, 2, 3, 4, 5, 6, 7, 8, 9, 10, 11, 12, 13, 14] rfl rfl (by decide) (by decide) (by decide) rfl hl.1 rfl (Nat.le_of_ble_eq_true rfl) dX5_tray_38 ⟨Nat.le_of_ble_eq_true rfl, Nat.le_of_ble_eq_true rfl⟩ (fun r_4 w_4 H locs hw hP hD hS => ?_)
          obtain ⟨rfl, hr9⟩ := hw
          have hP := hP.sub (ws' := (pM g cI cB th n en le ro sn ar rt oh cn no ot cu lim fa wy lo ch bd)) [0, 1, 2, 3, 4, 5, 6, 7, 8, 9, 10, 11, 12, 13, 14] rfl
          have hD := hD.sub (ws' := (pM g cI cB th n en le ro sn ar rt oh cn no ot cu lim fa wy lo ch bd)) [0, 1, 2, 3, 4, 5, 6, 7, 8, 9, 10, 11, 12, 13, 14] (by decide) rfl
          rcases hr9 with ⟨hr9, g5⟩ | ⟨hr9, g5⟩
          · subst hr9
            refine nr_if_eq (x := 1) (tgt := 48) hx hb (by omega) dX5_tray_41 (by decide) (fun h => absurd h (by omega)) (fun _ => ?_)
            refine lv_iconst (v := nI 1) hx hb dX5_tray_44 (by decide) ?_
            refine lv_goto (tgt := 49) hx hb dX5_tray_45 (by decide) ?_
            exact ct1 1 (Or.inl ⟨rfl, g1, g2, g3, g4, g5⟩) _ _ _ hP hD hS (lv_sub hl [0, 1, 2, 3, 4] rfl)
          · subst hr9
            refine nr_if_eq (x := 0) (tgt := 48) hx hb (by omega) dX5_tray_41 (by decide) (fun _ => ?_) (fun h => absurd h (by omega))
            refine lv_iconst (v := nI 0) hx hb dX5_tray_48 (by decide) ?_
            exact ct1 0 (Or.inr ⟨rfl, fun h => g5 h.2.2.2.2⟩) _ _ _ hP hD hS (lv_sub hl [0, 1, 2, 3, 4] rfl)
        · subst hr9
          refine nr_if_eq (x := 0) (tgt := 48) hx hb (by omega) dX5_tray_28 (by decide) (fun _ => ?_) (fun h => absurd h (by omega))
          refine lv_iconst (v := nI 0) hx hb dX5_tray_48 (by decide) ?_
          exact ct1 0 (Or.inr ⟨rfl, fun h => g4 h.2.2.2.1⟩) _ _ _ hP hD hS (lv_sub hl [0, 1, 2, 3, 4] rfl)
    · subst hr9
      refine nr_if_eq (x := 0) (tgt := 48) hx hb (by omega) dX5_tray_11 (by decide) (fun _ => ?_) (fun h => absurd h (by omega))
      refine lv_iconst (v := nI 0) hx hb dX5_tray_48 (by decide) ?_
      exact ct1 0 (Or.inr ⟨rfl, fun h => g2 h.2.1⟩) _ _ _ hP hD hS (lv_sub hl [0, 1, 2, 3, 4] rfl)
  · subst hr9
    refine nr_if_eq (x := 0) (tgt := 48) hx hb (by omega) dX5_tray_4 (by decide) (fun _ => ?_) (fun h => absurd h (by omega))
    refine lv_iconst (v := nI 0) hx hb dX5_tray_48 (by decide) ?_
    exact ct1 0 (Or.inr ⟨rfl, fun h => g1 h.1⟩) _ _ _ hP hD hS (lv_sub hl [0, 1, 2, 3, 4] rfl)
set_option maxHeartbeats 4000000 in
set_option maxRecDepth 100000 in
/-- cable -/
theorem kX5_cable (l : Launch) (D : va_G) (cI cG cL cB : ClassId) (g : Nat → Nat) (th n : Nat) (en le ro : Nat → Nat) (sn : Nat) (ar rt oh : Nat → Nat) (cn : Nat) (no ot cu : Nat → Nat) (lim : Nat) (fa wy lo ch bd : Nat → Nat) (x0 x1 x2 : Int32) (hn : n ≤ 15) (hsn : sn ≤ 6) (hcn : cn ≤ 20) : ct_i l yX5_cable (.code yX5_cable cX5_cable 5 (some .int) :: bw) ({ frames := 1, cells := 0, slots := 0, locals := 25 }) (EN D (tyL cI cG cL cB)) D vwCl (pM g cI cB th n en le ro sn ar rt oh cn no ot cu lim fa wy lo ch bd) [.ref (g 0), .int x0, .int x1, .int x2] (fun v W => (¬ (inB x0 0 9 ∧ inB x1 0 9 ∧ x0 ≠ x1 ∧ inB x2 1 1000) ∧ W = (pM g cI cB 1 n en le ro sn ar rt oh cn no ot cu lim fa wy lo ch bd)) ∨ ((inB x0 0 9 ∧ inB x1 0 9 ∧ x0 ≠ x1 ∧ inB x2 1 1000) ∧ cn = 20 ∧ W = (pM g cI cB 2 n en le ro sn ar rt oh cn no ot cu lim fa wy lo ch bd)) ∨ (∃ u v0 I, (x0 = nI u ∧ x1 = nI v0 ∧ x2 = nI I ∧ u < 10 ∧ v0 < 10 ∧ u ≠ v0 ∧ 1 ≤ I ∧ I ≤ 1000) ∧ cn < 20 ∧ v = nI cn ∧ W = (pM g cI cB 0 n en le ro sn ar rt oh (cn + 1) (nr_up no cn u) (nr_up ot cn v0) (nr_up cu cn I) lim fa wy lo ch bd))) 0 0 := by
  refine ct_ofi (by decide) (Nat.le_of_ble_eq_true rfl) ?_
  intro p e s m below meth cd A H locs av Q ls hx hb hr hml hown hlocks hnm hbw hEN hQ hP hD hS hA hl
  have hown : s.vm.findClass RX5 = some m.cls := hown
  have hK := hEN.1
  have hl : lv_has ls 5 [(0, .ref (g 0)), (1, .int x0), (2, .int x1), (3, .int x2)] := hl
  have ct1 : ∀ (gd : Nat), (hgd : (gd = 1 ∧ (inB x0 0 9 ∧ inB x1 0 9 ∧ x0 ≠ x1 ∧ inB x2 1 1000)) ∨ (gd = 0 ∧ ¬ (inB x0 0 9 ∧ inB x1 0 9 ∧ x0 ≠ x1 ∧ inB x2 1 1000))) → ∀ (H : Heap) (locs : List Loc) (ls : Array Slot), va_P D vwCl (pM g cI cB th n en le ro sn ar rt oh cn no ot cu lim fa wy lo ch bd) H → va_D A (pM g cI cB th n en le ro sn ar rt oh cn no ot cu lim fa wy lo ch bd) → va_S A s.heap H locs → lv_has ls 5 [(0, .ref (g 0)), (1, .int x0), (2, .int x1), (3, .int x2)] → W p l e ({ frames := 1, cells := 0, slots := 0, locals := 25 }) s m av below meth cd H locs 0 0 Q (F0 m 36 ls [.int (nI gd)]) := by
    intro gd hgd H locs ls hP hD hS hl
    rcases hgd with ⟨hgd, hG⟩ | ⟨hgd, hG⟩
    · subst hgd
      obtain ⟨⟨u, hu, -, hu9⟩, ⟨v0, hv, -, hv9⟩, huv, ⟨I, hI, hI1, hI2⟩⟩ := id hG
      refine lv_istore (lv' := [(4, .int (nI 1)), (0, .ref (g 0)), (1, .int x0), (2, .int x1), (3, .int x2)]) hx hb dX5_cable_36 hl (by decide) rfl (fun ls hl => ?_)
      refine lv_aload_n hx hb dX5_cable_38 rfl (lv_at hl 1 rfl) ?_
      refine lv_iload hx hb dX5_cable_39 (lv_at hl 0 rfl) ?_
      refine nr_if_ne (x := 1) (tgt := 48) hx hb (by omega) dX5_cable_41 (by decide) (fun _ => ?_) (fun h => absurd h (by omega))
      refine lv_aload_n hx hb dX5_cable_48 rfl (lv_at hl 1 rfl) ?_
      refine va_get (ci := 5) (v := .int (nI cn)) (C := RX5) (T := TX5) (N := 19) hx hb hbw in_X5 hown hK hP 0 rfl rfl 9 (by decide) (hbw _ m_497) (fun _ h9 => h9) rfl dX5_cable_49 ?_
      refine lv_bipush (v := nI 20) hx hb dX5_cable_52 (by decide) ?_
      refine nr_icmp_ne (x := cn) (y := 20) (tgt := 61) hx hb (by omega) (by omega) dX5_cable_54 (by decide) (fun h1 => ?_) (fun h1 => ?_)
      · subst hu; subst hv; subst hI
        refine lv_iconst (v := nI 0) hx hb dX5_cable_61 (by decide) ?_
        refine va_put (ci := 5) (v := .int (nI 0)) (ty := .int) (C := RX5) (T := TX5) (N := 19) hx hb hbw in_X5 tyX5 tyX5_ok nmX5 hown hK hP hD hS 0 rfl rfl 0 (by decide) (hbw _ m_488) (fun _ h9 => h9) rfl (by decide +kernel) rfl rfl (Nat.le_of_ble_eq_true rfl) dX5_cable_62 (fun H locs hP hD hS => ?_)
        have hP : va_P D vwCl (pM g cI cB 0 n en le ro sn ar rt oh cn no ot cu lim fa wy lo ch bd) H := hP
        have hD : va_D A (pM g cI cB 0 n en le ro sn ar rt oh cn no ot cu lim fa wy lo ch bd) := hD
        refine lv_aload_n hx hb dX5_cable_65 rfl (lv_at hl 1 rfl) ?_
        refine va_get (ci := 5) (v := .int (nI 0)) (C := RX5) (T := TX5) (N := 19) hx hb hbw in_X5 hown hK hP 0 rfl rfl 0 (by decide) (hbw _ m_488) (fun _ h9 => h9) rfl dX5_cable_66 ?_
        refine lv_if_le (tgt := 74) hx hb dX5_cable_69 (by decide) (fun _ => ?_) (fun h => absurd h (by decide))
        refine lv_aload_n hx hb dX5_cable_74 rfl (lv_at hl 1 rfl) ?_
        refine va_get (ci := 5) (v := .ref (g 7)) (C := RX5) (T := TX5) (N := 19) hx hb hbw in_X5 hown hK hP 0 rfl rfl 10 (by decide) (hbw _ m_498) (fun _ h9 => h9) rfl dX5_cable_75 ?_
        refine lv_aload_n hx hb dX5_cable_78 rfl (lv_at hl 1 rfl) ?_
        refine va_get (ci := 5) (v := .int (nI cn)) (C := RX5) (T := TX5) (N := 19) hx hb hbw in_X5 hown hK hP 0 rfl rfl 9 (by decide) (hbw _ m_497) (fun _ h9 => h9) rfl dX5_cable_79 ?_
        refine lv_iload_n hx hb dX5_cable_82 rfl (lv_at hl 2 rfl) ?_
        refine nr_iast hx hb hK hP hD hS 7 0 rfl rfl (k := cn) (v := u) (by omega) (by omega) dX5_cable_83 (fun H locs hP hD hS => ?_)
        have hP : va_P D vwCl (pM g cI cB 0 n en le ro sn ar rt oh cn (nr_up no cn u) ot cu lim fa wy lo ch bd) H := hP
        have hD : va_D A (pM g cI cB 0 n en le ro sn ar rt oh cn (nr_up no cn u) ot cu lim fa wy lo ch bd) := hD
        refine lv_aload_n hx hb dX5_cable_84 rfl (lv_at hl 1 rfl) ?_
        refine va_get (ci := 5) (v := .ref (g 8)) (C := RX5) (T := TX5) (N := 19) hx hb hbw in_X5 hown hK hP 0 rfl rfl 11 (by decide) (hbw _ m_499) (fun _ h9 => h9) rfl dX5_cable_85 ?_
        refine lv_aload_n hx hb dX5_cable_88 rfl (lv_at hl 1 rfl) ?_
        refine va_get (ci := 5) (v := .int (nI cn)) (C := RX5) (T := TX5) (N := 19) hx hb hbw in_X5 hown hK hP 0 rfl rfl 9 (by decide) (hbw _ m_497) (fun _ h9 => h9) rfl dX5_cable_89 ?_
        refine lv_iload_n hx hb dX5_cable_92 rfl (lv_at hl 3 rfl) ?_
        refine nr_iast hx hb hK hP hD hS 8 0 rfl rfl (k := cn) (v := v0) (by omega) (by omega) dX5_cable_93 (fun H locs hP hD hS => ?_)
        have hP : va_P D vwCl (pM g cI cB 0 n en le ro sn ar rt oh cn (nr_up no cn u) (nr_up ot cn v0) cu lim fa wy lo ch bd) H := hP
        have hD : va_D A (pM g cI cB 0 n en le ro sn ar rt oh cn (nr_up no cn u) (nr_up ot cn v0) cu lim fa wy lo ch bd) := hD
        refine lv_aload_n hx hb dX5_cable_94 rfl (lv_at hl 1 rfl) ?_
        refine va_get (ci := 5) (v := .ref (g 9)) (C := RX5) (T := TX5) (N := 19) hx hb hbw in_X5 hown hK hP 0 rfl rfl 12 (by decide) (hbw _ m_500) (fun _ h9 => h9) rfl dX5_cable_95 ?_
        refine lv_aload_n hx hb dX5_cable_98 rfl (lv_at hl 1 rfl) ?_
        refine va_get (ci := 5) (v := .int (nI cn)) (C := RX5) (T := TX5) (N := 19) hx hb hbw in_X5 hown hK hP 0 rfl rfl 9 (by decide) (hbw _ m_497) (fun _ h9 => h9) rfl dX5_cable_99 ?_
        refine lv_iload_n hx hb dX5_cable_102 rfl (lv_at hl 4 rfl) ?_
        refine nr_iast hx hb hK hP hD hS 9 0 rfl rfl (k := cn) (v := I) (by omega) (by omega) dX5_cable_103 (fun H locs hP hD hS => ?_)
        have hP : va_P D vwCl (pM g cI cB 0 n en le ro sn ar rt oh cn (nr_up no cn u) (nr_up ot cn v0) (nr_up cu cn I) lim fa wy lo ch bd) H := hP
        have hD : va_D A (pM g cI cB 0 n en le ro sn ar rt oh cn (nr_up no cn u) (nr_up ot cn v0) (nr_up cu cn I) lim fa wy lo ch bd) := hD
        refine lv_aload_n hx hb dX5_cable_104 rfl (lv_at hl 1 rfl) ?_
        refine lv_dup hx hb dX5_cable_105 rfl ?_
        refine va_get (ci := 5) (v := .int (nI cn)) (C := RX5) (T := TX5) (N := 19) hx hb hbw in_X5 hown hK hP 0 rfl rfl 9 (by decide) (hbw _ m_497) (fun _ h9 => h9) rfl dX5_cable_106 ?_
        refine lv_iconst (v := nI 1) hx hb dX5_cable_109 (by decide) ?_
        refine nr_iadd hx hb dX5_cable_110 ?_
        refine va_put (ci := 5) (v := .int (nI (cn + 1))) (ty := .int) (C := RX5) (T := TX5) (N := 19) hx hb hbw in_X5 tyX5 tyX5_ok nmX5 hown hK hP hD hS 0 rfl rfl 9 (by decide) (hbw _ m_497) (fun _ h9 => h9) rfl (by decide +kernel) rfl rfl (Nat.le_of_ble_eq_true rfl) dX5_cable_111 (fun H locs hP hD hS => ?_)
        have hP : va_P D vwCl (pM g cI cB 0 n en le ro sn ar rt oh (cn + 1) (nr_up no cn u) (nr_up ot cn v0) (nr_up cu cn I) lim fa wy lo ch bd) H := hP
        have hD : va_D A (pM g cI cB 0 n en le ro sn ar rt oh (cn + 1) (nr_up no cn u) (nr_up ot cn v0) (nr_up cu cn I) lim fa wy lo ch bd) := hD
        refine lv_aload_n hx hb dX5_cable_114 rfl (lv_at hl 1 rfl) ?_
        refine va_get (ci := 5) (v := .int (nI (cn + 1))) (C := RX5) (T := TX5) (N := 19) hx hb hbw in_X5 hown hK hP 0 rfl rfl 9 (by decide) (hbw _ m_497) (fun _ h9 => h9) rfl dX5_cable_115 ?_
        refine lv_iconst (v := nI 1) hx hb dX5_cable_118 (by decide) ?_
        refine nr_isub hx hb (by omega) dX5_cable_119 ?_
        rw [hQ]
        exact ct_iret hx hb hr hlocks hP hD hS dX5_cable_120 (Or.inr (Or.inr ⟨u, v0, I, ⟨rfl, rfl, rfl, by omega, by omega, fun e => huv (by rw [e]), hI1, hI2⟩, by omega, by rw [Nat.add_sub_cancel], rfl⟩))
      · refine lv_iconst (v := nI 2) hx hb dX5_cable_57 (by decide) ?_
        refine lv_goto (tgt := 62) hx hb dX5_cable_58 (by decide) ?_
        refine va_put (ci := 5) (v := .int (nI 2)) (ty := .int) (C := RX5) (T := TX5) (N := 19) hx hb hbw in_X5 tyX5 tyX5_ok nmX5 hown hK hP hD hS 0 rfl rfl 0 (by decide) (hbw _ m_488) (fun _ h9 => h9) rfl (by decide +kernel) rfl rfl (Nat.le_of_ble_eq_true rfl) dX5_cable_62 (fun H locs hP hD hS => ?_)
        have hP : va_P D vwCl (pM g cI cB 2 n en le ro sn ar rt oh cn no ot cu lim fa wy lo ch bd) H := hP
        have hD : va_D A (pM g cI cB 2 n en le ro sn ar rt oh cn no ot cu lim fa wy lo ch bd) := hD
        refine lv_aload_n hx hb dX5_cable_65 rfl (lv_at hl 1 rfl) ?_
        refine va_get (ci := 5) (v := .int (nI 2)) (C := RX5) (T := TX5) (N := 19) hx hb hbw in_X5 hown hK hP 0 rfl rfl 0 (by decide) (hbw _ m_488) (fun _ h9 => h9) rfl dX5_cable_66 ?_
        refine lv_if_le (tgt := 74) hx hb dX5_cable_69 (by decide) (fun h => absurd h (by decide)) (fun _ => ?_)
        refine lv_iconst (v := nI 0) hx hb dX5_cable_72 (by decide) ?_
        rw [hQ]
        exact ct_iret hx hb hr hlocks hP hD hS dX5_cable_73 (Or.inr (Or.inl ⟨hG, h1, rfl⟩))
    · subst hgd
      refine lv_istore (lv' := [(4, .int (nI 0)), (0, .ref (g 0)), (1, .int x0), (2, .int x1), (3, .int x2)]) hx hb dX5_cable_36 hl (by decide) rfl (fun ls hl => ?_)
      refine lv_aload_n hx hb dX5_cable_38 rfl (lv_at hl 1 rfl) ?_
      refine lv_iload hx hb dX5_cable_39 (lv_at hl 0 rfl) ?_
      refine nr_if_ne (x := 0) (tgt := 48) hx hb (by omega) dX5_cable_41 (by decide) (fun h => absurd h (by omega)) (fun _ => ?_)
      refine lv_iconst (v := nI 1) hx hb dX5_cable_44 (by decide) ?_
      refine lv_goto (tgt := 62) hx hb dX5_cable_45 (by decide) ?_
      refine va_put (ci := 5) (v := .int (nI 1)) (ty := .int) (C := RX5) (T := TX5) (N := 19) hx hb hbw in_X5 tyX5 tyX5_ok nmX5 hown hK hP hD hS 0 rfl rfl 0 (by decide) (hbw _ m_488) (fun _ h9 => h9) rfl (by decide +kernel) rfl rfl (Nat.le_of_ble_eq_true rfl) dX5_cable_62 (fun H locs hP hD hS => ?_)
      have hP : va_P D vwCl (pM g cI cB 1 n en le ro sn ar rt oh cn no ot cu lim fa wy lo ch bd) H := hP
      have hD : va_D A (pM g cI cB 1 n en le ro sn ar rt oh cn no ot cu lim fa wy lo ch bd) := hD
      refine lv_aload_n hx hb dX5_cable_65 rfl (lv_at hl 1 rfl) ?_
      refine va_get (ci := 5) (v := .int (nI 1)) (C := RX5) (T := TX5) (N := 19) hx hb hbw in_X5 hown hK hP 0 rfl rfl 0 (by decide) (hbw _ m_488) (fun _ h9 => h9) rfl dX5_cable_66 ?_
      refine lv_if_le (tgt := 74) hx hb dX5_cable_69 (by decide) (fun h => absurd h (by decide)) (fun _ => ?_)
      refine lv_iconst (v := nI 0) hx hb dX5_cable_72 (by decide) ?_
      rw [hQ]
      exact ct_iret hx hb hr hlocks hP hD hS dX5_cable_73 (Or.inl ⟨hG, rfl⟩)
  refine lv_iload_n hx hb dX5_cable_0 rfl (lv_at hl 1 rfl) ?_
  refine ct_Si (wc := ([] : va_W)) (wr := (pM g cI cB th n en le ro sn ar rt oh cn no ot cu lim fa wy lo ch bd)) (As := [.int x0]) (rest := []) ⟨hx, hb, hml, hown, hbw⟩ (EN_E D _) hEN (kX5_isNode l D cI cG cL cB x0) (gS 1 hbw m_555 m_556 m_23 m_557 rfl rfl (by decide +kernel) ⟨Nat.le_of_ble_eq_true rfl, Nat.le_of_ble_eq_true rfl⟩) hP hD hS hA [] [0, 1, 2, 3, 4, 5, 6, 7, 8, 9, 10, 11, 12, 13, 14] rfl rfl (by decide) (by decide) (by decide) rfl hl.1 rfl (Nat.le_of_ble_eq_true rfl) dX5_cable_1 ⟨Nat.le_of_ble_eq_true rfl, Nat.le_of_ble_eq_true rfl⟩ (fun r_1 w_1 H locs hw hP hD hS => ?_)
  obtain ⟨rfl, hr9⟩ := hw
  have hP := hP.sub (ws' := (pM g cI cB th n en le ro sn ar rt oh cn no ot cu lim fa wy lo ch bd)) [0, 1, 2, 3, 4, 5, 6, 7, 8, 9, 10, 11, 12, 13, 14] rfl
  have hD := hD.sub (ws' := (pM g cI cB th n en le ro sn ar rt oh cn no ot cu lim fa wy lo ch bd)) [0, 1, 2, 3, 4, 5, 6, 7, 8, 9, 10, 11, 12, 13, 14] (by decide) rfl
  rcases hr9 with ⟨hr9, g1⟩ | ⟨hr9, g1⟩
  · subst hr9
    refine nr_if_eq (x := 1) (tgt := 35) hx hb (by omega) dX5_cable_4 (by decide) (fun h => absurd h (by omega)) (fun _ => ?_)
    refine lv_iload_n hx hb dX5_cable_7 rfl (lv_at hl 2 rfl) ?_
    refine ct_Si (wc := ([] : va_W)) (wr := (pM g cI cB th n en le ro sn ar rt oh cn no ot cu lim fa wy lo ch bd)) (As := [.int x1]) (rest := []) ⟨hx, hb, hml, hown, hbw⟩ (EN_E D _) hEN (kX5_isNode l D cI cG cL cB x1) (gS 1 hbw m_555 m_556 m_23 m_557 rfl rfl (by decide +kernel) ⟨Nat.le_of_ble_eq_true rfl, Nat.le_of_ble_eq_true rfl⟩) hP hD hS hA [] [0, 1, 2, 3, 4, 5, 6, 7, 8, 9, 10, 11, 12, 13, 14] rfl rfl (by decide) (by decide) (by decide) rfl hl.1 rfl (Nat.le_of_ble_eq_true rfl) dX5_cable_8 ⟨Nat.le_of_ble_eq_true rfl, Nat.le_of_ble_eq_true rfl⟩ (fun r_2 w_2 H locs hw hP hD hS => ?_)
    obtain ⟨rfl, hr9⟩ := hw
    have hP := hP.sub (ws' := (pM g cI cB th n en le ro sn ar rt oh cn no ot cu lim fa wy lo ch bd)) [0, 1, 2, 3, 4, 5, 6, 7, 8, 9, 10, 11, 12, 13, 14] rfl
    have hD := hD.sub (ws' := (pM g cI cB th n en le ro sn ar rt oh cn no ot cu lim fa wy lo ch bd)) [0, 1, 2, 3, 4, 5, 6, 7, 8, 9, 10, 11, 12, 13, 14] (by decide) rfl
    rcases hr9 with ⟨hr9, g2⟩ | ⟨hr9, g2⟩
    · subst hr9
      refine nr_if_eq (x := 1) (tgt := 35) hx hb (by omega) dX5_cable_11 (by decide) (fun h => absurd h (by omega)) (fun _ => ?_)
      refine lv_iload_n hx hb dX5_cable_14 rfl (lv_at hl 1 rfl) ?_
      refine lv_iload_n hx hb dX5_cable_15 rfl (lv_at hl 2 rfl) ?_
      by_cases g3 : x0 = x1
      · refine lv_icmp_eq (tgt := 35) hx hb dX5_cable_16 (by decide) (fun _ => ?_) (fun h => absurd g3 h)
        refine lv_iconst (v := nI 0) hx hb dX5_cable_35 (by decide) ?_
        exact ct1 0 (Or.inr ⟨rfl, fun h => h.2.2.1 g3⟩) _ _ _ hP hD hS (lv_sub hl [0, 1, 2, 3] rfl)
      · refine lv_icmp_eq (tgt := 35) hx hb dX5_cable_16 (by decide) (fun h => absurd h g3) (fun _ => ?_)
        refine lv_iload_n hx hb dX5_cable_19 rfl (lv_at hl 3 rfl) ?_
        refine lv_i2l (v := (x2).toInt64) hx hb dX5_cable_20 rfl ?_
        refine lv_lconst (v := lN 1) hx hb dX5_cable_21 (by decide) ?_
        refine lv_ldc2 (v := lN 1000) hx hb hown (hbw _ m_562) dX5_cable_22 ?_
        refine ct_Si (wc := ([] : va_W)) (wr := (pM g cI cB th n en le ro sn ar rt oh cn no ot cu lim fa wy lo ch bd)) (As := [.long ((x2).toInt64), .long (lN 1), .long (lN 1000)]) (rest := []) ⟨hx, hb, hml, hown, hbw⟩ (EN_E D _) hEN (kX5_isIn l D cI cG cL cB x2 1 1000 (by omega) (by omega)) (gS 3 hbw m_559 m_560 m_23 m_561 rfl rfl (by decide +kernel) ⟨Nat.le_of_ble_eq_true rfl, Nat.le_of_ble_eq_true rfl⟩) hP hD hS hA [] [0, 1, 2, 3, 4, 5, 6, 7, 8, 9, 10, 11, 12, 13, 14] rfl rfl (by decide) (by decide) (by decide) rfl hl.1 rfl (Nat.le_of_ble_eq_true rfl) dX5_cable_25 ⟨Nat.le_of_ble_eq_true rfl, Nat.le_of_ble_eq_true rfl⟩ (fun r_3 w_3 H locs hw hP hD hS => ?_)
        obtain ⟨rfl, hr9⟩ := hw
        have hP := hP.sub (ws' := (pM g cI cB th n en le ro sn ar rt oh cn no ot cu lim fa wy lo ch bd)) [0, 1, 2, 3, 4, 5, 6, 7, 8, 9, 10, 11, 12, 13, 14] rfl
        have hD := hD.sub (ws' := (pM g cI cB th n en le ro sn ar rt oh cn no ot cu lim fa wy lo ch bd)) [0, 1, 2, 3, 4, 5, 6, 7, 8, 9, 10, 11, 12, 13, 14] (by decide) rfl
        rcases hr9 with ⟨hr9, g4⟩ | ⟨hr9, g4⟩
        · subst hr9
          refine nr_if_eq (x := 1) (tgt := 35) hx hb (by omega) dX5_cable_28 (by decide) (fun h => absurd h (by omega)) (fun _ => ?_)
          refine lv_iconst (v := nI 1) hx hb dX5_cable_31 (by decide) ?_
          refine lv_goto (tgt := 36) hx hb dX5_cable_32 (by decide) ?_
          exact ct1 1 (Or.inl ⟨rfl, g1, g2, g3, g4⟩) _ _ _ hP hD hS (lv_sub hl [0, 1, 2, 3] rfl)
        · subst hr9
          refine nr_if_eq (x := 0) (tgt := 35) hx hb (by omega) dX5_cable_28 (by decide) (fun _ => ?_) (fun h => absurd h (by omega))
          refine lv_iconst (v := nI 0) hx hb dX5_cable_35 (by decide) ?_
          exact ct1 0 (Or.inr ⟨rfl, fun h => g4 h.2.2.2⟩) _ _ _ hP hD hS (lv_sub hl [0, 1, 2, 3] rfl)
    · subst hr9
      refine nr_if_eq (x := 0) (tgt := 35) hx hb (by omega) dX5_cable_11 (by decide) (fun _ => ?_) (fun h => absurd h (by omega))
      refine lv_iconst (v := nI 0) hx hb dX5_cable_35 (by decide) ?_
      exact ct1 0 (Or.inr ⟨rfl, fun h => g2 h.2.1⟩) _ _ _ hP hD hS (lv_sub hl [0, 1, 2, 3] rfl)
  · subst hr9
    refine nr_if_eq (x := 0) (tgt := 35) hx hb (by omega) dX5_cable_4 (by decide) (fun _ => ?_) (fun h => absurd h (by omega))
    refine lv_iconst (v := nI 0) hx hb dX5_cable_35 (by decide) ?_
    exact ct1 0 (Or.inr ⟨rfl, fun h => g1 h.1⟩) _ _ _ hP hD hS (lv_sub hl [0, 1, 2, 3] rfl)
set_option maxHeartbeats 4000000 in
set_option maxRecDepth 100000 in
/-- X5_current -/
theorem kX5_current (l : Launch) (D : va_G) (cI cG cL cB : ClassId) (g : Nat → Nat) (th n : Nat) (en le ro : Nat → Nat) (sn : Nat) (ar rt oh : Nat → Nat) (cn : Nat) (no ot cu : Nat → Nat) (lim : Nat) (fa wy lo ch bd : Nat → Nat) (x0 x1 : Int32) (hn : n ≤ 15) (hsn : sn ≤ 6) (hcn : cn ≤ 20) : ct_i l yX5_current (.code yX5_current cX5_current 4 (some .int) :: bw) ({ frames := 1, cells := 0, slots := 0, locals := 25 }) (EN D (tyL cI cG cL cB)) D vwCl (pM g cI cB th n en le ro sn ar rt oh cn no ot cu lim fa wy lo ch bd) [.ref (g 0), .int x0, .int x1] (fun v W => (¬ ((∃ k, k < cn ∧ x0 = nI k) ∧ inB x1 1 1000) ∧ W = (pM g cI cB 1 n en le ro sn ar rt oh cn no ot cu lim fa wy lo ch bd)) ∨ (∃ k a, (k < cn ∧ x0 = nI k ∧ x1 = nI a ∧ 1 ≤ a ∧ a ≤ 1000) ∧ v = nI (cu k) ∧ W = (pM g cI cB 0 n en le ro sn ar rt oh cn no ot (nr_up cu k a) lim fa wy lo ch bd))) 0 0 := by
  refine ct_ofi (by decide) (Nat.le_of_ble_eq_true rfl) ?_
  intro p e s m below meth cd A H locs av Q ls hx hb hr hml hown hlocks hnm hbw hEN hQ hP hD hS hA hl
  have hown : s.vm.findClass RX5 = some m.cls := hown
  have hK := hEN.1
  have hl : lv_has ls 4 [(0, .ref (g 0)), (1, .int x0), (2, .int x1)] := hl
  refine lv_aload_n hx hb dX5_current_0 rfl (lv_at hl 0 rfl) ?_
  refine lv_aload_n hx hb dX5_current_1 rfl (lv_at hl 0 rfl) ?_
  refine lv_iload_n hx hb dX5_current_2 rfl (lv_at hl 1 rfl) ?_
  refine ct_Vi (wc := (pM g cI cB th n en le ro sn ar rt oh cn no ot cu lim fa wy lo ch bd)) (wr := ([] : va_W)) (As := [.int x0]) (rest := [.ref (g 0)]) ⟨hx, hb, hml, hown, hbw⟩ (EN_E D _) hEN (kX5_noCable l D cI cG cL cB g th n en le ro sn ar rt oh cn no ot cu lim fa wy lo ch bd x0 (by omega)) (cwV (C := "CableSizesModel") 1 hbw (gV m_575 m_577 m_5 m_23 m_578) rfl rfl rfl (by decide +kernel) ⟨Nat.le_of_ble_eq_true rfl, Nat.le_of_ble_eq_true rfl⟩) (va_recv hK hP (ci := 5) (q0 := 0) rfl rfl) hP hD hS hA [0, 1, 2, 3, 4, 5, 6, 7, 8, 9, 10, 11, 12, 13, 14] [] rfl rfl (by decide) (by decide) (by decide) rfl hl.1 rfl (Nat.le_of_ble_eq_true rfl) dX5_current_3 ⟨Nat.le_of_ble_eq_true rfl, Nat.le_of_ble_eq_true rfl⟩ (fun r_1 w_1 H locs hw hP hD hS => ?_)
  obtain ⟨rfl, hr9⟩ := hw
  have hP := hP.sub (ws' := (pM g cI cB th n en le ro sn ar rt oh cn no ot cu lim fa wy lo ch bd)) [0, 1, 2, 3, 4, 5, 6, 7, 8, 9, 10, 11, 12, 13, 14] rfl
  have hD := hD.sub (ws' := (pM g cI cB th n en le ro sn ar rt oh cn no ot cu lim fa wy lo ch bd)) [0, 1, 2, 3, 4, 5, 6, 7, 8, 9, 10, 11, 12, 13, 14] (by decide) rfl
  rcases hr9 with ⟨hr9, g1⟩ | ⟨hr9, g1⟩
  · subst hr9
    refine nr_if_ne (x := 1) (tgt := 21) hx hb (by omega) dX5_current_6 (by decide) (fun _ => ?_) (fun h => absurd h (by omega))
    refine lv_iconst (v := nI 1) hx hb dX5_current_21 (by decide) ?_
    refine lv_goto (tgt := 26) hx hb dX5_current_22 (by decide) ?_
    refine va_put (ci := 5) (v := .int (nI 1)) (ty := .int) (C := RX5) (T := TX5) (N := 19) hx hb hbw in_X5 tyX5 tyX5_ok nmX5 hown hK hP hD hS 0 rfl rfl 0 (by decide) (hbw _ m_488) (fun _ h9 => h9) rfl (by decide +kernel) rfl rfl (Nat.le_of_ble_eq_true rfl) dX5_current_26 (fun H locs hP hD hS => ?_)
    have hP : va_P D vwCl (pM g cI cB 1 n en le ro sn ar rt oh cn no ot cu lim fa wy lo ch bd) H := hP
    have hD : va_D A (pM g cI cB 1 n en le ro sn ar rt oh cn no ot cu lim fa wy lo ch bd) := hD
    refine lv_aload_n hx hb dX5_current_29 rfl (lv_at hl 0 rfl) ?_
    refine va_get (ci := 5) (v := .int (nI 1)) (C := RX5) (T := TX5) (N := 19) hx hb hbw in_X5 hown hK hP 0 rfl rfl 0 (by decide) (hbw _ m_488) (fun _ h9 => h9) rfl dX5_current_30 ?_
    refine lv_if_le (tgt := 38) hx hb dX5_current_33 (by decide) (fun h => absurd h (by decide)) (fun _ => ?_)
    refine lv_iconst (v := nI 0) hx hb dX5_current_36 (by decide) ?_
    rw [hQ]
    exact ct_iret hx hb hr hlocks hP hD hS dX5_current_37 (Or.inl ⟨fun h => g1 h.1, rfl⟩)
  · subst hr9
    refine nr_if_ne (x := 0) (tgt := 21) hx hb (by omega) dX5_current_6 (by decide) (fun h => absurd h (by omega)) (fun _ => ?_)
    refine lv_iload_n hx hb dX5_current_9 rfl (lv_at hl 2 rfl) ?_
    refine lv_i2l (v := (x1).toInt64) hx hb dX5_current_10 rfl ?_
    refine lv_lconst (v := lN 1) hx hb dX5_current_11 (by decide) ?_
    refine lv_ldc2 (v := lN 1000) hx hb hown (hbw _ m_562) dX5_current_12 ?_
    refine ct_Si (wc := ([] : va_W)) (wr := (pM g cI cB th n en le ro sn ar rt oh cn no ot cu lim fa wy lo ch bd)) (As := [.long ((x1).toInt64), .long (lN 1), .long (lN 1000)]) (rest := [.ref (g 0)]) ⟨hx, hb, hml, hown, hbw⟩ (EN_E D _) hEN (kX5_isIn l D cI cG cL cB x1 1 1000 (by omega) (by omega)) (gS 3 hbw m_559 m_560 m_23 m_561 rfl rfl (by decide +kernel) ⟨Nat.le_of_ble_eq_true rfl, Nat.le_of_ble_eq_true rfl⟩) hP hD hS hA [] [0, 1, 2, 3, 4, 5, 6, 7, 8, 9, 10, 11, 12, 13, 14] rfl rfl (by decide) (by decide) (by decide) rfl hl.1 rfl (Nat.le_of_ble_eq_true rfl) dX5_current_15 ⟨Nat.le_of_ble_eq_true rfl, Nat.le_of_ble_eq_true rfl⟩ (fun r_2 w_2 H locs hw hP hD hS => ?_)
    obtain ⟨rfl, hr9⟩ := hw
    have hP := hP.sub (ws' := (pM g cI cB th n en le ro sn ar rt oh cn no ot cu lim fa wy lo ch bd)) [0, 1, 2, 3, 4, 5, 6, 7, 8, 9, 10, 11, 12, 13, 14] rfl
    have hD := hD.sub (ws' := (pM g cI cB th n en le ro sn ar rt oh cn no ot cu lim fa wy lo ch bd)) [0, 1, 2, 3, 4, 5, 6, 7, 8, 9, 10, 11, 12, 13, 14] (by decide) rfl
    rcases hr9 with ⟨hr9, g2⟩ | ⟨hr9, g2⟩
    · subst hr9
      refine nr_if_ne (x := 1) (tgt := 25) hx hb (by omega) dX5_current_18 (by decide) (fun _ => ?_) (fun h => absurd h (by omega))
      obtain ⟨k, hk, rfl⟩ := g1
      obtain ⟨a, rfl, ha1, ha2⟩ := g2
      refine lv_iconst (v := nI 0) hx hb dX5_current_25 (by decide) ?_
      refine va_put (ci := 5) (v := .int (nI 0)) (ty := .int) (C := RX5) (T := TX5) (N := 19) hx hb hbw in_X5 tyX5 tyX5_ok nmX5 hown hK hP hD hS 0 rfl rfl 0 (by decide) (hbw _ m_488) (fun _ h9 => h9) rfl (by decide +kernel) rfl rfl (Nat.le_of_ble_eq_true rfl) dX5_current_26 (fun H locs hP hD hS => ?_)
      have hP : va_P D vwCl (pM g cI cB 0 n en le ro sn ar rt oh cn no ot cu lim fa wy lo ch bd) H := hP
      have hD : va_D A (pM g cI cB 0 n en le ro sn ar rt oh cn no ot cu lim fa wy lo ch bd) := hD
      refine lv_aload_n hx hb dX5_current_29 rfl (lv_at hl 0 rfl) ?_
      refine va_get (ci := 5) (v := .int (nI 0)) (C := RX5) (T := TX5) (N := 19) hx hb hbw in_X5 hown hK hP 0 rfl rfl 0 (by decide) (hbw _ m_488) (fun _ h9 => h9) rfl dX5_current_30 ?_
      refine lv_if_le (tgt := 38) hx hb dX5_current_33 (by decide) (fun _ => ?_) (fun h => absurd h (by decide))
      refine lv_aload_n hx hb dX5_current_38 rfl (lv_at hl 0 rfl) ?_
      refine va_get (ci := 5) (v := .ref (g 9)) (C := RX5) (T := TX5) (N := 19) hx hb hbw in_X5 hown hK hP 0 rfl rfl 12 (by decide) (hbw _ m_500) (fun _ h9 => h9) rfl dX5_current_39 ?_
      refine lv_iload_n hx hb dX5_current_42 rfl (lv_at hl 1 rfl) ?_
      refine nr_iald hx hb hK hP 9 0 rfl rfl (k := k) (by omega) (by omega) dX5_current_43 ?_
      refine lv_istore_n (lv' := [(3, .int (nI (cu k))), (0, .ref (g 0)), (1, .int (nI k)), (2, .int (nI a))]) hx hb dX5_current_44 rfl hl (by decide) rfl (fun ls hl => ?_)
      refine lv_aload_n hx hb dX5_current_45 rfl (lv_at hl 1 rfl) ?_
      refine va_get (ci := 5) (v := .ref (g 9)) (C := RX5) (T := TX5) (N := 19) hx hb hbw in_X5 hown hK hP 0 rfl rfl 12 (by decide) (hbw _ m_500) (fun _ h9 => h9) rfl dX5_current_46 ?_
      refine lv_iload_n hx hb dX5_current_49 rfl (lv_at hl 2 rfl) ?_
      refine lv_iload_n hx hb dX5_current_50 rfl (lv_at hl 3 rfl) ?_
      refine nr_iast hx hb hK hP hD hS 9 0 rfl rfl (k := k) (v := a) (by omega) (by omega) dX5_current_51 (fun H locs hP hD hS => ?_)
      have hP : va_P D vwCl (pM g cI cB 0 n en le ro sn ar rt oh cn no ot (nr_up cu k a) lim fa wy lo ch bd) H := hP
      have hD : va_D A (pM g cI cB 0 n en le ro sn ar rt oh cn no ot (nr_up cu k a) lim fa wy lo ch bd) := hD
      refine lv_iload_n hx hb dX5_current_52 rfl (lv_at hl 0 rfl) ?_
      rw [hQ]
      exact ct_iret hx hb hr hlocks hP hD hS dX5_current_53 (Or.inr ⟨k, a, ⟨hk, rfl, rfl, ha1, ha2⟩, rfl, rfl⟩)
    · subst hr9
      refine nr_if_ne (x := 0) (tgt := 25) hx hb (by omega) dX5_current_18 (by decide) (fun h => absurd h (by omega)) (fun _ => ?_)
      refine lv_iconst (v := nI 1) hx hb dX5_current_21 (by decide) ?_
      refine lv_goto (tgt := 26) hx hb dX5_current_22 (by decide) ?_
      refine va_put (ci := 5) (v := .int (nI 1)) (ty := .int) (C := RX5) (T := TX5) (N := 19) hx hb hbw in_X5 tyX5 tyX5_ok nmX5 hown hK hP hD hS 0 rfl rfl 0 (by decide) (hbw _ m_488) (fun _ h9 => h9) rfl (by decide +kernel) rfl rfl (Nat.le_of_ble_eq_true rfl) dX5_current_26 (fun H locs hP hD hS => ?_)
      have hP : va_P D vwCl (pM g cI cB 1 n en le ro sn ar rt oh cn no ot cu lim fa wy lo ch bd) H := hP
      have hD : va_D A (pM g cI cB 1 n en le ro sn ar rt oh cn no ot cu lim fa wy lo ch bd) := hD
      refine lv_aload_n hx hb dX5_current_29 rfl (lv_at hl 0 rfl) ?_
      refine va_get (ci := 5) (v := .int (nI 1)) (C := RX5) (T := TX5) (N := 19) hx hb hbw in_X5 hown hK hP 0 rfl rfl 0 (by decide) (hbw _ m_488) (fun _ h9 => h9) rfl dX5_current_30 ?_
      refine lv_if_le (tgt := 38) hx hb dX5_current_33 (by decide) (fun h => absurd h (by decide)) (fun _ => ?_)
      refine lv_iconst (v := nI 0) hx hb dX5_current_36 (by decide) ?_
      rw [hQ]
      exact ct_iret hx hb hr hlocks hP hD hS dX5_current_37 (Or.inl ⟨fun h => g2 h.2, rfl⟩)
set_option maxHeartbeats 4000000 in
set_option maxRecDepth 100000 in
/-- X5_room -/
theorem kX5_room (l : Launch) (D : va_G) (cI cG cL cB : ClassId) (g : Nat → Nat) (th n : Nat) (en le ro : Nat → Nat) (sn : Nat) (ar rt oh : Nat → Nat) (cn : Nat) (no ot cu : Nat → Nat) (lim : Nat) (fa wy lo ch bd : Nat → Nat) (x0 x1 : Int32) (hn : n ≤ 15) (hsn : sn ≤ 6) (hcn : cn ≤ 20) : ct_i l yX5_room (.code yX5_room cX5_room 4 (some .int) :: bw) ({ frames := 1, cells := 0, slots := 0, locals := 25 }) (EN D (tyL cI cG cL cB)) D vwCl (pM g cI cB th n en le ro sn ar rt oh cn no ot cu lim fa wy lo ch bd) [.ref (g 0), .int x0, .int x1] (fun v W => (¬ ((∃ k, k < n ∧ x0 = nI k) ∧ inB x1 1 1000) ∧ W = (pM g cI cB 1 n en le ro sn ar rt oh cn no ot cu lim fa wy lo ch bd)) ∨ (∃ k a, (k < n ∧ x0 = nI k ∧ x1 = nI a ∧ 1 ≤ a ∧ a ≤ 1000) ∧ v = nI (ro k) ∧ W = (pM g cI cB 0 n en le (nr_up ro k a) sn ar rt oh cn no ot cu lim fa wy lo ch bd))) 0 0 := by
  refine ct_ofi (by decide) (Nat.le_of_ble_eq_true rfl) ?_
  intro p e s m below meth cd A H locs av Q ls hx hb hr hml hown hlocks hnm hbw hEN hQ hP hD hS hA hl
  have hown : s.vm.findClass RX5 = some m.cls := hown
  have hK := hEN.1
  have hl : lv_has ls 4 [(0, .ref (g 0)), (1, .int x0), (2, .int x1)] := hl
  refine lv_aload_n hx hb dX5_room_0 rfl (lv_at hl 0 rfl) ?_
  refine lv_aload_n hx hb dX5_room_1 rfl (lv_at hl 0 rfl) ?_
  refine lv_iload_n hx hb dX5_room_2 rfl (lv_at hl 1 rfl) ?_
  refine ct_Vi (wc := (pM g cI cB th n en le ro sn ar rt oh cn no ot cu lim fa wy lo ch bd)) (wr := ([] : va_W)) (As := [.int x0]) (rest := [.ref (g 0)]) ⟨hx, hb, hml, hown, hbw⟩ (EN_E D _) hEN (kX5_noTray l D cI cG cL cB g th n en le ro sn ar rt oh cn no ot cu lim fa wy lo ch bd x0 (by omega)) (cwV (C := "CableSizesModel") 1 hbw (gV m_583 m_585 m_6 m_23 m_586) rfl rfl rfl (by decide +kernel) ⟨Nat.le_of_ble_eq_true rfl, Nat.le_of_ble_eq_true rfl⟩) (va_recv hK hP (ci := 5) (q0 := 0) rfl rfl) hP hD hS hA [0, 1, 2, 3, 4, 5, 6, 7, 8, 9, 10, 11, 12, 13, 14] [] rfl rfl (by decide) (by decide) (by decide) rfl hl.1 rfl (Nat.le_of_ble_eq_true rfl) dX5_room_3 ⟨Nat.le_of_ble_eq_true rfl, Nat.le_of_ble_eq_true rfl⟩ (fun r_1 w_1 H locs hw hP hD hS => ?_)
  obtain ⟨rfl, hr9⟩ := hw
  have hP := hP.sub (ws' := (pM g cI cB th n en le ro sn ar rt oh cn no ot cu lim fa wy lo ch bd)) [0, 1, 2, 3, 4, 5, 6, 7, 8, 9, 10, 11, 12, 13, 14] rfl
  have hD := hD.sub (ws' := (pM g cI cB th n en le ro sn ar rt oh cn no ot cu lim fa wy lo ch bd)) [0, 1, 2, 3, 4, 5, 6, 7, 8, 9, 10, 11, 12, 13, 14] (by decide) rfl
  rcases hr9 with ⟨hr9, g1⟩ | ⟨hr9, g1⟩
  · subst hr9
    refine nr_if_ne (x := 1) (tgt := 21) hx hb (by omega) dX5_room_6 (by decide) (fun _ => ?_) (fun h => absurd h (by omega))
    refine lv_iconst (v := nI 1) hx hb dX5_room_21 (by decide) ?_
    refine lv_goto (tgt := 26) hx hb dX5_room_22 (by decide) ?_
    refine va_put (ci := 5) (v := .int (nI 1)) (ty := .int) (C := RX5) (T := TX5) (N := 19) hx hb hbw in_X5 tyX5 tyX5_ok nmX5 hown hK hP hD hS 0 rfl rfl 0 (by decide) (hbw _ m_488) (fun _ h9 => h9) rfl (by decide +kernel) rfl rfl (Nat.le_of_ble_eq_true rfl) dX5_room_26 (fun H locs hP hD hS => ?_)
    have hP : va_P D vwCl (pM g cI cB 1 n en le ro sn ar rt oh cn no ot cu lim fa wy lo ch bd) H := hP
    have hD : va_D A (pM g cI cB 1 n en le ro sn ar rt oh cn no ot cu lim fa wy lo ch bd) := hD
    refine lv_aload_n hx hb dX5_room_29 rfl (lv_at hl 0 rfl) ?_
    refine va_get (ci := 5) (v := .int (nI 1)) (C := RX5) (T := TX5) (N := 19) hx hb hbw in_X5 hown hK hP 0 rfl rfl 0 (by decide) (hbw _ m_488) (fun _ h9 => h9) rfl dX5_room_30 ?_
    refine lv_if_le (tgt := 38) hx hb dX5_room_33 (by decide) (fun h => absurd h (by decide)) (fun _ => ?_)
    refine lv_iconst (v := nI 0) hx hb dX5_room_36 (by decide) ?_
    rw [hQ]
    exact ct_iret hx hb hr hlocks hP hD hS dX5_room_37 (Or.inl ⟨fun h => g1 h.1, rfl⟩)
  · subst hr9
    refine nr_if_ne (x := 0) (tgt := 21) hx hb (by omega) dX5_room_6 (by decide) (fun h => absurd h (by omega)) (fun _ => ?_)
    refine lv_iload_n hx hb dX5_room_9 rfl (lv_at hl 2 rfl) ?_
    refine lv_i2l (v := (x1).toInt64) hx hb dX5_room_10 rfl ?_
    refine lv_lconst (v := lN 1) hx hb dX5_room_11 (by decide) ?_
    refine lv_ldc2 (v := lN 1000) hx hb hown (hbw _ m_562) dX5_room_12 ?_
    refine ct_Si (wc := ([] : va_W)) (wr := (pM g cI cB th n en le ro sn ar rt oh cn no ot cu lim fa wy lo ch bd)) (As := [.long ((x1).toInt64), .long (lN 1), .long (lN 1000)]) (rest := [.ref (g 0)]) ⟨hx, hb, hml, hown, hbw⟩ (EN_E D _) hEN (kX5_isIn l D cI cG cL cB x1 1 1000 (by omega) (by omega)) (gS 3 hbw m_559 m_560 m_23 m_561 rfl rfl (by decide +kernel) ⟨Nat.le_of_ble_eq_true rfl, Nat.le_of_ble_eq_true rfl⟩) hP hD hS hA [] [0, 1, 2, 3, 4, 5, 6, 7, 8, 9, 10, 11, 12, 13, 14] rfl rfl (by decide) (by decide) (by decide) rfl hl.1 rfl (Nat.le_of_ble_eq_true rfl) dX5_room_15 ⟨Nat.le_of_ble_eq_true rfl, Nat.le_of_ble_eq_true rfl⟩ (fun r_2 w_2 H locs hw hP hD hS => ?_)
    obtain ⟨rfl, hr9⟩ := hw
    have hP := hP.sub (ws' := (pM g cI cB th n en le ro sn ar rt oh cn no ot cu lim fa wy lo ch bd)) [0, 1, 2, 3, 4, 5, 6, 7, 8, 9, 10, 11, 12, 13, 14] rfl
    have hD := hD.sub (ws' := (pM g cI cB th n en le ro sn ar rt oh cn no ot cu lim fa wy lo ch bd)) [0, 1, 2, 3, 4, 5, 6, 7, 8, 9, 10, 11, 12, 13, 14] (by decide) rfl
    rcases hr9 with ⟨hr9, g2⟩ | ⟨hr9, g2⟩
    · subst hr9
      refine nr_if_ne (x := 1) (tgt := 25) hx hb (by omega) dX5_room_18 (by decide) (fun _ => ?_) (fun h => absurd h (by omega))
      obtain ⟨k, hk, rfl⟩ := g1
      obtain ⟨a, rfl, ha1, ha2⟩ := g2
      refine lv_iconst (v := nI 0) hx hb dX5_room_25 (by decide) ?_
      refine va_put (ci := 5) (v := .int (nI 0)) (ty := .int) (C := RX5) (T := TX5) (N := 19) hx hb hbw in_X5 tyX5 tyX5_ok nmX5 hown hK hP hD hS 0 rfl rfl 0 (by decide) (hbw _ m_488) (fun _ h9 => h9) rfl (by decide +kernel) rfl rfl (Nat.le_of_ble_eq_true rfl) dX5_room_26 (fun H locs hP hD hS => ?_)
      have hP : va_P D vwCl (pM g cI cB 0 n en le ro sn ar rt oh cn no ot cu lim fa wy lo ch bd) H := hP
      have hD : va_D A (pM g cI cB 0 n en le ro sn ar rt oh cn no ot cu lim fa wy lo ch bd) := hD
      refine lv_aload_n hx hb dX5_room_29 rfl (lv_at hl 0 rfl) ?_
      refine va_get (ci := 5) (v := .int (nI 0)) (C := RX5) (T := TX5) (N := 19) hx hb hbw in_X5 hown hK hP 0 rfl rfl 0 (by decide) (hbw _ m_488) (fun _ h9 => h9) rfl dX5_room_30 ?_
      refine lv_if_le (tgt := 38) hx hb dX5_room_33 (by decide) (fun _ => ?_) (fun h => absurd h (by decide))
      refine lv_aload_n hx hb dX5_room_38 rfl (lv_at hl 0 rfl) ?_
      refine va_get (ci := 5) (v := .ref (g 3)) (C := RX5) (T := TX5) (N := 19) hx hb hbw in_X5 hown hK hP 0 rfl rfl 4 (by decide) (hbw _ m_492) (fun _ h9 => h9) rfl dX5_room_39 ?_
      refine lv_iload_n hx hb dX5_room_42 rfl (lv_at hl 1 rfl) ?_
      refine nr_iald hx hb hK hP 3 0 rfl rfl (k := k) (by omega) (by omega) dX5_room_43 ?_
      refine lv_istore_n (lv' := [(3, .int (nI (ro k))), (0, .ref (g 0)), (1, .int (nI k)), (2, .int (nI a))]) hx hb dX5_room_44 rfl hl (by decide) rfl (fun ls hl => ?_)
      refine lv_aload_n hx hb dX5_room_45 rfl (lv_at hl 1 rfl) ?_
      refine va_get (ci := 5) (v := .ref (g 3)) (C := RX5) (T := TX5) (N := 19) hx hb hbw in_X5 hown hK hP 0 rfl rfl 4 (by decide) (hbw _ m_492) (fun _ h9 => h9) rfl dX5_room_46 ?_
      refine lv_iload_n hx hb dX5_room_49 rfl (lv_at hl 2 rfl) ?_
      refine lv_iload_n hx hb dX5_room_50 rfl (lv_at hl 3 rfl) ?_
      refine nr_iast hx hb hK hP hD hS 3 0 rfl rfl (k := k) (v := a) (by omega) (by omega) dX5_room_51 (fun H locs hP hD hS => ?_)
      have hP : va_P D vwCl (pM g cI cB 0 n en le (nr_up ro k a) sn ar rt oh cn no ot cu lim fa wy lo ch bd) H := hP
      have hD : va_D A (pM g cI cB 0 n en le (nr_up ro k a) sn ar rt oh cn no ot cu lim fa wy lo ch bd) := hD
      refine lv_iload_n hx hb dX5_room_52 rfl (lv_at hl 0 rfl) ?_
      rw [hQ]
      exact ct_iret hx hb hr hlocks hP hD hS dX5_room_53 (Or.inr ⟨k, a, ⟨hk, rfl, rfl, ha1, ha2⟩, rfl, rfl⟩)
    · subst hr9
      refine nr_if_ne (x := 0) (tgt := 25) hx hb (by omega) dX5_room_18 (by decide) (fun h => absurd h (by omega)) (fun _ => ?_)
      refine lv_iconst (v := nI 1) hx hb dX5_room_21 (by decide) ?_
      refine lv_goto (tgt := 26) hx hb dX5_room_22 (by decide) ?_
      refine va_put (ci := 5) (v := .int (nI 1)) (ty := .int) (C := RX5) (T := TX5) (N := 19) hx hb hbw in_X5 tyX5 tyX5_ok nmX5 hown hK hP hD hS 0 rfl rfl 0 (by decide) (hbw _ m_488) (fun _ h9 => h9) rfl (by decide +kernel) rfl rfl (Nat.le_of_ble_eq_true rfl) dX5_room_26 (fun H locs hP hD hS => ?_)
      have hP : va_P D vwCl (pM g cI cB 1 n en le ro sn ar rt oh cn no ot cu lim fa wy lo ch bd) H := hP
      have hD : va_D A (pM g cI cB 1 n en le ro sn ar rt oh cn no ot cu lim fa wy lo ch bd) := hD
      refine lv_aload_n hx hb dX5_room_29 rfl (lv_at hl 0 rfl) ?_
      refine va_get (ci := 5) (v := .int (nI 1)) (C := RX5) (T := TX5) (N := 19) hx hb hbw in_X5 hown hK hP 0 rfl rfl 0 (by decide) (hbw _ m_488) (fun _ h9 => h9) rfl dX5_room_30 ?_
      refine lv_if_le (tgt := 38) hx hb dX5_room_33 (by decide) (fun h => absurd h (by decide)) (fun _ => ?_)
      refine lv_iconst (v := nI 0) hx hb dX5_room_36 (by decide) ?_
      rw [hQ]
      exact ct_iret hx hb hr hlocks hP hD hS dX5_room_37 (Or.inl ⟨fun h => g2 h.2, rfl⟩)
set_option maxHeartbeats 4000000 in
set_option maxRecDepth 100000 in
/-- limit -/
theorem kX5_limit (l : Launch) (D : va_G) (cI cG cL cB : ClassId) (g : Nat → Nat) (th n : Nat) (en le ro : Nat → Nat) (sn : Nat) (ar rt oh : Nat → Nat) (cn : Nat) (no ot cu : Nat → Nat) (lim : Nat) (fa wy lo ch bd : Nat → Nat) (x0 : Int32) : ct_i l yX5_limit (.code yX5_limit cX5_limit 3 (some .int) :: bw) ({ frames := 1, cells := 0, slots := 0, locals := 25 }) (EN D (tyL cI cG cL cB)) D vwCl (pM g cI cB th n en le ro sn ar rt oh cn no ot cu lim fa wy lo ch bd) [.ref (g 0), .int x0] (fun v W => (¬ inB x0 0 1000000 ∧ W = (pM g cI cB 1 n en le ro sn ar rt oh cn no ot cu lim fa wy lo ch bd)) ∨ (∃ a, (x0 = nI a ∧ a ≤ 1000000) ∧ v = nI lim ∧ W = (pM g cI cB 0 n en le ro sn ar rt oh cn no ot cu a fa wy lo ch bd))) 0 0 := by
  refine ct_ofi (by decide) (Nat.le_of_ble_eq_true rfl) ?_
  intro p e s m below meth cd A H locs av Q ls hx hb hr hml hown hlocks hnm hbw hEN hQ hP hD hS hA hl
  have hown : s.vm.findClass RX5 = some m.cls := hown
  have hK := hEN.1
  have hl : lv_has ls 3 [(0, .ref (g 0)), (1, .int x0)] := hl
  refine lv_aload_n hx hb dX5_limit_0 rfl (lv_at hl 0 rfl) ?_
  refine lv_iload_n hx hb dX5_limit_1 rfl (lv_at hl 1 rfl) ?_
  refine lv_i2l (v := (x0).toInt64) hx hb dX5_limit_2 rfl ?_
  refine lv_lconst (v := lN 0) hx hb dX5_limit_3 (by decide) ?_
  refine lv_ldc2 (v := lN 1000000) hx hb hown (hbw _ m_591) dX5_limit_4 ?_
  refine ct_Si (wc := ([] : va_W)) (wr := (pM g cI cB th n en le ro sn ar rt oh cn no ot cu lim fa wy lo ch bd)) (As := [.long ((x0).toInt64), .long (lN 0), .long (lN 1000000)]) (rest := [.ref (g 0)]) ⟨hx, hb, hml, hown, hbw⟩ (EN_E D _) hEN (kX5_isIn l D cI cG cL cB x0 0 1000000 (by omega) (by omega)) (gS 3 hbw m_559 m_560 m_23 m_561 rfl rfl (by decide +kernel) ⟨Nat.le_of_ble_eq_true rfl, Nat.le_of_ble_eq_true rfl⟩) hP hD hS hA [] [0, 1, 2, 3, 4, 5, 6, 7, 8, 9, 10, 11, 12, 13, 14] rfl rfl (by decide) (by decide) (by decide) rfl hl.1 rfl (Nat.le_of_ble_eq_true rfl) dX5_limit_7 ⟨Nat.le_of_ble_eq_true rfl, Nat.le_of_ble_eq_true rfl⟩ (fun r_1 w_1 H locs hw hP hD hS => ?_)
  obtain ⟨rfl, hr9⟩ := hw
  have hP := hP.sub (ws' := (pM g cI cB th n en le ro sn ar rt oh cn no ot cu lim fa wy lo ch bd)) [0, 1, 2, 3, 4, 5, 6, 7, 8, 9, 10, 11, 12, 13, 14] rfl
  have hD := hD.sub (ws' := (pM g cI cB th n en le ro sn ar rt oh cn no ot cu lim fa wy lo ch bd)) [0, 1, 2, 3, 4, 5, 6, 7, 8, 9, 10, 11, 12, 13, 14] (by decide) rfl
  rcases hr9 with ⟨hr9, g1⟩ | ⟨hr9, g1⟩
  · subst hr9
    refine nr_if_eq (x := 1) (tgt := 17) hx hb (by omega) dX5_limit_10 (by decide) (fun h => absurd h (by omega)) (fun _ => ?_)
    obtain ⟨a, rfl, -, ha2⟩ := g1
    refine lv_iconst (v := nI 0) hx hb dX5_limit_13 (by decide) ?_
    refine lv_goto (tgt := 18) hx hb dX5_limit_14 (by decide) ?_
    refine va_put (ci := 5) (v := .int (nI 0)) (ty := .int) (C := RX5) (T := TX5) (N := 19) hx hb hbw in_X5 tyX5 tyX5_ok nmX5 hown hK hP hD hS 0 rfl rfl 0 (by decide) (hbw _ m_488) (fun _ h9 => h9) rfl (by decide +kernel) rfl rfl (Nat.le_of_ble_eq_true rfl) dX5_limit_18 (fun H locs hP hD hS => ?_)
    have hP : va_P D vwCl (pM g cI cB 0 n en le ro sn ar rt oh cn no ot cu lim fa wy lo ch bd) H := hP
    have hD : va_D A (pM g cI cB 0 n en le ro sn ar rt oh cn no ot cu lim fa wy lo ch bd) := hD
    refine lv_aload_n hx hb dX5_limit_21 rfl (lv_at hl 0 rfl) ?_
    refine va_get (ci := 5) (v := .int (nI 0)) (C := RX5) (T := TX5) (N := 19) hx hb hbw in_X5 hown hK hP 0 rfl rfl 0 (by decide) (hbw _ m_488) (fun _ h9 => h9) rfl dX5_limit_22 ?_
    refine lv_if_le (tgt := 30) hx hb dX5_limit_25 (by decide) (fun _ => ?_) (fun h => absurd h (by decide))
    refine lv_aload_n hx hb dX5_limit_30 rfl (lv_at hl 0 rfl) ?_
    refine va_get (ci := 5) (v := .int (nI lim)) (C := RX5) (T := TX5) (N := 19) hx hb hbw in_X5 hown hK hP 0 rfl rfl 13 (by decide) (hbw _ m_501) (fun _ h9 => h9) rfl dX5_limit_31 ?_
    refine lv_istore_n (lv' := [(2, .int (nI lim)), (0, .ref (g 0)), (1, .int (nI a))]) hx hb dX5_limit_34 rfl hl (by decide) rfl (fun ls hl => ?_)
    refine lv_aload_n hx hb dX5_limit_35 rfl (lv_at hl 1 rfl) ?_
    refine lv_iload_n hx hb dX5_limit_36 rfl (lv_at hl 2 rfl) ?_
    refine va_put (ci := 5) (v := .int (nI a)) (ty := .int) (C := RX5) (T := TX5) (N := 19) hx hb hbw in_X5 tyX5 tyX5_ok nmX5 hown hK hP hD hS 0 rfl rfl 13 (by decide) (hbw _ m_501) (fun _ h9 => h9) rfl (by decide +kernel) rfl rfl (Nat.le_of_ble_eq_true rfl) dX5_limit_37 (fun H locs hP hD hS => ?_)
    have hP : va_P D vwCl (pM g cI cB 0 n en le ro sn ar rt oh cn no ot cu a fa wy lo ch bd) H := hP
    have hD : va_D A (pM g cI cB 0 n en le ro sn ar rt oh cn no ot cu a fa wy lo ch bd) := hD
    refine lv_iload_n hx hb dX5_limit_40 rfl (lv_at hl 0 rfl) ?_
    rw [hQ]
    exact ct_iret hx hb hr hlocks hP hD hS dX5_limit_41 (Or.inr ⟨a, ⟨rfl, ha2⟩, rfl, rfl⟩)
  · subst hr9
    refine nr_if_eq (x := 0) (tgt := 17) hx hb (by omega) dX5_limit_10 (by decide) (fun _ => ?_) (fun h => absurd h (by omega))
    refine lv_iconst (v := nI 1) hx hb dX5_limit_17 (by decide) ?_
    refine va_put (ci := 5) (v := .int (nI 1)) (ty := .int) (C := RX5) (T := TX5) (N := 19) hx hb hbw in_X5 tyX5 tyX5_ok nmX5 hown hK hP hD hS 0 rfl rfl 0 (by decide) (hbw _ m_488) (fun _ h9 => h9) rfl (by decide +kernel) rfl rfl (Nat.le_of_ble_eq_true rfl) dX5_limit_18 (fun H locs hP hD hS => ?_)
    have hP : va_P D vwCl (pM g cI cB 1 n en le ro sn ar rt oh cn no ot cu lim fa wy lo ch bd) H := hP
    have hD : va_D A (pM g cI cB 1 n en le ro sn ar rt oh cn no ot cu lim fa wy lo ch bd) := hD
    refine lv_aload_n hx hb dX5_limit_21 rfl (lv_at hl 0 rfl) ?_
    refine va_get (ci := 5) (v := .int (nI 1)) (C := RX5) (T := TX5) (N := 19) hx hb hbw in_X5 hown hK hP 0 rfl rfl 0 (by decide) (hbw _ m_488) (fun _ h9 => h9) rfl dX5_limit_22 ?_
    refine lv_if_le (tgt := 30) hx hb dX5_limit_25 (by decide) (fun h => absurd h (by decide)) (fun _ => ?_)
    refine lv_iconst (v := nI 0) hx hb dX5_limit_28 (by decide) ?_
    rw [hQ]
    exact ct_iret hx hb hr hlocks hP hD hS dX5_limit_29 (Or.inl ⟨g1, rfl⟩)
set_option maxHeartbeats 4000000 in
set_option maxRecDepth 100000 in
/-- way -/
theorem kX5_way (l : Launch) (D : va_G) (cI cG cL cB : ClassId) (g : Nat → Nat) (th n : Nat) (en le ro : Nat → Nat) (sn : Nat) (ar rt oh : Nat → Nat) (cn : Nat) (no ot cu : Nat → Nat) (lim : Nat) (fa wy lo ch bd : Nat → Nat) (wc wl : Nat → Nat) (wt : Nat → Nat → Nat) (x0 : Int32) (hok : cw_ok n (fun t => en (2 * t)) (fun t => en (2 * t + 1)) le) (hen : ∀ j, en j < 10) (hl0 : ∀ j, le j ≤ 100) (hno : ∀ j, no j < 10) (hot : ∀ j, ot j < 10) (hne : ∀ c, c < cn → no c ≠ ot c) (hW : ∀ c, c < cn → cw_W n (fun t => en (2 * t)) (fun t => en (2 * t + 1)) le (no c) (ot c) (wc c) (wt c) (wl c)) (hz : okZ sn ar rt oh cn cu wc wl wt) (hy : okY n ro cn wc wt) (hch : ∀ j, ch j < 6) (hlim : lim ≤ 1000000) : ct_i l yX5_way (.code yX5_way cX5_way 2 (some .int) :: bw) ({ frames := 2, cells := 0, slots := 0, locals := 49 }) (EN D (tyL cI cG cL cB)) D vwCl (pM g cI cB th n en le ro sn ar rt oh cn no ot cu lim fa wy lo ch bd) [.ref (g 0), .int x0] (fun v W => ((¬ ∃ k, k < cn ∧ x0 = nI k) ∧ W = (pM g cI cB 1 n en le ro sn ar rt oh cn no ot cu lim fa wy lo ch bd)) ∨ (∃ k, (k < cn ∧ x0 = nI k) ∧ v = mI (if wc k = 0 then 0 else wl k + 1) ∧ ∃ fa' wy' lo', W = (pM g cI cB 0 n en le ro sn ar rt oh cn no ot cu lim fa' wy' lo' ch bd))) 0 0 := by
  refine ct_ofi (by decide) (Nat.le_of_ble_eq_true rfl) ?_
  intro p e s m below meth cd A H locs av Q ls hx hb hr hml hown hlocks hnm hbw hEN hQ hP hD hS hA hl
  have hown : s.vm.findClass RX5 = some m.cls := hown
  have hK := hEN.1
  have hl : lv_has ls 2 [(0, .ref (g 0)), (1, .int x0)] := hl
  obtain ⟨hsn, har, hrt, hoh, hcn, hcu, hwc, hwl, hwt⟩ := id hz
  obtain ⟨hn, hro, hro1, hway, hnd⟩ := id hy
  refine lv_aload_n hx hb dX5_way_0 rfl (lv_at hl 0 rfl) ?_
  refine lv_aload_n hx hb dX5_way_1 rfl (lv_at hl 0 rfl) ?_
  refine lv_iload_n hx hb dX5_way_2 rfl (lv_at hl 1 rfl) ?_
  refine ct_Vi (wc := (pM g cI cB th n en le ro sn ar rt oh cn no ot cu lim fa wy lo ch bd)) (wr := ([] : va_W)) (As := [.int x0]) (rest := [.ref (g 0)]) ⟨hx, hb, hml, hown, hbw⟩ (EN_E D _) hEN (kX5_noCable l D cI cG cL cB g th n en le ro sn ar rt oh cn no ot cu lim fa wy lo ch bd x0 (by omega)) (cwV (C := "CableSizesModel") 1 hbw (gV m_575 m_577 m_5 m_23 m_578) rfl rfl rfl (by decide +kernel) ⟨Nat.le_of_ble_eq_true rfl, Nat.le_of_ble_eq_true rfl⟩) (va_recv hK hP (ci := 5) (q0 := 0) rfl rfl) hP hD hS hA [0, 1, 2, 3, 4, 5, 6, 7, 8, 9, 10, 11, 12, 13, 14] [] rfl rfl (by decide) (by decide) (by decide) rfl hl.1 rfl (Nat.le_of_ble_eq_true rfl) dX5_way_3 ⟨Nat.le_of_ble_eq_true rfl, Nat.le_of_ble_eq_true rfl⟩ (fun r_1 w_1 H locs hw hP hD hS => ?_)
  obtain ⟨rfl, hr9⟩ := hw
  have hP := hP.sub (ws' := (pM g cI cB th n en le ro sn ar rt oh cn no ot cu lim fa wy lo ch bd)) [0, 1, 2, 3, 4, 5, 6, 7, 8, 9, 10, 11, 12, 13, 14] rfl
  have hD := hD.sub (ws' := (pM g cI cB th n en le ro sn ar rt oh cn no ot cu lim fa wy lo ch bd)) [0, 1, 2, 3, 4, 5, 6, 7, 8, 9, 10, 11, 12, 13, 14] (by decide) rfl
  rcases hr9 with ⟨hr9, g1⟩ | ⟨hr9, g1⟩
  · subst hr9
    refine nr_if_eq (x := 1) (tgt := 13) hx hb (by omega) dX5_way_6 (by decide) (fun h => absurd h (by omega)) (fun _ => ?_)
    refine lv_iconst (v := nI 1) hx hb dX5_way_9 (by decide) ?_
    refine lv_goto (tgt := 14) hx hb dX5_way_10 (by decide) ?_
    refine va_put (ci := 5) (v := .int (nI 1)) (ty := .int) (C := RX5) (T := TX5) (N := 19) hx hb hbw in_X5 tyX5 tyX5_ok nmX5 hown hK hP hD hS 0 rfl rfl 0 (by decide) (hbw _ m_488) (fun _ h9 => h9) rfl (by decide +kernel) rfl rfl (Nat.le_of_ble_eq_true rfl) dX5_way_14 (fun H locs hP hD hS => ?_)
    have hP : va_P D vwCl (pM g cI cB 1 n en le ro sn ar rt oh cn no ot cu lim fa wy lo ch bd) H := hP
    have hD : va_D A (pM g cI cB 1 n en le ro sn ar rt oh cn no ot cu lim fa wy lo ch bd) := hD
    refine lv_aload_n hx hb dX5_way_17 rfl (lv_at hl 0 rfl) ?_
    refine va_get (ci := 5) (v := .int (nI 1)) (C := RX5) (T := TX5) (N := 19) hx hb hbw in_X5 hown hK hP 0 rfl rfl 0 (by decide) (hbw _ m_488) (fun _ h9 => h9) rfl dX5_way_18 ?_
    refine lv_if_le (tgt := 26) hx hb dX5_way_21 (by decide) (fun h => absurd h (by decide)) (fun _ => ?_)
    refine lv_iconst (v := nI 0) hx hb dX5_way_24 (by decide) ?_
    rw [hQ]
    exact ct_iret hx hb hr hlocks hP hD hS dX5_way_25 (Or.inl ⟨g1, rfl⟩)
  · subst hr9
    refine nr_if_eq (x := 0) (tgt := 13) hx hb (by omega) dX5_way_6 (by decide) (fun _ => ?_) (fun h => absurd h (by omega))
    obtain ⟨k, hk, rfl⟩ := g1
    refine lv_iconst (v := nI 0) hx hb dX5_way_13 (by decide) ?_
    refine va_put (ci := 5) (v := .int (nI 0)) (ty := .int) (C := RX5) (T := TX5) (N := 19) hx hb hbw in_X5 tyX5 tyX5_ok nmX5 hown hK hP hD hS 0 rfl rfl 0 (by decide) (hbw _ m_488) (fun _ h9 => h9) rfl (by decide +kernel) rfl rfl (Nat.le_of_ble_eq_true rfl) dX5_way_14 (fun H locs hP hD hS => ?_)
    have hP : va_P D vwCl (pM g cI cB 0 n en le ro sn ar rt oh cn no ot cu lim fa wy lo ch bd) H := hP
    have hD : va_D A (pM g cI cB 0 n en le ro sn ar rt oh cn no ot cu lim fa wy lo ch bd) := hD
    refine lv_aload_n hx hb dX5_way_17 rfl (lv_at hl 0 rfl) ?_
    refine va_get (ci := 5) (v := .int (nI 0)) (C := RX5) (T := TX5) (N := 19) hx hb hbw in_X5 hown hK hP 0 rfl rfl 0 (by decide) (hbw _ m_488) (fun _ h9 => h9) rfl dX5_way_18 ?_
    refine lv_if_le (tgt := 26) hx hb dX5_way_21 (by decide) (fun _ => ?_) (fun h => absurd h (by decide))
    refine lv_aload_n hx hb dX5_way_26 rfl (lv_at hl 0 rfl) ?_
    refine ct_Vv (wc := (pM g cI cB 0 n en le ro sn ar rt oh cn no ot cu lim fa wy lo ch bd)) (wr := ([] : va_W)) (As := []) (rest := []) ⟨hx, hb, hml, hown, hbw⟩ (EN_E D _) hEN (kX5_goAll l D cI cG cL cB g 0 n en le ro sn ar rt oh cn no ot cu lim fa wy lo ch bd wc wl wt hn hok hen hl0 hcn hno hot hwc hwt hwl hne hW) (cwV (C := "CableSizesModel") 0 hbw (gV m_596 m_598 m_7 m_23 m_599) rfl rfl rfl (by decide +kernel) ⟨Nat.le_of_ble_eq_true rfl, Nat.le_of_ble_eq_true rfl⟩) (va_recv hK hP (ci := 5) (q0 := 0) rfl rfl) hP hD hS hA [0, 1, 2, 3, 4, 5, 6, 7, 8, 9, 10, 11, 12, 13, 14] [] rfl rfl (by decide) (by decide) (by decide) rfl hl.1 rfl (Nat.le_of_ble_eq_true rfl) dX5_way_27 ⟨Nat.le_of_ble_eq_true rfl, Nat.le_of_ble_eq_true rfl⟩ (fun w_2 H locs hw hP hD hS => ?_)
    obtain ⟨fa, wy, lo, rfl, he⟩ := hw
    have hP := hP.sub (ws' := (pM g cI cB 0 n en le ro sn ar rt oh cn no ot cu lim fa wy lo ch bd)) [0, 1, 2, 3, 4, 5, 6, 7, 8, 9, 10, 11, 12, 13, 14] rfl
    have hD := hD.sub (ws' := (pM g cI cB 0 n en le ro sn ar rt oh cn no ot cu lim fa wy lo ch bd)) [0, 1, 2, 3, 4, 5, 6, 7, 8, 9, 10, 11, 12, 13, 14] (by decide) rfl
    obtain ⟨e1, e2, e3⟩ := he k hk
    refine lv_aload_n hx hb dX5_way_30 rfl (lv_at hl 0 rfl) ?_
    refine va_get (ci := 5) (v := .ref (g 12)) (C := RX5) (T := TX5) (N := 19) hx hb hbw in_X5 hown hK hP 0 rfl rfl 16 (by decide) (hbw _ m_504) (fun _ h9 => h9) rfl dX5_way_31 ?_
    refine lv_iload_n hx hb dX5_way_34 rfl (lv_at hl 1 rfl) ?_
    refine nr_mald hx hb hK hP 12 0 rfl rfl (k := k) (by omega) (by omega) dX5_way_35 ?_
    have e4 : lo k = if wc k = 0 then 0 else wl k + 1 := by
      rcases e3 with ⟨e3, e4, e5⟩ | ⟨e3, e4⟩
      · rw [if_pos e3]; exact e4
      · rw [if_neg (by omega)]; exact e4
    rw [hQ]
    exact ct_iret hx hb hr hlocks hP hD hS dX5_way_36 (Or.inr ⟨k, ⟨hk, rfl⟩, by rw [e4], fa, wy, lo, rfl⟩)
set_option maxHeartbeats 4000000 in
set_option maxRecDepth 100000 in
/-- way -/
theorem kX5_way2 (l : Launch) (D : va_G) (cI cG cL cB : ClassId) (g : Nat → Nat) (th n : Nat) (en le ro : Nat → Nat) (sn : Nat) (ar rt oh : Nat → Nat) (cn : Nat) (no ot cu : Nat → Nat) (lim : Nat) (fa wy lo ch bd : Nat → Nat) (wc wl : Nat → Nat) (wt : Nat → Nat → Nat) (x0 x1 : Int32) (hok : cw_ok n (fun t => en (2 * t)) (fun t => en (2 * t + 1)) le) (hen : ∀ j, en j < 10) (hl0 : ∀ j, le j ≤ 100) (hno : ∀ j, no j < 10) (hot : ∀ j, ot j < 10) (hne : ∀ c, c < cn → no c ≠ ot c) (hW : ∀ c, c < cn → cw_W n (fun t => en (2 * t)) (fun t => en (2 * t + 1)) le (no c) (ot c) (wc c) (wt c) (wl c)) (hz : okZ sn ar rt oh cn cu wc wl wt) (hy : okY n ro cn wc wt) (hch : ∀ j, ch j < 6) (hlim : lim ≤ 1000000) : ct_i l yX5_way2 (.code yX5_way2 cX5_way2 4 (some .int) :: bw) ({ frames := 2, cells := 0, slots := 0, locals := 49 }) (EN D (tyL cI cG cL cB)) D vwCl (pM g cI cB th n en le ro sn ar rt oh cn no ot cu lim fa wy lo ch bd) [.ref (g 0), .int x0, .int x1] (fun v W => (¬ ((∃ k, k < cn ∧ x0 = nI k) ∧ ¬ x1 < 0) ∧ W = (pM g cI cB 1 n en le ro sn ar rt oh cn no ot cu lim fa wy lo ch bd)) ∨ (∃ k j, (k < cn ∧ x0 = nI k ∧ x1 = nI j ∧ j < 2 ^ 31) ∧ v = (if j < wc k then nI (wt k j) else -1) ∧ ∃ fa' wy' lo', W = (pM g cI cB 0 n en le ro sn ar rt oh cn no ot cu lim fa' wy' lo' ch bd))) 0 0 := by
  refine ct_ofi (by decide) (Nat.le_of_ble_eq_true rfl) ?_
  intro p e s m below meth cd A H locs av Q ls hx hb hr hml hown hlocks hnm hbw hEN hQ hP hD hS hA hl
  have hown : s.vm.findClass RX5 = some m.cls := hown
  have hK := hEN.1
  have hl : lv_has ls 4 [(0, .ref (g 0)), (1, .int x0), (2, .int x1)] := hl
  obtain ⟨hsn, har, hrt, hoh, hcn, hcu, hwc, hwl, hwt⟩ := id hz
  obtain ⟨hn, hro, hro1, hway, hnd⟩ := id hy
  refine lv_aload_n hx hb dX5_way2_0 rfl (lv_at hl 0 rfl) ?_
  refine lv_aload_n hx hb dX5_way2_1 rfl (lv_at hl 0 rfl) ?_
  refine lv_iload_n hx hb dX5_way2_2 rfl (lv_at hl 1 rfl) ?_
  refine ct_Vi (wc := (pM g cI cB th n en le ro sn ar rt oh cn no ot cu lim fa wy lo ch bd)) (wr := ([] : va_W)) (As := [.int x0]) (rest := [.ref (g 0)]) ⟨hx, hb, hml, hown, hbw⟩ (EN_E D _) hEN (kX5_noCable l D cI cG cL cB g th n en le ro sn ar rt oh cn no ot cu lim fa wy lo ch bd x0 (by omega)) (cwV (C := "CableSizesModel") 1 hbw (gV m_575 m_577 m_5 m_23 m_578) rfl rfl rfl (by decide +kernel) ⟨Nat.le_of_ble_eq_true rfl, Nat.le_of_ble_eq_true rfl⟩) (va_recv hK hP (ci := 5) (q0 := 0) rfl rfl) hP hD hS hA [0, 1, 2, 3, 4, 5, 6, 7, 8, 9, 10, 11, 12, 13, 14] [] rfl rfl (by decide) (by decide) (by decide) rfl hl.1 rfl (Nat.le_of_ble_eq_true rfl) dX5_way2_3 ⟨Nat.le_of_ble_eq_true rfl, Nat.le_of_ble_eq_true rfl⟩ (fun r_1 w_1 H locs hw hP hD hS => ?_)
  obtain ⟨rfl, hr9⟩ := hw
  have hP := hP.sub (ws' := (pM g cI cB th n en le ro sn ar rt oh cn no ot cu lim fa wy lo ch bd)) [0, 1, 2, 3, 4, 5, 6, 7, 8, 9, 10, 11, 12, 13, 14] rfl
  have hD := hD.sub (ws' := (pM g cI cB th n en le ro sn ar rt oh cn no ot cu lim fa wy lo ch bd)) [0, 1, 2, 3, 4, 5, 6, 7, 8, 9, 10, 11, 12, 13, 14] (by decide) rfl
  rcases hr9 with ⟨hr9, g1⟩ | ⟨hr9, g1⟩
  · subst hr9
    refine nr_if_ne (x := 1) (tgt := 13) hx hb (by omega) dX5_way2_6 (by decide) (fun _ => ?_) (fun h => absurd h (by omega))
    refine lv_iconst (v := nI 1) hx hb dX5_way2_13 (by decide) ?_
    refine lv_goto (tgt := 18) hx hb dX5_way2_14 (by decide) ?_
    refine va_put (ci := 5) (v := .int (nI 1)) (ty := .int) (C := RX5) (T := TX5) (N := 19) hx hb hbw in_X5 tyX5 tyX5_ok nmX5 hown hK hP hD hS 0 rfl rfl 0 (by decide) (hbw _ m_488) (fun _ h9 => h9) rfl (by decide +kernel) rfl rfl (Nat.le_of_ble_eq_true rfl) dX5_way2_18 (fun H locs hP hD hS => ?_)
    have hP : va_P D vwCl (pM g cI cB 1 n en le ro sn ar rt oh cn no ot cu lim fa wy lo ch bd) H := hP
    have hD : va_D A (pM g cI cB 1 n en le ro sn ar rt oh cn no ot cu lim fa wy lo ch bd) := hD
    refine lv_aload_n hx hb dX5_way2_21 rfl (lv_at hl 0 rfl) ?_
    refine va_get (ci := 5) (v := .int (nI 1)) (C := RX5) (T := TX5) (N := 19) hx hb hbw in_X5 hown hK hP 0 rfl rfl 0 (by decide) (hbw _ m_488) (fun _ h9 => h9) rfl dX5_way2_22 ?_
    refine lv_if_le (tgt := 30) hx hb dX5_way2_25 (by decide) (fun h => absurd h (by decide)) (fun _ => ?_)
    refine lv_iconst (v := nI 0) hx hb dX5_way2_28 (by decide) ?_
    rw [hQ]
    exact ct_iret hx hb hr hlocks hP hD hS dX5_way2_29 (Or.inl ⟨fun h => g1 h.1, rfl⟩)
  · subst hr9
    refine nr_if_ne (x := 0) (tgt := 13) hx hb (by omega) dX5_way2_6 (by decide) (fun h => absurd h (by omega)) (fun _ => ?_)
    refine lv_iload_n hx hb dX5_way2_9 rfl (lv_at hl 2 rfl) ?_
    refine lv_if_ge (tgt := 17) hx hb dX5_way2_10 (by decide) (fun g2 => ?_) (fun g2 => ?_)
    · have g3 : ¬ x1 < 0 := Int32.not_lt.mpr g2
      obtain ⟨k, hk, rfl⟩ := g1
      obtain ⟨j, hj, rfl⟩ := nI_of g3
      refine lv_iconst (v := nI 0) hx hb dX5_way2_17 (by decide) ?_
      refine va_put (ci := 5) (v := .int (nI 0)) (ty := .int) (C := RX5) (T := TX5) (N := 19) hx hb hbw in_X5 tyX5 tyX5_ok nmX5 hown hK hP hD hS 0 rfl rfl 0 (by decide) (hbw _ m_488) (fun _ h9 => h9) rfl (by decide +kernel) rfl rfl (Nat.le_of_ble_eq_true rfl) dX5_way2_18 (fun H locs hP hD hS => ?_)
      have hP : va_P D vwCl (pM g cI cB 0 n en le ro sn ar rt oh cn no ot cu lim fa wy lo ch bd) H := hP
      have hD : va_D A (pM g cI cB 0 n en le ro sn ar rt oh cn no ot cu lim fa wy lo ch bd) := hD
      refine lv_aload_n hx hb dX5_way2_21 rfl (lv_at hl 0 rfl) ?_
      refine va_get (ci := 5) (v := .int (nI 0)) (C := RX5) (T := TX5) (N := 19) hx hb hbw in_X5 hown hK hP 0 rfl rfl 0 (by decide) (hbw _ m_488) (fun _ h9 => h9) rfl dX5_way2_22 ?_
      refine lv_if_le (tgt := 30) hx hb dX5_way2_25 (by decide) (fun _ => ?_) (fun h => absurd h (by decide))
      refine lv_aload_n hx hb dX5_way2_30 rfl (lv_at hl 0 rfl) ?_
      refine ct_Vv (wc := (pM g cI cB 0 n en le ro sn ar rt oh cn no ot cu lim fa wy lo ch bd)) (wr := ([] : va_W)) (As := []) (rest := []) ⟨hx, hb, hml, hown, hbw⟩ (EN_E D _) hEN (kX5_goAll l D cI cG cL cB g 0 n en le ro sn ar rt oh cn no ot cu lim fa wy lo ch bd wc wl wt hn hok hen hl0 hcn hno hot hwc hwt hwl hne hW) (cwV (C := "CableSizesModel") 0 hbw (gV m_596 m_598 m_7 m_23 m_599) rfl rfl rfl (by decide +kernel) ⟨Nat.le_of_ble_eq_true rfl, Nat.le_of_ble_eq_true rfl⟩) (va_recv hK hP (ci := 5) (q0 := 0) rfl rfl) hP hD hS hA [0, 1, 2, 3, 4, 5, 6, 7, 8, 9, 10, 11, 12, 13, 14] [] rfl rfl (by decide) (by decide) (by decide) rfl hl.1 rfl (Nat.le_of_ble_eq_true rfl) dX5_way2_31 ⟨Nat.le_of_ble_eq_true rfl, Nat.le_of_ble_eq_true rfl⟩ (fun w_2 H locs hw hP hD hS => ?_)
      obtain ⟨fa, wy, lo, rfl, he⟩ := hw
      have hP := hP.sub (ws' := (pM g cI cB 0 n en le ro sn ar rt oh cn no ot cu lim fa wy lo ch bd)) [0, 1, 2, 3, 4, 5, 6, 7, 8, 9, 10, 11, 12, 13, 14] rfl
      have hD := hD.sub (ws' := (pM g cI cB 0 n en le ro sn ar rt oh cn no ot cu lim fa wy lo ch bd)) [0, 1, 2, 3, 4, 5, 6, 7, 8, 9, 10, 11, 12, 13, 14] (by decide) rfl
      obtain ⟨e1, e2, e3⟩ := he k hk
      have b_w := hwc k
      refine lv_iconst (v := nI 0) hx hb dX5_way2_34 (by decide) ?_
      refine lv_istore_n (lv' := [(3, .int (nI 0)), (0, .ref (g 0)), (1, .int (nI k)), (2, .int (nI j))]) hx hb dX5_way2_35 rfl hl (by decide) rfl (fun ls hl => ?_)
      have lp : ∀ (kk i : Nat), (hkk : 9 < i + kk) → (hi : i ≤ wc k) → (hij : i ≤ j) → ∀ (H : Heap) (locs : List Loc) (ls : Array Slot), va_P D vwCl (pM g cI cB 0 n en le ro sn ar rt oh cn no ot cu lim fa wy lo ch bd) H → va_D A (pM g cI cB 0 n en le ro sn ar rt oh cn no ot cu lim fa wy lo ch bd) → va_S A s.heap H locs → lv_has ls 4 [(0, .ref (g 0)), (1, .int (nI k)), (2, .int (nI j)), (3, .int (nI i))] → W p l e ({ frames := 2, cells := 0, slots := 0, locals := 49 }) s m av below meth cd H locs 0 0 Q (F0 m 36 ls []) := by
        intro kk
        induction kk with
        | zero => intro i hkk hi hij; exact absurd hkk (by omega)
        | succ kk ih =>
          intro i hkk hi hij H locs ls hP hD hS hl
          by_cases hlt : i < wc k
          · have b_t := hwt k i
            refine lv_aload_n hx hb dX5_way2_36 rfl (lv_at hl 0 rfl) ?_
            refine va_get (ci := 5) (v := .ref (g 11)) (C := RX5) (T := TX5) (N := 19) hx hb hbw in_X5 hown hK hP 0 rfl rfl 15 (by decide) (hbw _ m_503) (fun _ h9 => h9) rfl dX5_way2_37 ?_
            refine lv_bipush (v := nI 16) hx hb dX5_way2_40 (by decide) ?_
            refine lv_iload_n hx hb dX5_way2_42 rfl (lv_at hl 1 rfl) ?_
            refine nr_imul hx hb dX5_way2_43 ?_
            refine lv_iload_n hx hb dX5_way2_44 rfl (lv_at hl 3 rfl) ?_
            refine nr_iadd hx hb dX5_way2_45 ?_
            refine nr_mald1 hx hb hK hP 11 0 rfl rfl (k := (16 * k) + i) (v := wt k i) (by omega) (by omega) (e1 i hlt) dX5_way2_46 ?_
            refine lv_iconst (v := (-1)) hx hb dX5_way2_47 (by decide) ?_
            refine lv_icmp_eq (tgt := 62) hx hb dX5_way2_48 (by decide) (fun h => absurd h (nI_nm1 (by omega))) (fun _ => ?_)
            refine lv_iload_n hx hb dX5_way2_51 rfl (lv_at hl 3 rfl) ?_
            refine lv_iload_n hx hb dX5_way2_52 rfl (lv_at hl 2 rfl) ?_
            refine nr_icmp_ge (x := i) (y := j) (tgt := 62) hx hb (by omega) (by omega) dX5_way2_53 (by decide) (fun h1 => ?_) (fun h1 => ?_)
            · have ej : j = i := by omega
              refine lv_aload_n hx hb dX5_way2_62 rfl (lv_at hl 0 rfl) ?_
              refine va_get (ci := 5) (v := .ref (g 11)) (C := RX5) (T := TX5) (N := 19) hx hb hbw in_X5 hown hK hP 0 rfl rfl 15 (by decide) (hbw _ m_503) (fun _ h9 => h9) rfl dX5_way2_63 ?_
              refine lv_bipush (v := nI 16) hx hb dX5_way2_66 (by decide) ?_
              refine lv_iload_n hx hb dX5_way2_68 rfl (lv_at hl 1 rfl) ?_
              refine nr_imul hx hb dX5_way2_69 ?_
              refine lv_iload_n hx hb dX5_way2_70 rfl (lv_at hl 3 rfl) ?_
              refine nr_iadd hx hb dX5_way2_71 ?_
              refine nr_mald1 hx hb hK hP 11 0 rfl rfl (k := (16 * k) + i) (v := wt k i) (by omega) (by omega) (e1 i hlt) dX5_way2_72 ?_
              rw [hQ]
              exact ct_iret hx hb hr hlocks hP hD hS dX5_way2_73 (Or.inr ⟨k, j, ⟨hk, rfl, rfl, hj⟩, by rw [ej, if_pos hlt], fa, wy, lo, rfl⟩)
            · refine lv_iinc (v := nI (i + 1)) (lv' := [(3, .int (nI (i + 1))), (0, .ref (g 0)), (1, .int (nI k)), (2, .int (nI j))]) hx hb dX5_way2_56 hl (k := 3) rfl (nI_1 _) (by decide) rfl (fun ls hl => ?_)
              refine lv_goto (tgt := 36) hx hb dX5_way2_59 (by decide) ?_
              exact ih (i + 1) (by omega) (by omega) (by omega) _ _ _ hP hD hS (lv_sub hl [1, 2, 3, 0] rfl)
          · have ei : i = wc k := by omega
            refine lv_aload_n hx hb dX5_way2_36 rfl (lv_at hl 0 rfl) ?_
            refine va_get (ci := 5) (v := .ref (g 11)) (C := RX5) (T := TX5) (N := 19) hx hb hbw in_X5 hown hK hP 0 rfl rfl 15 (by decide) (hbw _ m_503) (fun _ h9 => h9) rfl dX5_way2_37 ?_
            refine lv_bipush (v := nI 16) hx hb dX5_way2_40 (by decide) ?_
            refine lv_iload_n hx hb dX5_way2_42 rfl (lv_at hl 1 rfl) ?_
            refine nr_imul hx hb dX5_way2_43 ?_
            refine lv_iload_n hx hb dX5_way2_44 rfl (lv_at hl 3 rfl) ?_
            refine nr_iadd hx hb dX5_way2_45 ?_
            refine nr_mald0 hx hb hK hP 11 0 rfl rfl (k := (16 * k) + i) (by omega) (by omega) (by rw [ei]; exact e2) dX5_way2_46 ?_
            refine lv_iconst (v := (-1)) hx hb dX5_way2_47 (by decide) ?_
            refine lv_icmp_eq (tgt := 62) hx hb dX5_way2_48 (by decide) (fun _ => ?_) (fun h => absurd rfl h)
            refine lv_aload_n hx hb dX5_way2_62 rfl (lv_at hl 0 rfl) ?_
            refine va_get (ci := 5) (v := .ref (g 11)) (C := RX5) (T := TX5) (N := 19) hx hb hbw in_X5 hown hK hP 0 rfl rfl 15 (by decide) (hbw _ m_503) (fun _ h9 => h9) rfl dX5_way2_63 ?_
            refine lv_bipush (v := nI 16) hx hb dX5_way2_66 (by decide) ?_
            refine lv_iload_n hx hb dX5_way2_68 rfl (lv_at hl 1 rfl) ?_
            refine nr_imul hx hb dX5_way2_69 ?_
            refine lv_iload_n hx hb dX5_way2_70 rfl (lv_at hl 3 rfl) ?_
            refine nr_iadd hx hb dX5_way2_71 ?_
            refine nr_mald0 hx hb hK hP 11 0 rfl rfl (k := (16 * k) + i) (by omega) (by omega) (by rw [ei]; exact e2) dX5_way2_72 ?_
            rw [hQ]
            exact ct_iret hx hb hr hlocks hP hD hS dX5_way2_73 (Or.inr ⟨k, j, ⟨hk, rfl, rfl, hj⟩, by rw [if_neg (by omega)], fa, wy, lo, rfl⟩)
      exact lp 10 0 (by omega) (Nat.zero_le _) (Nat.zero_le _) H locs ls hP hD hS (lv_sub hl [1, 2, 3, 0] rfl)
    · have g3 : x1 < 0 := Int32.not_le.mp g2
      refine lv_iconst (v := nI 1) hx hb dX5_way2_13 (by decide) ?_
      refine lv_goto (tgt := 18) hx hb dX5_way2_14 (by decide) ?_
      refine va_put (ci := 5) (v := .int (nI 1)) (ty := .int) (C := RX5) (T := TX5) (N := 19) hx hb hbw in_X5 tyX5 tyX5_ok nmX5 hown hK hP hD hS 0 rfl rfl 0 (by decide) (hbw _ m_488) (fun _ h9 => h9) rfl (by decide +kernel) rfl rfl (Nat.le_of_ble_eq_true rfl) dX5_way2_18 (fun H locs hP hD hS => ?_)
      have hP : va_P D vwCl (pM g cI cB 1 n en le ro sn ar rt oh cn no ot cu lim fa wy lo ch bd) H := hP
      have hD : va_D A (pM g cI cB 1 n en le ro sn ar rt oh cn no ot cu lim fa wy lo ch bd) := hD
      refine lv_aload_n hx hb dX5_way2_21 rfl (lv_at hl 0 rfl) ?_
      refine va_get (ci := 5) (v := .int (nI 1)) (C := RX5) (T := TX5) (N := 19) hx hb hbw in_X5 hown hK hP 0 rfl rfl 0 (by decide) (hbw _ m_488) (fun _ h9 => h9) rfl dX5_way2_22 ?_
      refine lv_if_le (tgt := 30) hx hb dX5_way2_25 (by decide) (fun h => absurd h (by decide)) (fun _ => ?_)
      refine lv_iconst (v := nI 0) hx hb dX5_way2_28 (by decide) ?_
      rw [hQ]
      exact ct_iret hx hb hr hlocks hP hD hS dX5_way2_29 (Or.inl ⟨fun h => h.2 g3, rfl⟩)
