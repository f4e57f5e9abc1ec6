theorem xk_IAE : Cond.classLink RX4 114 "java/lang/IllegalArgumentException" ∈ bw := m_258
theorem xi_IAE : Cond.initialized "java/lang/IllegalArgumentException" ∈ bw := m_27
theorem x1_IAE : ∀ w ∈ (vx_atS RX4 118 "java/lang/IllegalArgumentException" ["java/lang/RuntimeException", "java/lang/Exception"]).filter goodWord, w ∈ bw := by decide +kernel
theorem x2_IAE : ∀ w ∈ (vx_atS RX4 118 "java/lang/IllegalArgumentException" ["java/lang/RuntimeException", "java/lang/Exception"]).filter (fun w => !goodWord w), w ∈ xwL := by decide +kernel
theorem xg_IAE : ∀ w ∈ Cond.classLink RX4 114 "java/lang/IllegalArgumentException" :: Cond.initialized "java/lang/IllegalArgumentException" :: vx_atS RX4 118 "java/lang/IllegalArgumentException" ["java/lang/RuntimeException", "java/lang/Exception"], vx_ot w = true := by decide +kernel
theorem xk_ISE : Cond.classLink RX4 65 "java/lang/IllegalStateException" ∈ bw := m_326
theorem xi_ISE : Cond.initialized "java/lang/IllegalStateException" ∈ bw := m_28
theorem x1_ISE : ∀ w ∈ (vx_atS RX4 69 "java/lang/IllegalStateException" ["java/lang/RuntimeException", "java/lang/Exception"]).filter goodWord, w ∈ bw := by decide +kernel
theorem x2_ISE : ∀ w ∈ (vx_atS RX4 69 "java/lang/IllegalStateException" ["java/lang/RuntimeException", "java/lang/Exception"]).filter (fun w => !goodWord w), w ∈ xwL := by decide +kernel
theorem xg_ISE : ∀ w ∈ Cond.classLink RX4 65 "java/lang/IllegalStateException" :: Cond.initialized "java/lang/IllegalStateException" :: vx_atS RX4 69 "java/lang/IllegalStateException" ["java/lang/RuntimeException", "java/lang/Exception"], vx_ot w = true := by decide +kernel
theorem xs_167 : Cond.stringRef RX4 167 "a number is out of its bounds" ∈ tables_1 := List.mem_of_getElem? (i := 281) (by decide +kernel)
theorem xs_171 : Cond.stringRef RX4 171 "both nodes are one" ∈ tables_1 := List.mem_of_getElem? (i := 308) (by decide +kernel)
theorem xs_67 : Cond.stringRef RX4 67 "there are 15 trays" ∈ tables_1 := List.mem_of_getElem? (i := 318) (by decide +kernel)
theorem xs_82 : Cond.stringRef RX4 82 "there are 6 sizes" ∈ tables_1 := List.mem_of_getElem? (i := 360) (by decide +kernel)
theorem xs_88 : Cond.stringRef RX4 88 "not as told beside the size before" ∈ tables_1 := List.mem_of_getElem? (i := 365) (by decide +kernel)
theorem xs_93 : Cond.stringRef RX4 93 "there are 20 cables" ∈ tables_1 := List.mem_of_getElem? (i := 377) (by decide +kernel)
theorem xs_169 : Cond.stringRef RX4 169 "there is no such tray, size or cable" ∈ tables_1 := List.mem_of_getElem? (i := 392) (by decide +kernel)
theorem xs_116 : Cond.stringRef RX4 116 "k is below 0" ∈ tables_1 := List.mem_of_getElem? (i := 423) (by decide +kernel)
theorem xs_152 : Cond.stringRef RX4 152 "digits are below 0" ∈ tables_1 := List.mem_of_getElem? (i := 459) (by decide +kernel)
theorem xs_156 : Cond.stringRef RX4 156 "a digit behind the last cable is not 0" ∈ tables_1 := List.mem_of_getElem? (i := 461) (by decide +kernel)
def sIAE : String := "java/lang/IllegalArgumentException"
def sISE : String := "java/lang/IllegalStateException"
theorem inB_cmp {x : Int32} {lo hi : Nat} (h1 : lo < 2 ^ 31) (h2 : hi < 2 ^ 31) : inB x lo hi ↔ (¬ x < nI lo ∧ x ≤ nI hi) := by
  rw [Int32.lt_iff_toInt_lt, Int32.le_iff_toInt_le, nI_toInt h1, nI_toInt h2]
  constructor
  · intro h; have := inB_toInt h2 h; omega
  · intro h; exact inB_of h2 (by omega) h.2
set_option maxHeartbeats 4000000 in
set_option maxRecDepth 100000 in
/-- checkBounds -/
theorem kX4_checkBounds (l : Launch) (hl9 : l.stackTraces = false) (D : va_G) (cI cG cL cB : ClassId) (x : Int32) (lo hi : Nat) (h1 : lo < 2 ^ 31) (h2 : hi < 2 ^ 31) : tx_v l yX4_checkBounds (.code yX4_checkBounds cX4_checkBounds 3 none :: bw) ({ frames := 6, cells := 1, slots := 6, locals := 90 }) (EX D (tyL cI cG cL cB)) D vwCl ([] : va_W) [.int x, .int (nI lo), .int (nI hi)] (fun W => W = [] ∧ inB x lo hi) (fun E W => E = sIAE ∧ W = [] ∧ ¬ inB x lo hi) 1 6 := by
  refine tx_ofv (by decide) (Nat.le_of_ble_eq_true rfl) ?_
  intro p e s m below meth cd A H locs av Q ls hx hb hr hml hown hlocks hex hbw hEX hZ hQ hP hD hS hA hl
  have hown : s.vm.findClass RX4 = some m.cls := hown
  have hEN := hEX.1
  have hK := hEN.1
  have hl : lv_has ls 3 [(0, .int x), (1, .int (nI lo)), (2, .int (nI hi))] := hl
  refine lv_iload_n hx hb dX4_checkBounds_0 rfl (lv_at hl 0 rfl) ?_
  refine lv_iload_n hx hb dX4_checkBounds_1 rfl (lv_at hl 1 rfl) ?_
  refine lv_icmp_lt (tgt := 10) hx hb dX4_checkBounds_2 (by decide) (fun h3 => ?_) (fun h3 => ?_)
  · rw [hQ]
    exact tx_throw (w := ([] : va_W)) hx hb hl9 hown (by decide +kernel) hbw hEX hZ xk_IAE xi_IAE xs_167 x1_IAE x2_IAE xg_IAE hP hD hS (hl.1.trans hml.symm) dX4_checkBounds_10 dX4_checkBounds_13 dX4_checkBounds_14 dX4_checkBounds_16 dX4_checkBounds_19 hex (Nat.le_of_ble_eq_true rfl) (Nat.le_of_ble_eq_true rfl) (Nat.le_of_ble_eq_true rfl) (Nat.le_of_ble_eq_true rfl) hlocks (Nat.le_of_ble_eq_true rfl) (Nat.le_of_ble_eq_true rfl) ⟨rfl, rfl, fun q => ((inB_cmp h1 h2).mp q).1 h3⟩
  · refine lv_iload_n hx hb dX4_checkBounds_5 rfl (lv_at hl 0 rfl) ?_
    refine lv_iload_n hx hb dX4_checkBounds_6 rfl (lv_at hl 2 rfl) ?_
    refine lv_icmp_le (tgt := 20) hx hb dX4_checkBounds_7 (by decide) (fun h4 => ?_) (fun h4 => ?_)
    · rw [hQ]
      exact tx_vret hx hb hr hlocks hP hD hS dX4_checkBounds_20 (Nat.le_of_ble_eq_true rfl) (Nat.le_of_ble_eq_true rfl) ⟨rfl, (inB_cmp h1 h2).mpr ⟨h3, h4⟩⟩
    · rw [hQ]
      exact tx_throw (w := ([] : va_W)) hx hb hl9 hown (by decide +kernel) hbw hEX hZ xk_IAE xi_IAE xs_167 x1_IAE x2_IAE xg_IAE hP hD hS (hl.1.trans hml.symm) dX4_checkBounds_10 dX4_checkBounds_13 dX4_checkBounds_14 dX4_checkBounds_16 dX4_checkBounds_19 hex (Nat.le_of_ble_eq_true rfl) (Nat.le_of_ble_eq_true rfl) (Nat.le_of_ble_eq_true rfl) (Nat.le_of_ble_eq_true rfl) hlocks (Nat.le_of_ble_eq_true rfl) (Nat.le_of_ble_eq_true rfl) ⟨rfl, rfl, fun q => h4 ((inB_cmp h1 h2).mp q).2⟩
set_option maxHeartbeats 4000000 in
set_option maxRecDepth 100000 in
/-- checkNumber -/
theorem kX4_checkNumber (l : Launch) (hl9 : l.stackTraces = false) (D : va_G) (cI cG cL cB : ClassId) (x : Int32) (n : Nat) (hn : n < 2 ^ 31) : tx_v l yX4_checkNumber (.code yX4_checkNumber cX4_checkNumber 2 none :: bw) ({ frames := 6, cells := 1, slots := 6, locals := 90 }) (EX D (tyL cI cG cL cB)) D vwCl ([] : va_W) [.int x, .int (nI n)] (fun W => W = [] ∧ ∃ k, k < n ∧ x = nI k) (fun E W => E = sIAE ∧ W = [] ∧ ¬ ∃ k, k < n ∧ x = nI k) 1 6 := by
  refine tx_ofv (by decide) (Nat.le_of_ble_eq_true rfl) ?_
  intro p e s m below meth cd A H locs av Q ls hx hb hr hml hown hlocks hex hbw hEX hZ hQ hP hD hS hA hl
  have hown : s.vm.findClass RX4 = some m.cls := hown
  have hEN := hEX.1
  have hK := hEN.1
  have hl : lv_has ls 2 [(0, .int x), (1, .int (nI n))] := hl
  refine lv_iload_n hx hb dX4_checkNumber_0 rfl (lv_at hl 0 rfl) ?_
  refine lv_if_lt (tgt := 9) hx hb dX4_checkNumber_1 (by decide) (fun h1 => ?_) (fun h1 => ?_)
  · rw [hQ]
    exact tx_throw (w := ([] : va_W)) hx hb hl9 hown (by decide +kernel) hbw hEX hZ xk_IAE xi_IAE xs_169 x1_IAE x2_IAE xg_IAE hP hD hS (hl.1.trans hml.symm) dX4_checkNumber_9 dX4_checkNumber_12 dX4_checkNumber_13 dX4_checkNumber_15 dX4_checkNumber_18 hex (Nat.le_of_ble_eq_true rfl) (Nat.le_of_ble_eq_true rfl) (Nat.le_of_ble_eq_true rfl) (Nat.le_of_ble_eq_true rfl) hlocks (Nat.le_of_ble_eq_true rfl) (Nat.le_of_ble_eq_true rfl) ⟨rfl, rfl, fun ⟨k, hk, e⟩ => (by rw [e] at h1; exact nI_pos (by omega) h1)⟩
  · refine lv_iload_n hx hb dX4_checkNumber_4 rfl (lv_at hl 0 rfl) ?_
    refine lv_iload_n hx hb dX4_checkNumber_5 rfl (lv_at hl 1 rfl) ?_
    refine lv_icmp_lt (tgt := 19) hx hb dX4_checkNumber_6 (by decide) (fun h2 => ?_) (fun h2 => ?_)
    · obtain ⟨k, hk, e⟩ : ∃ k, k < n ∧ x = nI k := by
        rcases pk_ix x (n := n) (by omega) with h | h | ⟨j, h3, h4⟩
        · exact absurd h h1
        · exact absurd h2 (Int32.not_lt.mpr h)
        · exact ⟨j, h3, h4⟩
      rw [hQ]
      exact tx_vret hx hb hr hlocks hP hD hS dX4_checkNumber_19 (Nat.le_of_ble_eq_true rfl) (Nat.le_of_ble_eq_true rfl) ⟨rfl, k, hk, e⟩
    · rw [hQ]
      exact tx_throw (w := ([] : va_W)) hx hb hl9 hown (by decide +kernel) hbw hEX hZ xk_IAE xi_IAE xs_169 x1_IAE x2_IAE xg_IAE hP hD hS (hl.1.trans hml.symm) dX4_checkNumber_9 dX4_checkNumber_12 dX4_checkNumber_13 dX4_checkNumber_15 dX4_checkNumber_18 hex (Nat.le_of_ble_eq_true rfl) (Nat.le_of_ble_eq_true rfl) (Nat.le_of_ble_eq_true rfl) (Nat.le_of_ble_eq_true rfl) hlocks (Nat.le_of_ble_eq_true rfl) (Nat.le_of_ble_eq_true rfl) ⟨rfl, rfl, fun ⟨k, hk, e⟩ => h2 (by rw [e]; exact nI_lt hk (by omega))⟩
set_option maxHeartbeats 4000000 in
set_option maxRecDepth 100000 in
/-- checkNodes -/
theorem kX4_checkNodes (l : Launch) (hl9 : l.stackTraces = false) (D : va_G) (cI cG cL cB : ClassId) (x0 x1 : Int32) : tx_v l yX4_checkNodes (.code yX4_checkNodes cX4_checkNodes 2 none :: bw) ({ frames := 7, cells := 3, slots := 18, locals := 112 }) (EX D (tyL cI cG cL cB)) D vwCl ([] : va_W) [.int x0, .int x1] (fun W => W = [] ∧ (inB x0 0 9 ∧ inB x1 0 9 ∧ x0 ≠ x1)) (fun E W => E = sIAE ∧ W = [] ∧ ¬ (inB x0 0 9 ∧ inB x1 0 9 ∧ x0 ≠ x1)) 3 18 := by
  refine tx_ofv (by decide) (Nat.le_of_ble_eq_true rfl) ?_
  intro p e s m below meth cd A H locs av Q ls hx hb hr hml hown hlocks hex hbw hEX hZ hQ hP hD hS hA hl
  have hown : s.vm.findClass RX4 = some m.cls := hown
  have hEN := hEX.1
  have hK := hEN.1
  have hl : lv_has ls 2 [(0, .int x0), (1, .int x1)] := hl
  refine lv_iload_n hx hb dX4_checkNodes_0 rfl (lv_at hl 0 rfl) ?_
  refine lv_iconst (v := nI 0) hx hb dX4_checkNodes_1 (by decide) ?_
  refine lv_bipush (v := nI 9) hx hb dX4_checkNodes_2 (by decide) ?_
  rw [hQ]
  refine tx_Sv (wc := ([] : va_W)) (wr := ([] : va_W)) (As := [.int x0, .int (nI 0), .int (nI 9)]) (rest := []) ⟨hx, hb, hml, hown, hbw⟩ (EX_E D _) hEX hZ hex hlocks (kX4_checkBounds l hl9 D cI cG cL cB x0 0 9 (by omega) (by omega)) (gS 3 hbw m_255 m_256 m_18 m_257 rfl rfl (by decide +kernel) ⟨Nat.le_of_ble_eq_true rfl, Nat.le_of_ble_eq_true rfl⟩) hP hD hS hA [] [] rfl rfl (by decide) (by decide) (by decide) rfl hl.1 rfl (Nat.le_of_ble_eq_true rfl) dX4_checkNodes_4 ⟨Nat.le_of_ble_eq_true rfl, Nat.le_of_ble_eq_true rfl⟩ (Nat.le_of_ble_eq_true rfl) (Nat.le_of_ble_eq_true rfl) (fun E w1 hp => ⟨hp.1, hp.2.1, fun q => hp.2.2 q.1⟩) (fun w1 H locs hw hP hD hS => ?_)
  rw [← hQ]
  obtain ⟨rfl, g1⟩ := hw
  rw [List.append_nil] at hP hD
  refine lv_iload_n hx hb dX4_checkNodes_7 rfl (lv_at hl 1 rfl) ?_
  refine lv_iconst (v := nI 0) hx hb dX4_checkNodes_8 (by decide) ?_
  refine lv_bipush (v := nI 9) hx hb dX4_checkNodes_9 (by decide) ?_
  rw [hQ]
  refine tx_Sv (wc := ([] : va_W)) (wr := ([] : va_W)) (As := [.int x1, .int (nI 0), .int (nI 9)]) (rest := []) ⟨hx, hb, hml, hown, hbw⟩ (EX_E D _) hEX hZ hex hlocks (kX4_checkBounds l hl9 D cI cG cL cB x1 0 9 (by omega) (by omega)) (gS 3 hbw m_255 m_256 m_18 m_257 rfl rfl (by decide +kernel) ⟨Nat.le_of_ble_eq_true rfl, Nat.le_of_ble_eq_true rfl⟩) hP hD hS hA [] [] rfl rfl (by decide) (by decide) (by decide) rfl hl.1 rfl (Nat.le_of_ble_eq_true rfl) dX4_checkNodes_11 ⟨Nat.le_of_ble_eq_true rfl, Nat.le_of_ble_eq_true rfl⟩ (Nat.le_of_ble_eq_true rfl) (Nat.le_of_ble_eq_true rfl) (fun E w1 hp => ⟨hp.1, hp.2.1, fun q => hp.2.2 q.2.1⟩) (fun w1 H locs hw hP hD hS => ?_)
  rw [← hQ]
  obtain ⟨rfl, g2⟩ := hw
  rw [List.append_nil] at hP hD
  refine lv_iload_n hx hb dX4_checkNodes_14 rfl (lv_at hl 0 rfl) ?_
  refine lv_iload_n hx hb dX4_checkNodes_15 rfl (lv_at hl 1 rfl) ?_
  refine lv_icmp_ne (tgt := 29) hx hb dX4_checkNodes_16 (by decide) (fun h1 => ?_) (fun h1 => ?_)
  · rw [hQ]
    exact tx_vret hx hb hr hlocks hP hD hS dX4_checkNodes_29 (Nat.le_of_ble_eq_true rfl) (Nat.le_of_ble_eq_true rfl) ⟨rfl, g1, g2, h1⟩
  · rw [hQ]
    exact tx_throw (w := ([] : va_W)) hx hb hl9 hown (by decide +kernel) hbw hEX hZ xk_IAE xi_IAE xs_171 x1_IAE x2_IAE xg_IAE hP hD hS (hl.1.trans hml.symm) dX4_checkNodes_19 dX4_checkNodes_22 dX4_checkNodes_23 dX4_checkNodes_25 dX4_checkNodes_28 hex (Nat.le_of_ble_eq_true rfl) (Nat.le_of_ble_eq_true rfl) (Nat.le_of_ble_eq_true rfl) (Nat.le_of_ble_eq_true rfl) hlocks (Nat.le_of_ble_eq_true rfl) (Nat.le_of_ble_eq_true rfl) ⟨rfl, rfl, fun q => q.2.2 h1⟩
