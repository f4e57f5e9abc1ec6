/-! the law's start -/
/-- what the tables say: the classes of the cells, the words that every state keeps -/
theorem lw_know {s : State} {b : Nat} (hts : ∀ w ∈ lw_tbl, w.before #[Value.ref b] s = true) (hgv : (Jvm.Cond.and given_1 narrow_1).before #[Value.ref b] s = true) : ∃ (D : va_G) (cI cG cL cB : ClassId), EW D (tyL cI cG cL cB) s ∧ va_AOA .int s := by
  have hbw : ∀ w ∈ bw, w.before #[Value.ref b] s = true := fun w h => hts w (List.mem_filter.mp h).1
  have hT : ∀ w ∈ tables_1, w.before #[Value.ref b] s = true := fun w h => hts w (List.mem_append_right _ h)
  obtain ⟨c0, i0, h0⟩ := u_known (C := RX0) (T := TX0) (N := 7) (n := 7) hbw in_X0 (hbw _ m_96)
  obtain ⟨c1, i1, h1⟩ := u_known (C := RX1) (T := TX1) (N := 4) (n := 4) hbw in_X1 (hbw _ m_72)
  obtain ⟨c2, i2, h2⟩ := u_known (C := RX2) (T := TX2) (N := 5) (n := 5) hbw in_X2 (hbw _ m_136)
  obtain ⟨c3, i3, h3⟩ := u_known (C := RX3) (T := TX3) (N := 6) (n := 6) hbw in_X3 (hbw _ m_40)
  obtain ⟨c4, i4, h4⟩ := u_known (C := RX4) (T := TX4) (N := 8) (n := 8) hbw in_X4 (hbw _ m_32)
  obtain ⟨c5, i5, h5⟩ := u_known (C := RX5) (T := TX5) (N := 19) (n := 19) hbw in_X5 (hbw _ m_482)
  obtain ⟨cI, kI, pI, fI, qI, dI⟩ := Cond.arrayClass_spec (hbw _ m_70)
  obtain ⟨cL, kL, pL, fL, qL, dL⟩ := Cond.arrayClass_spec (hbw _ m_668)
  obtain ⟨cB, kB, pB, fB, qB, dB⟩ := Cond.arrayClass_spec (hbw _ m_546)
  have hao0 : (Cond.arrayOver (.array .int)).before #[Value.ref b] s = true := hT _ (List.mem_of_getElem? (i := 85) (by decide +kernel))
  have hao : va_AOA .int s := hao0
  obtain ⟨pG, cG, kG, fG0, qG, dG, fG⟩ := Cond.arrayOver_specA hao
  have hK : va_K ((fun k => match k with | 0 => c0 | 1 => c1 | 2 => c2 | 3 => c3 | 4 => c4 | _ => c5), (fun k => match k with | 0 => i0 | 1 => i1 | 2 => i2 | 3 => i3 | 4 => i4 | _ => i5)) vwCl (tyL cI cG cL cB) s := by
    refine ⟨fun k q hq => ?_, fun k q hq => ?_⟩
    · match k, hq with
      | 0, hq => cases hq; exact h0
      | 1, hq => cases hq; exact h1
      | 2, hq => cases hq; exact h2
      | 3, hq => cases hq; exact h3
      | 4, hq => cases hq; exact h4
      | 5, hq => cases hq; exact h5
      | k + 6, hq => simp [vwCl] at hq
    · match k, hq with
      | 0, hq => cases hq; exact ⟨fun n z => ⟨fun k h => (by cases h), kI, qI, pI, dI⟩, fI⟩
      | 1, hq => cases hq; exact ⟨fun n z => ⟨fun k h => (by cases h), kG, qG, pG, dG⟩, fG⟩
      | 2, hq => cases hq; exact ⟨fun n z => ⟨fun k h => (by cases h), kL, qL, pL, dL⟩, fL⟩
      | 3, hq => cases hq; exact ⟨fun n z => ⟨fun k h => (by cases h), kB, qB, pB, dB⟩, fB⟩
      | k + 4, hq => simp at hq
  have hn : ∀ w ∈ nwL, va_Nw w s := by
    intro w hw
    have q1 := List.mem_filter.mp hw
    refine va_Nw.of ?_ (hT w q1.1)
    have q2 := q1.2
    cases w with
    | fieldLinkNest a i b n d hh => rfl
    | _ => cases q2
  have hxw : ∀ w ∈ xwL, va_Nw w s := by
    intro w hw
    have q1 := List.mem_filter.mp hw
    refine va_Nw.of ?_ (hT w q1.1)
    have q2 := q1.2
    cases w with
    | castable a b => rfl
    | declares a => rfl
    | _ => cases q2
  have hst : ∀ (k : Nat) (tx : String), Cond.stringRef RX4 k tx ∈ tables_1 → ∃ sa, vk_R RX4 k tx sa s := by
    intro k tx hk
    obtain ⟨-, -, -, sa, -, -, -, -, -, hev⟩ := Cond.stringRef_spec h4.2.1 (hT _ hk)
    exact ⟨sa, vk_R.of (hT _ hk) hev⟩
  have hnc : (Cond.not (.castable sISE sIAE)).before #[Value.ref b] s = true := flat_of_before _ hgv _ (by decide +kernel)
  exact ⟨_, cI, cG, cL, cB, ⟨⟨⟨hK, hn⟩, hxw, hst⟩, va_Nc.of hnc⟩, hao⟩
theorem lw_zq {s : State} {b : Nat} (hts : ∀ w ∈ lw_tbl, w.before #[Value.ref b] s = true) (hgv : (Jvm.Cond.and given_1 narrow_1).before #[Value.ref b] s = true) : xZ (fun q : Nat => s.heap.size ≤ q) s s.heap := by
  have hA : ∀ a : Nat, a < s.heap.size → ¬ (fun q : Nat => s.heap.size ≤ q) a := fun a h => Nat.not_le.mpr h
  have hbw : ∀ w ∈ bw, w.before #[Value.ref b] s = true := fun w h => hts w (List.mem_filter.mp h).1
  have l1 : (Cond.laysStatic Bundle.tN "UNASSIGNED_STACK" Bundle.steD).before #[Value.ref b] s = true := (hts _ (List.mem_append_right _ (List.mem_of_getElem? (i := 268) (by decide +kernel))))
  have l2 : (Cond.laysStatic Bundle.tN "SUPPRESSED_SENTINEL" Bundle.listD).before #[Value.ref b] s = true := (hts _ (List.mem_append_right _ (List.mem_of_getElem? (i := 270) (by decide +kernel))))
  have r1 : (Cond.isRef (.static Bundle.tN "UNASSIGNED_STACK" Bundle.steD)).before #[Value.ref b] s = true := flat_of_before _ hgv _ (by decide +kernel)
  have r2 : (Cond.isRef (.static Bundle.tN "SUPPRESSED_SENTINEL" Bundle.listD)).before #[Value.ref b] s = true := flat_of_before _ hgv _ (by decide +kernel)
  exact ⟨vx_Zqof l1 (hbw _ m_24) r1 hA, vx_Zqof l2 (hbw _ m_24) r2 hA⟩
theorem lw_I0 {o0 z0 z1 z2 y0 y1 y2 : Nat} {q r g : Nat → Nat} {cI cG cB : ClassId} : lw_I o0 (g 0) cI cG cB 0 (pO o0 z0 y0 q 100000 0 0 ++ pZ z0 z1 z2 q cI (fun _ => 0) (fun _ => 0) ++ pZ y0 y1 y2 q cI (fun _ => 0) (fun _ => 0) ++ pT q cI 0 (fun _ => 0) (fun _ => 0) (fun _ => 0) (fun _ => 0) (fun _ => 0) ++ pS q cI 0 (fun _ => 0) (fun _ => 0) (fun _ => 0) ++ pC q r cI cG 0 (fun _ => 0) (fun _ => 0) (fun _ => 0) (fun _ => 0) (fun _ => 0) ++ pR r cI (fun _ _ => 0)) (pM g cI cB 0 0 (fun _ => 0) (fun _ => 0) (fun _ => 0) 0 (fun _ => 0) (fun _ => 0) (fun _ => 0) 0 (fun _ => 0) (fun _ => 0) (fun _ => 0) 100000 (fun _ => 0) (fun _ => 1) (fun _ => 1) (fun _ => 0) (fun _ => 0)) := by
  refine ⟨q, r, g, z0, z1, z2, y0, y1, y2, fun _ => 0, fun _ => 0, 100000, 0, 0, fun _ => 0, fun _ => 0, 0, fun _ => 0, fun _ => 0, fun _ => 0, fun _ => 0, 0, fun _ => 0, fun _ => 0, fun _ => 0, 0, fun _ => 0, fun _ => 0, fun _ => 0, fun _ => 0, fun _ => 0, fun _ _ => 0, fun _ => 0, fun _ => 1, fun _ => 1, fun _ => 0, fun _ => 0, rfl, rfl, rfl, ?_, fun _ => (by simp), ?_, ?_, okL_0 (fun _ => (by simp)) (fun _ => (by simp)), by omega, fun _ => (by simp), fun _ => (by simp), fun _ => (by simp)⟩
  · exact ⟨by omega, fun t ht => absurd ht (by omega), fun _ => (by simp), fun _ => (by simp), fun _ => (by simp), fun _ => (by simp), fun j hj => absurd hj (by omega)⟩
  · exact ⟨by omega, fun _ => (by simp), fun _ => (by simp), fun _ => (by simp), by omega, fun _ => (by simp), fun _ => (by simp), fun _ => (by simp), fun _ _ => (by simp)⟩
  · exact ⟨fun _ => (by simp), fun _ => (by simp), fun c hc => absurd hc (by omega), fun c hc => absurd hc (by omega)⟩
set_option maxHeartbeats 4000000 in
set_option maxRecDepth 100000 in
/-- THE LAW, from its entry -/
theorem whole_start {p : Program} {e : Env} {s : State} {m : MethodId} {below : List Frame} {meth : Method} {c : Code} (l : Launch) (hl9 : l.stackTraces = false) {b L : Nat} {xs : Nat → Int32} (hL : L ≤ 2560) (C0 : lw_At p s m meth c b L xs) : W p l e room_1 s m #[Value.ref b] below meth c s.heap [] 0 0 (lw_Z below #[Value.ref b] s) (entryFrame m ([Value.ref b] : List Value).toArray 7) := by
  obtain ⟨hx, hb, hr, hml, hown, hts, hX, hbl, hlocks, hgv⟩ := id C0
  have hb : c.code = cL_law := hb
  have hown : s.vm.findClass RL = some m.cls := hown
  obtain ⟨D, cI, cG, cL, cB, hEW, hao⟩ := lw_know hts hgv
  have hbw : ∀ w ∈ bw, w.before #[Value.ref b] s = true := fun w h => hts w (List.mem_filter.mp h).1
  have hC : lw_C p l s m c b L xs D cI cG cL cB := ⟨hx, hb, hml, hown, hbw, hX, hbl, hEW, lw_zq hts hgv, hl9, hL⟩
  have hA : ∀ q : Nat, s.heap.size ≤ q → (fun q : Nat => s.heap.size ≤ q) q := fun _ h => h
  have hEN := hEW.1.1
  have hEM : EM D (tyL cI cG cL cB) s := ⟨hEN, hao⟩
  have hK := hEN.1
  have hS : va_S (fun q : Nat => s.heap.size ≤ q) s.heap s.heap [] := va_S.rf
  have hP : va_P D vwCl [] s.heap := fun k q h => by simp at h
  have hD : va_D (fun q : Nat => s.heap.size ≤ q) [] := ⟨fun i j p q h => by simp at h, fun k q h => by simp at h⟩
  have hl := lv_entry ([.ref b]) (n := 7) (Nat.le_of_ble_eq_true rfl)
  rw [lg_entry_eq]
  generalize (lg_sl ([.ref b]) ++ List.replicate (7 - (lg_sl ([.ref b])).length) Slot.unset).toArray = ls at hl ⊢
  have hl : lv_has ls 7 [(0, .ref b)] := hl
  refine va_new (ci := 4) (fs := [.null, .null, .null, .null, .null, .int (nI 0), .int (nI 0), .int (nI 0)]) (C := RX4) (T := TX4) (N := 8) hx hb hbw in_X4 tyX4 tyX4_ok hown (hbw _ m_31) (hbw _ m_32) (hbw _ m_18) hK hP hD hS hA rfl (fun j hj => by rcases (show j = 0 ∨ j = 1 ∨ j = 2 ∨ j = 3 ∨ j = 4 ∨ j = 5 ∨ j = 6 ∨ j = 7 by omega) with rfl | rfl | rfl | rfl | rfl | rfl | rfl | rfl <;> rfl) (Nat.le_of_ble_eq_true rfl) (Nat.le_of_ble_eq_true rfl) dL_law_0 (fun o0 H hP hD hS => ?_)
  have hP : va_P D vwCl [(o0, .inr (4, [.null, .null, .null, .null, .null, .int (nI 0), .int (nI 0), .int (nI 0)]))] H := hP
  have hD : va_D (fun q : Nat => s.heap.size ≤ q) [(o0, .inr (4, [.null, .null, .null, .null, .null, .int (nI 0), .int (nI 0), .int (nI 0)]))] := hD
  refine lv_dup hx hb dL_law_3 rfl ?_
  refine ct_Iv (wc := [(o0, .inr (4, [.null, .null, .null, .null, .null, .int (nI 0), .int (nI 0), .int (nI 0)]))]) (wr := ([] : va_W)) (As := []) (rest := [.ref o0]) ⟨hx, hb, hml, hown, hbw⟩ (EM_E D _) hEM (kX4_init l D cI cG cL cB o0) (cwI 0 hbw (gB m_35) rfl rfl rfl (hbw _ m_18) (hbw _ m_33) (hbw _ m_34) rfl (by decide +kernel) ⟨(Nat.le_of_ble_eq_true rfl), (Nat.le_of_ble_eq_true rfl)⟩) hP hD hS hA [0] [] rfl rfl (by decide) (by decide) (by decide) rfl hl.1 rfl (Nat.le_of_ble_eq_true rfl) dL_law_4 ⟨(Nat.le_of_ble_eq_true rfl), (Nat.le_of_ble_eq_true rfl)⟩ (fun w_4 H locs hw hP hD hS => ?_)
  obtain ⟨q, r, z0, z1, z2, y0, y1, y2, rfl⟩ := hw
  have hP : va_P D vwCl (pO o0 z0 y0 q 100000 0 0 ++ pZ z0 z1 z2 q cI (fun _ => 0) (fun _ => 0) ++ pZ y0 y1 y2 q cI (fun _ => 0) (fun _ => 0) ++ pT q cI 0 (fun _ => 0) (fun _ => 0) (fun _ => 0) (fun _ => 0) (fun _ => 0) ++ pS q cI 0 (fun _ => 0) (fun _ => 0) (fun _ => 0) ++ pC q r cI cG 0 (fun _ => 0) (fun _ => 0) (fun _ => 0) (fun _ => 0) (fun _ => 0) ++ pR r cI (fun _ _ => 0)) H := hP
  have hD : va_D (fun q : Nat => s.heap.size ≤ q) (pO o0 z0 y0 q 100000 0 0 ++ pZ z0 z1 z2 q cI (fun _ => 0) (fun _ => 0) ++ pZ y0 y1 y2 q cI (fun _ => 0) (fun _ => 0) ++ pT q cI 0 (fun _ => 0) (fun _ => 0) (fun _ => 0) (fun _ => 0) (fun _ => 0) ++ pS q cI 0 (fun _ => 0) (fun _ => 0) (fun _ => 0) ++ pC q r cI cG 0 (fun _ => 0) (fun _ => 0) (fun _ => 0) (fun _ => 0) (fun _ => 0) ++ pR r cI (fun _ _ => 0)) := hD
  refine lv_astore_n (lv' := [(1, .ref o0), (0, .ref b)]) hx hb dL_law_7 rfl hl (by decide) rfl (fun ls hl => ?_)
  refine va_new (ci := 5) (fs := [.int (nI 0), .int (nI 0), .null, .null, .null, .int (nI 0), .null, .null, .null, .int (nI 0), .null, .null, .null, .int (nI 0), .null, .null, .null, .null, .null]) (C := RX5) (T := TX5) (N := 19) hx hb hbw in_X5 tyX5 tyX5_ok hown (hbw _ m_481) (hbw _ m_482) (hbw _ m_23) hK hP hD hS hA rfl (fun j hj => by rcases (show j = 0 ∨ j = 1 ∨ j = 2 ∨ j = 3 ∨ j = 4 ∨ j = 5 ∨ j = 6 ∨ j = 7 ∨ j = 8 ∨ j = 9 ∨ j = 10 ∨ j = 11 ∨ j = 12 ∨ j = 13 ∨ j = 14 ∨ j = 15 ∨ j = 16 ∨ j = 17 ∨ j = 18 by omega) with rfl | rfl | rfl | rfl | rfl | rfl | rfl | rfl | rfl | rfl | rfl | rfl | rfl | rfl | rfl | rfl | rfl | rfl | rfl <;> rfl) (Nat.le_of_ble_eq_true rfl) (Nat.le_of_ble_eq_true rfl) dL_law_8 (fun g0 H hP hD hS => ?_)
  refine lv_dup hx hb dL_law_11 rfl ?_
  refine ct_Iv (wc := [(g0, .inr (5, [.int (nI 0), .int (nI 0), .null, .null, .null, .int (nI 0), .null, .null, .null, .int (nI 0), .null, .null, .null, .int (nI 0), .null, .null, .null, .null, .null]))]) (wr := (pO o0 z0 y0 q 100000 0 0 ++ pZ z0 z1 z2 q cI (fun _ => 0) (fun _ => 0) ++ pZ y0 y1 y2 q cI (fun _ => 0) (fun _ => 0) ++ pT q cI 0 (fun _ => 0) (fun _ => 0) (fun _ => 0) (fun _ => 0) (fun _ => 0) ++ pS q cI 0 (fun _ => 0) (fun _ => 0) (fun _ => 0) ++ pC q r cI cG 0 (fun _ => 0) (fun _ => 0) (fun _ => 0) (fun _ => 0) (fun _ => 0) ++ pR r cI (fun _ _ => 0))) (As := []) (rest := [.ref g0]) ⟨hx, hb, hml, hown, hbw⟩ (EN_E D _) hEN (kX5_init l D cI cG cL cB g0) (cwI 0 hbw (gB m_485) rfl rfl rfl (hbw _ m_23) (hbw _ m_483) (hbw _ m_484) rfl (by decide +kernel) ⟨(Nat.le_of_ble_eq_true rfl), (Nat.le_of_ble_eq_true rfl)⟩) hP hD hS hA [44] [0, 1, 2, 3, 4, 5, 6, 7, 8, 9, 10, 11, 12, 13, 14, 15, 16, 17, 18, 19, 20, 21, 22, 23, 24, 25, 26, 27, 28, 29, 30, 31, 32, 33, 34, 35, 36, 37, 38, 39, 40, 41, 42, 43] rfl rfl (by decide) (by decide) (by decide) rfl hl.1 rfl (Nat.le_of_ble_eq_true rfl) dL_law_12 ⟨(Nat.le_of_ble_eq_true rfl), (Nat.le_of_ble_eq_true rfl)⟩ (fun w_5 H locs hw hP hD hS => ?_)
  obtain ⟨g, rfl, rfl⟩ := hw
  refine lv_astore_n (lv' := [(2, .ref (g 0)), (1, .ref o0), (0, .ref b)]) hx hb dL_law_15 rfl hl (by decide) rfl (fun ls hl => ?_)
  refine lv_iconst (v := nI 1) hx hb dL_law_16 (by decide) ?_
  refine nr_newl hx hb (hbw _ m_668) hK hP hD hS hA 2 rfl (Nat.le_of_ble_eq_true rfl) (Nat.le_of_ble_eq_true rfl) dL_law_17 (fun oo H hP hD hS => ?_)
  refine lv_astore_n (lv' := [(3, .ref oo), (2, .ref (g 0)), (1, .ref o0), (0, .ref b)]) hx hb dL_law_19 rfl hl (by decide) rfl (fun ls hl => ?_)
  refine lv_iconst (v := nI 0) hx hb dL_law_20 (by decide) ?_
  refine lv_istore (lv' := [(4, .int (nI 0)), (3, .ref oo), (2, .ref (g 0)), (1, .ref o0), (0, .ref b)]) hx hb dL_law_21 hl (by decide) rfl (fun ls hl => ?_)
  refine W.widen (k := 100) (n := 2000) (Nat.le_of_ble_eq_true rfl) (Nat.le_of_ble_eq_true rfl) ?_
  exact lw_loop hC hr hlocks (L + 1) 0 0 100 2000 (fun _ => 0) (pO o0 z0 y0 q 100000 0 0 ++ pZ z0 z1 z2 q cI (fun _ => 0) (fun _ => 0) ++ pZ y0 y1 y2 q cI (fun _ => 0) (fun _ => 0) ++ pT q cI 0 (fun _ => 0) (fun _ => 0) (fun _ => 0) (fun _ => 0) (fun _ => 0) ++ pS q cI 0 (fun _ => 0) (fun _ => 0) (fun _ => 0) ++ pC q r cI cG 0 (fun _ => 0) (fun _ => 0) (fun _ => 0) (fun _ => 0) (fun _ => 0) ++ pR r cI (fun _ _ => 0)) (pM g cI cB 0 0 (fun _ => 0) (fun _ => 0) (fun _ => 0) 0 (fun _ => 0) (fun _ => 0) (fun _ => 0) 0 (fun _ => 0) (fun _ => 0) (fun _ => 0) 100000 (fun _ => 0) (fun _ => 1) (fun _ => 1) (fun _ => 0) (fun _ => 0)) _ _ ls (by omega) (by omega) (by omega) (by omega) lw_I0 (px_swP (Y := [lA oo cL (fun _ => 0)]) hP) (px_swD (Y := [lA oo cL (fun _ => 0)]) hD) hS (lv_sub hl [4, 3, 2, 1, 0] rfl)
set_option maxHeartbeats 4000000 in
theorem lw_walk (l : Launch) (hl9 : l.stackTraces = false) (b : Addr) (xs : List Int32) : MetFree l x (headSpec (Jvm.Cond.code x code maxLocals ret :: tables_1) room_1) (lw_P b xs) (fun _ _ _ _ _ => True) lw_Q := by
  refine MetFree.of_bodyS (code := code) (maxLocals := maxLocals) (ret := ret) (by decide) ?_ ?_
  · intro args s m h hn
    obtain ⟨meth, c, h1, h2, h3, h4, h5, h6, -, -⟩ := Cond.code_spec hn (atoms_spec (ws := Jvm.Cond.code x code maxLocals ret :: tables_1) h _ List.mem_cons_self)
    exact ⟨meth, c, h1, h2, h3, h4, h5, h6⟩
  · intro p e s m args below meth c s₁ B hml0 hP _
    obtain ⟨rfl, hx, hbd, hgv⟩ := hP
    obtain ⟨scr, harrAt, hlist, hof, hsmall⟩ := hx
    obtain ⟨hcb, hkn, -, -⟩ := State.arrayAt?_spec harrAt
    have hown : s.vm.findClass R_law = some m.cls := findClass_of_methodNamed B.named
    have hts0 : ∀ c ∈ (Jvm.Cond.code x code maxLocals ret :: tables_1), c.before #[Value.ref b] s = true := atoms_spec (ws := Jvm.Cond.code x code maxLocals ret :: tables_1) B.pre
    have hts : ∀ w ∈ lw_tbl, w.before #[Value.ref b] s = true := k2_hts_sels lw_privs (fun w hw => hts0 w (List.mem_cons_of_mem _ hw)) lw_privs_ok
    have hml : c.maxLocals = 7 := B.maxLocals_eq (hts0 _ List.mem_cons_self)
    have X₀ : Stand p l e room_1 s m #[Value.ref b] below meth c s₁ [] 0 0 := Stand.of_body B
    have hh0 : s₁.heap = s.heap := by rw [B.state]; rfl
    have hsz : scr.slots.size = xs.length := by rw [← Array.length_toList, hlist, List.length_map]
    have hval : ∀ j : Nat, j < xs.length → scr.slots[j]? = some (.int (xs.getD j 0)) := fun j hj => by
      rw [← Array.getElem?_toList, hlist]
      simp [hj]
    have hbl : b < s.heap.size := (Array.getElem?_eq_some_iff.mp hcb).1
    have hX : va_X b xs.length (fun j => xs.getD j 0) s s.heap := ⟨scr, hcb, hof, hkn, hsz, hval⟩
    have K : W p l e room_1 s m #[Value.ref b] below meth c s₁.heap [] 0 0 (lw_Z below #[Value.ref b] s) (entryFrame m ([Value.ref b] : List Value).toArray 7) := by
      rw [hh0]
      exact whole_start l hl9 hbd ⟨B.exec, B.bytes, B.returns, hml, hown, hts, hX, hbl, B.notSynchronized, hgv⟩
    obtain ⟨t, a1, o, b1, b2, b3⟩ := K s₁ rfl X₀
    exact ⟨t, o, a1, b1, b2, b3⟩
theorem lw_pre_spec {args : Array Value} {s : State} (h : (Jvm.Cond.and given_1 narrow_1).before args s = true) (hr : rest_1_c.before args s = true) : ∃ (b : Addr) (xs : List Int32), lw_P b xs args s := by
  have hs := flat_of_before _ h
  have hq := flat_of_before _ hr
  have hc : (Cond.count 1).before args s = true := hs _ (by decide +kernel)
  have harr : (Cond.arrayOf (.arg 0) .int).before args s = true := hs _ (by decide +kernel)
  have hle : (Cond.le (.length (.arg 0)) (.int 2560)).before args s = true := hs _ (by decide +kernel)
  have hlen : (Cond.isInt (.length (.arg 0))).before args s = true := hq _ (by decide +kernel)
  have hall : (Cond.all (.arg 0) (.isInt (.elem (.arg 0) (.index 0)))).before args s = true := hq _ (by decide +kernel)
  obtain ⟨b, xs, hb, hx⟩ := State.ints_of_pre rfl harr hlen hall
  have hsm : xs.length < 2 ^ 31 := hx.choose_spec.2.2.2
  have hev : (Term.length (.arg 0)).eval args s none [] s = some (.int xs.length.toInt32) := hx.length_eval hb
  have hv := Cond.le_ints hev (show (Term.int 2560).eval args s none [] s = some (.int 2560) from rfl)
  have hd : xs.length.toInt32 ≤ 2560 := by
    simpa [Cond.before, Cond.holds, hv] using hle
  have hN : xs.length ≤ 2560 := (Int32.ofNat_le_ofNat hsm (by decide)).mp (show Int32.ofNat xs.length ≤ Int32.ofNat 2560 from hd)
  exact ⟨b, xs, Cond.one_arg hc (show args[0]? = some (.ref b) from hb), hx, hN, h⟩
theorem lw_comes (l : Launch) (hl9 : l.stackTraces = false) : Comes l x (Jvm.Cond.code x code maxLocals ret :: tables_1) room_1 (fun tb e args s => Calls_1 tb e args s ∧ rest_1 tb e args s ∧ Pre_1 tb e args s)
    (fun _ _ args s o t => lw_Q args s o t) := by
  intro p e ha hc hk s m args below hf hfit hheap happ hpre
  obtain ⟨b, xs, hP⟩ := lw_pre_spec hpre.2.2 hpre.2.1
  obtain ⟨k, o, h1, h2, h3, hQ⟩ := lw_walk l hl9 b xs p e ha hc hk s m args below hf ((Spec.applies_iff_loose hf).mp happ).1 hP trivial
  exact ⟨k, o, h1, h2, h3, hQ⟩
theorem lw_frame {s t : State} {o : Outcome} {args : Array Value} (h : Framed s o t [] 620713 7233965) :
    Framed s o t (fieldLocs frame_1_writes args s ++ arrayLocs frame_1_arrays args s ++ staticLocs frame_1_statics s) 620713 7233965 := h
theorem lw_limb (L : Cond) (hL : ∀ (args : Array Value) (s t : State), L.after args s (.returned (some (.int 1))) t = true) :
    ArmFor flags0 classFile x code maxLocals ret World_1 tables_1 room_1 Calls_1 rest_1 Pre_1
      (fun tb e a s o t => postC L tb e a s o t ∧ Framed s o t (fieldLocs frame_1_writes a s ++ arrayLocs frame_1_arrays a s ++ staticLocs frame_1_statics s) 620713 7233965) := by
  intro l hfl _ _ p e ha hc hk s m args below hf hfit hheap happ hpre
  obtain ⟨k, o, h1, h2, h3, rfl, hF⟩ := lw_comes l (by unfold Launch.stackTraces; rw [hfl]; decide) p e ha hc hk s m args below hf hfit hheap happ hpre
  exact ⟨k, _, h1, h2, h3, hL args s _, lw_frame hF⟩
theorem i_vc : Claimed_1_1 ∧ Claimed_1_2 := ⟨lw_limb limb_1_1 (fun args s t => by simp [limb_1_1, Cond.after, Cond.holds, Cond.value]), lw_limb limb_1_2 (fun args s t => Cond.after_iff.mpr (by
  first | (rw [show limb_1_2 = Cond.eq .result (.int 1) from rfl, Cond.eq_ints (x := 1) (y := 1) rfl rfl]; simp; done) | (simp [limb_1_2, Cond.value, Term.eval]; done)))⟩
