/-! the law's cases -/
theorem gW {R : Room} {s : State} {args : Array Value} {own : String} {index : Nat} {y : MethodName} {bytes : ByteArray} {maxL : Nat} {ret : Option FieldType} {hh : List (Nat × Nat × Nat × Nat)} {rm : Room} {mc ms : Nat} (n : Nat) (ht : ∀ w ∈ bw, w.before args s = true) (m1 : Cond.methodLink own index y ∈ bw) (m2 : Cond.static y ∈ bw) (m3 : Cond.initialized y.cls ∈ bw) (m5 : Cond.codeWith y bytes maxL ret hh ∈ bw) (hrc : rm.cells = mc) (hrs : rm.slots = ms)
    (hd : y.cls ≠ "java/lang/invoke/MethodHandle" ∧ y.cls ≠ "java/lang/invoke/VarHandle" ∧ (parseMethodDescriptor y.desc).map (fun d => d.parameters.length) = some n) (hR : rm.frames + 1 ≤ R.frames ∧ 8 + (maxL + 11) + rm.locals ≤ R.locals) :
    vx_CSW R s args own index y bytes maxL ret hh (.codeWith y bytes maxL ret hh :: bw) rm mc ms n := by
  have key : ∀ w ∈ va_wsS own index y (.codeWith y bytes maxL ret hh :: bw), w ∈ bw := by
    intro w hw
    unfold va_wsS at hw
    simp only [List.cons_append, List.nil_append, List.mem_cons] at hw
    rcases hw with rfl | rfl | rfl | rfl | hw
    · exact m1
    · exact m2
    · exact m3
    · exact m5
    · exact hw
  exact vx_cwSW n ht (fun w hw => ⟨key w hw, good_of_word (bw_good w (key w hw))⟩) rfl hrc hrs hd hR
theorem lw_o0 {o0 g0 : Nat} {cI cG cB : ClassId} {th : Nat} {wx wm : va_W} (h : lw_I o0 g0 cI cG cB th wx wm) : ∃ fs, wx[0]? = some (o0, .inr (4, fs)) := by
  obtain ⟨q, r, g, z0, z1, z2, y0, y1, y2, pj, fj, lim, kn, ex, pk, fi, n, en, le, ro, di, sn, ar, rt, oh, cn, no, ot, cu, wc, wl, wt, fa, wy, lo, ch, bd, rfl, rfl, rfl, -⟩ := h
  exact ⟨_, rfl⟩
theorem lw_g0 {o0 g0 : Nat} {cI cG cB : ClassId} {th : Nat} {wx wm : va_W} (h : lw_I o0 g0 cI cG cB th wx wm) : ∃ fs, wm[0]? = some (g0, .inr (5, fs)) := by
  obtain ⟨q, r, g, z0, z1, z2, y0, y1, y2, pj, fj, lim, kn, ex, pk, fi, n, en, le, ro, di, sn, ar, rt, oh, cn, no, ot, cu, wc, wl, wt, fa, wy, lo, ch, bd, rfl, rfl, rfl, -⟩ := h
  exact ⟨_, rfl⟩
/-- what holds all along the law -/
def lw_C (p : Program) (l : Launch) (s : State) (m : MethodId) (c : Code) (b L : Nat) (xs : Nat → Int32) (D : va_G) (cI cG cL cB : ClassId) : Prop :=
  p.tables.exec = Jvm.exec ∧ c.code = cL_law ∧ c.maxLocals = 7 ∧ s.vm.findClass RL = some m.cls ∧ (∀ w ∈ bw, w.before #[Value.ref b] s = true) ∧ va_X b L xs s s.heap ∧ b < s.heap.size ∧ EW D (tyL cI cG cL cB) s ∧ xZ (fun q : Nat => s.heap.size ≤ q) s s.heap ∧ l.stackTraces = false ∧ L ≤ 2560
/-- back at the loop's end -/
def lw_G (p : Program) (l : Launch) (e : Env) (s : State) (m : MethodId) (below : List Frame) (meth : Method) (c : Code) (b : Nat) (D : va_G) (cI cG cL cB : ClassId) (o0 g0 oo i : Nat) (cells slots : Nat) (Q : State → Prop) : Prop :=
  ∀ (th : Nat) (f : Nat → Int64) (wx wm : va_W) (H : Heap) (locs : List Loc) (ls : Array Slot), lw_I o0 g0 cI cG cB th wx wm → va_P D vwCl ((lA oo cL f :: wx) ++ wm) H → va_D (fun q : Nat => s.heap.size ≤ q) ((lA oo cL f :: wx) ++ wm) → va_S (fun q : Nat => s.heap.size ≤ q) s.heap H locs → lv_has ls 7 [(0, .ref b), (1, .ref o0), (2, .ref g0), (3, .ref oo), (4, .int (nI i))] →
    W p l e room_1 s m #[Value.ref b] below meth c H locs cells slots Q (F0 m 989 ls [])
set_option maxHeartbeats 4000000 in
set_option maxRecDepth 100000 in
theorem lc_tray {p : Program} {l : Launch} {e : Env} {s : State} {m : MethodId} {below : List Frame} {meth : Method} {c : Code} {b L : Nat} {xs : Nat → Int32} {D : va_G} {cI cG cL cB : ClassId} {o0 g0 oo i cells slots th : Nat} {f : Nat → Int64} {wx wm : va_W} {H : Heap} {locs : List Loc} {ls : Array Slot} {Q : State → Prop} (C0 : lw_C p l s m c b L xs D cI cG cL cB) (hi : i + 5 ≤ L) (hf : cells + 6 ≤ 620713 ∧ slots + 36 ≤ 7233965) (hI : lw_I o0 g0 cI cG cB th wx wm) (hP : va_P D vwCl ((lA oo cL f :: wx) ++ wm) H) (hD : va_D (fun q : Nat => s.heap.size ≤ q) ((lA oo cL f :: wx) ++ wm)) (hS : va_S (fun q : Nat => s.heap.size ≤ q) s.heap H locs) (hl : lv_has ls 7 [(0, .ref b), (1, .ref o0), (2, .ref g0), (3, .ref oo), (4, .int (nI i))])
    (kk : lw_G p l e s m below meth c b D cI cG cL cB o0 g0 oo i (cells + 6) (slots + 36) Q) : W p l e room_1 s m #[Value.ref b] below meth c H locs cells slots Q (F0 m 108 ls []) := by
  obtain ⟨hx, hb, hml, hown, hbw, hX, hbl, hEW, hZ, hl9, hL⟩ := C0
  have hA : ∀ q : Nat, s.heap.size ≤ q → (fun q : Nat => s.heap.size ≤ q) q := fun _ h => h
  have hbA : ¬ (fun q : Nat => s.heap.size ≤ q) b := Nat.not_le.mpr hbl
  have hEN := hEW.1.1
  have hK := hEN.1
  obtain ⟨fs0, hg0⟩ := lw_g0 hI
  obtain ⟨fs1, ho0⟩ := lw_o0 hI
  refine lv_aload_n hx hb dL_law_108 rfl (lv_at hl 1 rfl) ?_
  refine lv_aload_n hx hb dL_law_109 rfl (lv_at hl 0 rfl) ?_
  refine lv_iload hx hb dL_law_110 (lv_at hl 4 rfl) ?_
  refine lv_iconst (v := nI 1) hx hb dL_law_112 (by decide) ?_
  refine nr_iadd hx hb dL_law_113 ?_
  refine va_sld hx hb hX hbl hbA hS (i := nI (i + 1)) (vp_in_nI (by omega) (by omega)) dL_law_114 ?_
  refine lv_aload_n hx hb dL_law_115 rfl (lv_at hl 0 rfl) ?_
  refine lv_iload hx hb dL_law_116 (lv_at hl 4 rfl) ?_
  refine lv_iconst (v := nI 2) hx hb dL_law_118 (by decide) ?_
  refine nr_iadd hx hb dL_law_119 ?_
  refine va_sld hx hb hX hbl hbA hS (i := nI (i + 2)) (vp_in_nI (by omega) (by omega)) dL_law_120 ?_
  refine lv_aload_n hx hb dL_law_121 rfl (lv_at hl 0 rfl) ?_
  refine lv_iload hx hb dL_law_122 (lv_at hl 4 rfl) ?_
  refine lv_iconst (v := nI 3) hx hb dL_law_124 (by decide) ?_
  refine nr_iadd hx hb dL_law_125 ?_
  refine va_sld hx hb hX hbl hbA hS (i := nI (i + 3)) (vp_in_nI (by omega) (by omega)) dL_law_126 ?_
  refine lv_aload_n hx hb dL_law_127 rfl (lv_at hl 0 rfl) ?_
  refine lv_iload hx hb dL_law_128 (lv_at hl 4 rfl) ?_
  refine lv_iconst (v := nI 4) hx hb dL_law_130 (by decide) ?_
  refine nr_iadd hx hb dL_law_131 ?_
  refine va_sld hx hb hX hbl hbA hS (i := nI (i + 4)) (vp_in_nI (by omega) (by omega)) dL_law_132 ?_
  refine lv_aload_n hx hb dL_law_133 rfl (lv_at hl 3 rfl) ?_
  obtain ⟨post, hM, hpost⟩ := pr_tray l hl9 D cI cG cL cB o0 g0 oo ((xs (nI (i + 1)).toNatClampNeg)) ((xs (nI (i + 2)).toNatClampNeg)) ((xs (nI (i + 3)).toNatClampNeg)) ((xs (nI (i + 4)).toNatClampNeg)) th wx wm f hI
  refine px_W (As := [.ref o0, .int ((xs (nI (i + 1)).toNatClampNeg)), .int ((xs (nI (i + 2)).toNatClampNeg)), .int ((xs (nI (i + 3)).toNatClampNeg)), .int ((xs (nI (i + 4)).toNatClampNeg)), .ref oo]) (rest := []) ⟨hx, hb, hml, hown, hbw⟩ (EW_E D _) hEW hZ hM (gW 6 hbw m_243 m_244 m_17 m_245 rfl rfl (by decide +kernel) ⟨(Nat.le_of_ble_eq_true rfl), (Nat.le_of_ble_eq_true rfl)⟩) hP hD hS hA rfl hl.1 rfl (Nat.le_of_ble_eq_true rfl) dL_law_134 ⟨(show cells + 6 ≤ 620713 by omega), (show slots + 36 ≤ 7233965 by omega)⟩ (fun k w1 H locs hw hP hD hS => ?_)
  obtain ⟨f', wx', rfl, post2, hM2, hpost2⟩ := hpost k w1 hw
  refine lv_istore (lv' := [(5, .int k), (0, .ref b), (1, .ref o0), (2, .ref g0), (3, .ref oo), (4, .int (nI i))]) hx hb dL_law_137 hl (by decide) rfl (fun ls hl => ?_)
  refine lv_aload_n hx hb dL_law_139 rfl (lv_at hl 3 rfl) ?_
  refine lv_aload_n hx hb dL_law_140 rfl (lv_at hl 1 rfl) ?_
  refine lv_iload hx hb dL_law_141 (lv_at hl 5 rfl) ?_
  refine lv_iconst (v := nI 1) hx hb dL_law_143 (by decide) ?_
  refine nr_iadd hx hb dL_law_144 ?_
  refine va_sld hx hb hX hbl hbA hS (i := nI (i + 1)) (vp_in_nI (by omega) (by omega)) dL_law_145 ?_
  refine lv_aload_n hx hb dL_law_146 rfl (lv_at hl 1 rfl) ?_
  refine lv_iload hx hb dL_law_147 (lv_at hl 5 rfl) ?_
  refine lv_iconst (v := nI 2) hx hb dL_law_149 (by decide) ?_
  refine nr_iadd hx hb dL_law_150 ?_
  refine va_sld hx hb hX hbl hbA hS (i := nI (i + 2)) (vp_in_nI (by omega) (by omega)) dL_law_151 ?_
  refine lv_aload_n hx hb dL_law_152 rfl (lv_at hl 1 rfl) ?_
  refine lv_iload hx hb dL_law_153 (lv_at hl 5 rfl) ?_
  refine lv_iconst (v := nI 3) hx hb dL_law_155 (by decide) ?_
  refine nr_iadd hx hb dL_law_156 ?_
  refine va_sld hx hb hX hbl hbA hS (i := nI (i + 3)) (vp_in_nI (by omega) (by omega)) dL_law_157 ?_
  refine lv_aload_n hx hb dL_law_158 rfl (lv_at hl 1 rfl) ?_
  refine lv_iload hx hb dL_law_159 (lv_at hl 5 rfl) ?_
  refine lv_iconst (v := nI 4) hx hb dL_law_161 (by decide) ?_
  refine nr_iadd hx hb dL_law_162 ?_
  refine va_sld hx hb hX hbl hbA hS (i := nI (i + 4)) (vp_in_nI (by omega) (by omega)) dL_law_163 ?_
  have hP := px_swP hP
  have hD := px_swD hD
  refine px_V (As := [.int ((xs (nI (i + 1)).toNatClampNeg)), .int ((xs (nI (i + 2)).toNatClampNeg)), .int ((xs (nI (i + 3)).toNatClampNeg)), .int ((xs (nI (i + 4)).toNatClampNeg))]) (rest := []) ⟨hx, hb, hml, hown, hbw⟩ (EN_E D _) hEN (hM2) (cwV (C := "CableSizesModel") 4 hbw (gV m_551 m_552 m_553 m_23 m_554) rfl rfl rfl (by decide +kernel) ⟨(Nat.le_of_ble_eq_true rfl), (Nat.le_of_ble_eq_true rfl)⟩) (va_recv hK hP (ci := 5) (q0 := 0) rfl (px_l hg0)) hP hD hS hA rfl hl.1 rfl (Nat.le_of_ble_eq_true rfl) dL_law_164 ⟨(show cells + 6 + 0 ≤ 620713 by omega), (show slots + 36 + 0 ≤ 7233965 by omega)⟩ (fun v wm' H locs hw2 hP hD hS => ?_)
  obtain ⟨th', hth, hI, rfl, hv⟩ := hpost2 v wm' hw2
  obtain ⟨fs2, hg2⟩ := lw_g0 hI
  refine lv_istore (lv' := [(6, .int v), (5, .int (nI th')), (0, .ref b), (1, .ref o0), (2, .ref g0), (3, .ref oo), (4, .int (nI i))]) hx hb dL_law_167 hl (by decide) rfl (fun ls hl => ?_)
  refine lv_aload_n hx hb dL_law_169 rfl (lv_at hl 4 rfl) ?_
  refine px_V (As := []) (rest := []) ⟨hx, hb, hml, hown, hbw⟩ (EN_E D _) hEN (pr_thrown l D cI cG cL cB hI) (cwV (C := "CableSizesModel") 0 hbw (gV m_547 m_548 m_549 m_23 m_550) rfl rfl rfl (by decide +kernel) ⟨(Nat.le_of_ble_eq_true rfl), (Nat.le_of_ble_eq_true rfl)⟩) (va_recv hK hP (ci := 5) (q0 := 0) rfl (px_l hg2)) hP hD hS hA rfl hl.1 rfl (Nat.le_of_ble_eq_true rfl) dL_law_170 ⟨(show cells + 6 + 0 + 0 ≤ 620713 by omega), (show slots + 36 + 0 + 0 ≤ 7233965 by omega)⟩ (fun r w2 H locs hw3 hP hD hS => ?_)
  obtain ⟨rfl, rfl⟩ := hw3
  have hP : va_P D vwCl ((lA oo cL f' :: wx') ++ w2) H := px_swP hP
  have hD : va_D (fun q : Nat => s.heap.size ≤ q) ((lA oo cL f' :: wx') ++ w2) := px_swD hD
  refine lv_iload hx hb dL_law_173 (lv_at hl 1 rfl) ?_
  refine lv_icmp_eq (tgt := 180) hx hb dL_law_175 (by decide) (fun _ => ?_) (fun h => absurd rfl h)
  refine lv_iload hx hb dL_law_180 (lv_at hl 1 rfl) ?_
  refine nr_if_ne (x := th') (tgt := 197) hx hb (by omega) dL_law_182 (by decide) (fun h0 => ?_) (fun h0 => ?_)
  · refine lv_goto (tgt := 989) hx hb dL_law_197 (by decide) ?_
    refine W.widen (k := cells + 6) (n := slots + 36) (by omega) (by omega) ?_
    exact kk _ f' _ _ _ _ _ hI hP hD hS (lv_sub hl [2, 3, 4, 5, 6] rfl)
  · refine lv_aload_n hx hb dL_law_185 rfl (lv_at hl 5 rfl) ?_
    refine lv_iconst (v := nI 0) hx hb dL_law_186 (by decide) ?_
    have e0 : f' (nI 0).toNatClampNeg = f' 0 := congrArg f' (nI_clamp (by omega))
    refine va_lald hx hb hK hP 0 2 rfl rfl (i := nI 0) (vp_in_nI (by omega) (by omega)) dL_law_187 ?_
    rw [e0, hv (by omega)]
    refine lv_iload hx hb dL_law_188 (lv_at hl 0 rfl) ?_
    refine lv_i2l (v := (v).toInt64) hx hb dL_law_190 rfl ?_
    refine nr_cmpeq (tgt := 197) hx hb dL_law_191 dL_law_192 (by decide) (fun _ => ?_) (fun h => absurd rfl h)
    refine lv_goto (tgt := 989) hx hb dL_law_197 (by decide) ?_
    refine W.widen (k := cells + 6) (n := slots + 36) (by omega) (by omega) ?_
    exact kk _ f' _ _ _ _ _ hI hP hD hS (lv_sub hl [2, 3, 4, 5, 6] rfl)
