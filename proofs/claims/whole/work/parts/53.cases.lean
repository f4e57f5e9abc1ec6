/-! the law's cases -/
theorem gW {R : Room} {s : State} {args : Array Value} {own : String} {index : Nat} {y : MethodName} {bytes : ByteArray} {maxL : Nat} {ret : Option FieldType} {hh : List (Nat × Nat × Nat × Nat)} {rm : Room} {mc ms : Nat} (n : Nat) (ht : ∀ w ∈ bw, w.before args s = true) (m1 : Cond.methodLink own index y ∈ bw) (m2 : Cond.static y ∈ bw) (m3 : Cond.initialized y.cls ∈ bw) (m5 : Cond.codeWith y bytes maxL ret hh ∈ bw) (hrc : rm.cells = mc) (hrs : rm.slots = ms)
    (hd : y.cls ≠ "java/lang/invoke/MethodHandle" ∧ y.cls ≠ "java/lang/invoke/VarHandle" ∧ (parseMethodDescriptor y.desc).map (fun d => d.parameters.length) = some n) (hR : rm.frames + 1 ≤ R.frames ∧ 8 + (maxL + 11) + rm.locals ≤ R.locals) :
    vx_CSW R s args own index y bytes maxL ret hh (.codeWith y bytes maxL ret hh :: bw) rm mc ms n := by
  have key : ∀ w ∈ va_wsS own index y (.codeWith y bytes maxL ret hh :: bw), w ∈ bw := by
    intro w hw
    unfold va_wsS at hw
    simp only [List.cons_append, List.nil_append, List.mem_cons] at hw
    rcases hw with rfl | rfl | rfl | rfl | hw
    · exact m1
    · exact m2
    · exact m3
    · exact m5
    · exact hw
  exact vx_cwSW n ht (fun w hw => ⟨key w hw, good_of_word (bw_good w (key w hw))⟩) rfl hrc hrs hd hR
theorem lw_o0 {o0 g0 : Nat} {cI cG cB : ClassId} {th : Nat} {wx wm : va_W} (h : lw_I o0 g0 cI cG cB th wx wm) : ∃ fs, wx[0]? = some (o0, .inr (4, fs)) := by
  obtain ⟨q, r, g, z0, z1, z2, y0, y1, y2, pj, fj, lim, kn, ex, pk, fi, n, en, le, ro, di, sn, ar, rt, oh, cn, no, ot, cu, wc, wl, wt, fa, wy, lo, ch, bd, rfl, rfl, rfl, -⟩ := h
  exact ⟨_, rfl⟩
theorem lw_g0 {o0 g0 : Nat} {cI cG cB : ClassId} {th : Nat} {wx wm : va_W} (h : lw_I o0 g0 cI cG cB th wx wm) : ∃ fs, wm[0]? = some (g0, .inr (5, fs)) := by
  obtain ⟨q, r, g, z0, z1, z2, y0, y1, y2, pj, fj, lim, kn, ex, pk, fi, n, en, le, ro, di, sn, ar, rt, oh, cn, no, ot, cu, wc, wl, wt, fa, wy, lo, ch, bd, rfl, rfl, rfl, -⟩ := h
  exact ⟨_, rfl⟩
/-- what holds all along the law -/
def lw_C (p : Program) (l : Launch) (s : State) (m : MethodId) (c : Code) (b L : Nat) (xs : Nat → Int32) (D : va_G) (cI cG cL cB : ClassId) : Prop :=
  p.tables.exec = Jvm.exec ∧ c.code = cL_law ∧ c.maxLocals = 7 ∧ s.vm.findClass RL = some m.cls ∧ (∀ w ∈ bw, w.before #[Value.ref b] s = true) ∧ va_X b L xs s s.heap ∧ b < s.heap.size ∧ EW D (tyL cI cG cL cB) s ∧ xZ (fun q : Nat => s.heap.size ≤ q) s s.heap ∧ l.stackTraces = false ∧ L ≤ 2560
/-- back at the loop's end -/
def lw_G (p : Program) (l : Launch) (e : Env) (s : State) (m : MethodId) (below : List Frame) (meth : Method) (c : Code) (b : Nat) (D : va_G) (cI cG cL cB : ClassId) (o0 g0 oo i : Nat) (cells slots : Nat) (Q : State → Prop) : Prop :=
  ∀ (th : Nat) (f : Nat → Int64) (wx wm : va_W) (H : Heap) (locs : List Loc) (ls : Array Slot), lw_I o0 g0 cI cG cB th wx wm → va_P D vwCl ((lA oo cL f :: wx) ++ wm) H → va_D (fun q : Nat => s.heap.size ≤ q) ((lA oo cL f :: wx) ++ wm) → va_S (fun q : Nat => s.heap.size ≤ q) s.heap H locs → lv_has ls 7 [(0, .ref b), (1, .ref o0), (2, .ref g0), (3, .ref oo), (4, .int (nI i))] →
    W p l e room_1 s m #[Value.ref b] below meth c H locs cells slots Q (F0 m 989 ls [])
set_option maxHeartbeats 4000000 in
set_option maxRecDepth 100000 in
theorem lc_tray {p : Program} {l : Launch} {e : Env} {s : State} {m : MethodId} {below : List Frame} {meth : Method} {c : Code} {b L : Nat} {xs : Nat → Int32} {D : va_G} {cI cG cL cB : ClassId} {o0 g0 oo i cells slots th : Nat} {f : Nat → Int64} {wx wm : va_W} {H : Heap} {locs : List Loc} {ls : Array Slot} {Q : State → Prop} (C0 : lw_C p l s m c b L xs D cI cG cL cB) (hi : i + 5 ≤ L) (hf : cells + 6 ≤ 620713 ∧ slots + 36 ≤ 7233965) (hI : lw_I o0 g0 cI cG cB th wx wm) (hP : va_P D vwCl ((lA oo cL f :: wx) ++ wm) H) (hD : va_D (fun q : Nat => s.heap.size ≤ q) ((lA oo cL f :: wx) ++ wm)) (hS : va_S (fun q : Nat => s.heap.size ≤ q) s.heap H locs) (hl : lv_has ls 7 [(0, .ref b), (1, .ref o0), (2, .ref g0), (3, .ref oo), (4, .int (nI i))])
    (kk : lw_G p l e s m below meth c b D cI cG cL cB o0 g0 oo i (cells + 6) (slots + 36) Q) : W p l e room_1 s m #[Value.ref b] below meth c H locs cells slots Q (F0 m 108 ls []) := by
  obtain ⟨hx, hb, hml, hown, hbw, hX, hbl, hEW, hZ, hl9, hL⟩ := C0
  have hA : ∀ q : Nat, s.heap.size ≤ q → (fun q : Nat => s.heap.size ≤ q) q := fun _ h => h
  have hbA : ¬ (fun q : Nat => s.heap.size ≤ q) b := Nat.not_le.mpr hbl
  have hEN := hEW.1.1
  have hK := hEN.1
  obtain ⟨fs0, hg0⟩ := lw_g0 hI
  obtain ⟨fs1, ho0⟩ := lw_o0 hI
  refine lv_aload_n hx hb dL_law_108 rfl (lv_at hl 1 rfl) ?_
  refine lv_aload_n hx hb dL_law_109 rfl (lv_at hl 0 rfl) ?_
  refine lv_iload hx hb dL_law_110 (lv_at hl 4 rfl) ?_
  refine lv_iconst (v := nI 1) hx hb dL_law_112 (by decide) ?_
  refine nr_iadd hx hb dL_law_113 ?_
  refine va_sld hx hb hX hbl hbA hS (i := nI (i + 1)) (vp_in_nI (by omega) (by omega)) dL_law_114 ?_
  refine lv_aload_n hx hb dL_law_115 rfl (lv_at hl 0 rfl) ?_
  refine lv_iload hx hb dL_law_116 (lv_at hl 4 rfl) ?_
  refine lv_iconst (v := nI 2) hx hb dL_law_118 (by decide) ?_
  refine nr_iadd hx hb dL_law_119 ?_
  refine va_sld hx hb hX hbl hbA hS (i := nI (i + 2)) (vp_in_nI (by omega) (by omega)) dL_law_120 ?_
  refine lv_aload_n hx hb dL_law_121 rfl (lv_at hl 0 rfl) ?_
  refine lv_iload hx hb dL_law_122 (lv_at hl 4 rfl) ?_
  refine lv_iconst (v := nI 3) hx hb dL_law_124 (by decide) ?_
  refine nr_iadd hx hb dL_law_125 ?_
  refine va_sld hx hb hX hbl hbA hS (i := nI (i + 3)) (vp_in_nI (by omega) (by omega)) dL_law_126 ?_
  refine lv_aload_n hx hb dL_law_127 rfl (lv_at hl 0 rfl) ?_
  refine lv_iload hx hb dL_law_128 (lv_at hl 4 rfl) ?_
  refine lv_iconst (v := nI 4) hx hb dL_law_130 (by decide) ?_
  refine nr_iadd hx hb dL_law_131 ?_
  refine va_sld hx hb hX hbl hbA hS (i := nI (i + 4)) (vp_in_nI (by omega) (by omega)) dL_law_132 ?_
  refine lv_aload_n hx hb dL_law_133 rfl (lv_at hl 3 rfl) ?_
  obtain ⟨post, hM, hpost⟩ := pr_tray l hl9 D cI cG cL cB o0 g0 oo ((xs (nI (i + 1)).toNatClampNeg)) ((xs (nI (i + 2)).toNatClampNeg)) ((xs (nI (i + 3)).toNatClampNeg)) ((xs (nI (i + 4)).toNatClampNeg)) th wx wm f hI
  refine px_W (As := [.ref o0, .int ((xs (nI (i + 1)).toNatClampNeg)), .int ((xs (nI (i + 2)).toNatClampNeg)), .int ((xs (nI (i + 3)).toNatClampNeg)), .int ((xs (nI (i + 4)).toNatClampNeg)), .ref oo]) (rest := []) ⟨hx, hb, hml, hown, hbw⟩ (EW_E D _) hEW hZ hM (gW 6 hbw m_243 m_244 m_17 m_245 rfl rfl (by decide +kernel) ⟨(Nat.le_of_ble_eq_true rfl), (Nat.le_of_ble_eq_true rfl)⟩) hP hD hS hA rfl hl.1 rfl (Nat.le_of_ble_eq_true rfl) dL_law_134 ⟨(show cells + 6 ≤ 620713 by omega), (show slots + 36 ≤ 7233965 by omega)⟩ (fun k w1 H locs hw hP hD hS => ?_)
  obtain ⟨f', wx', rfl, post2, hM2, hpost2⟩ := hpost k w1 hw
  refine lv_istore (lv' := [(5, .int k), (0, .ref b), (1, .ref o0), (2, .ref g0), (3, .ref oo), (4, .int (nI i))]) hx hb dL_law_137 hl (by decide) rfl (fun ls hl => ?_)
  refine lv_aload_n hx hb dL_law_139 rfl (lv_at hl 3 rfl) ?_
  refine lv_aload_n hx hb dL_law_140 rfl (lv_at hl 1 rfl) ?_
  refine lv_iload hx hb dL_law_141 (lv_at hl 5 rfl) ?_
  refine lv_iconst (v := nI 1) hx hb dL_law_143 (by decide) ?_
  refine nr_iadd hx hb dL_law_144 ?_
  refine va_sld hx hb hX hbl hbA hS (i := nI (i + 1)) (vp_in_nI (by omega) (by omega)) dL_law_145 ?_
  refine lv_aload_n hx hb dL_law_146 rfl (lv_at hl 1 rfl) ?_
  refine lv_iload hx hb dL_law_147 (lv_at hl 5 rfl) ?_
  refine lv_iconst (v := nI 2) hx hb dL_law_149 (by decide) ?_
  refine nr_iadd hx hb dL_law_150 ?_
  refine va_sld hx hb hX hbl hbA hS (i := nI (i + 2)) (vp_in_nI (by omega) (by omega)) dL_law_151 ?_
  refine lv_aload_n hx hb dL_law_152 rfl (lv_at hl 1 rfl) ?_
  refine lv_iload hx hb dL_law_153 (lv_at hl 5 rfl) ?_
  refine lv_iconst (v := nI 3) hx hb dL_law_155 (by decide) ?_
  refine nr_iadd hx hb dL_law_156 ?_
  refine va_sld hx hb hX hbl hbA hS (i := nI (i + 3)) (vp_in_nI (by omega) (by omega)) dL_law_157 ?_
  refine lv_aload_n hx hb dL_law_158 rfl (lv_at hl 1 rfl) ?_
  refine lv_iload hx hb dL_law_159 (lv_at hl 5 rfl) ?_
  refine lv_iconst (v := nI 4) hx hb dL_law_161 (by decide) ?_
  refine nr_iadd hx hb dL_law_162 ?_
  refine va_sld hx hb hX hbl hbA hS (i := nI (i + 4)) (vp_in_nI (by omega) (by omega)) dL_law_163 ?_
  have hP := px_swP hP
  have hD := px_swD hD
  refine px_V (As := [.int ((xs (nI (i + 1)).toNatClampNeg)), .int ((xs (nI (i + 2)).toNatClampNeg)), .int ((xs (nI (i + 3)).toNatClampNeg)), .int ((xs (nI (i + 4)).toNatClampNeg))]) (rest := []) ⟨hx, hb, hml, hown, hbw⟩ (EN_E D _) hEN (hM2) (cwV (C := "CableSizesModel") 4 hbw (gV m_551 m_552 m_553 m_23 m_554) rfl rfl rfl (by decide +kernel) ⟨(Nat.le_of_ble_eq_true rfl), (Nat.le_of_ble_eq_true rfl)⟩) (va_recv hK hP (ci := 5) (q0 := 0) rfl (px_l hg0)) hP hD hS hA rfl hl.1 rfl (Nat.le_of_ble_eq_true rfl) dL_law_164 ⟨(show cells + 6 + 0 ≤ 620713 by omega), (show slots + 36 + 0 ≤ 7233965 by omega)⟩ (fun v wm' H locs hw2 hP hD hS => ?_)
  obtain ⟨th', hth, hI, rfl, hv⟩ := hpost2 v wm' hw2
  obtain ⟨fs2, hg2⟩ := lw_g0 hI
  refine lv_istore (lv' := [(6, .int v), (5, .int (nI th')), (0, .ref b), (1, .ref o0), (2, .ref g0), (3, .ref oo), (4, .int (nI i))]) hx hb dL_law_167 hl (by decide) rfl (fun ls hl => ?_)
  refine lv_aload_n hx hb dL_law_169 rfl (lv_at hl 4 rfl) ?_
  refine px_V (As := []) (rest := []) ⟨hx, hb, hml, hown, hbw⟩ (EN_E D _) hEN (pr_thrown l D cI cG cL cB hI) (cwV (C := "CableSizesModel") 0 hbw (gV m_547 m_548 m_549 m_23 m_550) rfl rfl rfl (by decide +kernel) ⟨(Nat.le_of_ble_eq_true rfl), (Nat.le_of_ble_eq_true rfl)⟩) (va_recv hK hP (ci := 5) (q0 := 0) rfl (px_l hg2)) hP hD hS hA rfl hl.1 rfl (Nat.le_of_ble_eq_true rfl) dL_law_170 ⟨(show cells + 6 + 0 + 0 ≤ 620713 by omega), (show slots + 36 + 0 + 0 ≤ 7233965 by omega)⟩ (fun r w2 H locs hw3 hP hD hS => ?_)
  obtain ⟨hw4, rfl⟩ := hw3
  rw [hw4] at hP hD
  have hP : va_P D vwCl ((lA oo cL f' :: wx') ++ wm') _ := px_swP hP
  have hD : va_D (fun q : Nat => s.heap.size ≤ q) ((lA oo cL f' :: wx') ++ wm') := px_swD hD
  refine lv_iload hx hb dL_law_173 (lv_at hl 1 rfl) ?_
  refine lv_icmp_eq (tgt := 180) hx hb dL_law_175 (by decide) (fun _ => ?_) (fun h => absurd rfl h)
  refine lv_iload hx hb dL_law_180 (lv_at hl 1 rfl) ?_
  refine nr_if_ne (x := th') (tgt := 197) hx hb (by omega) dL_law_182 (by decide) (fun h0 => ?_) (fun h0 => ?_)
  · refine lv_goto (tgt := 989) hx hb dL_law_197 (by decide) ?_
    refine W.widen (k := cells + 6) (n := slots + 36) (by omega) (by omega) ?_
    exact kk _ f' _ _ _ _ _ hI hP hD hS (lv_sub hl [2, 3, 4, 5, 6] rfl)
  · refine lv_aload_n hx hb dL_law_185 rfl (lv_at hl 5 rfl) ?_
    refine lv_iconst (v := nI 0) hx hb dL_law_186 (by decide) ?_
    have e0 : f' (nI 0).toNatClampNeg = f' 0 := congrArg f' (nI_clamp (by omega))
    refine va_lald hx hb hK hP 0 2 rfl rfl (i := nI 0) (vp_in_nI (by omega) (by omega)) dL_law_187 ?_
    rw [e0, hv (by omega)]
    refine lv_iload hx hb dL_law_188 (lv_at hl 0 rfl) ?_
    refine lv_i2l (v := (v).toInt64) hx hb dL_law_190 rfl ?_
    refine nr_cmpeq (tgt := 197) hx hb dL_law_191 dL_law_192 (by decide) (fun _ => ?_) (fun h => absurd rfl h)
    refine lv_goto (tgt := 989) hx hb dL_law_197 (by decide) ?_
    refine W.widen (k := cells + 6) (n := slots + 36) (by omega) (by omega) ?_
    exact kk _ f' _ _ _ _ _ hI hP hD hS (lv_sub hl [2, 3, 4, 5, 6] rfl)
set_option maxHeartbeats 4000000 in
set_option maxRecDepth 100000 in
theorem lc_size {p : Program} {l : Launch} {e : Env} {s : State} {m : MethodId} {below : List Frame} {meth : Method} {c : Code} {b L : Nat} {xs : Nat → Int32} {D : va_G} {cI cG cL cB : ClassId} {o0 g0 oo i cells slots th : Nat} {f : Nat → Int64} {wx wm : va_W} {H : Heap} {locs : List Loc} {ls : Array Slot} {Q : State → Prop} (C0 : lw_C p l s m c b L xs D cI cG cL cB) (hi : i + 5 ≤ L) (hf : cells + 6 ≤ 620713 ∧ slots + 36 ≤ 7233965) (hI : lw_I o0 g0 cI cG cB th wx wm) (hP : va_P D vwCl ((lA oo cL f :: wx) ++ wm) H) (hD : va_D (fun q : Nat => s.heap.size ≤ q) ((lA oo cL f :: wx) ++ wm)) (hS : va_S (fun q : Nat => s.heap.size ≤ q) s.heap H locs) (hl : lv_has ls 7 [(0, .ref b), (1, .ref o0), (2, .ref g0), (3, .ref oo), (4, .int (nI i))])
    (kk : lw_G p l e s m below meth c b D cI cG cL cB o0 g0 oo i (cells + 6) (slots + 36) Q) : W p l e room_1 s m #[Value.ref b] below meth c H locs cells slots Q (F0 m 200 ls []) := by
  obtain ⟨hx, hb, hml, hown, hbw, hX, hbl, hEW, hZ, hl9, hL⟩ := C0
  have hA : ∀ q : Nat, s.heap.size ≤ q → (fun q : Nat => s.heap.size ≤ q) q := fun _ h => h
  have hbA : ¬ (fun q : Nat => s.heap.size ≤ q) b := Nat.not_le.mpr hbl
  have hEN := hEW.1.1
  have hK := hEN.1
  obtain ⟨fs0, hg0⟩ := lw_g0 hI
  obtain ⟨fs1, ho0⟩ := lw_o0 hI
  refine lv_aload_n hx hb dL_law_200 rfl (lv_at hl 1 rfl) ?_
  refine lv_aload_n hx hb dL_law_201 rfl (lv_at hl 0 rfl) ?_
  refine lv_iload hx hb dL_law_202 (lv_at hl 4 rfl) ?_
  refine lv_iconst (v := nI 1) hx hb dL_law_204 (by decide) ?_
  refine nr_iadd hx hb dL_law_205 ?_
  refine va_sld hx hb hX hbl hbA hS (i := nI (i + 1)) (vp_in_nI (by omega) (by omega)) dL_law_206 ?_
  refine lv_aload_n hx hb dL_law_207 rfl (lv_at hl 0 rfl) ?_
  refine lv_iload hx hb dL_law_208 (lv_at hl 4 rfl) ?_
  refine lv_iconst (v := nI 2) hx hb dL_law_210 (by decide) ?_
  refine nr_iadd hx hb dL_law_211 ?_
  refine va_sld hx hb hX hbl hbA hS (i := nI (i + 2)) (vp_in_nI (by omega) (by omega)) dL_law_212 ?_
  refine lv_aload_n hx hb dL_law_213 rfl (lv_at hl 0 rfl) ?_
  refine lv_iload hx hb dL_law_214 (lv_at hl 4 rfl) ?_
  refine lv_iconst (v := nI 3) hx hb dL_law_216 (by decide) ?_
  refine nr_iadd hx hb dL_law_217 ?_
  refine va_sld hx hb hX hbl hbA hS (i := nI (i + 3)) (vp_in_nI (by omega) (by omega)) dL_law_218 ?_
  refine lv_aload_n hx hb dL_law_219 rfl (lv_at hl 3 rfl) ?_
  obtain ⟨post, hM, hpost⟩ := pr_size l hl9 D cI cG cL cB o0 g0 oo ((xs (nI (i + 1)).toNatClampNeg)) ((xs (nI (i + 2)).toNatClampNeg)) ((xs (nI (i + 3)).toNatClampNeg)) th wx wm f hI
  refine px_W (As := [.ref o0, .int ((xs (nI (i + 1)).toNatClampNeg)), .int ((xs (nI (i + 2)).toNatClampNeg)), .int ((xs (nI (i + 3)).toNatClampNeg)), .ref oo]) (rest := []) ⟨hx, hb, hml, hown, hbw⟩ (EW_E D _) hEW hZ hM (gW 5 hbw m_370 m_371 m_17 m_372 rfl rfl (by decide +kernel) ⟨(Nat.le_of_ble_eq_true rfl), (Nat.le_of_ble_eq_true rfl)⟩) hP hD hS hA rfl hl.1 rfl (Nat.le_of_ble_eq_true rfl) dL_law_220 ⟨(show cells + 4 ≤ 620713 by omega), (show slots + 24 ≤ 7233965 by omega)⟩ (fun k w1 H locs hw hP hD hS => ?_)
  obtain ⟨f', wx', rfl, post2, hM2, hpost2⟩ := hpost k w1 hw
  refine lv_istore (lv' := [(5, .int k), (0, .ref b), (1, .ref o0), (2, .ref g0), (3, .ref oo), (4, .int (nI i))]) hx hb dL_law_223 hl (by decide) rfl (fun ls hl => ?_)
  refine lv_aload_n hx hb dL_law_225 rfl (lv_at hl 3 rfl) ?_
  refine lv_aload_n hx hb dL_law_226 rfl (lv_at hl 1 rfl) ?_
  refine lv_iload hx hb dL_law_227 (lv_at hl 5 rfl) ?_
  refine lv_iconst (v := nI 1) hx hb dL_law_229 (by decide) ?_
  refine nr_iadd hx hb dL_law_230 ?_
  refine va_sld hx hb hX hbl hbA hS (i := nI (i + 1)) (vp_in_nI (by omega) (by omega)) dL_law_231 ?_
  refine lv_aload_n hx hb dL_law_232 rfl (lv_at hl 1 rfl) ?_
  refine lv_iload hx hb dL_law_233 (lv_at hl 5 rfl) ?_
  refine lv_iconst (v := nI 2) hx hb dL_law_235 (by decide) ?_
  refine nr_iadd hx hb dL_law_236 ?_
  refine va_sld hx hb hX hbl hbA hS (i := nI (i + 2)) (vp_in_nI (by omega) (by omega)) dL_law_237 ?_
  refine lv_aload_n hx hb dL_law_238 rfl (lv_at hl 1 rfl) ?_
  refine lv_iload hx hb dL_law_239 (lv_at hl 5 rfl) ?_
  refine lv_iconst (v := nI 3) hx hb dL_law_241 (by decide) ?_
  refine nr_iadd hx hb dL_law_242 ?_
  refine va_sld hx hb hX hbl hbA hS (i := nI (i + 3)) (vp_in_nI (by omega) (by omega)) dL_law_243 ?_
  have hP := px_swP hP
  have hD := px_swD hD
  refine px_V (As := [.int ((xs (nI (i + 1)).toNatClampNeg)), .int ((xs (nI (i + 2)).toNatClampNeg)), .int ((xs (nI (i + 3)).toNatClampNeg))]) (rest := []) ⟨hx, hb, hml, hown, hbw⟩ (EN_E D _) hEN (hM2) (cwV (C := "CableSizesModel") 3 hbw (gV m_563 m_564 m_565 m_23 m_566) rfl rfl rfl (by decide +kernel) ⟨(Nat.le_of_ble_eq_true rfl), (Nat.le_of_ble_eq_true rfl)⟩) (va_recv hK hP (ci := 5) (q0 := 0) rfl (px_l hg0)) hP hD hS hA rfl hl.1 rfl (Nat.le_of_ble_eq_true rfl) dL_law_244 ⟨(show cells + 4 + 0 ≤ 620713 by omega), (show slots + 24 + 0 ≤ 7233965 by omega)⟩ (fun v wm' H locs hw2 hP hD hS => ?_)
  obtain ⟨th', hth, hI, rfl, hv⟩ := hpost2 v wm' hw2
  obtain ⟨fs2, hg2⟩ := lw_g0 hI
  refine lv_istore (lv' := [(6, .int v), (5, .int (nI th')), (0, .ref b), (1, .ref o0), (2, .ref g0), (3, .ref oo), (4, .int (nI i))]) hx hb dL_law_247 hl (by decide) rfl (fun ls hl => ?_)
  refine lv_aload_n hx hb dL_law_249 rfl (lv_at hl 4 rfl) ?_
  refine px_V (As := []) (rest := []) ⟨hx, hb, hml, hown, hbw⟩ (EN_E D _) hEN (pr_thrown l D cI cG cL cB hI) (cwV (C := "CableSizesModel") 0 hbw (gV m_547 m_548 m_549 m_23 m_550) rfl rfl rfl (by decide +kernel) ⟨(Nat.le_of_ble_eq_true rfl), (Nat.le_of_ble_eq_true rfl)⟩) (va_recv hK hP (ci := 5) (q0 := 0) rfl (px_l hg2)) hP hD hS hA rfl hl.1 rfl (Nat.le_of_ble_eq_true rfl) dL_law_250 ⟨(show cells + 4 + 0 + 0 ≤ 620713 by omega), (show slots + 24 + 0 + 0 ≤ 7233965 by omega)⟩ (fun r w2 H locs hw3 hP hD hS => ?_)
  obtain ⟨hw4, rfl⟩ := hw3
  rw [hw4] at hP hD
  have hP : va_P D vwCl ((lA oo cL f' :: wx') ++ wm') _ := px_swP hP
  have hD : va_D (fun q : Nat => s.heap.size ≤ q) ((lA oo cL f' :: wx') ++ wm') := px_swD hD
  refine lv_iload hx hb dL_law_253 (lv_at hl 1 rfl) ?_
  refine lv_icmp_eq (tgt := 260) hx hb dL_law_255 (by decide) (fun _ => ?_) (fun h => absurd rfl h)
  refine lv_iload hx hb dL_law_260 (lv_at hl 1 rfl) ?_
  refine nr_if_ne (x := th') (tgt := 277) hx hb (by omega) dL_law_262 (by decide) (fun h0 => ?_) (fun h0 => ?_)
  · refine lv_goto (tgt := 989) hx hb dL_law_277 (by decide) ?_
    refine W.widen (k := cells + 6) (n := slots + 36) (by omega) (by omega) ?_
    exact kk _ f' _ _ _ _ _ hI hP hD hS (lv_sub hl [2, 3, 4, 5, 6] rfl)
  · refine lv_aload_n hx hb dL_law_265 rfl (lv_at hl 5 rfl) ?_
    refine lv_iconst (v := nI 0) hx hb dL_law_266 (by decide) ?_
    have e0 : f' (nI 0).toNatClampNeg = f' 0 := congrArg f' (nI_clamp (by omega))
    refine va_lald hx hb hK hP 0 2 rfl rfl (i := nI 0) (vp_in_nI (by omega) (by omega)) dL_law_267 ?_
    rw [e0, hv (by omega)]
    refine lv_iload hx hb dL_law_268 (lv_at hl 0 rfl) ?_
    refine lv_i2l (v := (v).toInt64) hx hb dL_law_270 rfl ?_
    refine nr_cmpeq (tgt := 277) hx hb dL_law_271 dL_law_272 (by decide) (fun _ => ?_) (fun h => absurd rfl h)
    refine lv_goto (tgt := 989) hx hb dL_law_277 (by decide) ?_
    refine W.widen (k := cells + 6) (n := slots + 36) (by omega) (by omega) ?_
    exact kk _ f' _ _ _ _ _ hI hP hD hS (lv_sub hl [2, 3, 4, 5, 6] rfl)
set_option maxHeartbeats 4000000 in
set_option maxRecDepth 100000 in
theorem lc_cable {p : Program} {l : Launch} {e : Env} {s : State} {m : MethodId} {below : List Frame} {meth : Method} {c : Code} {b L : Nat} {xs : Nat → Int32} {D : va_G} {cI cG cL cB : ClassId} {o0 g0 oo i cells slots th : Nat} {f : Nat → Int64} {wx wm : va_W} {H : Heap} {locs : List Loc} {ls : Array Slot} {Q : State → Prop} (C0 : lw_C p l s m c b L xs D cI cG cL cB) (hi : i + 5 ≤ L) (hf : cells + 6 ≤ 620713 ∧ slots + 36 ≤ 7233965) (hI : lw_I o0 g0 cI cG cB th wx wm) (hP : va_P D vwCl ((lA oo cL f :: wx) ++ wm) H) (hD : va_D (fun q : Nat => s.heap.size ≤ q) ((lA oo cL f :: wx) ++ wm)) (hS : va_S (fun q : Nat => s.heap.size ≤ q) s.heap H locs) (hl : lv_has ls 7 [(0, .ref b), (1, .ref o0), (2, .ref g0), (3, .ref oo), (4, .int (nI i))])
    (kk : lw_G p l e s m below meth c b D cI cG cL cB o0 g0 oo i (cells + 6) (slots + 36) Q) : W p l e room_1 s m #[Value.ref b] below meth c H locs cells slots Q (F0 m 280 ls []) := by
  obtain ⟨hx, hb, hml, hown, hbw, hX, hbl, hEW, hZ, hl9, hL⟩ := C0
  have hA : ∀ q : Nat, s.heap.size ≤ q → (fun q : Nat => s.heap.size ≤ q) q := fun _ h => h
  have hbA : ¬ (fun q : Nat => s.heap.size ≤ q) b := Nat.not_le.mpr hbl
  have hEN := hEW.1.1
  have hK := hEN.1
  obtain ⟨fs0, hg0⟩ := lw_g0 hI
  obtain ⟨fs1, ho0⟩ := lw_o0 hI
  refine lv_aload_n hx hb dL_law_280 rfl (lv_at hl 1 rfl) ?_
  refine lv_aload_n hx hb dL_law_281 rfl (lv_at hl 0 rfl) ?_
  refine lv_iload hx hb dL_law_282 (lv_at hl 4 rfl) ?_
  refine lv_iconst (v := nI 1) hx hb dL_law_284 (by decide) ?_
  refine nr_iadd hx hb dL_law_285 ?_
  refine va_sld hx hb hX hbl hbA hS (i := nI (i + 1)) (vp_in_nI (by omega) (by omega)) dL_law_286 ?_
  refine lv_aload_n hx hb dL_law_287 rfl (lv_at hl 0 rfl) ?_
  refine lv_iload hx hb dL_law_288 (lv_at hl 4 rfl) ?_
  refine lv_iconst (v := nI 2) hx hb dL_law_290 (by decide) ?_
  refine nr_iadd hx hb dL_law_291 ?_
  refine va_sld hx hb hX hbl hbA hS (i := nI (i + 2)) (vp_in_nI (by omega) (by omega)) dL_law_292 ?_
  refine lv_aload_n hx hb dL_law_293 rfl (lv_at hl 0 rfl) ?_
  refine lv_iload hx hb dL_law_294 (lv_at hl 4 rfl) ?_
  refine lv_iconst (v := nI 3) hx hb dL_law_296 (by decide) ?_
  refine nr_iadd hx hb dL_law_297 ?_
  refine va_sld hx hb hX hbl hbA hS (i := nI (i + 3)) (vp_in_nI (by omega) (by omega)) dL_law_298 ?_
  refine lv_aload_n hx hb dL_law_299 rfl (lv_at hl 3 rfl) ?_
  obtain ⟨post, hM, hpost⟩ := pr_cable l hl9 D cI cG cL cB o0 g0 oo ((xs (nI (i + 1)).toNatClampNeg)) ((xs (nI (i + 2)).toNatClampNeg)) ((xs (nI (i + 3)).toNatClampNeg)) th wx wm f hI
  refine px_W (As := [.ref o0, .int ((xs (nI (i + 1)).toNatClampNeg)), .int ((xs (nI (i + 2)).toNatClampNeg)), .int ((xs (nI (i + 3)).toNatClampNeg)), .ref oo]) (rest := []) ⟨hx, hb, hml, hown, hbw⟩ (EW_E D _) hEW hZ hM (gW 5 hbw m_387 m_388 m_17 m_389 rfl rfl (by decide +kernel) ⟨(Nat.le_of_ble_eq_true rfl), (Nat.le_of_ble_eq_true rfl)⟩) hP hD hS hA rfl hl.1 rfl (Nat.le_of_ble_eq_true rfl) dL_law_300 ⟨(show cells + 5 ≤ 620713 by omega), (show slots + 30 ≤ 7233965 by omega)⟩ (fun k w1 H locs hw hP hD hS => ?_)
  obtain ⟨f', wx', rfl, post2, hM2, hpost2⟩ := hpost k w1 hw
  refine lv_istore (lv' := [(5, .int k), (0, .ref b), (1, .ref o0), (2, .ref g0), (3, .ref oo), (4, .int (nI i))]) hx hb dL_law_303 hl (by decide) rfl (fun ls hl => ?_)
  refine lv_aload_n hx hb dL_law_305 rfl (lv_at hl 3 rfl) ?_
  refine lv_aload_n hx hb dL_law_306 rfl (lv_at hl 1 rfl) ?_
  refine lv_iload hx hb dL_law_307 (lv_at hl 5 rfl) ?_
  refine lv_iconst (v := nI 1) hx hb dL_law_309 (by decide) ?_
  refine nr_iadd hx hb dL_law_310 ?_
  refine va_sld hx hb hX hbl hbA hS (i := nI (i + 1)) (vp_in_nI (by omega) (by omega)) dL_law_311 ?_
  refine lv_aload_n hx hb dL_law_312 rfl (lv_at hl 1 rfl) ?_
  refine lv_iload hx hb dL_law_313 (lv_at hl 5 rfl) ?_
  refine lv_iconst (v := nI 2) hx hb dL_law_315 (by decide) ?_
  refine nr_iadd hx hb dL_law_316 ?_
  refine va_sld hx hb hX hbl hbA hS (i := nI (i + 2)) (vp_in_nI (by omega) (by omega)) dL_law_317 ?_
  refine lv_aload_n hx hb dL_law_318 rfl (lv_at hl 1 rfl) ?_
  refine lv_iload hx hb dL_law_319 (lv_at hl 5 rfl) ?_
  refine lv_iconst (v := nI 3) hx hb dL_law_321 (by decide) ?_
  refine nr_iadd hx hb dL_law_322 ?_
  refine va_sld hx hb hX hbl hbA hS (i := nI (i + 3)) (vp_in_nI (by omega) (by omega)) dL_law_323 ?_
  have hP := px_swP hP
  have hD := px_swD hD
  refine px_V (As := [.int ((xs (nI (i + 1)).toNatClampNeg)), .int ((xs (nI (i + 2)).toNatClampNeg)), .int ((xs (nI (i + 3)).toNatClampNeg))]) (rest := []) ⟨hx, hb, hml, hown, hbw⟩ (EN_E D _) hEN (hM2) (cwV (C := "CableSizesModel") 3 hbw (gV m_567 m_568 m_569 m_23 m_570) rfl rfl rfl (by decide +kernel) ⟨(Nat.le_of_ble_eq_true rfl), (Nat.le_of_ble_eq_true rfl)⟩) (va_recv hK hP (ci := 5) (q0 := 0) rfl (px_l hg0)) hP hD hS hA rfl hl.1 rfl (Nat.le_of_ble_eq_true rfl) dL_law_324 ⟨(show cells + 5 + 0 ≤ 620713 by omega), (show slots + 30 + 0 ≤ 7233965 by omega)⟩ (fun v wm' H locs hw2 hP hD hS => ?_)
  obtain ⟨th', hth, hI, rfl, hv⟩ := hpost2 v wm' hw2
  obtain ⟨fs2, hg2⟩ := lw_g0 hI
  refine lv_istore (lv' := [(6, .int v), (5, .int (nI th')), (0, .ref b), (1, .ref o0), (2, .ref g0), (3, .ref oo), (4, .int (nI i))]) hx hb dL_law_327 hl (by decide) rfl (fun ls hl => ?_)
  refine lv_aload_n hx hb dL_law_329 rfl (lv_at hl 4 rfl) ?_
  refine px_V (As := []) (rest := []) ⟨hx, hb, hml, hown, hbw⟩ (EN_E D _) hEN (pr_thrown l D cI cG cL cB hI) (cwV (C := "CableSizesModel") 0 hbw (gV m_547 m_548 m_549 m_23 m_550) rfl rfl rfl (by decide +kernel) ⟨(Nat.le_of_ble_eq_true rfl), (Nat.le_of_ble_eq_true rfl)⟩) (va_recv hK hP (ci := 5) (q0 := 0) rfl (px_l hg2)) hP hD hS hA rfl hl.1 rfl (Nat.le_of_ble_eq_true rfl) dL_law_330 ⟨(show cells + 5 + 0 + 0 ≤ 620713 by omega), (show slots + 30 + 0 + 0 ≤ 7233965 by omega)⟩ (fun r w2 H locs hw3 hP hD hS => ?_)
  obtain ⟨hw4, rfl⟩ := hw3
  rw [hw4] at hP hD
  have hP : va_P D vwCl ((lA oo cL f' :: wx') ++ wm') _ := px_swP hP
  have hD : va_D (fun q : Nat => s.heap.size ≤ q) ((lA oo cL f' :: wx') ++ wm') := px_swD hD
  refine lv_iload hx hb dL_law_333 (lv_at hl 1 rfl) ?_
  refine lv_icmp_eq (tgt := 340) hx hb dL_law_335 (by decide) (fun _ => ?_) (fun h => absurd rfl h)
  refine lv_iload hx hb dL_law_340 (lv_at hl 1 rfl) ?_
  refine nr_if_ne (x := th') (tgt := 357) hx hb (by omega) dL_law_342 (by decide) (fun h0 => ?_) (fun h0 => ?_)
  · refine lv_goto (tgt := 989) hx hb dL_law_357 (by decide) ?_
    refine W.widen (k := cells + 6) (n := slots + 36) (by omega) (by omega) ?_
    exact kk _ f' _ _ _ _ _ hI hP hD hS (lv_sub hl [2, 3, 4, 5, 6] rfl)
  · refine lv_aload_n hx hb dL_law_345 rfl (lv_at hl 5 rfl) ?_
    refine lv_iconst (v := nI 0) hx hb dL_law_346 (by decide) ?_
    have e0 : f' (nI 0).toNatClampNeg = f' 0 := congrArg f' (nI_clamp (by omega))
    refine va_lald hx hb hK hP 0 2 rfl rfl (i := nI 0) (vp_in_nI (by omega) (by omega)) dL_law_347 ?_
    rw [e0, hv (by omega)]
    refine lv_iload hx hb dL_law_348 (lv_at hl 0 rfl) ?_
    refine lv_i2l (v := (v).toInt64) hx hb dL_law_350 rfl ?_
    refine nr_cmpeq (tgt := 357) hx hb dL_law_351 dL_law_352 (by decide) (fun _ => ?_) (fun h => absurd rfl h)
    refine lv_goto (tgt := 989) hx hb dL_law_357 (by decide) ?_
    refine W.widen (k := cells + 6) (n := slots + 36) (by omega) (by omega) ?_
    exact kk _ f' _ _ _ _ _ hI hP hD hS (lv_sub hl [2, 3, 4, 5, 6] rfl)
set_option maxHeartbeats 4000000 in
set_option maxRecDepth 100000 in
theorem lc_current {p : Program} {l : Launch} {e : Env} {s : State} {m : MethodId} {below : List Frame} {meth : Method} {c : Code} {b L : Nat} {xs : Nat → Int32} {D : va_G} {cI cG cL cB : ClassId} {o0 g0 oo i cells slots th : Nat} {f : Nat → Int64} {wx wm : va_W} {H : Heap} {locs : List Loc} {ls : Array Slot} {Q : State → Prop} (C0 : lw_C p l s m c b L xs D cI cG cL cB) (hi : i + 5 ≤ L) (hf : cells + 6 ≤ 620713 ∧ slots + 36 ≤ 7233965) (hI : lw_I o0 g0 cI cG cB th wx wm) (hP : va_P D vwCl ((lA oo cL f :: wx) ++ wm) H) (hD : va_D (fun q : Nat => s.heap.size ≤ q) ((lA oo cL f :: wx) ++ wm)) (hS : va_S (fun q : Nat => s.heap.size ≤ q) s.heap H locs) (hl : lv_has ls 7 [(0, .ref b), (1, .ref o0), (2, .ref g0), (3, .ref oo), (4, .int (nI i))])
    (kk : lw_G p l e s m below meth c b D cI cG cL cB o0 g0 oo i (cells + 6) (slots + 36) Q) : W p l e room_1 s m #[Value.ref b] below meth c H locs cells slots Q (F0 m 360 ls []) := by
  obtain ⟨hx, hb, hml, hown, hbw, hX, hbl, hEW, hZ, hl9, hL⟩ := C0
  have hA : ∀ q : Nat, s.heap.size ≤ q → (fun q : Nat => s.heap.size ≤ q) q := fun _ h => h
  have hbA : ¬ (fun q : Nat => s.heap.size ≤ q) b := Nat.not_le.mpr hbl
  have hEN := hEW.1.1
  have hK := hEN.1
  obtain ⟨fs0, hg0⟩ := lw_g0 hI
  obtain ⟨fs1, ho0⟩ := lw_o0 hI
  refine lv_aload_n hx hb dL_law_360 rfl (lv_at hl 1 rfl) ?_
  refine lv_aload_n hx hb dL_law_361 rfl (lv_at hl 0 rfl) ?_
  refine lv_iload hx hb dL_law_362 (lv_at hl 4 rfl) ?_
  refine lv_iconst (v := nI 1) hx hb dL_law_364 (by decide) ?_
  refine nr_iadd hx hb dL_law_365 ?_
  refine va_sld hx hb hX hbl hbA hS (i := nI (i + 1)) (vp_in_nI (by omega) (by omega)) dL_law_366 ?_
  refine lv_aload_n hx hb dL_law_367 rfl (lv_at hl 0 rfl) ?_
  refine lv_iload hx hb dL_law_368 (lv_at hl 4 rfl) ?_
  refine lv_iconst (v := nI 2) hx hb dL_law_370 (by decide) ?_
  refine nr_iadd hx hb dL_law_371 ?_
  refine va_sld hx hb hX hbl hbA hS (i := nI (i + 2)) (vp_in_nI (by omega) (by omega)) dL_law_372 ?_
  refine lv_aload_n hx hb dL_law_373 rfl (lv_at hl 3 rfl) ?_
  obtain ⟨post, hM, hpost⟩ := pr_current l hl9 D cI cG cL cB o0 g0 oo ((xs (nI (i + 1)).toNatClampNeg)) ((xs (nI (i + 2)).toNatClampNeg)) th wx wm f hI
  refine px_W (As := [.ref o0, .int ((xs (nI (i + 1)).toNatClampNeg)), .int ((xs (nI (i + 2)).toNatClampNeg)), .ref oo]) (rest := []) ⟨hx, hb, hml, hown, hbw⟩ (EW_E D _) hEW hZ hM (gW 4 hbw m_399 m_400 m_17 m_401 rfl rfl (by decide +kernel) ⟨(Nat.le_of_ble_eq_true rfl), (Nat.le_of_ble_eq_true rfl)⟩) hP hD hS hA rfl hl.1 rfl (Nat.le_of_ble_eq_true rfl) dL_law_374 ⟨(show cells + 2 ≤ 620713 by omega), (show slots + 12 ≤ 7233965 by omega)⟩ (fun k w1 H locs hw hP hD hS => ?_)
  obtain ⟨f', wx', rfl, post2, hM2, hpost2⟩ := hpost k w1 hw
  refine lv_istore (lv' := [(5, .int k), (0, .ref b), (1, .ref o0), (2, .ref g0), (3, .ref oo), (4, .int (nI i))]) hx hb dL_law_377 hl (by decide) rfl (fun ls hl => ?_)
  refine lv_aload_n hx hb dL_law_379 rfl (lv_at hl 3 rfl) ?_
  refine lv_aload_n hx hb dL_law_380 rfl (lv_at hl 1 rfl) ?_
  refine lv_iload hx hb dL_law_381 (lv_at hl 5 rfl) ?_
  refine lv_iconst (v := nI 1) hx hb dL_law_383 (by decide) ?_
  refine nr_iadd hx hb dL_law_384 ?_
  refine va_sld hx hb hX hbl hbA hS (i := nI (i + 1)) (vp_in_nI (by omega) (by omega)) dL_law_385 ?_
  refine lv_aload_n hx hb dL_law_386 rfl (lv_at hl 1 rfl) ?_
  refine lv_iload hx hb dL_law_387 (lv_at hl 5 rfl) ?_
  refine lv_iconst (v := nI 2) hx hb dL_law_389 (by decide) ?_
  refine nr_iadd hx hb dL_law_390 ?_
  refine va_sld hx hb hX hbl hbA hS (i := nI (i + 2)) (vp_in_nI (by omega) (by omega)) dL_law_391 ?_
  have hP := px_swP hP
  have hD := px_swD hD
  refine px_V (As := [.int ((xs (nI (i + 1)).toNatClampNeg)), .int ((xs (nI (i + 2)).toNatClampNeg))]) (rest := []) ⟨hx, hb, hml, hown, hbw⟩ (EN_E D _) hEN (hM2) (cwV (C := "CableSizesModel") 2 hbw (gV m_571 m_572 m_573 m_23 m_574) rfl rfl rfl (by decide +kernel) ⟨(Nat.le_of_ble_eq_true rfl), (Nat.le_of_ble_eq_true rfl)⟩) (va_recv hK hP (ci := 5) (q0 := 0) rfl (px_l hg0)) hP hD hS hA rfl hl.1 rfl (Nat.le_of_ble_eq_true rfl) dL_law_392 ⟨(show cells + 2 + 0 ≤ 620713 by omega), (show slots + 12 + 0 ≤ 7233965 by omega)⟩ (fun v wm' H locs hw2 hP hD hS => ?_)
  obtain ⟨th', hth, hI, rfl, hv⟩ := hpost2 v wm' hw2
  obtain ⟨fs2, hg2⟩ := lw_g0 hI
  refine lv_istore (lv' := [(6, .int v), (5, .int (nI th')), (0, .ref b), (1, .ref o0), (2, .ref g0), (3, .ref oo), (4, .int (nI i))]) hx hb dL_law_395 hl (by decide) rfl (fun ls hl => ?_)
  refine lv_aload_n hx hb dL_law_397 rfl (lv_at hl 4 rfl) ?_
  refine px_V (As := []) (rest := []) ⟨hx, hb, hml, hown, hbw⟩ (EN_E D _) hEN (pr_thrown l D cI cG cL cB hI) (cwV (C := "CableSizesModel") 0 hbw (gV m_547 m_548 m_549 m_23 m_550) rfl rfl rfl (by decide +kernel) ⟨(Nat.le_of_ble_eq_true rfl), (Nat.le_of_ble_eq_true rfl)⟩) (va_recv hK hP (ci := 5) (q0 := 0) rfl (px_l hg2)) hP hD hS hA rfl hl.1 rfl (Nat.le_of_ble_eq_true rfl) dL_law_398 ⟨(show cells + 2 + 0 + 0 ≤ 620713 by omega), (show slots + 12 + 0 + 0 ≤ 7233965 by omega)⟩ (fun r w2 H locs hw3 hP hD hS => ?_)
  obtain ⟨hw4, rfl⟩ := hw3
  rw [hw4] at hP hD
  have hP : va_P D vwCl ((lA oo cL f' :: wx') ++ wm') _ := px_swP hP
  have hD : va_D (fun q : Nat => s.heap.size ≤ q) ((lA oo cL f' :: wx') ++ wm') := px_swD hD
  refine lv_iload hx hb dL_law_401 (lv_at hl 1 rfl) ?_
  refine lv_icmp_eq (tgt := 408) hx hb dL_law_403 (by decide) (fun _ => ?_) (fun h => absurd rfl h)
  refine lv_iload hx hb dL_law_408 (lv_at hl 1 rfl) ?_
  refine nr_if_ne (x := th') (tgt := 425) hx hb (by omega) dL_law_410 (by decide) (fun h0 => ?_) (fun h0 => ?_)
  · refine lv_goto (tgt := 989) hx hb dL_law_425 (by decide) ?_
    refine W.widen (k := cells + 6) (n := slots + 36) (by omega) (by omega) ?_
    exact kk _ f' _ _ _ _ _ hI hP hD hS (lv_sub hl [2, 3, 4, 5, 6] rfl)
  · refine lv_aload_n hx hb dL_law_413 rfl (lv_at hl 5 rfl) ?_
    refine lv_iconst (v := nI 0) hx hb dL_law_414 (by decide) ?_
    have e0 : f' (nI 0).toNatClampNeg = f' 0 := congrArg f' (nI_clamp (by omega))
    refine va_lald hx hb hK hP 0 2 rfl rfl (i := nI 0) (vp_in_nI (by omega) (by omega)) dL_law_415 ?_
    rw [e0, hv (by omega)]
    refine lv_iload hx hb dL_law_416 (lv_at hl 0 rfl) ?_
    refine lv_i2l (v := (v).toInt64) hx hb dL_law_418 rfl ?_
    refine nr_cmpeq (tgt := 425) hx hb dL_law_419 dL_law_420 (by decide) (fun _ => ?_) (fun h => absurd rfl h)
    refine lv_goto (tgt := 989) hx hb dL_law_425 (by decide) ?_
    refine W.widen (k := cells + 6) (n := slots + 36) (by omega) (by omega) ?_
    exact kk _ f' _ _ _ _ _ hI hP hD hS (lv_sub hl [2, 3, 4, 5, 6] rfl)
set_option maxHeartbeats 4000000 in
set_option maxRecDepth 100000 in
theorem lc_room {p : Program} {l : Launch} {e : Env} {s : State} {m : MethodId} {below : List Frame} {meth : Method} {c : Code} {b L : Nat} {xs : Nat → Int32} {D : va_G} {cI cG cL cB : ClassId} {o0 g0 oo i cells slots th : Nat} {f : Nat → Int64} {wx wm : va_W} {H : Heap} {locs : List Loc} {ls : Array Slot} {Q : State → Prop} (C0 : lw_C p l s m c b L xs D cI cG cL cB) (hi : i + 5 ≤ L) (hf : cells + 6 ≤ 620713 ∧ slots + 36 ≤ 7233965) (hI : lw_I o0 g0 cI cG cB th wx wm) (hP : va_P D vwCl ((lA oo cL f :: wx) ++ wm) H) (hD : va_D (fun q : Nat => s.heap.size ≤ q) ((lA oo cL f :: wx) ++ wm)) (hS : va_S (fun q : Nat => s.heap.size ≤ q) s.heap H locs) (hl : lv_has ls 7 [(0, .ref b), (1, .ref o0), (2, .ref g0), (3, .ref oo), (4, .int (nI i))])
    (kk : lw_G p l e s m below meth c b D cI cG cL cB o0 g0 oo i (cells + 6) (slots + 36) Q) : W p l e room_1 s m #[Value.ref b] below meth c H locs cells slots Q (F0 m 428 ls []) := by
  obtain ⟨hx, hb, hml, hown, hbw, hX, hbl, hEW, hZ, hl9, hL⟩ := C0
  have hA : ∀ q : Nat, s.heap.size ≤ q → (fun q : Nat => s.heap.size ≤ q) q := fun _ h => h
  have hbA : ¬ (fun q : Nat => s.heap.size ≤ q) b := Nat.not_le.mpr hbl
  have hEN := hEW.1.1
  have hK := hEN.1
  obtain ⟨fs0, hg0⟩ := lw_g0 hI
  obtain ⟨fs1, ho0⟩ := lw_o0 hI
  refine lv_aload_n hx hb dL_law_428 rfl (lv_at hl 1 rfl) ?_
  refine lv_aload_n hx hb dL_law_429 rfl (lv_at hl 0 rfl) ?_
  refine lv_iload hx hb dL_law_430 (lv_at hl 4 rfl) ?_
  refine lv_iconst (v := nI 1) hx hb dL_law_432 (by decide) ?_
  refine nr_iadd hx hb dL_law_433 ?_
  refine va_sld hx hb hX hbl hbA hS (i := nI (i + 1)) (vp_in_nI (by omega) (by omega)) dL_law_434 ?_
  refine lv_aload_n hx hb dL_law_435 rfl (lv_at hl 0 rfl) ?_
  refine lv_iload hx hb dL_law_436 (lv_at hl 4 rfl) ?_
  refine lv_iconst (v := nI 2) hx hb dL_law_438 (by decide) ?_
  refine nr_iadd hx hb dL_law_439 ?_
  refine va_sld hx hb hX hbl hbA hS (i := nI (i + 2)) (vp_in_nI (by omega) (by omega)) dL_law_440 ?_
  refine lv_aload_n hx hb dL_law_441 rfl (lv_at hl 3 rfl) ?_
  obtain ⟨post, hM, hpost⟩ := pr_room l hl9 D cI cG cL cB o0 g0 oo ((xs (nI (i + 1)).toNatClampNeg)) ((xs (nI (i + 2)).toNatClampNeg)) th wx wm f hI
  refine px_W (As := [.ref o0, .int ((xs (nI (i + 1)).toNatClampNeg)), .int ((xs (nI (i + 2)).toNatClampNeg)), .ref oo]) (rest := []) ⟨hx, hb, hml, hown, hbw⟩ (EW_E D _) hEW hZ hM (gW 4 hbw m_410 m_411 m_17 m_412 rfl rfl (by decide +kernel) ⟨(Nat.le_of_ble_eq_true rfl), (Nat.le_of_ble_eq_true rfl)⟩) hP hD hS hA rfl hl.1 rfl (Nat.le_of_ble_eq_true rfl) dL_law_442 ⟨(show cells + 2 ≤ 620713 by omega), (show slots + 12 ≤ 7233965 by omega)⟩ (fun k w1 H locs hw hP hD hS => ?_)
  obtain ⟨f', wx', rfl, post2, hM2, hpost2⟩ := hpost k w1 hw
  refine lv_istore (lv' := [(5, .int k), (0, .ref b), (1, .ref o0), (2, .ref g0), (3, .ref oo), (4, .int (nI i))]) hx hb dL_law_445 hl (by decide) rfl (fun ls hl => ?_)
  refine lv_aload_n hx hb dL_law_447 rfl (lv_at hl 3 rfl) ?_
  refine lv_aload_n hx hb dL_law_448 rfl (lv_at hl 1 rfl) ?_
  refine lv_iload hx hb dL_law_449 (lv_at hl 5 rfl) ?_
  refine lv_iconst (v := nI 1) hx hb dL_law_451 (by decide) ?_
  refine nr_iadd hx hb dL_law_452 ?_
  refine va_sld hx hb hX hbl hbA hS (i := nI (i + 1)) (vp_in_nI (by omega) (by omega)) dL_law_453 ?_
  refine lv_aload_n hx hb dL_law_454 rfl (lv_at hl 1 rfl) ?_
  refine lv_iload hx hb dL_law_455 (lv_at hl 5 rfl) ?_
  refine lv_iconst (v := nI 2) hx hb dL_law_457 (by decide) ?_
  refine nr_iadd hx hb dL_law_458 ?_
  refine va_sld hx hb hX hbl hbA hS (i := nI (i + 2)) (vp_in_nI (by omega) (by omega)) dL_law_459 ?_
  have hP := px_swP hP
  have hD := px_swD hD
  refine px_V (As := [.int ((xs (nI (i + 1)).toNatClampNeg)), .int ((xs (nI (i + 2)).toNatClampNeg))]) (rest := []) ⟨hx, hb, hml, hown, hbw⟩ (EN_E D _) hEN (hM2) (cwV (C := "CableSizesModel") 2 hbw (gV m_579 m_580 m_581 m_23 m_582) rfl rfl rfl (by decide +kernel) ⟨(Nat.le_of_ble_eq_true rfl), (Nat.le_of_ble_eq_true rfl)⟩) (va_recv hK hP (ci := 5) (q0 := 0) rfl (px_l hg0)) hP hD hS hA rfl hl.1 rfl (Nat.le_of_ble_eq_true rfl) dL_law_460 ⟨(show cells + 2 + 0 ≤ 620713 by omega), (show slots + 12 + 0 ≤ 7233965 by omega)⟩ (fun v wm' H locs hw2 hP hD hS => ?_)
  obtain ⟨th', hth, hI, rfl, hv⟩ := hpost2 v wm' hw2
  obtain ⟨fs2, hg2⟩ := lw_g0 hI
  refine lv_istore (lv' := [(6, .int v), (5, .int (nI th')), (0, .ref b), (1, .ref o0), (2, .ref g0), (3, .ref oo), (4, .int (nI i))]) hx hb dL_law_463 hl (by decide) rfl (fun ls hl => ?_)
  refine lv_aload_n hx hb dL_law_465 rfl (lv_at hl 4 rfl) ?_
  refine px_V (As := []) (rest := []) ⟨hx, hb, hml, hown, hbw⟩ (EN_E D _) hEN (pr_thrown l D cI cG cL cB hI) (cwV (C := "CableSizesModel") 0 hbw (gV m_547 m_548 m_549 m_23 m_550) rfl rfl rfl (by decide +kernel) ⟨(Nat.le_of_ble_eq_true rfl), (Nat.le_of_ble_eq_true rfl)⟩) (va_recv hK hP (ci := 5) (q0 := 0) rfl (px_l hg2)) hP hD hS hA rfl hl.1 rfl (Nat.le_of_ble_eq_true rfl) dL_law_466 ⟨(show cells + 2 + 0 + 0 ≤ 620713 by omega), (show slots + 12 + 0 + 0 ≤ 7233965 by omega)⟩ (fun r w2 H locs hw3 hP hD hS => ?_)
  obtain ⟨hw4, rfl⟩ := hw3
  rw [hw4] at hP hD
  have hP : va_P D vwCl ((lA oo cL f' :: wx') ++ wm') _ := px_swP hP
  have hD : va_D (fun q : Nat => s.heap.size ≤ q) ((lA oo cL f' :: wx') ++ wm') := px_swD hD
  refine lv_iload hx hb dL_law_469 (lv_at hl 1 rfl) ?_
  refine lv_icmp_eq (tgt := 476) hx hb dL_law_471 (by decide) (fun _ => ?_) (fun h => absurd rfl h)
  refine lv_iload hx hb dL_law_476 (lv_at hl 1 rfl) ?_
  refine nr_if_ne (x := th') (tgt := 493) hx hb (by omega) dL_law_478 (by decide) (fun h0 => ?_) (fun h0 => ?_)
  · refine lv_goto (tgt := 989) hx hb dL_law_493 (by decide) ?_
    refine W.widen (k := cells + 6) (n := slots + 36) (by omega) (by omega) ?_
    exact kk _ f' _ _ _ _ _ hI hP hD hS (lv_sub hl [2, 3, 4, 5, 6] rfl)
  · refine lv_aload_n hx hb dL_law_481 rfl (lv_at hl 5 rfl) ?_
    refine lv_iconst (v := nI 0) hx hb dL_law_482 (by decide) ?_
    have e0 : f' (nI 0).toNatClampNeg = f' 0 := congrArg f' (nI_clamp (by omega))
    refine va_lald hx hb hK hP 0 2 rfl rfl (i := nI 0) (vp_in_nI (by omega) (by omega)) dL_law_483 ?_
    rw [e0, hv (by omega)]
    refine lv_iload hx hb dL_law_484 (lv_at hl 0 rfl) ?_
    refine lv_i2l (v := (v).toInt64) hx hb dL_law_486 rfl ?_
    refine nr_cmpeq (tgt := 493) hx hb dL_law_487 dL_law_488 (by decide) (fun _ => ?_) (fun h => absurd rfl h)
    refine lv_goto (tgt := 989) hx hb dL_law_493 (by decide) ?_
    refine W.widen (k := cells + 6) (n := slots + 36) (by omega) (by omega) ?_
    exact kk _ f' _ _ _ _ _ hI hP hD hS (lv_sub hl [2, 3, 4, 5, 6] rfl)
set_option maxHeartbeats 4000000 in
set_option maxRecDepth 100000 in
theorem lc_limit {p : Program} {l : Launch} {e : Env} {s : State} {m : MethodId} {below : List Frame} {meth : Method} {c : Code} {b L : Nat} {xs : Nat → Int32} {D : va_G} {cI cG cL cB : ClassId} {o0 g0 oo i cells slots th : Nat} {f : Nat → Int64} {wx wm : va_W} {H : Heap} {locs : List Loc} {ls : Array Slot} {Q : State → Prop} (C0 : lw_C p l s m c b L xs D cI cG cL cB) (hi : i + 5 ≤ L) (hf : cells + 6 ≤ 620713 ∧ slots + 36 ≤ 7233965) (hI : lw_I o0 g0 cI cG cB th wx wm) (hP : va_P D vwCl ((lA oo cL f :: wx) ++ wm) H) (hD : va_D (fun q : Nat => s.heap.size ≤ q) ((lA oo cL f :: wx) ++ wm)) (hS : va_S (fun q : Nat => s.heap.size ≤ q) s.heap H locs) (hl : lv_has ls 7 [(0, .ref b), (1, .ref o0), (2, .ref g0), (3, .ref oo), (4, .int (nI i))])
    (kk : lw_G p l e s m below meth c b D cI cG cL cB o0 g0 oo i (cells + 6) (slots + 36) Q) : W p l e room_1 s m #[Value.ref b] below meth c H locs cells slots Q (F0 m 496 ls []) := by
  obtain ⟨hx, hb, hml, hown, hbw, hX, hbl, hEW, hZ, hl9, hL⟩ := C0
  have hA : ∀ q : Nat, s.heap.size ≤ q → (fun q : Nat => s.heap.size ≤ q) q := fun _ h => h
  have hbA : ¬ (fun q : Nat => s.heap.size ≤ q) b := Nat.not_le.mpr hbl
  have hEN := hEW.1.1
  have hK := hEN.1
  obtain ⟨fs0, hg0⟩ := lw_g0 hI
  obtain ⟨fs1, ho0⟩ := lw_o0 hI
  refine lv_aload_n hx hb dL_law_496 rfl (lv_at hl 1 rfl) ?_
  refine lv_aload_n hx hb dL_law_497 rfl (lv_at hl 0 rfl) ?_
  refine lv_iload hx hb dL_law_498 (lv_at hl 4 rfl) ?_
  refine lv_iconst (v := nI 1) hx hb dL_law_500 (by decide) ?_
  refine nr_iadd hx hb dL_law_501 ?_
  refine va_sld hx hb hX hbl hbA hS (i := nI (i + 1)) (vp_in_nI (by omega) (by omega)) dL_law_502 ?_
  refine lv_aload_n hx hb dL_law_503 rfl (lv_at hl 3 rfl) ?_
  obtain ⟨post, hM, hpost⟩ := pr_limit l hl9 D cI cG cL cB o0 g0 oo ((xs (nI (i + 1)).toNatClampNeg)) th wx wm f hI
  refine px_W (As := [.ref o0, .int ((xs (nI (i + 1)).toNatClampNeg)), .ref oo]) (rest := []) ⟨hx, hb, hml, hown, hbw⟩ (EW_E D _) hEW hZ hM (gW 3 hbw m_417 m_418 m_17 m_419 rfl rfl (by decide +kernel) ⟨(Nat.le_of_ble_eq_true rfl), (Nat.le_of_ble_eq_true rfl)⟩) hP hD hS hA rfl hl.1 rfl (Nat.le_of_ble_eq_true rfl) dL_law_504 ⟨(show cells + 1 ≤ 620713 by omega), (show slots + 6 ≤ 7233965 by omega)⟩ (fun k w1 H locs hw hP hD hS => ?_)
  obtain ⟨f', wx', rfl, post2, hM2, hpost2⟩ := hpost k w1 hw
  refine lv_istore (lv' := [(5, .int k), (0, .ref b), (1, .ref o0), (2, .ref g0), (3, .ref oo), (4, .int (nI i))]) hx hb dL_law_507 hl (by decide) rfl (fun ls hl => ?_)
  refine lv_aload_n hx hb dL_law_509 rfl (lv_at hl 3 rfl) ?_
  refine lv_aload_n hx hb dL_law_510 rfl (lv_at hl 1 rfl) ?_
  refine lv_iload hx hb dL_law_511 (lv_at hl 5 rfl) ?_
  refine lv_iconst (v := nI 1) hx hb dL_law_513 (by decide) ?_
  refine nr_iadd hx hb dL_law_514 ?_
  refine va_sld hx hb hX hbl hbA hS (i := nI (i + 1)) (vp_in_nI (by omega) (by omega)) dL_law_515 ?_
  have hP := px_swP hP
  have hD := px_swD hD
  refine px_V (As := [.int ((xs (nI (i + 1)).toNatClampNeg))]) (rest := []) ⟨hx, hb, hml, hown, hbw⟩ (EN_E D _) hEN (hM2) (cwV (C := "CableSizesModel") 1 hbw (gV m_587 m_588 m_589 m_23 m_590) rfl rfl rfl (by decide +kernel) ⟨(Nat.le_of_ble_eq_true rfl), (Nat.le_of_ble_eq_true rfl)⟩) (va_recv hK hP (ci := 5) (q0 := 0) rfl (px_l hg0)) hP hD hS hA rfl hl.1 rfl (Nat.le_of_ble_eq_true rfl) dL_law_516 ⟨(show cells + 1 + 0 ≤ 620713 by omega), (show slots + 6 + 0 ≤ 7233965 by omega)⟩ (fun v wm' H locs hw2 hP hD hS => ?_)
  obtain ⟨th', hth, hI, rfl, hv⟩ := hpost2 v wm' hw2
  obtain ⟨fs2, hg2⟩ := lw_g0 hI
  refine lv_istore (lv' := [(6, .int v), (5, .int (nI th')), (0, .ref b), (1, .ref o0), (2, .ref g0), (3, .ref oo), (4, .int (nI i))]) hx hb dL_law_519 hl (by decide) rfl (fun ls hl => ?_)
  refine lv_aload_n hx hb dL_law_521 rfl (lv_at hl 4 rfl) ?_
  refine px_V (As := []) (rest := []) ⟨hx, hb, hml, hown, hbw⟩ (EN_E D _) hEN (pr_thrown l D cI cG cL cB hI) (cwV (C := "CableSizesModel") 0 hbw (gV m_547 m_548 m_549 m_23 m_550) rfl rfl rfl (by decide +kernel) ⟨(Nat.le_of_ble_eq_true rfl), (Nat.le_of_ble_eq_true rfl)⟩) (va_recv hK hP (ci := 5) (q0 := 0) rfl (px_l hg2)) hP hD hS hA rfl hl.1 rfl (Nat.le_of_ble_eq_true rfl) dL_law_522 ⟨(show cells + 1 + 0 + 0 ≤ 620713 by omega), (show slots + 6 + 0 + 0 ≤ 7233965 by omega)⟩ (fun r w2 H locs hw3 hP hD hS => ?_)
  obtain ⟨hw4, rfl⟩ := hw3
  rw [hw4] at hP hD
  have hP : va_P D vwCl ((lA oo cL f' :: wx') ++ wm') _ := px_swP hP
  have hD : va_D (fun q : Nat => s.heap.size ≤ q) ((lA oo cL f' :: wx') ++ wm') := px_swD hD
  refine lv_iload hx hb dL_law_525 (lv_at hl 1 rfl) ?_
  refine lv_icmp_eq (tgt := 532) hx hb dL_law_527 (by decide) (fun _ => ?_) (fun h => absurd rfl h)
  refine lv_iload hx hb dL_law_532 (lv_at hl 1 rfl) ?_
  refine nr_if_ne (x := th') (tgt := 549) hx hb (by omega) dL_law_534 (by decide) (fun h0 => ?_) (fun h0 => ?_)
  · refine lv_goto (tgt := 989) hx hb dL_law_549 (by decide) ?_
    refine W.widen (k := cells + 6) (n := slots + 36) (by omega) (by omega) ?_
    exact kk _ f' _ _ _ _ _ hI hP hD hS (lv_sub hl [2, 3, 4, 5, 6] rfl)
  · refine lv_aload_n hx hb dL_law_537 rfl (lv_at hl 5 rfl) ?_
    refine lv_iconst (v := nI 0) hx hb dL_law_538 (by decide) ?_
    have e0 : f' (nI 0).toNatClampNeg = f' 0 := congrArg f' (nI_clamp (by omega))
    refine va_lald hx hb hK hP 0 2 rfl rfl (i := nI 0) (vp_in_nI (by omega) (by omega)) dL_law_539 ?_
    rw [e0, hv (by omega)]
    refine lv_iload hx hb dL_law_540 (lv_at hl 0 rfl) ?_
    refine lv_i2l (v := (v).toInt64) hx hb dL_law_542 rfl ?_
    refine nr_cmpeq (tgt := 549) hx hb dL_law_543 dL_law_544 (by decide) (fun _ => ?_) (fun h => absurd rfl h)
    refine lv_goto (tgt := 989) hx hb dL_law_549 (by decide) ?_
    refine W.widen (k := cells + 6) (n := slots + 36) (by omega) (by omega) ?_
    exact kk _ f' _ _ _ _ _ hI hP hD hS (lv_sub hl [2, 3, 4, 5, 6] rfl)
set_option maxHeartbeats 4000000 in
set_option maxRecDepth 100000 in
theorem lc_way {p : Program} {l : Launch} {e : Env} {s : State} {m : MethodId} {below : List Frame} {meth : Method} {c : Code} {b L : Nat} {xs : Nat → Int32} {D : va_G} {cI cG cL cB : ClassId} {o0 g0 oo i cells slots th : Nat} {f : Nat → Int64} {wx wm : va_W} {H : Heap} {locs : List Loc} {ls : Array Slot} {Q : State → Prop} (C0 : lw_C p l s m c b L xs D cI cG cL cB) (hi : i + 5 ≤ L) (hf : cells + 6 ≤ 620713 ∧ slots + 36 ≤ 7233965) (hI : lw_I o0 g0 cI cG cB th wx wm) (hP : va_P D vwCl ((lA oo cL f :: wx) ++ wm) H) (hD : va_D (fun q : Nat => s.heap.size ≤ q) ((lA oo cL f :: wx) ++ wm)) (hS : va_S (fun q : Nat => s.heap.size ≤ q) s.heap H locs) (hl : lv_has ls 7 [(0, .ref b), (1, .ref o0), (2, .ref g0), (3, .ref oo), (4, .int (nI i))])
    (kk : lw_G p l e s m below meth c b D cI cG cL cB o0 g0 oo i (cells + 6) (slots + 36) Q) : W p l e room_1 s m #[Value.ref b] below meth c H locs cells slots Q (F0 m 552 ls []) := by
  obtain ⟨hx, hb, hml, hown, hbw, hX, hbl, hEW, hZ, hl9, hL⟩ := C0
  have hA : ∀ q : Nat, s.heap.size ≤ q → (fun q : Nat => s.heap.size ≤ q) q := fun _ h => h
  have hbA : ¬ (fun q : Nat => s.heap.size ≤ q) b := Nat.not_le.mpr hbl
  have hEN := hEW.1.1
  have hK := hEN.1
  obtain ⟨fs0, hg0⟩ := lw_g0 hI
  obtain ⟨fs1, ho0⟩ := lw_o0 hI
  refine lv_aload_n hx hb dL_law_552 rfl (lv_at hl 1 rfl) ?_
  refine lv_aload_n hx hb dL_law_553 rfl (lv_at hl 0 rfl) ?_
  refine lv_iload hx hb dL_law_554 (lv_at hl 4 rfl) ?_
  refine lv_iconst (v := nI 1) hx hb dL_law_556 (by decide) ?_
  refine nr_iadd hx hb dL_law_557 ?_
  refine va_sld hx hb hX hbl hbA hS (i := nI (i + 1)) (vp_in_nI (by omega) (by omega)) dL_law_558 ?_
  refine lv_aload_n hx hb dL_law_559 rfl (lv_at hl 3 rfl) ?_
  obtain ⟨post, hM, hpost⟩ := pr_way l hl9 D cI cG cL cB o0 g0 oo ((xs (nI (i + 1)).toNatClampNeg)) th wx wm f hI
  refine px_W (As := [.ref o0, .int ((xs (nI (i + 1)).toNatClampNeg)), .ref oo]) (rest := []) ⟨hx, hb, hml, hown, hbw⟩ (EW_E D _) hEW hZ hM (gW 3 hbw m_425 m_426 m_17 m_427 rfl rfl (by decide +kernel) ⟨(Nat.le_of_ble_eq_true rfl), (Nat.le_of_ble_eq_true rfl)⟩) hP hD hS hA rfl hl.1 rfl (Nat.le_of_ble_eq_true rfl) dL_law_560 ⟨(show cells + 1 ≤ 620713 by omega), (show slots + 6 ≤ 7233965 by omega)⟩ (fun k w1 H locs hw hP hD hS => ?_)
  obtain ⟨f', wx', rfl, post2, hM2, hpost2⟩ := hpost k w1 hw
  refine lv_istore (lv' := [(5, .int k), (0, .ref b), (1, .ref o0), (2, .ref g0), (3, .ref oo), (4, .int (nI i))]) hx hb dL_law_563 hl (by decide) rfl (fun ls hl => ?_)
  refine lv_aload_n hx hb dL_law_565 rfl (lv_at hl 3 rfl) ?_
  refine lv_aload_n hx hb dL_law_566 rfl (lv_at hl 1 rfl) ?_
  refine lv_iload hx hb dL_law_567 (lv_at hl 5 rfl) ?_
  refine lv_iconst (v := nI 1) hx hb dL_law_569 (by decide) ?_
  refine nr_iadd hx hb dL_law_570 ?_
  refine va_sld hx hb hX hbl hbA hS (i := nI (i + 1)) (vp_in_nI (by omega) (by omega)) dL_law_571 ?_
  have hP := px_swP hP
  have hD := px_swD hD
  refine px_V (As := [.int ((xs (nI (i + 1)).toNatClampNeg))]) (rest := []) ⟨hx, hb, hml, hown, hbw⟩ (EN_E D _) hEN (hM2) (cwV (C := "CableSizesModel") 1 hbw (gV m_592 m_593 m_594 m_23 m_595) rfl rfl rfl (by decide +kernel) ⟨(Nat.le_of_ble_eq_true rfl), (Nat.le_of_ble_eq_true rfl)⟩) (va_recv hK hP (ci := 5) (q0 := 0) rfl (px_l hg0)) hP hD hS hA rfl hl.1 rfl (Nat.le_of_ble_eq_true rfl) dL_law_572 ⟨(show cells + 1 + 0 ≤ 620713 by omega), (show slots + 6 + 0 ≤ 7233965 by omega)⟩ (fun v wm' H locs hw2 hP hD hS => ?_)
  obtain ⟨th', hth, hI, rfl, hv⟩ := hpost2 v wm' hw2
  obtain ⟨fs2, hg2⟩ := lw_g0 hI
  refine lv_istore (lv' := [(6, .int v), (5, .int (nI th')), (0, .ref b), (1, .ref o0), (2, .ref g0), (3, .ref oo), (4, .int (nI i))]) hx hb dL_law_575 hl (by decide) rfl (fun ls hl => ?_)
  refine lv_aload_n hx hb dL_law_577 rfl (lv_at hl 4 rfl) ?_
  refine px_V (As := []) (rest := []) ⟨hx, hb, hml, hown, hbw⟩ (EN_E D _) hEN (pr_thrown l D cI cG cL cB hI) (cwV (C := "CableSizesModel") 0 hbw (gV m_547 m_548 m_549 m_23 m_550) rfl rfl rfl (by decide +kernel) ⟨(Nat.le_of_ble_eq_true rfl), (Nat.le_of_ble_eq_true rfl)⟩) (va_recv hK hP (ci := 5) (q0 := 0) rfl (px_l hg2)) hP hD hS hA rfl hl.1 rfl (Nat.le_of_ble_eq_true rfl) dL_law_578 ⟨(show cells + 1 + 0 + 0 ≤ 620713 by omega), (show slots + 6 + 0 + 0 ≤ 7233965 by omega)⟩ (fun r w2 H locs hw3 hP hD hS => ?_)
  obtain ⟨hw4, rfl⟩ := hw3
  rw [hw4] at hP hD
  have hP : va_P D vwCl ((lA oo cL f' :: wx') ++ wm') _ := px_swP hP
  have hD : va_D (fun q : Nat => s.heap.size ≤ q) ((lA oo cL f' :: wx') ++ wm') := px_swD hD
  refine lv_iload hx hb dL_law_581 (lv_at hl 1 rfl) ?_
  refine lv_icmp_eq (tgt := 588) hx hb dL_law_583 (by decide) (fun _ => ?_) (fun h => absurd rfl h)
  refine lv_iload hx hb dL_law_588 (lv_at hl 1 rfl) ?_
  refine nr_if_ne (x := th') (tgt := 605) hx hb (by omega) dL_law_590 (by decide) (fun h0 => ?_) (fun h0 => ?_)
  · refine lv_goto (tgt := 989) hx hb dL_law_605 (by decide) ?_
    refine W.widen (k := cells + 6) (n := slots + 36) (by omega) (by omega) ?_
    exact kk _ f' _ _ _ _ _ hI hP hD hS (lv_sub hl [2, 3, 4, 5, 6] rfl)
  · refine lv_aload_n hx hb dL_law_593 rfl (lv_at hl 5 rfl) ?_
    refine lv_iconst (v := nI 0) hx hb dL_law_594 (by decide) ?_
    have e0 : f' (nI 0).toNatClampNeg = f' 0 := congrArg f' (nI_clamp (by omega))
    refine va_lald hx hb hK hP 0 2 rfl rfl (i := nI 0) (vp_in_nI (by omega) (by omega)) dL_law_595 ?_
    rw [e0, hv (by omega)]
    refine lv_iload hx hb dL_law_596 (lv_at hl 0 rfl) ?_
    refine lv_i2l (v := (v).toInt64) hx hb dL_law_598 rfl ?_
    refine nr_cmpeq (tgt := 605) hx hb dL_law_599 dL_law_600 (by decide) (fun _ => ?_) (fun h => absurd rfl h)
    refine lv_goto (tgt := 989) hx hb dL_law_605 (by decide) ?_
    refine W.widen (k := cells + 6) (n := slots + 36) (by omega) (by omega) ?_
    exact kk _ f' _ _ _ _ _ hI hP hD hS (lv_sub hl [2, 3, 4, 5, 6] rfl)
set_option maxHeartbeats 4000000 in
set_option maxRecDepth 100000 in
theorem lc_way2 {p : Program} {l : Launch} {e : Env} {s : State} {m : MethodId} {below : List Frame} {meth : Method} {c : Code} {b L : Nat} {xs : Nat → Int32} {D : va_G} {cI cG cL cB : ClassId} {o0 g0 oo i cells slots th : Nat} {f : Nat → Int64} {wx wm : va_W} {H : Heap} {locs : List Loc} {ls : Array Slot} {Q : State → Prop} (C0 : lw_C p l s m c b L xs D cI cG cL cB) (hi : i + 5 ≤ L) (hf : cells + 6 ≤ 620713 ∧ slots + 36 ≤ 7233965) (hI : lw_I o0 g0 cI cG cB th wx wm) (hP : va_P D vwCl ((lA oo cL f :: wx) ++ wm) H) (hD : va_D (fun q : Nat => s.heap.size ≤ q) ((lA oo cL f :: wx) ++ wm)) (hS : va_S (fun q : Nat => s.heap.size ≤ q) s.heap H locs) (hl : lv_has ls 7 [(0, .ref b), (1, .ref o0), (2, .ref g0), (3, .ref oo), (4, .int (nI i))])
    (kk : lw_G p l e s m below meth c b D cI cG cL cB o0 g0 oo i (cells + 6) (slots + 36) Q) : W p l e room_1 s m #[Value.ref b] below meth c H locs cells slots Q (F0 m 608 ls []) := by
  obtain ⟨hx, hb, hml, hown, hbw, hX, hbl, hEW, hZ, hl9, hL⟩ := C0
  have hA : ∀ q : Nat, s.heap.size ≤ q → (fun q : Nat => s.heap.size ≤ q) q := fun _ h => h
  have hbA : ¬ (fun q : Nat => s.heap.size ≤ q) b := Nat.not_le.mpr hbl
  have hEN := hEW.1.1
  have hK := hEN.1
  obtain ⟨fs0, hg0⟩ := lw_g0 hI
  obtain ⟨fs1, ho0⟩ := lw_o0 hI
  refine lv_aload_n hx hb dL_law_608 rfl (lv_at hl 1 rfl) ?_
  refine lv_aload_n hx hb dL_law_609 rfl (lv_at hl 0 rfl) ?_
  refine lv_iload hx hb dL_law_610 (lv_at hl 4 rfl) ?_
  refine lv_iconst (v := nI 1) hx hb dL_law_612 (by decide) ?_
  refine nr_iadd hx hb dL_law_613 ?_
  refine va_sld hx hb hX hbl hbA hS (i := nI (i + 1)) (vp_in_nI (by omega) (by omega)) dL_law_614 ?_
  refine lv_aload_n hx hb dL_law_615 rfl (lv_at hl 0 rfl) ?_
  refine lv_iload hx hb dL_law_616 (lv_at hl 4 rfl) ?_
  refine lv_iconst (v := nI 2) hx hb dL_law_618 (by decide) ?_
  refine nr_iadd hx hb dL_law_619 ?_
  refine va_sld hx hb hX hbl hbA hS (i := nI (i + 2)) (vp_in_nI (by omega) (by omega)) dL_law_620 ?_
  refine lv_aload_n hx hb dL_law_621 rfl (lv_at hl 3 rfl) ?_
  obtain ⟨post, hM, hpost⟩ := pr_way2 l hl9 D cI cG cL cB o0 g0 oo ((xs (nI (i + 1)).toNatClampNeg)) ((xs (nI (i + 2)).toNatClampNeg)) th wx wm f hI
  refine px_W (As := [.ref o0, .int ((xs (nI (i + 1)).toNatClampNeg)), .int ((xs (nI (i + 2)).toNatClampNeg)), .ref oo]) (rest := []) ⟨hx, hb, hml, hown, hbw⟩ (EW_E D _) hEW hZ hM (gW 4 hbw m_433 m_434 m_17 m_435 rfl rfl (by decide +kernel) ⟨(Nat.le_of_ble_eq_true rfl), (Nat.le_of_ble_eq_true rfl)⟩) hP hD hS hA rfl hl.1 rfl (Nat.le_of_ble_eq_true rfl) dL_law_622 ⟨(show cells + 2 ≤ 620713 by omega), (show slots + 12 ≤ 7233965 by omega)⟩ (fun k w1 H locs hw hP hD hS => ?_)
  obtain ⟨f', wx', rfl, post2, hM2, hpost2⟩ := hpost k w1 hw
  refine lv_istore (lv' := [(5, .int k), (0, .ref b), (1, .ref o0), (2, .ref g0), (3, .ref oo), (4, .int (nI i))]) hx hb dL_law_625 hl (by decide) rfl (fun ls hl => ?_)
  refine lv_aload_n hx hb dL_law_627 rfl (lv_at hl 3 rfl) ?_
  refine lv_aload_n hx hb dL_law_628 rfl (lv_at hl 1 rfl) ?_
  refine lv_iload hx hb dL_law_629 (lv_at hl 5 rfl) ?_
  refine lv_iconst (v := nI 1) hx hb dL_law_631 (by decide) ?_
  refine nr_iadd hx hb dL_law_632 ?_
  refine va_sld hx hb hX hbl hbA hS (i := nI (i + 1)) (vp_in_nI (by omega) (by omega)) dL_law_633 ?_
  refine lv_aload_n hx hb dL_law_634 rfl (lv_at hl 1 rfl) ?_
  refine lv_iload hx hb dL_law_635 (lv_at hl 5 rfl) ?_
  refine lv_iconst (v := nI 2) hx hb dL_law_637 (by decide) ?_
  refine nr_iadd hx hb dL_law_638 ?_
  refine va_sld hx hb hX hbl hbA hS (i := nI (i + 2)) (vp_in_nI (by omega) (by omega)) dL_law_639 ?_
  have hP := px_swP hP
  have hD := px_swD hD
  refine px_V (As := [.int ((xs (nI (i + 1)).toNatClampNeg)), .int ((xs (nI (i + 2)).toNatClampNeg))]) (rest := []) ⟨hx, hb, hml, hown, hbw⟩ (EN_E D _) hEN (hM2) (cwV (C := "CableSizesModel") 2 hbw (gV m_609 m_610 m_611 m_23 m_612) rfl rfl rfl (by decide +kernel) ⟨(Nat.le_of_ble_eq_true rfl), (Nat.le_of_ble_eq_true rfl)⟩) (va_recv hK hP (ci := 5) (q0 := 0) rfl (px_l hg0)) hP hD hS hA rfl hl.1 rfl (Nat.le_of_ble_eq_true rfl) dL_law_640 ⟨(show cells + 2 + 0 ≤ 620713 by omega), (show slots + 12 + 0 ≤ 7233965 by omega)⟩ (fun v wm' H locs hw2 hP hD hS => ?_)
  obtain ⟨th', hth, hI, rfl, hv⟩ := hpost2 v wm' hw2
  obtain ⟨fs2, hg2⟩ := lw_g0 hI
  refine lv_istore (lv' := [(6, .int v), (5, .int (nI th')), (0, .ref b), (1, .ref o0), (2, .ref g0), (3, .ref oo), (4, .int (nI i))]) hx hb dL_law_643 hl (by decide) rfl (fun ls hl => ?_)
  refine lv_aload_n hx hb dL_law_645 rfl (lv_at hl 4 rfl) ?_
  refine px_V (As := []) (rest := []) ⟨hx, hb, hml, hown, hbw⟩ (EN_E D _) hEN (pr_thrown l D cI cG cL cB hI) (cwV (C := "CableSizesModel") 0 hbw (gV m_547 m_548 m_549 m_23 m_550) rfl rfl rfl (by decide +kernel) ⟨(Nat.le_of_ble_eq_true rfl), (Nat.le_of_ble_eq_true rfl)⟩) (va_recv hK hP (ci := 5) (q0 := 0) rfl (px_l hg2)) hP hD hS hA rfl hl.1 rfl (Nat.le_of_ble_eq_true rfl) dL_law_646 ⟨(show cells + 2 + 0 + 0 ≤ 620713 by omega), (show slots + 12 + 0 + 0 ≤ 7233965 by omega)⟩ (fun r w2 H locs hw3 hP hD hS => ?_)
  obtain ⟨hw4, rfl⟩ := hw3
  rw [hw4] at hP hD
  have hP : va_P D vwCl ((lA oo cL f' :: wx') ++ wm') _ := px_swP hP
  have hD : va_D (fun q : Nat => s.heap.size ≤ q) ((lA oo cL f' :: wx') ++ wm') := px_swD hD
  refine lv_iload hx hb dL_law_649 (lv_at hl 1 rfl) ?_
  refine lv_icmp_eq (tgt := 656) hx hb dL_law_651 (by decide) (fun _ => ?_) (fun h => absurd rfl h)
  refine lv_iload hx hb dL_law_656 (lv_at hl 1 rfl) ?_
  refine nr_if_ne (x := th') (tgt := 673) hx hb (by omega) dL_law_658 (by decide) (fun h0 => ?_) (fun h0 => ?_)
  · refine lv_goto (tgt := 989) hx hb dL_law_673 (by decide) ?_
    refine W.widen (k := cells + 6) (n := slots + 36) (by omega) (by omega) ?_
    exact kk _ f' _ _ _ _ _ hI hP hD hS (lv_sub hl [2, 3, 4, 5, 6] rfl)
  · refine lv_aload_n hx hb dL_law_661 rfl (lv_at hl 5 rfl) ?_
    refine lv_iconst (v := nI 0) hx hb dL_law_662 (by decide) ?_
    have e0 : f' (nI 0).toNatClampNeg = f' 0 := congrArg f' (nI_clamp (by omega))
    refine va_lald hx hb hK hP 0 2 rfl rfl (i := nI 0) (vp_in_nI (by omega) (by omega)) dL_law_663 ?_
    rw [e0, hv (by omega)]
    refine lv_iload hx hb dL_law_664 (lv_at hl 0 rfl) ?_
    refine lv_i2l (v := (v).toInt64) hx hb dL_law_666 rfl ?_
    refine nr_cmpeq (tgt := 673) hx hb dL_law_667 dL_law_668 (by decide) (fun _ => ?_) (fun h => absurd rfl h)
    refine lv_goto (tgt := 989) hx hb dL_law_673 (by decide) ?_
    refine W.widen (k := cells + 6) (n := slots + 36) (by omega) (by omega) ?_
    exact kk _ f' _ _ _ _ _ hI hP hD hS (lv_sub hl [2, 3, 4, 5, 6] rfl)
set_option maxHeartbeats 4000000 in
set_option maxRecDepth 100000 in
theorem lc_settled {p : Program} {l : Launch} {e : Env} {s : State} {m : MethodId} {below : List Frame} {meth : Method} {c : Code} {b L : Nat} {xs : Nat → Int32} {D : va_G} {cI cG cL cB : ClassId} {o0 g0 oo i cells slots th : Nat} {f : Nat → Int64} {wx wm : va_W} {H : Heap} {locs : List Loc} {ls : Array Slot} {Q : State → Prop} (C0 : lw_C p l s m c b L xs D cI cG cL cB) (hi : i + 5 ≤ L) (hf : cells + 6 ≤ 620713 ∧ slots + 36 ≤ 7233965) (hI : lw_I o0 g0 cI cG cB th wx wm) (hP : va_P D vwCl ((lA oo cL f :: wx) ++ wm) H) (hD : va_D (fun q : Nat => s.heap.size ≤ q) ((lA oo cL f :: wx) ++ wm)) (hS : va_S (fun q : Nat => s.heap.size ≤ q) s.heap H locs) (hl : lv_has ls 7 [(0, .ref b), (1, .ref o0), (2, .ref g0), (3, .ref oo), (4, .int (nI i))])
    (kk : lw_G p l e s m below meth c b D cI cG cL cB o0 g0 oo i (cells + 6) (slots + 36) Q) : W p l e room_1 s m #[Value.ref b] below meth c H locs cells slots Q (F0 m 676 ls []) := by
  obtain ⟨hx, hb, hml, hown, hbw, hX, hbl, hEW, hZ, hl9, hL⟩ := C0
  have hA : ∀ q : Nat, s.heap.size ≤ q → (fun q : Nat => s.heap.size ≤ q) q := fun _ h => h
  have hbA : ¬ (fun q : Nat => s.heap.size ≤ q) b := Nat.not_le.mpr hbl
  have hEN := hEW.1.1
  have hK := hEN.1
  obtain ⟨fs0, hg0⟩ := lw_g0 hI
  obtain ⟨fs1, ho0⟩ := lw_o0 hI
  have hP := px_swP (X := [lA oo cL f]) (Y := wx ++ wm) hP
  have hD := px_swD (X := [lA oo cL f]) (Y := wx ++ wm) hD
  rw [List.append_assoc] at hP hD
  obtain ⟨post, hM, hpost⟩ := pr_settled l D cI cG cL cB hI
  refine lv_aload_n hx hb dL_law_676 rfl (lv_at hl 1 rfl) ?_
  refine px_V (As := []) (rest := []) ⟨hx, hb, hml, hown, hbw⟩ (EN_E D _) hEN (hM) (cwV (C := "CableSizes") 0 hbw (gV m_185 m_186 m_187 m_18 m_188) rfl rfl rfl (by decide +kernel) ⟨(Nat.le_of_ble_eq_true rfl), (Nat.le_of_ble_eq_true rfl)⟩) (va_recv hK hP (ci := 4) (q0 := 0) rfl (px_l ho0)) hP hD hS hA rfl hl.1 rfl (Nat.le_of_ble_eq_true rfl) dL_law_677 ⟨(show cells + 0 ≤ 620713 by omega), (show slots + 0 ≤ 7233965 by omega)⟩ (fun v wx' H locs hw hP hD hS => ?_)
  obtain ⟨post2, hM2, hpost2⟩ := hpost v wx' hw
  have hP := px_swP hP
  have hD := px_swD hD
  rw [List.append_assoc] at hP hD
  refine lv_aload_n hx hb dL_law_680 rfl (lv_at hl 2 rfl) ?_
  refine px_V (As := []) (rest := [.int v]) ⟨hx, hb, hml, hown, hbw⟩ (EN_E D _) hEN (hM2) (cwV (C := "CableSizesModel") 0 hbw (gV m_613 m_614 m_615 m_23 m_616) rfl rfl rfl (by decide +kernel) ⟨(Nat.le_of_ble_eq_true rfl), (Nat.le_of_ble_eq_true rfl)⟩) (va_recv hK hP (ci := 5) (q0 := 0) rfl (px_l hg0)) hP hD hS hA rfl hl.1 rfl (Nat.le_of_ble_eq_true rfl) dL_law_681 ⟨(show cells + 0 + 0 ≤ 620713 by omega), (show slots + 0 + 0 ≤ 7233965 by omega)⟩ (fun v' wm' H locs hw2 hP hD hS => ?_)
  obtain ⟨rfl, th', hI⟩ := hpost2 v' wm' hw2
  have hP : va_P D vwCl ((lA oo cL f :: wx') ++ wm') _ := px_swP hP
  have hD : va_D (fun q : Nat => s.heap.size ≤ q) ((lA oo cL f :: wx') ++ wm') := px_swD hD
  refine lv_icmp_eq (tgt := 989) hx hb dL_law_684 (by decide) (fun _ => ?_) (fun h => absurd rfl h)
  refine W.widen (k := cells + 6) (n := slots + 36) (by omega) (by omega) ?_
  exact kk _ f _ _ _ _ _ hI hP hD hS (lv_sub hl [0, 1, 2, 3, 4] rfl)
set_option maxHeartbeats 4000000 in
set_option maxRecDepth 100000 in
theorem lc_chosen {p : Program} {l : Launch} {e : Env} {s : State} {m : MethodId} {below : List Frame} {meth : Method} {c : Code} {b L : Nat} {xs : Nat → Int32} {D : va_G} {cI cG cL cB : ClassId} {o0 g0 oo i cells slots th : Nat} {f : Nat → Int64} {wx wm : va_W} {H : Heap} {locs : List Loc} {ls : Array Slot} {Q : State → Prop} (C0 : lw_C p l s m c b L xs D cI cG cL cB) (hi : i + 5 ≤ L) (hf : cells + 6 ≤ 620713 ∧ slots + 36 ≤ 7233965) (hI : lw_I o0 g0 cI cG cB th wx wm) (hP : va_P D vwCl ((lA oo cL f :: wx) ++ wm) H) (hD : va_D (fun q : Nat => s.heap.size ≤ q) ((lA oo cL f :: wx) ++ wm)) (hS : va_S (fun q : Nat => s.heap.size ≤ q) s.heap H locs) (hl : lv_has ls 7 [(0, .ref b), (1, .ref o0), (2, .ref g0), (3, .ref oo), (4, .int (nI i))])
    (kk : lw_G p l e s m below meth c b D cI cG cL cB o0 g0 oo i (cells + 6) (slots + 36) Q) : W p l e room_1 s m #[Value.ref b] below meth c H locs cells slots Q (F0 m 689 ls []) := by
  obtain ⟨hx, hb, hml, hown, hbw, hX, hbl, hEW, hZ, hl9, hL⟩ := C0
  have hA : ∀ q : Nat, s.heap.size ≤ q → (fun q : Nat => s.heap.size ≤ q) q := fun _ h => h
  have hbA : ¬ (fun q : Nat => s.heap.size ≤ q) b := Nat.not_le.mpr hbl
  have hEN := hEW.1.1
  have hK := hEN.1
  obtain ⟨fs0, hg0⟩ := lw_g0 hI
  obtain ⟨fs1, ho0⟩ := lw_o0 hI
  refine lv_aload_n hx hb dL_law_689 rfl (lv_at hl 1 rfl) ?_
  refine lv_aload_n hx hb dL_law_690 rfl (lv_at hl 0 rfl) ?_
  refine lv_iload hx hb dL_law_691 (lv_at hl 4 rfl) ?_
  refine lv_iconst (v := nI 1) hx hb dL_law_693 (by decide) ?_
  refine nr_iadd hx hb dL_law_694 ?_
  refine va_sld hx hb hX hbl hbA hS (i := nI (i + 1)) (vp_in_nI (by omega) (by omega)) dL_law_695 ?_
  refine lv_aload_n hx hb dL_law_696 rfl (lv_at hl 3 rfl) ?_
  obtain ⟨post, hM, hpost⟩ := pr_chosen l hl9 D cI cG cL cB o0 g0 oo ((xs (nI (i + 1)).toNatClampNeg)) th wx wm f hI
  refine px_W (As := [.ref o0, .int ((xs (nI (i + 1)).toNatClampNeg)), .ref oo]) (rest := []) ⟨hx, hb, hml, hown, hbw⟩ (EW_E D _) hEW hZ hM (gW 3 hbw m_441 m_442 m_17 m_443 rfl rfl (by decide +kernel) ⟨(Nat.le_of_ble_eq_true rfl), (Nat.le_of_ble_eq_true rfl)⟩) hP hD hS hA rfl hl.1 rfl (Nat.le_of_ble_eq_true rfl) dL_law_697 ⟨(show cells + 1 ≤ 620713 by omega), (show slots + 6 ≤ 7233965 by omega)⟩ (fun k w1 H locs hw hP hD hS => ?_)
  obtain ⟨f', wx', rfl, post2, hM2, hpost2⟩ := hpost k w1 hw
  refine lv_istore (lv' := [(5, .int k), (0, .ref b), (1, .ref o0), (2, .ref g0), (3, .ref oo), (4, .int (nI i))]) hx hb dL_law_700 hl (by decide) rfl (fun ls hl => ?_)
  refine lv_aload_n hx hb dL_law_702 rfl (lv_at hl 3 rfl) ?_
  refine lv_aload_n hx hb dL_law_703 rfl (lv_at hl 1 rfl) ?_
  refine lv_iload hx hb dL_law_704 (lv_at hl 5 rfl) ?_
  refine lv_iconst (v := nI 1) hx hb dL_law_706 (by decide) ?_
  refine nr_iadd hx hb dL_law_707 ?_
  refine va_sld hx hb hX hbl hbA hS (i := nI (i + 1)) (vp_in_nI (by omega) (by omega)) dL_law_708 ?_
  have hP := px_swP hP
  have hD := px_swD hD
  refine px_V (As := [.int ((xs (nI (i + 1)).toNatClampNeg))]) (rest := []) ⟨hx, hb, hml, hown, hbw⟩ (EN_E D _) hEN (hM2) (cwV (C := "CableSizesModel") 1 hbw (gV m_645 m_646 m_647 m_23 m_648) rfl rfl rfl (by decide +kernel) ⟨(Nat.le_of_ble_eq_true rfl), (Nat.le_of_ble_eq_true rfl)⟩) (va_recv hK hP (ci := 5) (q0 := 0) rfl (px_l hg0)) hP hD hS hA rfl hl.1 rfl (Nat.le_of_ble_eq_true rfl) dL_law_709 ⟨(show cells + 1 + 0 ≤ 620713 by omega), (show slots + 6 + 0 ≤ 7233965 by omega)⟩ (fun v wm' H locs hw2 hP hD hS => ?_)
  obtain ⟨th', hth, hI, rfl, hv⟩ := hpost2 v wm' hw2
  obtain ⟨fs2, hg2⟩ := lw_g0 hI
  refine lv_istore (lv' := [(6, .int v), (5, .int (nI th')), (0, .ref b), (1, .ref o0), (2, .ref g0), (3, .ref oo), (4, .int (nI i))]) hx hb dL_law_712 hl (by decide) rfl (fun ls hl => ?_)
  refine lv_aload_n hx hb dL_law_714 rfl (lv_at hl 4 rfl) ?_
  refine px_V (As := []) (rest := []) ⟨hx, hb, hml, hown, hbw⟩ (EN_E D _) hEN (pr_thrown l D cI cG cL cB hI) (cwV (C := "CableSizesModel") 0 hbw (gV m_547 m_548 m_549 m_23 m_550) rfl rfl rfl (by decide +kernel) ⟨(Nat.le_of_ble_eq_true rfl), (Nat.le_of_ble_eq_true rfl)⟩) (va_recv hK hP (ci := 5) (q0 := 0) rfl (px_l hg2)) hP hD hS hA rfl hl.1 rfl (Nat.le_of_ble_eq_true rfl) dL_law_715 ⟨(show cells + 1 + 0 + 0 ≤ 620713 by omega), (show slots + 6 + 0 + 0 ≤ 7233965 by omega)⟩ (fun r w2 H locs hw3 hP hD hS => ?_)
  obtain ⟨hw4, rfl⟩ := hw3
  rw [hw4] at hP hD
  have hP : va_P D vwCl ((lA oo cL f' :: wx') ++ wm') _ := px_swP hP
  have hD : va_D (fun q : Nat => s.heap.size ≤ q) ((lA oo cL f' :: wx') ++ wm') := px_swD hD
  refine lv_iload hx hb dL_law_718 (lv_at hl 1 rfl) ?_
  refine lv_icmp_eq (tgt := 725) hx hb dL_law_720 (by decide) (fun _ => ?_) (fun h => absurd rfl h)
  refine lv_iload hx hb dL_law_725 (lv_at hl 1 rfl) ?_
  refine nr_if_ne (x := th') (tgt := 742) hx hb (by omega) dL_law_727 (by decide) (fun h0 => ?_) (fun h0 => ?_)
  · refine lv_goto (tgt := 989) hx hb dL_law_742 (by decide) ?_
    refine W.widen (k := cells + 6) (n := slots + 36) (by omega) (by omega) ?_
    exact kk _ f' _ _ _ _ _ hI hP hD hS (lv_sub hl [2, 3, 4, 5, 6] rfl)
  · refine lv_aload_n hx hb dL_law_730 rfl (lv_at hl 5 rfl) ?_
    refine lv_iconst (v := nI 0) hx hb dL_law_731 (by decide) ?_
    have e0 : f' (nI 0).toNatClampNeg = f' 0 := congrArg f' (nI_clamp (by omega))
    refine va_lald hx hb hK hP 0 2 rfl rfl (i := nI 0) (vp_in_nI (by omega) (by omega)) dL_law_732 ?_
    rw [e0, hv (by omega)]
    refine lv_iload hx hb dL_law_733 (lv_at hl 0 rfl) ?_
    refine lv_i2l (v := (v).toInt64) hx hb dL_law_735 rfl ?_
    refine nr_cmpeq (tgt := 742) hx hb dL_law_736 dL_law_737 (by decide) (fun _ => ?_) (fun h => absurd rfl h)
    refine lv_goto (tgt := 989) hx hb dL_law_742 (by decide) ?_
    refine W.widen (k := cells + 6) (n := slots + 36) (by omega) (by omega) ?_
    exact kk _ f' _ _ _ _ _ hI hP hD hS (lv_sub hl [2, 3, 4, 5, 6] rfl)
set_option maxHeartbeats 4000000 in
set_option maxRecDepth 100000 in
theorem lc_told {p : Program} {l : Launch} {e : Env} {s : State} {m : MethodId} {below : List Frame} {meth : Method} {c : Code} {b L : Nat} {xs : Nat → Int32} {D : va_G} {cI cG cL cB : ClassId} {o0 g0 oo i cells slots th : Nat} {f : Nat → Int64} {wx wm : va_W} {H : Heap} {locs : List Loc} {ls : Array Slot} {Q : State → Prop} (C0 : lw_C p l s m c b L xs D cI cG cL cB) (hi : i + 5 ≤ L) (hf : cells + 6 ≤ 620713 ∧ slots + 36 ≤ 7233965) (hI : lw_I o0 g0 cI cG cB th wx wm) (hP : va_P D vwCl ((lA oo cL f :: wx) ++ wm) H) (hD : va_D (fun q : Nat => s.heap.size ≤ q) ((lA oo cL f :: wx) ++ wm)) (hS : va_S (fun q : Nat => s.heap.size ≤ q) s.heap H locs) (hl : lv_has ls 7 [(0, .ref b), (1, .ref o0), (2, .ref g0), (3, .ref oo), (4, .int (nI i))])
    (kk : lw_G p l e s m below meth c b D cI cG cL cB o0 g0 oo i (cells + 6) (slots + 36) Q) : W p l e room_1 s m #[Value.ref b] below meth c H locs cells slots Q (F0 m 745 ls []) := by
  obtain ⟨hx, hb, hml, hown, hbw, hX, hbl, hEW, hZ, hl9, hL⟩ := C0
  have hA : ∀ q : Nat, s.heap.size ≤ q → (fun q : Nat => s.heap.size ≤ q) q := fun _ h => h
  have hbA : ¬ (fun q : Nat => s.heap.size ≤ q) b := Nat.not_le.mpr hbl
  have hEN := hEW.1.1
  have hK := hEN.1
  obtain ⟨fs0, hg0⟩ := lw_g0 hI
  obtain ⟨fs1, ho0⟩ := lw_o0 hI
  refine lv_aload_n hx hb dL_law_745 rfl (lv_at hl 1 rfl) ?_
  refine lv_aload_n hx hb dL_law_746 rfl (lv_at hl 0 rfl) ?_
  refine lv_iload hx hb dL_law_747 (lv_at hl 4 rfl) ?_
  refine lv_iconst (v := nI 1) hx hb dL_law_749 (by decide) ?_
  refine nr_iadd hx hb dL_law_750 ?_
  refine va_sld hx hb hX hbl hbA hS (i := nI (i + 1)) (vp_in_nI (by omega) (by omega)) dL_law_751 ?_
  refine lv_aload_n hx hb dL_law_752 rfl (lv_at hl 0 rfl) ?_
  refine lv_iload hx hb dL_law_753 (lv_at hl 4 rfl) ?_
  refine lv_iconst (v := nI 2) hx hb dL_law_755 (by decide) ?_
  refine nr_iadd hx hb dL_law_756 ?_
  refine va_sld hx hb hX hbl hbA hS (i := nI (i + 2)) (vp_in_nI (by omega) (by omega)) dL_law_757 ?_
  refine lv_aload_n hx hb dL_law_758 rfl (lv_at hl 3 rfl) ?_
  obtain ⟨post, hM, hpost⟩ := pr_told l hl9 D cI cG cL cB o0 g0 oo ((xs (nI (i + 1)).toNatClampNeg)) ((xs (nI (i + 2)).toNatClampNeg)) th wx wm f hI
  refine px_W (As := [.ref o0, .int ((xs (nI (i + 1)).toNatClampNeg)), .int ((xs (nI (i + 2)).toNatClampNeg)), .ref oo]) (rest := []) ⟨hx, hb, hml, hown, hbw⟩ (EW_E D _) hEW hZ hM (gW 4 hbw m_448 m_449 m_17 m_450 rfl rfl (by decide +kernel) ⟨(Nat.le_of_ble_eq_true rfl), (Nat.le_of_ble_eq_true rfl)⟩) hP hD hS hA rfl hl.1 rfl (Nat.le_of_ble_eq_true rfl) dL_law_759 ⟨(show cells + 2 ≤ 620713 by omega), (show slots + 12 ≤ 7233965 by omega)⟩ (fun k w1 H locs hw hP hD hS => ?_)
  obtain ⟨f', wx', rfl, post2, hM2, hpost2⟩ := hpost k w1 hw
  refine lv_istore (lv' := [(5, .int k), (0, .ref b), (1, .ref o0), (2, .ref g0), (3, .ref oo), (4, .int (nI i))]) hx hb dL_law_762 hl (by decide) rfl (fun ls hl => ?_)
  refine lv_aload_n hx hb dL_law_764 rfl (lv_at hl 3 rfl) ?_
  refine lv_aload_n hx hb dL_law_765 rfl (lv_at hl 1 rfl) ?_
  refine lv_iload hx hb dL_law_766 (lv_at hl 5 rfl) ?_
  refine lv_iconst (v := nI 1) hx hb dL_law_768 (by decide) ?_
  refine nr_iadd hx hb dL_law_769 ?_
  refine va_sld hx hb hX hbl hbA hS (i := nI (i + 1)) (vp_in_nI (by omega) (by omega)) dL_law_770 ?_
  refine lv_aload_n hx hb dL_law_771 rfl (lv_at hl 1 rfl) ?_
  refine lv_iload hx hb dL_law_772 (lv_at hl 5 rfl) ?_
  refine lv_iconst (v := nI 2) hx hb dL_law_774 (by decide) ?_
  refine nr_iadd hx hb dL_law_775 ?_
  refine va_sld hx hb hX hbl hbA hS (i := nI (i + 2)) (vp_in_nI (by omega) (by omega)) dL_law_776 ?_
  have hP := px_swP hP
  have hD := px_swD hD
  refine px_V (As := [.int ((xs (nI (i + 1)).toNatClampNeg)), .int ((xs (nI (i + 2)).toNatClampNeg))]) (rest := []) ⟨hx, hb, hml, hown, hbw⟩ (EN_E D _) hEN (hM2) (cwV (C := "CableSizesModel") 2 hbw (gV m_649 m_650 m_651 m_23 m_652) rfl rfl rfl (by decide +kernel) ⟨(Nat.le_of_ble_eq_true rfl), (Nat.le_of_ble_eq_true rfl)⟩) (va_recv hK hP (ci := 5) (q0 := 0) rfl (px_l hg0)) hP hD hS hA rfl hl.1 rfl (Nat.le_of_ble_eq_true rfl) dL_law_777 ⟨(show cells + 2 + 0 ≤ 620713 by omega), (show slots + 12 + 0 ≤ 7233965 by omega)⟩ (fun v wm' H locs hw2 hP hD hS => ?_)
  obtain ⟨th', hth, hI, rfl, hv⟩ := hpost2 v wm' hw2
  obtain ⟨fs2, hg2⟩ := lw_g0 hI
  refine lv_istore (lv' := [(6, .int v), (5, .int (nI th')), (0, .ref b), (1, .ref o0), (2, .ref g0), (3, .ref oo), (4, .int (nI i))]) hx hb dL_law_780 hl (by decide) rfl (fun ls hl => ?_)
  refine lv_aload_n hx hb dL_law_782 rfl (lv_at hl 4 rfl) ?_
  refine px_V (As := []) (rest := []) ⟨hx, hb, hml, hown, hbw⟩ (EN_E D _) hEN (pr_thrown l D cI cG cL cB hI) (cwV (C := "CableSizesModel") 0 hbw (gV m_547 m_548 m_549 m_23 m_550) rfl rfl rfl (by decide +kernel) ⟨(Nat.le_of_ble_eq_true rfl), (Nat.le_of_ble_eq_true rfl)⟩) (va_recv hK hP (ci := 5) (q0 := 0) rfl (px_l hg2)) hP hD hS hA rfl hl.1 rfl (Nat.le_of_ble_eq_true rfl) dL_law_783 ⟨(show cells + 2 + 0 + 0 ≤ 620713 by omega), (show slots + 12 + 0 + 0 ≤ 7233965 by omega)⟩ (fun r w2 H locs hw3 hP hD hS => ?_)
  obtain ⟨hw4, rfl⟩ := hw3
  rw [hw4] at hP hD
  have hP : va_P D vwCl ((lA oo cL f' :: wx') ++ wm') _ := px_swP hP
  have hD : va_D (fun q : Nat => s.heap.size ≤ q) ((lA oo cL f' :: wx') ++ wm') := px_swD hD
  refine lv_iload hx hb dL_law_786 (lv_at hl 1 rfl) ?_
  refine lv_icmp_eq (tgt := 793) hx hb dL_law_788 (by decide) (fun _ => ?_) (fun h => absurd rfl h)
  refine lv_iload hx hb dL_law_793 (lv_at hl 1 rfl) ?_
  refine nr_if_ne (x := th') (tgt := 810) hx hb (by omega) dL_law_795 (by decide) (fun h0 => ?_) (fun h0 => ?_)
  · refine lv_goto (tgt := 989) hx hb dL_law_810 (by decide) ?_
    refine W.widen (k := cells + 6) (n := slots + 36) (by omega) (by omega) ?_
    exact kk _ f' _ _ _ _ _ hI hP hD hS (lv_sub hl [2, 3, 4, 5, 6] rfl)
  · refine lv_aload_n hx hb dL_law_798 rfl (lv_at hl 5 rfl) ?_
    refine lv_iconst (v := nI 0) hx hb dL_law_799 (by decide) ?_
    have e0 : f' (nI 0).toNatClampNeg = f' 0 := congrArg f' (nI_clamp (by omega))
    refine va_lald hx hb hK hP 0 2 rfl rfl (i := nI 0) (vp_in_nI (by omega) (by omega)) dL_law_800 ?_
    rw [e0, hv (by omega)]
    refine lv_iload hx hb dL_law_801 (lv_at hl 0 rfl) ?_
    refine lv_i2l (v := (v).toInt64) hx hb dL_law_803 rfl ?_
    refine nr_cmpeq (tgt := 810) hx hb dL_law_804 dL_law_805 (by decide) (fun _ => ?_) (fun h => absurd rfl h)
    refine lv_goto (tgt := 989) hx hb dL_law_810 (by decide) ?_
    refine W.widen (k := cells + 6) (n := slots + 36) (by omega) (by omega) ?_
    exact kk _ f' _ _ _ _ _ hI hP hD hS (lv_sub hl [2, 3, 4, 5, 6] rfl)
set_option maxHeartbeats 4000000 in
set_option maxRecDepth 100000 in
theorem lc_cableAt {p : Program} {l : Launch} {e : Env} {s : State} {m : MethodId} {below : List Frame} {meth : Method} {c : Code} {b L : Nat} {xs : Nat → Int32} {D : va_G} {cI cG cL cB : ClassId} {o0 g0 oo i cells slots th : Nat} {f : Nat → Int64} {wx wm : va_W} {H : Heap} {locs : List Loc} {ls : Array Slot} {Q : State → Prop} (C0 : lw_C p l s m c b L xs D cI cG cL cB) (hi : i + 5 ≤ L) (hf : cells + 6 ≤ 620713 ∧ slots + 36 ≤ 7233965) (hI : lw_I o0 g0 cI cG cB th wx wm) (hP : va_P D vwCl ((lA oo cL f :: wx) ++ wm) H) (hD : va_D (fun q : Nat => s.heap.size ≤ q) ((lA oo cL f :: wx) ++ wm)) (hS : va_S (fun q : Nat => s.heap.size ≤ q) s.heap H locs) (hl : lv_has ls 7 [(0, .ref b), (1, .ref o0), (2, .ref g0), (3, .ref oo), (4, .int (nI i))])
    (kk : lw_G p l e s m below meth c b D cI cG cL cB o0 g0 oo i (cells + 6) (slots + 36) Q) : W p l e room_1 s m #[Value.ref b] below meth c H locs cells slots Q (F0 m 813 ls []) := by
  obtain ⟨hx, hb, hml, hown, hbw, hX, hbl, hEW, hZ, hl9, hL⟩ := C0
  have hA : ∀ q : Nat, s.heap.size ≤ q → (fun q : Nat => s.heap.size ≤ q) q := fun _ h => h
  have hbA : ¬ (fun q : Nat => s.heap.size ≤ q) b := Nat.not_le.mpr hbl
  have hEN := hEW.1.1
  have hK := hEN.1
  obtain ⟨fs0, hg0⟩ := lw_g0 hI
  obtain ⟨fs1, ho0⟩ := lw_o0 hI
  refine lv_aload_n hx hb dL_law_813 rfl (lv_at hl 1 rfl) ?_
  refine lv_aload_n hx hb dL_law_814 rfl (lv_at hl 0 rfl) ?_
  refine lv_iload hx hb dL_law_815 (lv_at hl 4 rfl) ?_
  refine lv_iconst (v := nI 1) hx hb dL_law_817 (by decide) ?_
  refine nr_iadd hx hb dL_law_818 ?_
  refine va_sld hx hb hX hbl hbA hS (i := nI (i + 1)) (vp_in_nI (by omega) (by omega)) dL_law_819 ?_
  refine lv_aload_n hx hb dL_law_820 rfl (lv_at hl 0 rfl) ?_
  refine lv_iload hx hb dL_law_821 (lv_at hl 4 rfl) ?_
  refine lv_iconst (v := nI 2) hx hb dL_law_823 (by decide) ?_
  refine nr_iadd hx hb dL_law_824 ?_
  refine va_sld hx hb hX hbl hbA hS (i := nI (i + 2)) (vp_in_nI (by omega) (by omega)) dL_law_825 ?_
  refine lv_aload_n hx hb dL_law_826 rfl (lv_at hl 3 rfl) ?_
  obtain ⟨post, hM, hpost⟩ := pr_cableAt l hl9 D cI cG cL cB o0 g0 oo ((xs (nI (i + 1)).toNatClampNeg)) ((xs (nI (i + 2)).toNatClampNeg)) th wx wm f hI
  refine px_W (As := [.ref o0, .int ((xs (nI (i + 1)).toNatClampNeg)), .int ((xs (nI (i + 2)).toNatClampNeg)), .ref oo]) (rest := []) ⟨hx, hb, hml, hown, hbw⟩ (EW_E D _) hEW hZ hM (gW 4 hbw m_460 m_461 m_17 m_462 rfl rfl (by decide +kernel) ⟨(Nat.le_of_ble_eq_true rfl), (Nat.le_of_ble_eq_true rfl)⟩) hP hD hS hA rfl hl.1 rfl (Nat.le_of_ble_eq_true rfl) dL_law_827 ⟨(show cells + 2 ≤ 620713 by omega), (show slots + 12 ≤ 7233965 by omega)⟩ (fun k w1 H locs hw hP hD hS => ?_)
  obtain ⟨f', wx', rfl, post2, hM2, hpost2⟩ := hpost k w1 hw
  refine lv_istore (lv' := [(5, .int k), (0, .ref b), (1, .ref o0), (2, .ref g0), (3, .ref oo), (4, .int (nI i))]) hx hb dL_law_830 hl (by decide) rfl (fun ls hl => ?_)
  refine lv_aload_n hx hb dL_law_832 rfl (lv_at hl 3 rfl) ?_
  refine lv_aload_n hx hb dL_law_833 rfl (lv_at hl 1 rfl) ?_
  refine lv_iload hx hb dL_law_834 (lv_at hl 5 rfl) ?_
  refine lv_iconst (v := nI 1) hx hb dL_law_836 (by decide) ?_
  refine nr_iadd hx hb dL_law_837 ?_
  refine va_sld hx hb hX hbl hbA hS (i := nI (i + 1)) (vp_in_nI (by omega) (by omega)) dL_law_838 ?_
  refine lv_aload_n hx hb dL_law_839 rfl (lv_at hl 1 rfl) ?_
  refine lv_iload hx hb dL_law_840 (lv_at hl 5 rfl) ?_
  refine lv_iconst (v := nI 2) hx hb dL_law_842 (by decide) ?_
  refine nr_iadd hx hb dL_law_843 ?_
  refine va_sld hx hb hX hbl hbA hS (i := nI (i + 2)) (vp_in_nI (by omega) (by omega)) dL_law_844 ?_
  have hP := px_swP hP
  have hD := px_swD hD
  refine px_V (As := [.int ((xs (nI (i + 1)).toNatClampNeg)), .int ((xs (nI (i + 2)).toNatClampNeg))]) (rest := []) ⟨hx, hb, hml, hown, hbw⟩ (EN_E D _) hEN (hM2) (cwV (C := "CableSizesModel") 2 hbw (gV m_654 m_655 m_656 m_23 m_657) rfl rfl rfl (by decide +kernel) ⟨(Nat.le_of_ble_eq_true rfl), (Nat.le_of_ble_eq_true rfl)⟩) (va_recv hK hP (ci := 5) (q0 := 0) rfl (px_l hg0)) hP hD hS hA rfl hl.1 rfl (Nat.le_of_ble_eq_true rfl) dL_law_845 ⟨(show cells + 2 + 0 ≤ 620713 by omega), (show slots + 12 + 0 ≤ 7233965 by omega)⟩ (fun v wm' H locs hw2 hP hD hS => ?_)
  obtain ⟨th', hth, hI, rfl, hv⟩ := hpost2 v wm' hw2
  obtain ⟨fs2, hg2⟩ := lw_g0 hI
  refine lv_istore (lv' := [(6, .int v), (5, .int (nI th')), (0, .ref b), (1, .ref o0), (2, .ref g0), (3, .ref oo), (4, .int (nI i))]) hx hb dL_law_848 hl (by decide) rfl (fun ls hl => ?_)
  refine lv_aload_n hx hb dL_law_850 rfl (lv_at hl 4 rfl) ?_
  refine px_V (As := []) (rest := []) ⟨hx, hb, hml, hown, hbw⟩ (EN_E D _) hEN (pr_thrown l D cI cG cL cB hI) (cwV (C := "CableSizesModel") 0 hbw (gV m_547 m_548 m_549 m_23 m_550) rfl rfl rfl (by decide +kernel) ⟨(Nat.le_of_ble_eq_true rfl), (Nat.le_of_ble_eq_true rfl)⟩) (va_recv hK hP (ci := 5) (q0 := 0) rfl (px_l hg2)) hP hD hS hA rfl hl.1 rfl (Nat.le_of_ble_eq_true rfl) dL_law_851 ⟨(show cells + 2 + 0 + 0 ≤ 620713 by omega), (show slots + 12 + 0 + 0 ≤ 7233965 by omega)⟩ (fun r w2 H locs hw3 hP hD hS => ?_)
  obtain ⟨hw4, rfl⟩ := hw3
  rw [hw4] at hP hD
  have hP : va_P D vwCl ((lA oo cL f' :: wx') ++ wm') _ := px_swP hP
  have hD : va_D (fun q : Nat => s.heap.size ≤ q) ((lA oo cL f' :: wx') ++ wm') := px_swD hD
  refine lv_iload hx hb dL_law_854 (lv_at hl 1 rfl) ?_
  refine lv_icmp_eq (tgt := 861) hx hb dL_law_856 (by decide) (fun _ => ?_) (fun h => absurd rfl h)
  refine lv_iload hx hb dL_law_861 (lv_at hl 1 rfl) ?_
  refine nr_if_ne (x := th') (tgt := 878) hx hb (by omega) dL_law_863 (by decide) (fun h0 => ?_) (fun h0 => ?_)
  · refine lv_goto (tgt := 989) hx hb dL_law_878 (by decide) ?_
    refine W.widen (k := cells + 6) (n := slots + 36) (by omega) (by omega) ?_
    exact kk _ f' _ _ _ _ _ hI hP hD hS (lv_sub hl [2, 3, 4, 5, 6] rfl)
  · refine lv_aload_n hx hb dL_law_866 rfl (lv_at hl 5 rfl) ?_
    refine lv_iconst (v := nI 0) hx hb dL_law_867 (by decide) ?_
    have e0 : f' (nI 0).toNatClampNeg = f' 0 := congrArg f' (nI_clamp (by omega))
    refine va_lald hx hb hK hP 0 2 rfl rfl (i := nI 0) (vp_in_nI (by omega) (by omega)) dL_law_868 ?_
    rw [e0, hv (by omega)]
    refine lv_iload hx hb dL_law_869 (lv_at hl 0 rfl) ?_
    refine lv_i2l (v := (v).toInt64) hx hb dL_law_871 rfl ?_
    refine nr_cmpeq (tgt := 878) hx hb dL_law_872 dL_law_873 (by decide) (fun _ => ?_) (fun h => absurd rfl h)
    refine lv_goto (tgt := 989) hx hb dL_law_878 (by decide) ?_
    refine W.widen (k := cells + 6) (n := slots + 36) (by omega) (by omega) ?_
    exact kk _ f' _ _ _ _ _ hI hP hD hS (lv_sub hl [2, 3, 4, 5, 6] rfl)
set_option maxHeartbeats 4000000 in
set_option maxRecDepth 100000 in
theorem lc_copper {p : Program} {l : Launch} {e : Env} {s : State} {m : MethodId} {below : List Frame} {meth : Method} {c : Code} {b L : Nat} {xs : Nat → Int32} {D : va_G} {cI cG cL cB : ClassId} {o0 g0 oo i cells slots th : Nat} {f : Nat → Int64} {wx wm : va_W} {H : Heap} {locs : List Loc} {ls : Array Slot} {Q : State → Prop} (C0 : lw_C p l s m c b L xs D cI cG cL cB) (hi : i + 5 ≤ L) (hf : cells + 6 ≤ 620713 ∧ slots + 36 ≤ 7233965) (hI : lw_I o0 g0 cI cG cB th wx wm) (hP : va_P D vwCl ((lA oo cL f :: wx) ++ wm) H) (hD : va_D (fun q : Nat => s.heap.size ≤ q) ((lA oo cL f :: wx) ++ wm)) (hS : va_S (fun q : Nat => s.heap.size ≤ q) s.heap H locs) (hl : lv_has ls 7 [(0, .ref b), (1, .ref o0), (2, .ref g0), (3, .ref oo), (4, .int (nI i))])
    (kk : lw_G p l e s m below meth c b D cI cG cL cB o0 g0 oo i (cells + 6) (slots + 36) Q) : W p l e room_1 s m #[Value.ref b] below meth c H locs cells slots Q (F0 m 881 ls []) := by
  obtain ⟨hx, hb, hml, hown, hbw, hX, hbl, hEW, hZ, hl9, hL⟩ := C0
  have hA : ∀ q : Nat, s.heap.size ≤ q → (fun q : Nat => s.heap.size ≤ q) q := fun _ h => h
  have hbA : ¬ (fun q : Nat => s.heap.size ≤ q) b := Nat.not_le.mpr hbl
  have hEN := hEW.1.1
  have hK := hEN.1
  obtain ⟨fs0, hg0⟩ := lw_g0 hI
  obtain ⟨fs1, ho0⟩ := lw_o0 hI
  have hP := px_swP (X := [lA oo cL f]) (Y := wx ++ wm) hP
  have hD := px_swD (X := [lA oo cL f]) (Y := wx ++ wm) hD
  rw [List.append_assoc] at hP hD
  obtain ⟨post, hM, hpost⟩ := pr_copper l D cI cG cL cB hI
  refine lv_aload_n hx hb dL_law_881 rfl (lv_at hl 1 rfl) ?_
  refine px_V (As := []) (rest := []) ⟨hx, hb, hml, hown, hbw⟩ (EN_E D _) hEN (hM) (cwV (C := "CableSizes") 0 hbw (gV m_235 m_236 m_237 m_18 m_238) rfl rfl rfl (by decide +kernel) ⟨(Nat.le_of_ble_eq_true rfl), (Nat.le_of_ble_eq_true rfl)⟩) (va_recv hK hP (ci := 4) (q0 := 0) rfl (px_l ho0)) hP hD hS hA rfl hl.1 rfl (Nat.le_of_ble_eq_true rfl) dL_law_882 ⟨(show cells + 0 ≤ 620713 by omega), (show slots + 0 ≤ 7233965 by omega)⟩ (fun v wx' H locs hw hP hD hS => ?_)
  obtain ⟨post2, hM2, hpost2⟩ := hpost v wx' hw
  have hP := px_swP hP
  have hD := px_swD hD
  rw [List.append_assoc] at hP hD
  refine lv_aload_n hx hb dL_law_885 rfl (lv_at hl 2 rfl) ?_
  refine px_V (As := []) (rest := [.int v]) ⟨hx, hb, hml, hown, hbw⟩ (EN_E D _) hEN (hM2) (cwV (C := "CableSizesModel") 0 hbw (gV m_658 m_659 m_660 m_23 m_661) rfl rfl rfl (by decide +kernel) ⟨(Nat.le_of_ble_eq_true rfl), (Nat.le_of_ble_eq_true rfl)⟩) (va_recv hK hP (ci := 5) (q0 := 0) rfl (px_l hg0)) hP hD hS hA rfl hl.1 rfl (Nat.le_of_ble_eq_true rfl) dL_law_886 ⟨(show cells + 0 + 0 ≤ 620713 by omega), (show slots + 0 + 0 ≤ 7233965 by omega)⟩ (fun v' wm' H locs hw2 hP hD hS => ?_)
  obtain ⟨rfl, th', hI⟩ := hpost2 v' wm' hw2
  have hP : va_P D vwCl ((lA oo cL f :: wx') ++ wm') _ := px_swP hP
  have hD : va_D (fun q : Nat => s.heap.size ≤ q) ((lA oo cL f :: wx') ++ wm') := px_swD hD
  refine lv_icmp_eq (tgt := 989) hx hb dL_law_889 (by decide) (fun _ => ?_) (fun h => absurd rfl h)
  refine W.widen (k := cells + 6) (n := slots + 36) (by omega) (by omega) ?_
  exact kk _ f _ _ _ _ _ hI hP hD hS (lv_sub hl [0, 1, 2, 3, 4] rfl)
set_option maxHeartbeats 4000000 in
set_option maxRecDepth 100000 in
theorem lc_right {p : Program} {l : Launch} {e : Env} {s : State} {m : MethodId} {below : List Frame} {meth : Method} {c : Code} {b L : Nat} {xs : Nat → Int32} {D : va_G} {cI cG cL cB : ClassId} {o0 g0 oo i cells slots th : Nat} {f : Nat → Int64} {wx wm : va_W} {H : Heap} {locs : List Loc} {ls : Array Slot} {Q : State → Prop} (C0 : lw_C p l s m c b L xs D cI cG cL cB) (hi : i + 5 ≤ L) (hf : cells + 6 ≤ 620713 ∧ slots + 36 ≤ 7233965) (hI : lw_I o0 g0 cI cG cB th wx wm) (hP : va_P D vwCl ((lA oo cL f :: wx) ++ wm) H) (hD : va_D (fun q : Nat => s.heap.size ≤ q) ((lA oo cL f :: wx) ++ wm)) (hS : va_S (fun q : Nat => s.heap.size ≤ q) s.heap H locs) (hl : lv_has ls 7 [(0, .ref b), (1, .ref o0), (2, .ref g0), (3, .ref oo), (4, .int (nI i))])
    (kk : lw_G p l e s m below meth c b D cI cG cL cB o0 g0 oo i (cells + 6) (slots + 36) Q) : W p l e room_1 s m #[Value.ref b] below meth c H locs cells slots Q (F0 m 894 ls []) := by
  obtain ⟨hx, hb, hml, hown, hbw, hX, hbl, hEW, hZ, hl9, hL⟩ := C0
  have hA : ∀ q : Nat, s.heap.size ≤ q → (fun q : Nat => s.heap.size ≤ q) q := fun _ h => h
  have hbA : ¬ (fun q : Nat => s.heap.size ≤ q) b := Nat.not_le.mpr hbl
  have hEN := hEW.1.1
  have hK := hEN.1
  obtain ⟨fs0, hg0⟩ := lw_g0 hI
  obtain ⟨fs1, ho0⟩ := lw_o0 hI
  refine lv_aload_n hx hb dL_law_894 rfl (lv_at hl 1 rfl) ?_
  refine lv_aload_n hx hb dL_law_895 rfl (lv_at hl 0 rfl) ?_
  refine lv_iload hx hb dL_law_896 (lv_at hl 4 rfl) ?_
  refine lv_iconst (v := nI 1) hx hb dL_law_898 (by decide) ?_
  refine nr_iadd hx hb dL_law_899 ?_
  refine va_sld hx hb hX hbl hbA hS (i := nI (i + 1)) (vp_in_nI (by omega) (by omega)) dL_law_900 ?_
  refine lv_i2l (v := ((xs (nI (i + 1)).toNatClampNeg)).toInt64) hx hb dL_law_901 rfl ?_
  refine lv_bipush (v := nI 32) hx hb dL_law_902 (by decide) ?_
  refine lv_lshl (v := (((xs (nI (i + 1)).toNatClampNeg)).toInt64 <<< ((nI 32).toInt64 &&& 63))) hx hb dL_law_904 rfl ?_
  refine lv_aload_n hx hb dL_law_905 rfl (lv_at hl 0 rfl) ?_
  refine lv_iload hx hb dL_law_906 (lv_at hl 4 rfl) ?_
  refine lv_iconst (v := nI 2) hx hb dL_law_908 (by decide) ?_
  refine nr_iadd hx hb dL_law_909 ?_
  refine va_sld hx hb hX hbl hbA hS (i := nI (i + 2)) (vp_in_nI (by omega) (by omega)) dL_law_910 ?_
  refine lv_i2l (v := ((xs (nI (i + 2)).toNatClampNeg)).toInt64) hx hb dL_law_911 rfl ?_
  refine lv_ldc2 (v := lN 4294967295) hx hb hown (hbw _ m_667) dL_law_912 ?_
  refine lv_land hx hb dL_law_915 ?_
  refine lv_lor hx hb dL_law_916 ?_
  refine lv_aload_n hx hb dL_law_917 rfl (lv_at hl 3 rfl) ?_
  obtain ⟨post, hM, hpost⟩ := pr_right l hl9 D cI cG cL cB o0 g0 oo (((((xs (nI (i + 1)).toNatClampNeg)).toInt64 <<< ((nI 32).toInt64 &&& 63)) ||| (((xs (nI (i + 2)).toNatClampNeg)).toInt64 &&& lN 4294967295))) th wx wm f hI
  refine px_W (As := [.ref o0, .long (((((xs (nI (i + 1)).toNatClampNeg)).toInt64 <<< ((nI 32).toInt64 &&& 63)) ||| (((xs (nI (i + 2)).toNatClampNeg)).toInt64 &&& lN 4294967295))), .ref oo]) (rest := []) ⟨hx, hb, hml, hown, hbw⟩ (EW_E D _) hEW hZ hM (gW 3 hbw m_469 m_470 m_17 m_471 rfl rfl (by decide +kernel) ⟨(Nat.le_of_ble_eq_true rfl), (Nat.le_of_ble_eq_true rfl)⟩) hP hD hS hA rfl hl.1 rfl (Nat.le_of_ble_eq_true rfl) dL_law_918 ⟨(show cells + 2 ≤ 620713 by omega), (show slots + 12 ≤ 7233965 by omega)⟩ (fun k w1 H locs hw hP hD hS => ?_)
  obtain ⟨f', wx', rfl, post2, hM2, hpost2⟩ := hpost k w1 hw
  refine lv_istore (lv' := [(5, .int k), (0, .ref b), (1, .ref o0), (2, .ref g0), (3, .ref oo), (4, .int (nI i))]) hx hb dL_law_921 hl (by decide) rfl (fun ls hl => ?_)
  refine lv_aload_n hx hb dL_law_923 rfl (lv_at hl 3 rfl) ?_
  refine lv_aload_n hx hb dL_law_924 rfl (lv_at hl 1 rfl) ?_
  refine lv_iload hx hb dL_law_925 (lv_at hl 5 rfl) ?_
  refine lv_iconst (v := nI 1) hx hb dL_law_927 (by decide) ?_
  refine nr_iadd hx hb dL_law_928 ?_
  refine va_sld hx hb hX hbl hbA hS (i := nI (i + 1)) (vp_in_nI (by omega) (by omega)) dL_law_929 ?_
  refine lv_i2l (v := ((xs (nI (i + 1)).toNatClampNeg)).toInt64) hx hb dL_law_930 rfl ?_
  refine lv_bipush (v := nI 32) hx hb dL_law_931 (by decide) ?_
  refine lv_lshl (v := (((xs (nI (i + 1)).toNatClampNeg)).toInt64 <<< ((nI 32).toInt64 &&& 63))) hx hb dL_law_933 rfl ?_
  refine lv_aload_n hx hb dL_law_934 rfl (lv_at hl 1 rfl) ?_
  refine lv_iload hx hb dL_law_935 (lv_at hl 5 rfl) ?_
  refine lv_iconst (v := nI 2) hx hb dL_law_937 (by decide) ?_
  refine nr_iadd hx hb dL_law_938 ?_
  refine va_sld hx hb hX hbl hbA hS (i := nI (i + 2)) (vp_in_nI (by omega) (by omega)) dL_law_939 ?_
  refine lv_i2l (v := ((xs (nI (i + 2)).toNatClampNeg)).toInt64) hx hb dL_law_940 rfl ?_
  refine lv_ldc2 (v := lN 4294967295) hx hb hown (hbw _ m_667) dL_law_941 ?_
  refine lv_land hx hb dL_law_944 ?_
  refine lv_lor hx hb dL_law_945 ?_
  have hP := px_swP hP
  have hD := px_swD hD
  refine px_V (As := [.long (((((xs (nI (i + 1)).toNatClampNeg)).toInt64 <<< ((nI 32).toInt64 &&& 63)) ||| (((xs (nI (i + 2)).toNatClampNeg)).toInt64 &&& lN 4294967295)))]) (rest := []) ⟨hx, hb, hml, hown, hbw⟩ (EN_E D _) hEN (hM2) (cwV (C := "CableSizesModel") 1 hbw (gV m_662 m_663 m_664 m_23 m_665) rfl rfl rfl (by decide +kernel) ⟨(Nat.le_of_ble_eq_true rfl), (Nat.le_of_ble_eq_true rfl)⟩) (va_recv hK hP (ci := 5) (q0 := 0) rfl (px_l hg0)) hP hD hS hA rfl hl.1 rfl (Nat.le_of_ble_eq_true rfl) dL_law_946 ⟨(show cells + 2 + 0 ≤ 620713 by omega), (show slots + 12 + 0 ≤ 7233965 by omega)⟩ (fun v wm' H locs hw2 hP hD hS => ?_)
  obtain ⟨th', hth, hI, rfl, hv⟩ := hpost2 v wm' hw2
  obtain ⟨fs2, hg2⟩ := lw_g0 hI
  refine lv_istore (lv' := [(6, .int v), (5, .int (nI th')), (0, .ref b), (1, .ref o0), (2, .ref g0), (3, .ref oo), (4, .int (nI i))]) hx hb dL_law_949 hl (by decide) rfl (fun ls hl => ?_)
  refine lv_aload_n hx hb dL_law_951 rfl (lv_at hl 4 rfl) ?_
  refine px_V (As := []) (rest := []) ⟨hx, hb, hml, hown, hbw⟩ (EN_E D _) hEN (pr_thrown l D cI cG cL cB hI) (cwV (C := "CableSizesModel") 0 hbw (gV m_547 m_548 m_549 m_23 m_550) rfl rfl rfl (by decide +kernel) ⟨(Nat.le_of_ble_eq_true rfl), (Nat.le_of_ble_eq_true rfl)⟩) (va_recv hK hP (ci := 5) (q0 := 0) rfl (px_l hg2)) hP hD hS hA rfl hl.1 rfl (Nat.le_of_ble_eq_true rfl) dL_law_952 ⟨(show cells + 2 + 0 + 0 ≤ 620713 by omega), (show slots + 12 + 0 + 0 ≤ 7233965 by omega)⟩ (fun r w2 H locs hw3 hP hD hS => ?_)
  obtain ⟨hw4, rfl⟩ := hw3
  rw [hw4] at hP hD
  have hP : va_P D vwCl ((lA oo cL f' :: wx') ++ wm') _ := px_swP hP
  have hD : va_D (fun q : Nat => s.heap.size ≤ q) ((lA oo cL f' :: wx') ++ wm') := px_swD hD
  refine lv_iload hx hb dL_law_955 (lv_at hl 1 rfl) ?_
  refine lv_icmp_eq (tgt := 962) hx hb dL_law_957 (by decide) (fun _ => ?_) (fun h => absurd rfl h)
  refine lv_iload hx hb dL_law_962 (lv_at hl 1 rfl) ?_
  refine nr_if_ne (x := th') (tgt := 986) hx hb (by omega) dL_law_964 (by decide) (fun h0 => ?_) (fun h0 => ?_)
  · refine lv_goto (tgt := 989) hx hb dL_law_986 (by decide) ?_
    refine W.widen (k := cells + 6) (n := slots + 36) (by omega) (by omega) ?_
    exact kk _ f' _ _ _ _ _ hI hP hD hS (lv_sub hl [2, 3, 4, 5, 6] rfl)
  · refine lv_aload_n hx hb dL_law_967 rfl (lv_at hl 5 rfl) ?_
    refine lv_iconst (v := nI 0) hx hb dL_law_968 (by decide) ?_
    have e0 : f' (nI 0).toNatClampNeg = f' 0 := congrArg f' (nI_clamp (by omega))
    refine va_lald hx hb hK hP 0 2 rfl rfl (i := nI 0) (vp_in_nI (by omega) (by omega)) dL_law_969 ?_
    rw [e0, hv (by omega)]
    refine lv_iload hx hb dL_law_970 (lv_at hl 0 rfl) ?_
    refine lv_if_eq (tgt := 979) hx hb dL_law_972 (by decide) (fun h1 => ?_) (fun h1 => ?_)
    · refine lv_lconst (v := 0) hx hb dL_law_979 (by decide) ?_
      refine nr_cmpeq (tgt := 986) hx hb dL_law_980 dL_law_981 (by decide) (fun _ => ?_) (fun h => absurd (if_pos h1) h)
      refine lv_goto (tgt := 989) hx hb dL_law_986 (by decide) ?_
      refine W.widen (k := cells + 6) (n := slots + 36) (by omega) (by omega) ?_
      exact kk _ f' _ _ _ _ _ hI hP hD hS (lv_sub hl [2, 3, 4, 5, 6] rfl)
    · refine lv_lconst (v := 1) hx hb dL_law_975 (by decide) ?_
      refine lv_goto (tgt := 980) hx hb dL_law_976 (by decide) ?_
      refine nr_cmpeq (tgt := 986) hx hb dL_law_980 dL_law_981 (by decide) (fun _ => ?_) (fun h => absurd (if_neg h1) h)
      refine lv_goto (tgt := 989) hx hb dL_law_986 (by decide) ?_
      refine W.widen (k := cells + 6) (n := slots + 36) (by omega) (by omega) ?_
      exact kk _ f' _ _ _ _ _ hI hP hD hS (lv_sub hl [2, 3, 4, 5, 6] rfl)
