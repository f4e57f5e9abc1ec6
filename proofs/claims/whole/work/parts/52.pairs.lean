/-! each call of the class beside the reference's -/
set_option maxHeartbeats 2000000 in
set_option maxRecDepth 100000 in
theorem pr_current (l : Launch) (hl9 : l.stackTraces = false) (D : va_G) (cI cG cL cB : ClassId) (o0 g0 oo : Nat) (x0 x1 : Int32) : lw_pair l D cI cG cL cB o0 g0 oo yL_current (.codeWith yL_current cL_current 5 (some .int) [(0, 10, 13, 13)] :: bw) ({ frames := 7 + 1, cells := 2, slots := 12, locals := 8 + (4 + 11) + 112 }) yX5_current (.code yX5_current cX5_current 4 (some .int) :: bw) ({ frames := 1, cells := 0, slots := 0, locals := 25 }) 2 12 [.int x0, .int x1] (fun v => v.toInt64) := by
  intro th wx wm f hI
  obtain ⟨q, r, g, z0, z1, z2, y0, y1, y2, pj, fj, lim, kn, ex, pk, fi, n, en, le, ro, di, sn, ar, rt, oh, cn, no, ot, cu, wc, wl, wt, fa, wy, lo, ch, bd, rfl, rfl, rfl, hT, hen, hz, hC, hL, hlim, hpj, hfj, hch⟩ := hI
  have hM := kX4_current l hl9 D cI cG cL cB o0 z0 z1 z2 y0 y1 y2 q r pj fj lim kn ex pk fi n _ _ le ro di sn ar rt oh cn no ot cu wc wl wt x0 x1 hT hz hC hL hlim
  have hW := kL_current (f := f) (oo := oo) hM rfl rfl rfl (fun E w h => h.1)
  refine ⟨_, hW, fun k W hp => ?_⟩
  rcases hp with ⟨rfl, v, w1, f', ⟨k1, a1, ⟨e1, e2, e3, e4, e5⟩, rfl, rfl⟩, hf, rfl⟩ | ⟨rfl, w1, ⟨-, hn, rfl⟩, rfl⟩
  · refine ⟨f', _, rfl, _, kX5_current l D cI cG cL cB g th n en le ro sn ar rt oh cn no ot cu lim fa wy lo ch bd x0 x1 hT.1 hz.1 hz.2.2.2.2.1, fun v' wm' hp2 => ?_⟩
    rcases hp2 with ⟨hn, -⟩ | ⟨k2, a2, ⟨d1, d2, d3, -, d5⟩, rfl, rfl⟩
    · exact absurd ⟨⟨k1, e1, e2⟩, a1, e3, e4, e5⟩ hn
    · have hcn := hz.2.2.2.2.1
      obtain rfl := nI_inj (by omega) (by omega) (e2.symm.trans d2)
      obtain rfl := nI_inj (by omega) (by omega) (e3.symm.trans d3)
      exact ⟨0, by omega, ⟨q, r, g, z0, z1, z2, y0, y1, y2, pj, fj, lim, 0, ex, pk, fi, n, en, le, ro, di, sn, ar, rt, oh, cn, no, ot, nr_up cu k1 a1, wc, wl, wt, fa, wy, lo, ch, bd, rfl, rfl, rfl, hT, hen, ⟨hz.1, hz.2.1, hz.2.2.1, hz.2.2.2.1, hz.2.2.2.2.1, up_all (P := (· ≤ 1000)) e5 hz.2.2.2.2.2.1, hz.2.2.2.2.2.2⟩, hC, okL_0 hL.2.1 hL.2.2.1, hlim, hpj, hfj, hch⟩, rfl, fun _ => hf⟩
  · refine ⟨f, _, rfl, _, kX5_current l D cI cG cL cB g th n en le ro sn ar rt oh cn no ot cu lim fa wy lo ch bd x0 x1 hT.1 hz.1 hz.2.2.2.2.1, fun v' wm' hp2 => ?_⟩
    rcases hp2 with ⟨-, rfl⟩ | ⟨k2, a2, ⟨d1, d2, d3, d4, d5⟩, -, -⟩
    · exact ⟨1, by omega, ⟨q, r, g, z0, z1, z2, y0, y1, y2, pj, fj, lim, kn, ex, pk, fi, n, en, le, ro, di, sn, ar, rt, oh, cn, no, ot, cu, wc, wl, wt, fa, wy, lo, ch, bd, rfl, rfl, rfl, hT, hen, hz, hC, hL, hlim, hpj, hfj, hch⟩, rfl, fun h => absurd h (by omega)⟩
    · exact absurd ⟨⟨k2, d1, d2⟩, a2, d3, d4, d5⟩ hn
set_option maxHeartbeats 2000000 in
set_option maxRecDepth 100000 in
theorem pr_room (l : Launch) (hl9 : l.stackTraces = false) (D : va_G) (cI cG cL cB : ClassId) (o0 g0 oo : Nat) (x0 x1 : Int32) : lw_pair l D cI cG cL cB o0 g0 oo yL_room (.codeWith yL_room cL_room 5 (some .int) [(0, 10, 13, 13)] :: bw) ({ frames := 7 + 1, cells := 2, slots := 12, locals := 8 + (4 + 11) + 112 }) yX5_room (.code yX5_room cX5_room 4 (some .int) :: bw) ({ frames := 1, cells := 0, slots := 0, locals := 25 }) 2 12 [.int x0, .int x1] (fun v => v.toInt64) := by
  intro th wx wm f hI
  obtain ⟨q, r, g, z0, z1, z2, y0, y1, y2, pj, fj, lim, kn, ex, pk, fi, n, en, le, ro, di, sn, ar, rt, oh, cn, no, ot, cu, wc, wl, wt, fa, wy, lo, ch, bd, rfl, rfl, rfl, hT, hen, hz, hC, hL, hlim, hpj, hfj, hch⟩ := hI
  have hM := kX4_room l hl9 D cI cG cL cB o0 z0 z1 z2 y0 y1 y2 q r pj fj lim kn ex pk fi n _ _ le ro di sn ar rt oh cn no ot cu wc wl wt x0 x1 hT hz hC hL hlim
  have hW := kL_room (f := f) (oo := oo) hM rfl rfl rfl (fun E w h => h.1)
  refine ⟨_, hW, fun k W hp => ?_⟩
  rcases hp with ⟨rfl, v, w1, f', ⟨k1, a1, ⟨e1, e2, e3, e4, e5⟩, rfl, rfl⟩, hf, rfl⟩ | ⟨rfl, w1, ⟨-, hn, rfl⟩, rfl⟩
  · refine ⟨f', _, rfl, _, kX5_room l D cI cG cL cB g th n en le ro sn ar rt oh cn no ot cu lim fa wy lo ch bd x0 x1 hT.1 hz.1 hz.2.2.2.2.1, fun v' wm' hp2 => ?_⟩
    rcases hp2 with ⟨hn, -⟩ | ⟨k2, a2, ⟨d1, d2, d3, -, d5⟩, rfl, rfl⟩
    · exact absurd ⟨⟨k1, e1, e2⟩, a1, e3, e4, e5⟩ hn
    · have hcn := hT.1
      obtain rfl := nI_inj (by omega) (by omega) (e2.symm.trans d2)
      obtain rfl := nI_inj (by omega) (by omega) (e3.symm.trans d3)
      exact ⟨0, by omega, ⟨q, r, g, z0, z1, z2, y0, y1, y2, pj, fj, lim, 0, ex, pk, fi, n, en, le, nr_up ro k1 a1, di, sn, ar, rt, oh, cn, no, ot, cu, wc, wl, wt, fa, wy, lo, ch, bd, rfl, rfl, rfl, ⟨hT.1, hT.2.1, hT.2.2.1, hT.2.2.2.1, hT.2.2.2.2.1, up_all (P := (· ≤ 1000)) e5 hT.2.2.2.2.2.1, fun j hj => (by by_cases e9 : j = k1; rw [e9, nr_up_s]; exact e4; rw [nr_up_n _ _ e9]; exact hT.2.2.2.2.2.2 j hj)⟩, hen, hz, hC, okL_0 hL.2.1 hL.2.2.1, hlim, hpj, hfj, hch⟩, rfl, fun _ => hf⟩
  · refine ⟨f, _, rfl, _, kX5_room l D cI cG cL cB g th n en le ro sn ar rt oh cn no ot cu lim fa wy lo ch bd x0 x1 hT.1 hz.1 hz.2.2.2.2.1, fun v' wm' hp2 => ?_⟩
    rcases hp2 with ⟨-, rfl⟩ | ⟨k2, a2, ⟨d1, d2, d3, d4, d5⟩, -, -⟩
    · exact ⟨1, by omega, ⟨q, r, g, z0, z1, z2, y0, y1, y2, pj, fj, lim, kn, ex, pk, fi, n, en, le, ro, di, sn, ar, rt, oh, cn, no, ot, cu, wc, wl, wt, fa, wy, lo, ch, bd, rfl, rfl, rfl, hT, hen, hz, hC, hL, hlim, hpj, hfj, hch⟩, rfl, fun h => absurd h (by omega)⟩
    · exact absurd ⟨⟨k2, d1, d2⟩, a2, d3, d4, d5⟩ hn
set_option maxHeartbeats 2000000 in
set_option maxRecDepth 100000 in
theorem pr_limit (l : Launch) (hl9 : l.stackTraces = false) (D : va_G) (cI cG cL cB : ClassId) (o0 g0 oo : Nat) (x0 : Int32) : lw_pair l D cI cG cL cB o0 g0 oo yL_limit (.codeWith yL_limit cL_limit 4 (some .int) [(0, 9, 12, 13)] :: bw) ({ frames := 7 + 1, cells := 1, slots := 6, locals := 8 + (3 + 11) + 112 }) yX5_limit (.code yX5_limit cX5_limit 3 (some .int) :: bw) ({ frames := 1, cells := 0, slots := 0, locals := 25 }) 1 6 [.int x0] (fun v => v.toInt64) := by
  intro th wx wm f hI
  obtain ⟨q, r, g, z0, z1, z2, y0, y1, y2, pj, fj, lim, kn, ex, pk, fi, n, en, le, ro, di, sn, ar, rt, oh, cn, no, ot, cu, wc, wl, wt, fa, wy, lo, ch, bd, rfl, rfl, rfl, hT, hen, hz, hC, hL, hlim, hpj, hfj, hch⟩ := hI
  have hM := kX4_limit l hl9 D cI cG cL cB o0 z0 z1 z2 y0 y1 y2 q r pj fj lim kn ex pk fi n _ _ le ro di sn ar rt oh cn no ot cu wc wl wt x0 hT hz hC hL hlim
  have hW := kL_limit (f := f) (oo := oo) hM rfl rfl rfl (fun E w h => h.1)
  refine ⟨_, hW, fun k W hp => ?_⟩
  rcases hp with ⟨rfl, v, w1, f', ⟨a1, ⟨e1, e2⟩, rfl, rfl⟩, hf, rfl⟩ | ⟨rfl, w1, ⟨-, hn, rfl⟩, rfl⟩
  · refine ⟨f', _, rfl, _, kX5_limit l D cI cG cL cB g th n en le ro sn ar rt oh cn no ot cu lim fa wy lo ch bd x0, fun v' wm' hp2 => ?_⟩
    rcases hp2 with ⟨hn, -⟩ | ⟨a2, ⟨d1, d2⟩, rfl, rfl⟩
    · exact absurd ⟨a1, e1, by omega, e2⟩ hn
    · obtain rfl := nI_inj (by omega) (by omega) (e1.symm.trans d1)
      exact ⟨0, by omega, ⟨q, r, g, z0, z1, z2, y0, y1, y2, pj, fj, a1, 0, ex, pk, fi, n, en, le, ro, di, sn, ar, rt, oh, cn, no, ot, cu, wc, wl, wt, fa, wy, lo, ch, bd, rfl, rfl, rfl, hT, hen, hz, hC, okL_0 hL.2.1 hL.2.2.1, e2, hpj, hfj, hch⟩, rfl, fun _ => hf⟩
  · refine ⟨f, _, rfl, _, kX5_limit l D cI cG cL cB g th n en le ro sn ar rt oh cn no ot cu lim fa wy lo ch bd x0, fun v' wm' hp2 => ?_⟩
    rcases hp2 with ⟨-, rfl⟩ | ⟨a2, ⟨d1, d2⟩, -, -⟩
    · exact ⟨1, by omega, ⟨q, r, g, z0, z1, z2, y0, y1, y2, pj, fj, lim, kn, ex, pk, fi, n, en, le, ro, di, sn, ar, rt, oh, cn, no, ot, cu, wc, wl, wt, fa, wy, lo, ch, bd, rfl, rfl, rfl, hT, hen, hz, hC, hL, hlim, hpj, hfj, hch⟩, rfl, fun h => absurd h (by omega)⟩
    · exact absurd ⟨a2, d1, by omega, d2⟩ hn
set_option maxHeartbeats 2000000 in
set_option maxRecDepth 100000 in
theorem pr_way (l : Launch) (hl9 : l.stackTraces = false) (D : va_G) (cI cG cL cB : ClassId) (o0 g0 oo : Nat) (x0 : Int32) : lw_pair l D cI cG cL cB o0 g0 oo yL_way (.codeWith yL_way cL_way 4 (some .int) [(0, 9, 12, 13)] :: bw) ({ frames := 7 + 1, cells := 1, slots := 6, locals := 8 + (2 + 11) + 111 }) yX5_way (.code yX5_way cX5_way 2 (some .int) :: bw) ({ frames := 2, cells := 0, slots := 0, locals := 49 }) 1 6 [.int x0] (fun v => v.toInt64) := by
  intro th wx wm f hI
  obtain ⟨q, r, g, z0, z1, z2, y0, y1, y2, pj, fj, lim, kn, ex, pk, fi, n, en, le, ro, di, sn, ar, rt, oh, cn, no, ot, cu, wc, wl, wt, fa, wy, lo, ch, bd, rfl, rfl, rfl, hT, hen, hz, hC, hL, hlim, hpj, hfj, hch⟩ := hI
  have hM := kX4_way l hl9 D cI cG cL cB o0 z0 z1 z2 y0 y1 y2 q r pj fj lim kn ex pk fi n _ _ le ro di sn ar rt oh cn no ot cu wc wl wt x0 hT hz hC hL hlim
  have hW := kL_way (f := f) (oo := oo) hM rfl rfl rfl (fun E w h => h.1)
  refine ⟨_, hW, fun k W hp => ?_⟩
  rcases hp with ⟨rfl, v, w1, f', ⟨k1, ⟨e1, e2⟩, rfl, rfl⟩, hf, rfl⟩ | ⟨rfl, w1, ⟨-, hn, rfl⟩, rfl⟩
  · refine ⟨f', _, rfl, _, kX5_way l D cI cG cL cB g th n en le ro sn ar rt oh cn no ot cu lim fa wy lo ch bd wc wl wt x0 hT.2.1 hen hT.2.2.2.2.1 hC.1 hC.2.1 hC.2.2.1 hC.2.2.2 hz (okY_of hT hC) hch hlim, fun v' wm' hp2 => ?_⟩
    rcases hp2 with ⟨hn, -⟩ | ⟨k2, ⟨d1, d2⟩, rfl, fa', wy', lo', rfl⟩
    · exact absurd ⟨k1, e1, e2⟩ hn
    · have hcn := hz.2.2.2.2.1
      obtain rfl := nI_inj (by omega) (by omega) (e2.symm.trans d2)
      exact ⟨0, by omega, ⟨q, r, g, z0, z1, z2, y0, y1, y2, pj, fj, lim, kn, ex, pk, fi, n, en, le, ro, di, sn, ar, rt, oh, cn, no, ot, cu, wc, wl, wt, fa', wy', lo', ch, bd, rfl, rfl, rfl, hT, hen, hz, hC, hL, hlim, hpj, hfj, hch⟩, rfl, fun _ => hf⟩
  · refine ⟨f, _, rfl, _, kX5_way l D cI cG cL cB g th n en le ro sn ar rt oh cn no ot cu lim fa wy lo ch bd wc wl wt x0 hT.2.1 hen hT.2.2.2.2.1 hC.1 hC.2.1 hC.2.2.1 hC.2.2.2 hz (okY_of hT hC) hch hlim, fun v' wm' hp2 => ?_⟩
    rcases hp2 with ⟨-, rfl⟩ | ⟨k2, ⟨d1, d2⟩, -, -⟩
    · exact ⟨1, by omega, ⟨q, r, g, z0, z1, z2, y0, y1, y2, pj, fj, lim, kn, ex, pk, fi, n, en, le, ro, di, sn, ar, rt, oh, cn, no, ot, cu, wc, wl, wt, fa, wy, lo, ch, bd, rfl, rfl, rfl, hT, hen, hz, hC, hL, hlim, hpj, hfj, hch⟩, rfl, fun h => absurd h (by omega)⟩
    · exact absurd ⟨k2, d1, d2⟩ hn
set_option maxHeartbeats 2000000 in
set_option maxRecDepth 100000 in
theorem pr_way2 (l : Launch) (hl9 : l.stackTraces = false) (D : va_G) (cI cG cL cB : ClassId) (o0 g0 oo : Nat) (x0 x1 : Int32) : lw_pair l D cI cG cL cB o0 g0 oo yL_way2 (.codeWith yL_way2 cL_way2 5 (some .int) [(0, 10, 13, 13)] :: bw) ({ frames := 7 + 1, cells := 2, slots := 12, locals := 8 + (3 + 11) + 111 }) yX5_way2 (.code yX5_way2 cX5_way2 4 (some .int) :: bw) ({ frames := 2, cells := 0, slots := 0, locals := 49 }) 2 12 [.int x0, .int x1] (fun v => v.toInt64) := by
  intro th wx wm f hI
  obtain ⟨q, r, g, z0, z1, z2, y0, y1, y2, pj, fj, lim, kn, ex, pk, fi, n, en, le, ro, di, sn, ar, rt, oh, cn, no, ot, cu, wc, wl, wt, fa, wy, lo, ch, bd, rfl, rfl, rfl, hT, hen, hz, hC, hL, hlim, hpj, hfj, hch⟩ := hI
  have hM := kX4_way2 l hl9 D cI cG cL cB o0 z0 z1 z2 y0 y1 y2 q r pj fj lim kn ex pk fi n _ _ le ro di sn ar rt oh cn no ot cu wc wl wt x0 x1 hT hz hC hL hlim
  have hW := kL_way2 (f := f) (oo := oo) hM rfl rfl rfl (fun E w h => h.1)
  refine ⟨_, hW, fun k W hp => ?_⟩
  rcases hp with ⟨rfl, v, w1, f', ⟨k1, j1, ⟨e1, e2, e3, e4⟩, rfl, rfl⟩, hf, rfl⟩ | ⟨rfl, w1, ⟨-, hn, rfl⟩, rfl⟩
  · refine ⟨f', _, rfl, _, kX5_way2 l D cI cG cL cB g th n en le ro sn ar rt oh cn no ot cu lim fa wy lo ch bd wc wl wt x0 x1 hT.2.1 hen hT.2.2.2.2.1 hC.1 hC.2.1 hC.2.2.1 hC.2.2.2 hz (okY_of hT hC) hch hlim, fun v' wm' hp2 => ?_⟩
    rcases hp2 with ⟨hn, -⟩ | ⟨k2, j2, ⟨d1, d2, d3, d4⟩, rfl, fa', wy', lo', rfl⟩
    · exact absurd ⟨⟨k1, e1, e2⟩, by rw [e3]; exact nI_pos e4⟩ hn
    · have hcn := hz.2.2.2.2.1
      obtain rfl := nI_inj (by omega) (by omega) (e2.symm.trans d2)
      obtain rfl := nI_inj e4 d4 (e3.symm.trans d3)
      exact ⟨0, by omega, ⟨q, r, g, z0, z1, z2, y0, y1, y2, pj, fj, lim, kn, ex, pk, fi, n, en, le, ro, di, sn, ar, rt, oh, cn, no, ot, cu, wc, wl, wt, fa', wy', lo', ch, bd, rfl, rfl, rfl, hT, hen, hz, hC, hL, hlim, hpj, hfj, hch⟩, rfl, fun _ => hf⟩
  · refine ⟨f, _, rfl, _, kX5_way2 l D cI cG cL cB g th n en le ro sn ar rt oh cn no ot cu lim fa wy lo ch bd wc wl wt x0 x1 hT.2.1 hen hT.2.2.2.2.1 hC.1 hC.2.1 hC.2.2.1 hC.2.2.2 hz (okY_of hT hC) hch hlim, fun v' wm' hp2 => ?_⟩
    rcases hp2 with ⟨-, rfl⟩ | ⟨k2, j2, ⟨d1, d2, d3, d4⟩, -, -⟩
    · exact ⟨1, by omega, ⟨q, r, g, z0, z1, z2, y0, y1, y2, pj, fj, lim, kn, ex, pk, fi, n, en, le, ro, di, sn, ar, rt, oh, cn, no, ot, cu, wc, wl, wt, fa, wy, lo, ch, bd, rfl, rfl, rfl, hT, hen, hz, hC, hL, hlim, hpj, hfj, hch⟩, rfl, fun h => absurd h (by omega)⟩
    · exact absurd ⟨⟨k2, d1, d2⟩, by rw [d3]; exact nI_pos d4⟩ hn
set_option maxHeartbeats 2000000 in
set_option maxRecDepth 100000 in
theorem pr_chosen (l : Launch) (hl9 : l.stackTraces = false) (D : va_G) (cI cG cL cB : ClassId) (o0 g0 oo : Nat) (x0 : Int32) : lw_pair l D cI cG cL cB o0 g0 oo yL_chosen (.codeWith yL_chosen cL_chosen 4 (some .int) [(0, 9, 12, 13)] :: bw) ({ frames := 7 + 1, cells := 1, slots := 6, locals := 8 + (2 + 11) + 131 }) yX5_chosen (.code yX5_chosen cX5_chosen 2 (some .int) :: bw) ({ frames := 6, cells := 0, slots := 0, locals := 135 }) 1 6 [.int x0] (fun v => v.toInt64) := by
  intro th wx wm f hI
  obtain ⟨q, r, g, z0, z1, z2, y0, y1, y2, pj, fj, lim, kn, ex, pk, fi, n, en, le, ro, di, sn, ar, rt, oh, cn, no, ot, cu, wc, wl, wt, fa, wy, lo, ch, bd, rfl, rfl, rfl, hT, hen, hz, hC, hL, hlim, hpj, hfj, hch⟩ := hI
  have hM := kX4_chosen l hl9 D cI cG cL cB o0 z0 z1 z2 y0 y1 y2 q r pj fj lim kn ex pk fi n _ _ le ro di sn ar rt oh cn no ot cu wc wl wt x0 hT hz hC hL hlim
  have hW := kL_chosen (f := f) (oo := oo) hM rfl rfl rfl (fun E w h => h.1)
  refine ⟨_, hW, fun k W hp => ?_⟩
  rcases hp with ⟨rfl, v, w1, f', ⟨k1, ⟨e1, e2⟩, ⟨bb, pp, ev, ha⟩, pk', fi', kn', ex', rfl, hL2⟩, hf, rfl⟩ | ⟨rfl, w1, ⟨-, hn, rfl⟩, rfl⟩
  · refine ⟨f', _, rfl, _, kX5_chosen l D cI cG cL cB g th n en le ro sn ar rt oh cn no ot cu lim fa wy lo ch bd wc wl wt x0 hT.2.1 hen hT.2.2.2.2.1 hC.1 hC.2.1 hC.2.2.1 hC.2.2.2 hz (okY_of hT hC) hch hlim, fun v' wm' hp2 => ?_⟩
    rcases hp2 with ⟨hn, -⟩ | ⟨k2, ⟨d1, d2⟩, ⟨bb2, pp2, ev2, ha2⟩, fa', wy', lo', ch', bd', rfl, hch2⟩
    · exact absurd ⟨k1, e1, e2⟩ hn
    · have hcn := hz.2.2.2.2.1
      obtain rfl := nI_inj (by omega) (by omega) (e2.symm.trans d2)
      obtain ⟨rfl, hu⟩ := cs_ans_uniq ha ha2
      have evv : v = v' := by
        rw [ev, ev2]
        cases bb with
        | false => rfl
        | true => rw [if_pos rfl, if_pos rfl, hu rfl k1 e1]
      exact ⟨0, by omega, ⟨q, r, g, z0, z1, z2, y0, y1, y2, pj, fj, lim, kn', ex', pk', fi', n, en, le, ro, di, sn, ar, rt, oh, cn, no, ot, cu, wc, wl, wt, fa', wy', lo', ch', bd', rfl, rfl, rfl, hT, hen, hz, hC, hL2, hlim, hpj, hfj, hch2⟩, rfl, fun _ => by rw [hf, evv]⟩
  · refine ⟨f, _, rfl, _, kX5_chosen l D cI cG cL cB g th n en le ro sn ar rt oh cn no ot cu lim fa wy lo ch bd wc wl wt x0 hT.2.1 hen hT.2.2.2.2.1 hC.1 hC.2.1 hC.2.2.1 hC.2.2.2 hz (okY_of hT hC) hch hlim, fun v' wm' hp2 => ?_⟩
    rcases hp2 with ⟨-, fa', wy', lo', ch', bd', rfl, hch2⟩ | ⟨k2, ⟨d1, d2⟩, -, -⟩
    · exact ⟨1, by omega, ⟨q, r, g, z0, z1, z2, y0, y1, y2, pj, fj, lim, kn, ex, pk, fi, n, en, le, ro, di, sn, ar, rt, oh, cn, no, ot, cu, wc, wl, wt, fa', wy', lo', ch', bd', rfl, rfl, rfl, hT, hen, hz, hC, hL, hlim, hpj, hfj, hch2⟩, rfl, fun h => absurd h (by omega)⟩
    · exact absurd ⟨k2, d1, d2⟩ hn
set_option maxHeartbeats 2000000 in
set_option maxRecDepth 100000 in
theorem pr_told (l : Launch) (hl9 : l.stackTraces = false) (D : va_G) (cI cG cL cB : ClassId) (o0 g0 oo : Nat) (x0 x1 : Int32) : lw_pair l D cI cG cL cB o0 g0 oo yL_told (.codeWith yL_told cL_told 5 (some .int) [(0, 10, 13, 13)] :: bw) ({ frames := 7 + 1, cells := 2, slots := 12, locals := 8 + (3 + 11) + 131 }) yX5_told (.code yX5_told cX5_told 6 (some .int) :: bw) ({ frames := 6, cells := 0, slots := 0, locals := 135 }) 2 12 [.int x0, .int x1] (fun v => v.toInt64) := by
  intro th wx wm f hI
  obtain ⟨q, r, g, z0, z1, z2, y0, y1, y2, pj, fj, lim, kn, ex, pk, fi, n, en, le, ro, di, sn, ar, rt, oh, cn, no, ot, cu, wc, wl, wt, fa, wy, lo, ch, bd, rfl, rfl, rfl, hT, hen, hz, hC, hL, hlim, hpj, hfj, hch⟩ := hI
  have hM := kX4_told l hl9 D cI cG cL cB o0 z0 z1 z2 y0 y1 y2 q r pj fj lim kn ex pk fi n _ _ le ro di sn ar rt oh cn no ot cu wc wl wt x0 x1 hT hz hC hL hlim
  have hW := kL_told (f := f) (oo := oo) hM rfl rfl rfl (fun E w h => h.1)
  refine ⟨_, hW, fun k W hp => ?_⟩
  rcases hp with ⟨rfl, v, w1, f', ⟨k1, j1, ⟨e1, e2, e3, e4⟩, ev, pk', fi', kn', ex', rfl, hL2⟩, hf, rfl⟩ | ⟨rfl, w1, ⟨-, hn, rfl⟩, rfl⟩
  · refine ⟨f', _, rfl, _, kX5_told l D cI cG cL cB g th n en le ro sn ar rt oh cn no ot cu lim fa wy lo ch bd wc wl wt x0 x1 hT.2.1 hen hT.2.2.2.2.1 hC.1 hC.2.1 hC.2.2.1 hC.2.2.2 hz (okY_of hT hC) hch hlim, fun v' wm' hp2 => ?_⟩
    rcases hp2 with ⟨hn, -⟩ | ⟨k2, j2, ⟨d1, d2, d3, d4⟩, ⟨bb2, pp2, ev2, ha2⟩, fa', wy', lo', ch', bd', rfl, hch2⟩
    · exact absurd ⟨⟨k1, e1, e2⟩, j1, e3, by omega, e4⟩ hn
    · have hcn := hT.1
      obtain rfl := nI_inj (by omega) (by omega) (e2.symm.trans d2)
      obtain rfl := nI_inj (by omega) (by omega) (e3.symm.trans d3)
      have evv : v = v' := by
        rcases ev with ⟨rfl, ev⟩ | ⟨-, bb, pp, ev, ha⟩
        · rw [ev, ev2, if_pos rfl]
        · obtain ⟨rfl, hu⟩ := cs_ans_uniq ha ha2
          rw [ev, ev2]
          cases bb with
          | false => rfl
          | true => rw [cz_fill_congr (hu rfl)]
      exact ⟨0, by omega, ⟨q, r, g, z0, z1, z2, y0, y1, y2, pj, fj, lim, kn', ex', pk', fi', n, en, le, ro, di, sn, ar, rt, oh, cn, no, ot, cu, wc, wl, wt, fa', wy', lo', ch', bd', rfl, rfl, rfl, hT, hen, hz, hC, hL2, hlim, hpj, hfj, hch2⟩, rfl, fun _ => by rw [hf, evv]⟩
  · refine ⟨f, _, rfl, _, kX5_told l D cI cG cL cB g th n en le ro sn ar rt oh cn no ot cu lim fa wy lo ch bd wc wl wt x0 x1 hT.2.1 hen hT.2.2.2.2.1 hC.1 hC.2.1 hC.2.2.1 hC.2.2.2 hz (okY_of hT hC) hch hlim, fun v' wm' hp2 => ?_⟩
    rcases hp2 with ⟨-, fa', wy', lo', ch', bd', rfl, hch2⟩ | ⟨k2, j2, ⟨d1, d2, d3, d4⟩, -, -⟩
    · exact ⟨1, by omega, ⟨q, r, g, z0, z1, z2, y0, y1, y2, pj, fj, lim, kn, ex, pk, fi, n, en, le, ro, di, sn, ar, rt, oh, cn, no, ot, cu, wc, wl, wt, fa', wy', lo', ch', bd', rfl, rfl, rfl, hT, hen, hz, hC, hL, hlim, hpj, hfj, hch2⟩, rfl, fun h => absurd h (by omega)⟩
    · exact absurd ⟨⟨k2, d1, d2⟩, j2, d3, by omega, d4⟩ hn
set_option maxHeartbeats 2000000 in
set_option maxRecDepth 100000 in
theorem pr_cableAt (l : Launch) (hl9 : l.stackTraces = false) (D : va_G) (cI cG cL cB : ClassId) (o0 g0 oo : Nat) (x0 x1 : Int32) : lw_pair l D cI cG cL cB o0 g0 oo yL_cableAt (.codeWith yL_cableAt cL_cableAt 5 (some .int) [(0, 10, 13, 13)] :: bw) ({ frames := 7 + 1, cells := 2, slots := 12, locals := 8 + (3 + 11) + 131 }) yX5_cableAt (.code yX5_cableAt cX5_cableAt 3 (some .int) :: bw) ({ frames := 6, cells := 0, slots := 0, locals := 135 }) 2 12 [.int x0, .int x1] (fun v => v.toInt64) := by
  intro th wx wm f hI
  obtain ⟨q, r, g, z0, z1, z2, y0, y1, y2, pj, fj, lim, kn, ex, pk, fi, n, en, le, ro, di, sn, ar, rt, oh, cn, no, ot, cu, wc, wl, wt, fa, wy, lo, ch, bd, rfl, rfl, rfl, hT, hen, hz, hC, hL, hlim, hpj, hfj, hch⟩ := hI
  have hM := kX4_cableAt l hl9 D cI cG cL cB o0 z0 z1 z2 y0 y1 y2 q r pj fj lim kn ex pk fi n _ _ le ro di sn ar rt oh cn no ot cu wc wl wt x0 x1 hT hz hC hL hlim
  have hW := kL_cableAt (f := f) (oo := oo) hM rfl rfl rfl (fun E w h => h.1)
  refine ⟨_, hW, fun k W hp => ?_⟩
  rcases hp with ⟨rfl, v, w1, f', ⟨k1, j1, ⟨e1, e2, e3, e4⟩, ⟨bb, pp, ev, ha⟩, pk', fi', kn', ex', rfl, hL2⟩, hf, rfl⟩ | ⟨rfl, w1, ⟨-, hn, rfl⟩, rfl⟩
  · refine ⟨f', _, rfl, _, kX5_cableAt l D cI cG cL cB g th n en le ro sn ar rt oh cn no ot cu lim fa wy lo ch bd wc wl wt x0 x1 hT.2.1 hen hT.2.2.2.2.1 hC.1 hC.2.1 hC.2.2.1 hC.2.2.2 hz (okY_of hT hC) hch hlim, fun v' wm' hp2 => ?_⟩
    rcases hp2 with ⟨hn, -⟩ | ⟨k2, j2, ⟨d1, d2, d3, d4⟩, ⟨bb2, pp2, ev2, ha2⟩, fa', wy', lo', ch', bd', rfl, hch2⟩
    · exact absurd ⟨⟨k1, e1, e2⟩, j1, e3, by omega, e4⟩ hn
    · have hcn := hz.2.2.2.2.1
      obtain rfl := nI_inj (by omega) (by omega) (e2.symm.trans d2)
      obtain rfl := nI_inj (by omega) (by omega) (e3.symm.trans d3)
      obtain ⟨rfl, hu⟩ := cs_ans_uniq ha ha2
      have evv : v = v' := by
        rw [ev, ev2]
        cases bb with
        | false => rfl
        | true => unfold cy_carry cz_drop; rw [cz_fill_congr (hu rfl), hu rfl k1 e1]
      exact ⟨0, by omega, ⟨q, r, g, z0, z1, z2, y0, y1, y2, pj, fj, lim, kn', ex', pk', fi', n, en, le, ro, di, sn, ar, rt, oh, cn, no, ot, cu, wc, wl, wt, fa', wy', lo', ch', bd', rfl, rfl, rfl, hT, hen, hz, hC, hL2, hlim, hpj, hfj, hch2⟩, rfl, fun _ => by rw [hf, evv]⟩
  · refine ⟨f, _, rfl, _, kX5_cableAt l D cI cG cL cB g th n en le ro sn ar rt oh cn no ot cu lim fa wy lo ch bd wc wl wt x0 x1 hT.2.1 hen hT.2.2.2.2.1 hC.1 hC.2.1 hC.2.2.1 hC.2.2.2 hz (okY_of hT hC) hch hlim, fun v' wm' hp2 => ?_⟩
    rcases hp2 with ⟨-, fa', wy', lo', ch', bd', rfl, hch2⟩ | ⟨k2, j2, ⟨d1, d2, d3, d4⟩, -, -⟩
    · exact ⟨1, by omega, ⟨q, r, g, z0, z1, z2, y0, y1, y2, pj, fj, lim, kn, ex, pk, fi, n, en, le, ro, di, sn, ar, rt, oh, cn, no, ot, cu, wc, wl, wt, fa', wy', lo', ch', bd', rfl, rfl, rfl, hT, hen, hz, hC, hL, hlim, hpj, hfj, hch2⟩, rfl, fun h => absurd h (by omega)⟩
    · exact absurd ⟨⟨k2, d1, d2⟩, j2, d3, by omega, d4⟩ hn
set_option maxHeartbeats 2000000 in
set_option maxRecDepth 100000 in
theorem pr_size (l : Launch) (hl9 : l.stackTraces = false) (D : va_G) (cI cG cL cB : ClassId) (o0 g0 oo : Nat) (x0 x1 x2 : Int32) : lw_pair l D cI cG cL cB o0 g0 oo yL_size (.codeWith yL_size cL_size 6 (some .int) [(0, 12, 15, 13), (0, 12, 19, 15)] :: bw) ({ frames := 7 + 1, cells := 4, slots := 24, locals := 8 + (4 + 11) + 112 }) yX5_size (.code yX5_size cX5_size 6 (some .int) :: bw) ({ frames := 1, cells := 0, slots := 0, locals := 25 }) 4 24 [.int x0, .int x1, .int x2] (fun v => v.toInt64) := by
  intro th wx wm f hI
  obtain ⟨q, r, g, z0, z1, z2, y0, y1, y2, pj, fj, lim, kn, ex, pk, fi, n, en, le, ro, di, sn, ar, rt, oh, cn, no, ot, cu, wc, wl, wt, fa, wy, lo, ch, bd, rfl, rfl, rfl, hT, hen, hz, hC, hL, hlim, hpj, hfj, hch⟩ := hI
  have hM := kX4_size l hl9 D cI cG cL cB o0 z0 z1 z2 y0 y1 y2 q r pj fj lim kn ex pk fi n _ _ le ro di sn ar rt oh cn no ot cu wc wl wt x0 x1 x2 hT hz hC hL hlim
  have hW := kL_size (f := f) (oo := oo) hM rfl rfl rfl (fun E w h => h.2.elim (fun h => Or.inl h.1) (fun h => Or.inr h.1))
  refine ⟨_, hW, fun k W hp => ?_⟩
  rcases hp with ⟨rfl, v, w1, f', ⟨x, y, z, he, h6, hfo, rfl, rfl⟩, hf, rfl⟩ | ⟨rfl, w1, ⟨rfl, hn⟩, rfl⟩ | ⟨rfl, w1, ⟨rfl, hn⟩, rfl⟩
  · refine ⟨f', _, rfl, _, kX5_size l D cI cG cL cB g th n en le ro sn ar rt oh cn no ot cu lim fa wy lo ch bd x0 x1 x2 hT.1 hz.1 hz.2.2.2.2.1 hz.2.1 hz.2.2.1 hz.2.2.2.1, fun v' wm' hp2 => ?_⟩
    obtain ⟨e1, e2, e3, e4, e5, e6, e7, e8⟩ := he
    rcases hp2 with ⟨hn, -⟩ | ⟨x', y', z', ⟨d1, d2, d3, d4, d5, d6, d7, d8⟩, ⟨hn, -⟩ | ⟨-, -, rfl, rfl⟩⟩
    · exact absurd ⟨⟨x, e1, e4, e5⟩, ⟨y, e2, e6, e7⟩, z, e3, by omega, e8⟩ hn
    · obtain rfl := nI_inj (by omega) (by omega) (e1.symm.trans d1)
      obtain rfl := nI_inj (by omega) (by omega) (e2.symm.trans d2)
      obtain rfl := nI_inj (by omega) (by omega) (e3.symm.trans d3)
      exact absurd ⟨h6, hfo⟩ hn
    · obtain rfl := nI_inj (by omega) (by omega) (e1.symm.trans d1)
      obtain rfl := nI_inj (by omega) (by omega) (e2.symm.trans d2)
      obtain rfl := nI_inj (by omega) (by omega) (e3.symm.trans d3)
      exact ⟨0, by omega, ⟨q, r, g, z0, z1, z2, y0, y1, y2, pj, fj, lim, 0, ex, pk, fi, n, en, le, ro, di, sn + 1, nr_up ar sn x, nr_up rt sn y, nr_up oh sn z, cn, no, ot, cu, wc, wl, wt, fa, wy, lo, ch, bd, rfl, rfl, rfl, hT, hen, ⟨by omega, up_all (P := (· ≤ 100)) e5 hz.2.1, up_all (P := (· ≤ 1000)) e7 hz.2.2.1, up_all (P := (· ≤ 1000)) e8 hz.2.2.2.1, hz.2.2.2.2⟩, hC, okL_0 hL.2.1 hL.2.2.1, hlim, hpj, hfj, hch⟩, rfl, fun _ => hf⟩
  · rcases hn with ⟨-, hn⟩ | ⟨hn, -⟩
    · refine ⟨f, _, rfl, _, kX5_size l D cI cG cL cB g th n en le ro sn ar rt oh cn no ot cu lim fa wy lo ch bd x0 x1 x2 hT.1 hz.1 hz.2.2.2.2.1 hz.2.1 hz.2.2.1 hz.2.2.2.1, fun v' wm' hp2 => ?_⟩
      rcases hp2 with ⟨-, rfl⟩ | ⟨x', y', z', ⟨d1, d2, d3, d4, d5, d6, d7, d8⟩, -⟩
      · exact ⟨1, by omega, ⟨q, r, g, z0, z1, z2, y0, y1, y2, pj, fj, lim, kn, ex, pk, fi, n, en, le, ro, di, sn, ar, rt, oh, cn, no, ot, cu, wc, wl, wt, fa, wy, lo, ch, bd, rfl, rfl, rfl, hT, hen, hz, hC, hL, hlim, hpj, hfj, hch⟩, rfl, fun h => absurd h (by omega)⟩
      · exact absurd ⟨⟨x', d1, d4, d5⟩, ⟨y', d2, d6, d7⟩, z', d3, by omega, d8⟩ hn
    · exact absurd hn (by decide +kernel)
  · rcases hn with ⟨hn, -⟩ | ⟨-, x, y, z, he, hn⟩
    · exact absurd hn (by decide +kernel)
    · refine ⟨f, _, rfl, _, kX5_size l D cI cG cL cB g th n en le ro sn ar rt oh cn no ot cu lim fa wy lo ch bd x0 x1 x2 hT.1 hz.1 hz.2.2.2.2.1 hz.2.1 hz.2.2.1 hz.2.2.2.1, fun v' wm' hp2 => ?_⟩
      obtain ⟨e1, e2, e3, e4, e5, e6, e7, e8⟩ := he
      rcases hp2 with ⟨hn2, -⟩ | ⟨x', y', z', ⟨d1, d2, d3, d4, d5, d6, d7, d8⟩, ⟨-, rfl⟩ | ⟨h6, hfo, -, -⟩⟩
      · exact absurd ⟨⟨x, e1, e4, e5⟩, ⟨y, e2, e6, e7⟩, z, e3, by omega, e8⟩ hn2
      · exact ⟨2, by omega, ⟨q, r, g, z0, z1, z2, y0, y1, y2, pj, fj, lim, kn, ex, pk, fi, n, en, le, ro, di, sn, ar, rt, oh, cn, no, ot, cu, wc, wl, wt, fa, wy, lo, ch, bd, rfl, rfl, rfl, hT, hen, hz, hC, hL, hlim, hpj, hfj, hch⟩, rfl, fun h => absurd h (by omega)⟩
      · obtain rfl := nI_inj (by omega) (by omega) (e1.symm.trans d1)
        obtain rfl := nI_inj (by omega) (by omega) (e2.symm.trans d2)
        obtain rfl := nI_inj (by omega) (by omega) (e3.symm.trans d3)
        exact absurd ⟨h6, hfo⟩ hn
set_option maxHeartbeats 2000000 in
set_option maxRecDepth 100000 in
theorem pr_cable (l : Launch) (hl9 : l.stackTraces = false) (D : va_G) (cI cG cL cB : ClassId) (o0 g0 oo : Nat) (x0 x1 x2 : Int32) : lw_pair l D cI cG cL cB o0 g0 oo yL_cable (.codeWith yL_cable cL_cable 6 (some .int) [(0, 12, 15, 13), (0, 12, 19, 15)] :: bw) ({ frames := 8 + 1, cells := 5, slots := 30, locals := 8 + (5 + 11) + 133 }) yX5_cable (.code yX5_cable cX5_cable 5 (some .int) :: bw) ({ frames := 1, cells := 0, slots := 0, locals := 25 }) 5 30 [.int x0, .int x1, .int x2] (fun v => v.toInt64) := by
  intro th wx wm f hI
  obtain ⟨q, r, g, z0, z1, z2, y0, y1, y2, pj, fj, lim, kn, ex, pk, fi, n, en, le, ro, di, sn, ar, rt, oh, cn, no, ot, cu, wc, wl, wt, fa, wy, lo, ch, bd, rfl, rfl, rfl, hT, hen, hz, hC, hL, hlim, hpj, hfj, hch⟩ := hI
  have hM := kX4_cable l hl9 D cI cG cL cB o0 z0 z1 z2 y0 y1 y2 q r pj fj lim kn ex pk fi n _ _ le ro di sn ar rt oh cn no ot cu wc wl wt x0 x1 x2 hT hz hC hL hlim
  have hW := kL_cable (f := f) (oo := oo) hM rfl rfl rfl (fun E w h => h.2.elim (fun h => Or.inl h.1) (fun h => Or.inr h.1))
  refine ⟨_, hW, fun k W hp => ?_⟩
  rcases hp with ⟨rfl, v, w1, f', ⟨u, v0, I, he, h20, rfl, d, k1, f1, L1, rfl, hw1, hf1⟩, hf, rfl⟩ | ⟨rfl, w1, ⟨rfl, hn⟩, rfl⟩ | ⟨rfl, w1, ⟨rfl, hn⟩, rfl⟩
  · refine ⟨f', _, rfl, _, kX5_cable l D cI cG cL cB g th n en le ro sn ar rt oh cn no ot cu lim fa wy lo ch bd x0 x1 x2 hT.1 hz.1 hz.2.2.2.2.1, fun v' wm' hp2 => ?_⟩
    obtain ⟨e1, e2, e3, e4, e5, e6, e7, e8⟩ := he
    rcases hp2 with ⟨hn, -⟩ | ⟨-, hn, -⟩ | ⟨u', v', I', ⟨d1, d2, d3, d4, d5, d6, d7, d8⟩, -, rfl, rfl⟩
    · exact absurd ⟨⟨u, e1, by omega, by omega⟩, ⟨v0, e2, by omega, by omega⟩, by rw [e1, e2]; exact fun h => e6 (nI_inj (by omega) (by omega) h), I, e3, e7, e8⟩ hn
    · omega
    · obtain rfl := nI_inj (by omega) (by omega) (e1.symm.trans d1)
      obtain rfl := nI_inj (by omega) (by omega) (e2.symm.trans d2)
      obtain rfl := nI_inj (by omega) (by omega) (e3.symm.trans d3)
      have hwf := cw_W_facts hT.2.1 hT.2.2.2.2.1 hw1
      exact ⟨0, by omega, ⟨q, r, g, z0, z1, z2, y0, y1, y2, pj, fj, lim, 0, ex, pk, fi, n, en, le, ro, d, sn, ar, rt, oh, cn + 1, nr_up no cn u, nr_up ot cn v0, nr_up cu cn I, nr_up wc cn k1, nr_up wl cn L1, pR_up wt cn f1, fa, wy, lo, ch, bd, rfl, rfl, rfl, hT, hen, ⟨hz.1, hz.2.1, hz.2.2.1, hz.2.2.2.1, by omega, up_all (P := (· ≤ 1000)) e8 hz.2.2.2.2.2.1, up_all (P := (· ≤ 9)) hwf.1 hz.2.2.2.2.2.2.1, up_all (P := (· ≤ 900)) hwf.2.1 hz.2.2.2.2.2.2.2.1, fun i j => (by by_cases e9 : i = cn; rw [e9, show pR_up wt cn f1 cn = f1 from if_pos rfl]; exact hf1 j; rw [show pR_up wt cn f1 i = wt i from if_neg e9]; exact hz.2.2.2.2.2.2.2.2 i j)⟩, okC_add hC e4 e5 e6 hw1, okL_0 hL.2.1 hL.2.2.1, hlim, hpj, hfj, hch⟩, rfl, fun _ => hf⟩
  · rcases hn with ⟨-, hn⟩ | ⟨hn, -⟩
    · refine ⟨f, _, rfl, _, kX5_cable l D cI cG cL cB g th n en le ro sn ar rt oh cn no ot cu lim fa wy lo ch bd x0 x1 x2 hT.1 hz.1 hz.2.2.2.2.1, fun v' wm' hp2 => ?_⟩
      rcases hp2 with ⟨-, rfl⟩ | ⟨hn2, -, -⟩ | ⟨u', v', I', ⟨d1, d2, d3, d4, d5, d6, d7, d8⟩, -⟩
      · exact ⟨1, by omega, ⟨q, r, g, z0, z1, z2, y0, y1, y2, pj, fj, lim, kn, ex, pk, fi, n, en, le, ro, di, sn, ar, rt, oh, cn, no, ot, cu, wc, wl, wt, fa, wy, lo, ch, bd, rfl, rfl, rfl, hT, hen, hz, hC, hL, hlim, hpj, hfj, hch⟩, rfl, fun h => absurd h (by omega)⟩
      · exact absurd hn2 hn
      · exact absurd ⟨⟨u', d1, by omega, by omega⟩, ⟨v', d2, by omega, by omega⟩, by rw [d1, d2]; exact fun h => d6 (nI_inj (by omega) (by omega) h), I', d3, d7, d8⟩ hn
    · exact absurd hn (by decide +kernel)
  · rcases hn with ⟨hn, -⟩ | ⟨-, hn, h20⟩
    · exact absurd hn (by decide +kernel)
    · refine ⟨f, _, rfl, _, kX5_cable l D cI cG cL cB g th n en le ro sn ar rt oh cn no ot cu lim fa wy lo ch bd x0 x1 x2 hT.1 hz.1 hz.2.2.2.2.1, fun v' wm' hp2 => ?_⟩
      rcases hp2 with ⟨hn2, -⟩ | ⟨-, -, rfl⟩ | ⟨u', v', I', -, hn2, -⟩
      · exact absurd hn hn2
      · exact ⟨2, by omega, ⟨q, r, g, z0, z1, z2, y0, y1, y2, pj, fj, lim, kn, ex, pk, fi, n, en, le, ro, di, sn, ar, rt, oh, cn, no, ot, cu, wc, wl, wt, fa, wy, lo, ch, bd, rfl, rfl, rfl, hT, hen, hz, hC, hL, hlim, hpj, hfj, hch⟩, rfl, fun h => absurd h (by omega)⟩
      · omega
set_option maxHeartbeats 2000000 in
set_option maxRecDepth 100000 in
theorem pr_tray (l : Launch) (hl9 : l.stackTraces = false) (D : va_G) (cI cG cL cB : ClassId) (o0 g0 oo : Nat) (x0 x1 x2 x3 : Int32) : lw_pair l D cI cG cL cB o0 g0 oo yL_tray (.codeWith yL_tray cL_tray 7 (some .int) [(0, 14, 17, 13), (0, 14, 21, 15)] :: bw) ({ frames := 8 + 1, cells := 6, slots := 36, locals := 8 + (7 + 11) + 133 }) yX5_tray (.code yX5_tray cX5_tray 6 (some .int) :: bw) ({ frames := 1, cells := 0, slots := 0, locals := 25 }) 6 36 [.int x0, .int x1, .int x2, .int x3] (fun v => v.toInt64) := by
  intro th wx wm f hI
  obtain ⟨q, r, g, z0, z1, z2, y0, y1, y2, pj, fj, lim, kn, ex, pk, fi, n, en, le, ro, di, sn, ar, rt, oh, cn, no, ot, cu, wc, wl, wt, fa, wy, lo, ch, bd, rfl, rfl, rfl, hT, hen, hz, hC, hL, hlim, hpj, hfj, hch⟩ := hI
  have hM := kX4_tray l hl9 D cI cG cL cB o0 z0 z1 z2 y0 y1 y2 q r pj fj lim kn ex pk fi n _ _ le ro di sn ar rt oh cn no ot cu wc wl wt x0 x1 x2 x3 hT hz hC hL hlim
  have hW := kL_tray (f := f) (oo := oo) hM rfl rfl rfl (fun E w h => h.2.elim (fun h => Or.inl h.1) (fun h => Or.inr h.1))
  refine ⟨_, hW, fun k W hp => ?_⟩
  rcases hp with ⟨rfl, v, w1, f', ⟨u, v0, L1, R1, he, h15, rfl, d, wc', wl', wt', rfl, hc1, hc2, hc3, hc4⟩, hf, rfl⟩ | ⟨rfl, w1, ⟨rfl, hn⟩, rfl⟩ | ⟨rfl, w1, ⟨rfl, hn⟩, rfl⟩
  · refine ⟨f', _, rfl, _, kX5_tray l D cI cG cL cB g th n en le ro sn ar rt oh cn no ot cu lim fa wy lo ch bd x0 x1 x2 x3 hT.1 hz.1 hz.2.2.2.2.1, fun v' wm' hp2 => ?_⟩
    obtain ⟨e1, e2, e3, e4, e5, e6, e7, e8, e9, e10, e11⟩ := he
    rcases hp2 with ⟨hn, -⟩ | ⟨-, hn, -⟩ | ⟨u', v', L', R', ⟨d1, d2, d3, d4, d5, d6, d7, d8, d9, d10, d11⟩, -, rfl, rfl⟩
    · exact absurd ⟨⟨u, e1, by omega, by omega⟩, ⟨v0, e2, by omega, by omega⟩, by rw [e1, e2]; exact fun h => e7 (nI_inj (by omega) (by omega) h), ⟨L1, e3, e8, e9⟩, R1, e4, e10, e11⟩ hn
    · omega
    · obtain rfl := nI_inj (by omega) (by omega) (e1.symm.trans d1)
      obtain rfl := nI_inj (by omega) (by omega) (e2.symm.trans d2)
      obtain rfl := nI_inj (by omega) (by omega) (e3.symm.trans d3)
      obtain rfl := nI_inj (by omega) (by omega) (e4.symm.trans d4)
      have hT2 := okT_add hT h15 e5 e6 e7 e8 e9 e10 e11
      rw [en_a en n u v0, en_b en n u v0] at hT2 hc4 ⊢
      exact ⟨0, by omega, ⟨q, r, g, z0, z1, z2, y0, y1, y2, pj, fj, lim, 0, ex, pk, fi, n + 1, nr_up (nr_up en (2 * n) u) (2 * n + 1) v0, nr_up le n L1, nr_up ro n R1, d, sn, ar, rt, oh, cn, no, ot, cu, wc', wl', wt', fa, wy, lo, ch, bd, rfl, rfl, rfl, hT2, up_all (P := (· < 10)) e6 (up_all (P := (· < 10)) e5 hen), ⟨hz.1, hz.2.1, hz.2.2.1, hz.2.2.2.1, hz.2.2.2.2.1, hz.2.2.2.2.2.1, hc1, hc2, hc3⟩, ⟨hC.1, hC.2.1, hC.2.2.1, hc4⟩, okL_0 hL.2.1 hL.2.2.1, hlim, hpj, hfj, hch⟩, rfl, fun _ => hf⟩
  · rcases hn with ⟨-, hn⟩ | ⟨hn, -⟩
    · refine ⟨f, _, rfl, _, kX5_tray l D cI cG cL cB g th n en le ro sn ar rt oh cn no ot cu lim fa wy lo ch bd x0 x1 x2 x3 hT.1 hz.1 hz.2.2.2.2.1, fun v' wm' hp2 => ?_⟩
      rcases hp2 with ⟨-, rfl⟩ | ⟨hn2, -, -⟩ | ⟨u', v', L', R', ⟨d1, d2, d3, d4, d5, d6, d7, d8, d9, d10, d11⟩, -⟩
      · exact ⟨1, by omega, ⟨q, r, g, z0, z1, z2, y0, y1, y2, pj, fj, lim, kn, ex, pk, fi, n, en, le, ro, di, sn, ar, rt, oh, cn, no, ot, cu, wc, wl, wt, fa, wy, lo, ch, bd, rfl, rfl, rfl, hT, hen, hz, hC, hL, hlim, hpj, hfj, hch⟩, rfl, fun h => absurd h (by omega)⟩
      · exact absurd hn2 hn
      · exact absurd ⟨⟨u', d1, by omega, by omega⟩, ⟨v', d2, by omega, by omega⟩, by rw [d1, d2]; exact fun h => d7 (nI_inj (by omega) (by omega) h), ⟨L', d3, d8, d9⟩, R', d4, d10, d11⟩ hn
    · exact absurd hn (by decide +kernel)
  · rcases hn with ⟨hn, -⟩ | ⟨-, hn, h15⟩
    · exact absurd hn (by decide +kernel)
    · refine ⟨f, _, rfl, _, kX5_tray l D cI cG cL cB g th n en le ro sn ar rt oh cn no ot cu lim fa wy lo ch bd x0 x1 x2 x3 hT.1 hz.1 hz.2.2.2.2.1, fun v' wm' hp2 => ?_⟩
      rcases hp2 with ⟨hn2, -⟩ | ⟨-, -, rfl⟩ | ⟨u', v', L', R', -, hn2, -⟩
      · exact absurd hn hn2
      · exact ⟨2, by omega, ⟨q, r, g, z0, z1, z2, y0, y1, y2, pj, fj, lim, kn, ex, pk, fi, n, en, le, ro, di, sn, ar, rt, oh, cn, no, ot, cu, wc, wl, wt, fa, wy, lo, ch, bd, rfl, rfl, rfl, hT, hen, hz, hC, hL, hlim, hpj, hfj, hch⟩, rfl, fun h => absurd h (by omega)⟩
      · omega
set_option maxHeartbeats 2000000 in
set_option maxRecDepth 100000 in
theorem pr_right (l : Launch) (hl9 : l.stackTraces = false) (D : va_G) (cI cG cL cB : ClassId) (o0 g0 oo : Nat) (x0 : Int64) : lw_pair l D cI cG cL cB o0 g0 oo yL_right (.codeWith yL_right cL_right 5 (some .int) [(0, 16, 19, 13)] :: bw) ({ frames := 7 + 1, cells := 2, slots := 12, locals := 8 + (7 + 11) + 111 }) yX5_right (.code yX5_right cX5_right 8 (some .boolean) :: bw) ({ frames := 5, cells := 0, slots := 0, locals := 113 }) 2 12 [.long x0] (fun v => if v = 0 then 0 else 1) := by
  intro th wx wm f hI
  obtain ⟨q, r, g, z0, z1, z2, y0, y1, y2, pj, fj, lim, kn, ex, pk, fi, n, en, le, ro, di, sn, ar, rt, oh, cn, no, ot, cu, wc, wl, wt, fa, wy, lo, ch, bd, rfl, rfl, rfl, hT, hen, hz, hC, hL, hlim, hpj, hfj, hch⟩ := hI
  have hM := kX4_right l hl9 D cI cG cL cB o0 z0 z1 z2 y0 y1 y2 q r pj fj lim kn ex pk fi n _ _ le ro di sn ar rt oh cn no ot cu wc wl wt x0 hT hz hC hL hlim hpj hfj
  have hW := kL_right (f := f) (oo := oo) hM rfl rfl rfl (fun E w h => h.1)
  refine ⟨_, hW, fun k W hp => ?_⟩
  rcases hp with ⟨rfl, v, w1, f', ⟨d, hd, ⟨bb, rfl, hbb⟩, pj', fj', rfl, hpj2, hfj2⟩, hf, rfl⟩ | ⟨rfl, w1, ⟨-, hn, pj', rfl, hpj2⟩, rfl⟩
  · refine ⟨f', _, rfl, _, kX5_right l D cI cG cL cB g th n en le ro sn ar rt oh cn no ot cu lim fa wy lo ch bd wc wl wt x0 hT.2.1 hen hT.2.2.2.2.1 hC.1 hC.2.1 hC.2.2.1 hC.2.2.2 hz (okY_of hT hC) hch hlim, fun v' wm' hp2 => ?_⟩
    rcases hp2 with ⟨hn, -⟩ | ⟨d2, hd2, ⟨bb2, rfl, hbb2⟩, fa', wy', lo', ch', bd', rfl, hch2⟩
    · exact absurd ⟨d, hd⟩ hn
    · obtain rfl := lN_inj hd.1 hd2.1 (hd.2.1.symm.trans hd2.2.1)
      have evv : bb = bb2 := Bool.eq_iff_iff.mpr (hbb.trans hbb2.symm)
      exact ⟨0, by omega, ⟨q, r, g, z0, z1, z2, y0, y1, y2, pj', fj', lim, kn, ex, pk, fi, n, en, le, ro, di, sn, ar, rt, oh, cn, no, ot, cu, wc, wl, wt, fa', wy', lo', ch', bd', rfl, rfl, rfl, hT, hen, hz, hC, hL, hlim, hpj2, hfj2, hch2⟩, rfl, fun _ => by rw [hf, evv]⟩
  · refine ⟨f, _, rfl, _, kX5_right l D cI cG cL cB g th n en le ro sn ar rt oh cn no ot cu lim fa wy lo ch bd wc wl wt x0 hT.2.1 hen hT.2.2.2.2.1 hC.1 hC.2.1 hC.2.2.1 hC.2.2.2 hz (okY_of hT hC) hch hlim, fun v' wm' hp2 => ?_⟩
    rcases hp2 with ⟨-, fa', wy', lo', ch', bd', rfl, hch2⟩ | ⟨d2, hd2, -, -⟩
    · exact ⟨1, by omega, ⟨q, r, g, z0, z1, z2, y0, y1, y2, pj', fj, lim, kn, ex, pk, fi, n, en, le, ro, di, sn, ar, rt, oh, cn, no, ot, cu, wc, wl, wt, fa', wy', lo', ch', bd', rfl, rfl, rfl, hT, hen, hz, hC, hL, hlim, hpj2, hfj, hch2⟩, rfl, fun h => absurd h (by omega)⟩
    · exact absurd ⟨d2, hd2⟩ hn
theorem pr_thrown (l : Launch) (D : va_G) (cI cG cL cB : ClassId) {o0 g0 th : Nat} {wx wm : va_W} (hI : lw_I o0 g0 cI cG cB th wx wm) : ct_i l yX5_thrown (.code yX5_thrown cX5_thrown 1 (some .int) :: bw) ({ frames := 0, cells := 0, slots := 0, locals := 0 }) (EN D (tyL cI cG cL cB)) D vwCl wm [.ref g0] (fun v W => W = wm ∧ v = nI th) 0 0 := by
  obtain ⟨q, r, g, z0, z1, z2, y0, y1, y2, pj, fj, lim, kn, ex, pk, fi, n, en, le, ro, di, sn, ar, rt, oh, cn, no, ot, cu, wc, wl, wt, fa, wy, lo, ch, bd, rfl, rfl, rfl, hT, hen, hz, hC, hL, hlim, hpj, hfj, hch⟩ := hI
  exact kX5_thrown l D cI cG cL cB g th n en le ro sn ar rt oh cn no ot cu lim fa wy lo ch bd
set_option maxHeartbeats 2000000 in
theorem pr_settled (l : Launch) (D : va_G) (cI cG cL cB : ClassId) {o0 g0 th : Nat} {wx wm : va_W} (hI : lw_I o0 g0 cI cG cB th wx wm) : ∃ post : Int32 → va_W → Prop, ct_i l yX4_settled (.code yX4_settled cX4_settled 1 (some .boolean) :: bw) ({ frames := 6, cells := 0, slots := 0, locals := 131 }) (EN D (tyL cI cG cL cB)) D vwCl wx [.ref o0] post 0 0 ∧
    ∀ (v : Int32) (wx' : va_W), post v wx' → ∃ post2 : Int32 → va_W → Prop, ct_i l yX5_settled (.code yX5_settled cX5_settled 1 (some .boolean) :: bw) ({ frames := 6, cells := 0, slots := 0, locals := 135 }) (EN D (tyL cI cG cL cB)) D vwCl wm [.ref g0] post2 0 0 ∧ ∀ (v' : Int32) (wm' : va_W), post2 v' wm' → v = v' ∧ ∃ th', lw_I o0 g0 cI cG cB th' wx' wm' := by
  obtain ⟨q, r, g, z0, z1, z2, y0, y1, y2, pj, fj, lim, kn, ex, pk, fi, n, en, le, ro, di, sn, ar, rt, oh, cn, no, ot, cu, wc, wl, wt, fa, wy, lo, ch, bd, rfl, rfl, rfl, hT, hen, hz, hC, hL, hlim, hpj, hfj, hch⟩ := hI
  refine ⟨_, kX4_settled l D cI cG cL cB o0 z0 z1 z2 y0 y1 y2 q r pj fj lim kn ex pk fi n _ _ le ro di sn ar rt oh cn no ot cu wc wl wt hT hz hC hL hlim, fun v W hp => ?_⟩
  obtain ⟨bb, pp, rfl, ha, pk', fi', kn', ex', rfl, hL2⟩ := hp
  refine ⟨_, kX5_settled l D cI cG cL cB g th n en le ro sn ar rt oh cn no ot cu lim fa wy lo ch bd wc wl wt hT.2.1 hen hT.2.2.2.2.1 hC.1 hC.2.1 hC.2.2.1 hC.2.2.2 hz (okY_of hT hC) hch hlim, fun v' wm' hp2 => ?_⟩
  obtain ⟨bb2, pp2, rfl, ha2, fa', wy', lo', ch', bd', rfl, hch2⟩ := hp2
  obtain ⟨rfl, hu⟩ := cs_ans_uniq ha ha2
  exact ⟨rfl, 0, ⟨q, r, g, z0, z1, z2, y0, y1, y2, pj, fj, lim, kn', ex', pk', fi', n, en, le, ro, di, sn, ar, rt, oh, cn, no, ot, cu, wc, wl, wt, fa', wy', lo', ch', bd', rfl, rfl, rfl, hT, hen, hz, hC, hL2, hlim, hpj, hfj, hch2⟩⟩
set_option maxHeartbeats 2000000 in
theorem pr_copper (l : Launch) (D : va_G) (cI cG cL cB : ClassId) {o0 g0 th : Nat} {wx wm : va_W} (hI : lw_I o0 g0 cI cG cB th wx wm) : ∃ post : Int32 → va_W → Prop, ct_i l yX4_copper (.code yX4_copper cX4_copper 1 (some .int) :: bw) ({ frames := 6, cells := 0, slots := 0, locals := 131 }) (EN D (tyL cI cG cL cB)) D vwCl wx [.ref o0] post 0 0 ∧
    ∀ (v : Int32) (wx' : va_W), post v wx' → ∃ post2 : Int32 → va_W → Prop, ct_i l yX5_copper (.code yX5_copper cX5_copper 3 (some .int) :: bw) ({ frames := 6, cells := 0, slots := 0, locals := 135 }) (EN D (tyL cI cG cL cB)) D vwCl wm [.ref g0] post2 0 0 ∧ ∀ (v' : Int32) (wm' : va_W), post2 v' wm' → v = v' ∧ ∃ th', lw_I o0 g0 cI cG cB th' wx' wm' := by
  obtain ⟨q, r, g, z0, z1, z2, y0, y1, y2, pj, fj, lim, kn, ex, pk, fi, n, en, le, ro, di, sn, ar, rt, oh, cn, no, ot, cu, wc, wl, wt, fa, wy, lo, ch, bd, rfl, rfl, rfl, hT, hen, hz, hC, hL, hlim, hpj, hfj, hch⟩ := hI
  refine ⟨_, kX4_copper l D cI cG cL cB o0 z0 z1 z2 y0 y1 y2 q r pj fj lim kn ex pk fi n _ _ le ro di sn ar rt oh cn no ot cu wc wl wt hT hz hC hL hlim, fun v W hp => ?_⟩
  obtain ⟨⟨bb, pp, ev, ha⟩, pk', fi', kn', ex', rfl, hL2⟩ := hp
  refine ⟨_, kX5_copper l D cI cG cL cB g th n en le ro sn ar rt oh cn no ot cu lim fa wy lo ch bd wc wl wt hT.2.1 hen hT.2.2.2.2.1 hC.1 hC.2.1 hC.2.2.1 hC.2.2.2 hz (okY_of hT hC) hch hlim, fun v' wm' hp2 => ?_⟩
  obtain ⟨⟨bb2, pp2, ev2, ha2⟩, fa', wy', lo', ch', bd', rfl, hch2⟩ := hp2
  obtain ⟨rfl, hu⟩ := cs_ans_uniq ha ha2
  refine ⟨?_, 0, ⟨q, r, g, z0, z1, z2, y0, y1, y2, pj, fj, lim, kn', ex', pk', fi', n, en, le, ro, di, sn, ar, rt, oh, cn, no, ot, cu, wc, wl, wt, fa', wy', lo', ch', bd', rfl, rfl, rfl, hT, hen, hz, hC, hL2, hlim, hpj, hfj, hch2⟩⟩
  rw [ev, ev2]
  cases bb with
  | false => rfl
  | true => rw [if_pos rfl, if_pos rfl, cz_sum_eq (fun c hc => by rw [hu rfl c hc])]
