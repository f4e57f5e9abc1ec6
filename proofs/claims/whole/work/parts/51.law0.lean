/-! calls on the first part of a world; the law's invariant -/
theorem px_l {X Y : va_W} {i : Nat} {q : Nat × va_E} (h : X[i]? = some q) : (X ++ Y)[i]? = some q := by
  rw [List.getElem?_append_left (List.getElem?_eq_some_iff.mp h).1]; exact h
theorem px_C (X : va_W) : (List.range X.length).map (fun i => X[i]?) = X.map some := by
  apply List.ext_getElem?
  intro k
  by_cases h : k < X.length
  · rw [List.getElem?_map, List.getElem?_map, List.getElem?_range h]
    show some (X[k]?) = _
    rw [List.getElem?_eq_getElem h]
    rfl
  · rw [List.getElem?_eq_none (by simp; omega), List.getElem?_eq_none (by simp; omega)]
theorem px_P {D : va_G} {cl : List vw_C} {X Y : va_W} {H : Heap} (h : va_P D cl (X ++ Y) H) : va_P D cl X H := fun k q hk => h k q (px_l hk)
theorem px_D {A : Nat → Prop} {X Y : va_W} (h : va_D A (X ++ Y)) : va_D A X := ⟨fun i j x y hi hj e => h.1 i j x y (px_l hi) (px_l hj) e, fun k x hk => h.2 k x (px_l hk)⟩
theorem px_F {A : Nat → Prop} {X Y : va_W} {H0 H : Heap} {locs : List Loc} (hD : va_D A (X ++ Y)) (hS : va_S A H0 H locs) (hA : ∀ q, H0.size ≤ q → A q) : ∀ q, va_A X H.size q → A q := by
  intro q h
  rcases h with ⟨k, e, h⟩ | h
  · exact hD.2 k (q, e) (px_l h)
  · exact hA q (Nat.le_trans hS.1 h)
section PX
variable {p : Program} {l : Launch} {e : Env} {R : Room} {s : State} {m : MethodId} {args : Array Value} {below : List Frame} {meth : Method} {c : Code} {H : Heap} {locs : List Loc} {cells slots : Nat} {Q : State → Prop}
variable {cc : ByteArray} {pc : Nat} {ls : Array Slot} {rest st0 : List Value} {D : va_G} {cl : List vw_C} {A : Nat → Prop} {X Y : va_W} {mc ms : Nat}
variable {EN : State → Prop} {y : MethodName} {bytes : ByteArray} {maxL nL n index : Nat} {ret : Option FieldType} {hh : List (Nat × Nat × Nat × Nat)} {wy Ts : List Cond} {rm : Room} {own C : String} {b : Addr} {As : List Value}
theorem px_W {post : Int32 → va_W → Prop} (S : CallFix p m c cc nL s args Ts own) (hE : ct_E EN) (hEN : EN s) (hZ : xZ A s s.heap) (hM : tw_i l y wy rm EN D cl X As post mc ms) (cw : vx_CSW R s args own index y bytes maxL ret hh wy rm mc ms n)
    (hP : va_P D cl (X ++ Y) H) (hD : va_D A (X ++ Y)) (hS : va_S A s.heap H locs) (hA : ∀ q, s.heap.size ≤ q → A q)
    (hl : As.length = n) (hsz : ls.size = nL) (hst : st0 = As.reverse ++ rest) (hW : (rest.map fun v => v.category).sum ≤ 8) (hdg : decode cc pc = .ok (.invokestatic index, 3)) (hf : cells + mc ≤ R.cells ∧ slots + ms ≤ R.slots)
    (kk : ∀ (r : Int32) (w1 : va_W) (H : Heap) (locs : List Loc), post r w1 → va_P D cl (w1 ++ Y) H → va_D A (w1 ++ Y) → va_S A s.heap H locs → W p l e R s m args below meth c H locs (cells + mc) (slots + ms) Q (F0 m (pc + 3) ls (.int r :: rest))) : W p l e R s m args below meth c H locs cells slots Q (F0 m pc ls st0) := by
  have hFc := px_F hD hS hA
  have hpre : ∀ U : State, U.heap = H → s.WarmedH U.vm → tx_S EN D cl X As H.size As.toArray U :=
    fun U hU hW => ⟨rfl, by rw [hU], by rw [hU]; exact px_P hP, hE.1 s U hW hEN, (px_D hD).weaken (fun _ _ _ _ => trivial), by rw [hU]; exact hZ.to hW.alike hS.2.1 hFc⟩
  refine va_calli (vx_runSW S (hM H.size) cw ⟨tx_blind hE, hpre⟩ rfl hl hsz hst (lv_room hW) hdg hf) hS (fun q _ h => hFc q h) hFc (fun r u t H1 locs1 ht hvm hw hB hz1 hk1 hS1 => ?_)
  obtain ⟨hP1, hD1⟩ := hB
  rw [ht] at hP1
  obtain ⟨hP2, hD2⟩ := va_joinQ (wr := []) hP hD _ [] (px_C X) rfl rfl (by simp) hk1 hFc hP1 hD1
  exact kk r u H1 locs1 hw hP2 hD2 hS1
theorem px_V {post : Int32 → va_W → Prop} (S : CallFix p m c cc nL s args Ts own) (hE : ct_E EN) (hEN : EN s) (hM : ct_i l y wy rm EN D cl X (.ref b :: As) post mc ms) (cw : CallW R s args own C index y bytes maxL ret wy rm mc ms n) (hrec : ∃ cellB : Cell, H[b]? = some cellB ∧ cellB.vm.isStatics = false ∧ s.vm.findClass C = some cellB.cls)
    (hP : va_P D cl (X ++ Y) H) (hD : va_D A (X ++ Y)) (hS : va_S A s.heap H locs) (hA : ∀ q, s.heap.size ≤ q → A q)
    (hl : As.length = n) (hsz : ls.size = nL) (hst : st0 = As.reverse ++ .ref b :: rest) (hW : (rest.map fun v => v.category).sum ≤ 8) (hdg : decode cc pc = .ok (.invokevirtual index, 3)) (hf : cells + mc ≤ R.cells ∧ slots + ms ≤ R.slots)
    (kk : ∀ (r : Int32) (w1 : va_W) (H : Heap) (locs : List Loc), post r w1 → va_P D cl (w1 ++ Y) H → va_D A (w1 ++ Y) → va_S A s.heap H locs → W p l e R s m args below meth c H locs (cells + mc) (slots + ms) Q (F0 m (pc + 3) ls (.int r :: rest))) : W p l e R s m args below meth c H locs cells slots Q (F0 m pc ls st0) := by
  have hFc := px_F hD hS hA
  have hpre : ∀ U : State, U.heap = H → s.WarmedH U.vm → ct_S EN D cl X (.ref b :: As) H.size (Value.ref b :: As).toArray U :=
    fun U hU hW => ⟨rfl, by rw [hU], by rw [hU]; exact px_P hP, hE.1 s U hW hEN, (px_D hD).weaken (fun _ _ _ _ => trivial)⟩
  refine va_calli (va_runV S (hM H.size) cw ⟨ct_blind hE, hrec, hpre⟩ rfl hl hsz hst (lv_room hW) hdg hf) hS (fun q _ h => hFc q h) hFc (fun r u t H1 locs1 ht hvm hw hB hz1 hk1 hS1 => ?_)
  obtain ⟨hP1, hD1⟩ := hB
  rw [ht] at hP1
  obtain ⟨hP2, hD2⟩ := va_joinQ (wr := []) hP hD _ [] (px_C X) rfl rfl (by simp) hk1 hFc hP1 hD1
  exact kk r u H1 locs1 hw hP2 hD2 hS1
end PX
theorem px_swP {D : va_G} {cl : List vw_C} {X Y : va_W} {H : Heap} (h : va_P D cl (X ++ Y) H) : va_P D cl (Y ++ X) H := by
  intro k q hk
  have hm : q ∈ X ++ Y := by
    rcases List.mem_append.mp (List.mem_of_getElem? hk) with h1 | h1
    · exact List.mem_append_right _ h1
    · exact List.mem_append_left _ h1
  obtain ⟨i, hi⟩ := List.getElem?_of_mem hm
  exact h i q hi
theorem px_swD {A : Nat → Prop} {X Y : va_W} (h : va_D A (X ++ Y)) : va_D A (Y ++ X) := by
  have key : ∀ (k : Nat) (q : Nat × va_E), (Y ++ X)[k]? = some q → (k < Y.length ∧ (X ++ Y)[X.length + k]? = some q) ∨ (Y.length ≤ k ∧ (X ++ Y)[k - Y.length]? = some q ∧ k - Y.length < X.length) := by
    intro k q hk
    by_cases hl : k < Y.length
    · rw [List.getElem?_append_left hl] at hk
      refine Or.inl ⟨hl, ?_⟩
      rw [List.getElem?_append_right (by omega), Nat.add_sub_cancel_left]
      exact hk
    · rw [List.getElem?_append_right (by omega)] at hk
      have h2 := (List.getElem?_eq_some_iff.mp hk).1
      refine Or.inr ⟨by omega, ?_, h2⟩
      rw [List.getElem?_append_left h2]
      exact hk
  refine ⟨fun i j x y hi hj e => ?_, fun k q hk => ?_⟩
  · rcases key i x hi with ⟨a1, a2⟩ | ⟨a1, a2, a3⟩ <;> rcases key j y hj with ⟨b1, b2⟩ | ⟨b1, b2, b3⟩
    · have := h.1 _ _ x y a2 b2 e; omega
    · have := h.1 _ _ x y a2 b2 e; omega
    · have := h.1 _ _ x y a2 b2 e; omega
    · have := h.1 _ _ x y a2 b2 e; omega
  · rcases key k q hk with ⟨a1, a2⟩ | ⟨a1, a2, a3⟩
    · exact h.2 _ q a2
    · exact h.2 _ q a2
theorem up_all {g : Nat → Nat} {k v : Nat} {P : Nat → Prop} (hv : P v) (hg : ∀ j, P (g j)) : ∀ j, P (nr_up g k v j) := fun j => by
  by_cases e : j = k
  · rw [e, nr_up_s]; exact hv
  · rw [nr_up_n _ _ e]; exact hg j
theorem okL_0 {n : Nat} {ro : Nat → Nat} {sn : Nat} {ar rt oh : Nat → Nat} {cn : Nat} {cu wc wl : Nat → Nat} {wt : Nat → Nat → Nat} {lim ex : Nat} {pk fi : Nat → Nat} (h1 : ∀ j, pk j < 6) (h2 : ∀ j, fi j ≤ 18000000) : okL n ro sn ar rt oh cn cu wc wl wt lim 0 ex pk fi := ⟨by omega, h1, h2, fun h => absurd h (by omega)⟩
theorem en_a (en : Nat → Nat) (n u v : Nat) : nr_up (fun t => en (2 * t)) n u = fun t => nr_up (nr_up en (2 * n) u) (2 * n + 1) v (2 * t) := by
  funext t
  unfold nr_up
  by_cases e : t = n
  · subst e; rw [if_pos rfl, if_neg (by omega), if_pos rfl]
  · rw [if_neg e, if_neg (by omega), if_neg (by omega)]
theorem en_b (en : Nat → Nat) (n u v : Nat) : nr_up (fun t => en (2 * t + 1)) n v = fun t => nr_up (nr_up en (2 * n) u) (2 * n + 1) v (2 * t + 1) := by
  funext t
  unfold nr_up
  by_cases e : t = n
  · subst e; rw [if_pos rfl, if_pos rfl]
  · rw [if_neg e, if_neg (by omega), if_neg (by omega)]
theorem nI_inj {a b : Nat} (ha : a < 2 ^ 31) (hb : b < 2 ^ 31) (h : nI a = nI b) : a = b := (nI_eq ha hb).mp h
theorem okC_add {n : Nat} {a b le : Nat → Nat} {cn : Nat} {no ot wc wl : Nat → Nat} {wt : Nat → Nat → Nat} (h : okC n a b le cn no ot wc wl wt) {u v k L : Nat} {f : Nat → Nat} (hu : u < 10) (hv : v < 10) (huv : u ≠ v) (hW : cw_W n a b le u v k f L) : okC n a b le (cn + 1) (nr_up no cn u) (nr_up ot cn v) (nr_up wc cn k) (nr_up wl cn L) (pR_up wt cn f) := by
  refine ⟨up_all (P := (· < 10)) hu h.1, up_all (P := (· < 10)) hv h.2.1, fun c hc => ?_, fun c hc => ?_⟩
  · by_cases e : c = cn
    · rw [e, nr_up_s, nr_up_s]; exact huv
    · rw [nr_up_n _ _ e, nr_up_n _ _ e]; exact h.2.2.1 c (by omega)
  · by_cases e : c = cn
    · subst e
      rw [nr_up_s, nr_up_s, nr_up_s, nr_up_s, show pR_up wt c f c = f from if_pos rfl]; exact hW
    · rw [nr_up_n _ _ e, nr_up_n _ _ e, nr_up_n _ _ e, nr_up_n _ _ e, show pR_up wt cn f c = wt c from if_neg e]; exact h.2.2.2 c (by omega)
theorem cz_fill_congr {C : Nat} {ar wc ro p p' : Nat → Nat} {wt : Nat → Nat → Nat} (h : ∀ c, c < C → p c = p' c) : cz_fill C ar wc ro wt p = cz_fill C ar wc ro wt p' := by
  funext t
  unfold cz_fill
  rw [cz_load_congr h]
/-- class and reference stand at the same numbers -/
def lw_I (o0 g0 : Nat) (cI cG cB : ClassId) (th : Nat) (wx wm : va_W) : Prop := ∃ (q r g : Nat → Nat) (z0 z1 z2 y0 y1 y2 : Nat) (pj fj : Nat → Nat) (lim kn ex : Nat) (pk fi : Nat → Nat) (n : Nat) (en le ro di : Nat → Nat) (sn : Nat) (ar rt oh : Nat → Nat) (cn : Nat) (no ot cu wc wl : Nat → Nat) (wt : Nat → Nat → Nat) (fa wy lo ch bd : Nat → Nat),
  g 0 = g0 ∧ wx = (pO o0 z0 y0 q lim kn ex ++ pZ z0 z1 z2 q cI pk fi ++ pZ y0 y1 y2 q cI pj fj ++ pT q cI n (fun t => en (2 * t)) (fun t => en (2 * t + 1)) le ro di ++ pS q cI sn ar rt oh ++ pC q r cI cG cn no ot cu wc wl ++ pR r cI wt) ∧ wm = (pM g cI cB th n en le ro sn ar rt oh cn no ot cu lim fa wy lo ch bd) ∧ okT n (fun t => en (2 * t)) (fun t => en (2 * t + 1)) le ro ∧ (∀ j, en j < 10) ∧ okZ sn ar rt oh cn cu wc wl wt ∧ okC n (fun t => en (2 * t)) (fun t => en (2 * t + 1)) le cn no ot wc wl wt ∧ okL n ro sn ar rt oh cn cu wc wl wt lim kn ex pk fi ∧ lim ≤ 1000000 ∧ (∀ j, pj j < 6) ∧ (∀ j, fj j ≤ 18000000) ∧ ∀ j, ch j < 6
/-- a call of the class through the law's wrapper, then the reference's: the same answer or the same throw, and both stand at the same numbers again -/
def lw_pair (l : Launch) (D : va_G) (cI cG cL cB : ClassId) (o0 g0 oo : Nat) (yW : MethodName) (wyW : List Cond) (rmW : Room) (yM : MethodName) (wyM : List Cond) (rmM : Room) (mc ms : Nat) (As : List Value) (val : Int32 → Int64) : Prop :=
  ∀ (th : Nat) (wx wm : va_W) (f : Nat → Int64), lw_I o0 g0 cI cG cB th wx wm → ∃ post : Int32 → va_W → Prop, tw_i l yW wyW rmW (EW D (tyL cI cG cL cB)) D vwCl (lA oo cL f :: wx) (.ref o0 :: (As ++ [.ref oo])) post mc ms ∧
    ∀ (k : Int32) (W : va_W), post k W → ∃ (f' : Nat → Int64) (wx' : va_W), W = lA oo cL f' :: wx' ∧ ∃ post2 : Int32 → va_W → Prop, ct_i l yM wyM rmM (EN D (tyL cI cG cL cB)) D vwCl wm (.ref g0 :: As) post2 0 0 ∧
      ∀ (v : Int32) (wm' : va_W), post2 v wm' → ∃ th', th' ≤ 2 ∧ lw_I o0 g0 cI cG cB th' wx' wm' ∧ k = nI th' ∧ (th' = 0 → f' 0 = val v)
