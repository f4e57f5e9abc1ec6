/-! contracts whose worlds are lists of cells, and their calls -/
theorem ct_at {ws w : va_W} {is : List Nat} (hs : is.map (fun i => ws[i]?) = w.map some) (k : Nat) (q : Nat × va_E) (hq : w[k]? = some q) : ∃ i, is[k]? = some i ∧ ws[i]? = some q := by
  have h1 : (is.map (fun i => ws[i]?))[k]? = some (some q) := by rw [hs, List.getElem?_map, hq]; rfl
  rw [List.getElem?_map] at h1
  cases hi : is[k]? with
  | none => rw [hi] at h1; cases h1
  | some i => rw [hi] at h1; exact ⟨i, rfl, Option.some.inj h1⟩
theorem ct_subP {D : va_G} {cl : List vw_C} {ws w : va_W} {H : Heap} (h : va_P D cl ws H) {is : List Nat} (hs : is.map (fun i => ws[i]?) = w.map some) : va_P D cl w H := by
  intro k q hq
  obtain ⟨i, -, h2⟩ := ct_at hs k q hq
  exact h i q h2
def ct_S (EN : State → Prop) (D : va_G) (cl : List vw_C) (ws : va_W) (As : List Value) (sz : Nat) : Array Value → State → Prop := va_Pc As (fun U => U.heap.size = sz ∧ va_P D cl ws U.heap ∧ EN U ∧ va_D (fun _ => True) ws)
def ct_B (D : va_G) (cl : List vw_C) (ws : va_W) (sz : Nat) : va_W → State → Prop := fun w t => va_P D cl w t.heap ∧ va_D (va_A ws sz) w
/-- an int (or boolean) comes back -/
def ct_i (l : Launch) (y : MethodName) (wy : List Cond) (rm : Room) (EN : State → Prop) (D : va_G) (cl : List vw_C) (ws : va_W) (As : List Value) (post : Int32 → va_W → Prop) (mc ms : Nat) : Prop :=
  ∀ sz : Nat, Met l y wy rm (ct_S EN D cl ws As sz) (va_Qi post (ct_B D cl ws sz) (va_A ws sz)) mc ms (va_A ws sz)
/-- nothing comes back -/
def ct_v (l : Launch) (y : MethodName) (wy : List Cond) (rm : Room) (EN : State → Prop) (D : va_G) (cl : List vw_C) (ws : va_W) (As : List Value) (post : va_W → Prop) (mc ms : Nat) : Prop :=
  ∀ sz : Nat, Met l y wy rm (ct_S EN D cl ws As sz) (va_Qv post (ct_B D cl ws sz) (va_A ws sz)) mc ms (va_A ws sz)
/-- what is told of all states: it moves with the tables -/
def ct_E (EN : State → Prop) : Prop := (∀ s U : State, s.WarmedH U.vm → EN s → EN U) ∧ ∀ u U : State, u.vm = U.vm → EN u → EN U
theorem ct_blind {EN : State → Prop} (hE : ct_E EN) {D : va_G} {cl : List vw_C} {ws : va_W} {As : List Value} {sz : Nat} : FrameBlind (ct_S EN D cl ws As sz) := by
  intro a U g mk q
  obtain ⟨q0, q1, qP, qK, qD⟩ := q
  exact ⟨q0, q1, qP, hE.2 U _ rfl qK, qD⟩
theorem ct_pre {EN : State → Prop} (hE : ct_E EN) {D : va_G} {cl : List vw_C} {ws wc : va_W} {As : List Value} {H : Heap} {s : State} {A : Nat → Prop} (hEN : EN s) (hP : va_P D cl ws H) (hD : va_D A ws) {isC : List Nat} (hC : isC.map (fun i => ws[i]?) = wc.map some) (hn : va_nd isC = true) : ∀ U : State, U.heap = H → s.WarmedH U.vm → ct_S EN D cl wc As H.size As.toArray U :=
  fun U hU hW => ⟨rfl, by rw [hU], by rw [hU]; exact ct_subP hP hC, hE.1 s U hW hEN, (hD.sub isC hn hC).weaken (fun _ _ _ _ => trivial)⟩
section CT
variable {p : Program} {l : Launch} {e : Env} {R : Room} {s : State} {m : MethodId} {args : Array Value} {below : List Frame} {meth : Method} {c : Code} {H : Heap} {locs : List Loc} {cells slots : Nat} {Q : State → Prop}
variable {cc : ByteArray} {pc : Nat} {ls : Array Slot} {rest st0 : List Value} {D : va_G} {cl : List vw_C} {A : Nat → Prop} {tys : List (ClassId × FieldType)} {ws wc wr : va_W} {H0 : Heap} {mc ms : Nat} {isC isR : List Nat}
theorem ct_backi {post : Int32 → va_W → Prop} {a : Array Value} (hr : va_Run p l e R s m args below meth c H locs cells slots mc ms (F0 m pc ls st0) rest (va_Qi post (ct_B D cl wc H.size) (va_A wc H.size) a) (va_A wc H.size)) (hP : va_P D cl ws H) (hD : va_D A ws) (hS : va_S A H0 H locs) (hA : ∀ q, H0.size ≤ q → A q)
    (hC : isC.map (fun i => ws[i]?) = wc.map some) (hR : isR.map (fun i => ws[i]?) = wr.map some) (hn : va_nd isR = true) (hdis : ∀ i ∈ isR, i ∉ isC)
    (kk : ∀ (r : Int32) (w1 : va_W) (H : Heap) (locs : List Loc), post r w1 → va_P D cl (wr ++ w1) H → va_D A (wr ++ w1) → va_S A H0 H locs → W p l e R s m args below meth c H locs (cells + mc) (slots + ms) Q (F0 m (pc + 3) ls (.int r :: rest))) : W p l e R s m args below meth c H locs cells slots Q (F0 m pc ls st0) := by
  have hFc := va_free (wc := wc) hD hS hA isC hC
  refine va_calli hr hS (fun q _ h => hFc q h) hFc (fun r u t H1 locs1 ht hvm hw hB hz1 hk1 hS1 => ?_)
  obtain ⟨hP1, hD1⟩ := hB
  rw [ht] at hP1
  obtain ⟨hP2, hD2⟩ := va_join hP hD isC isR hC hR hn hdis hk1 hFc hP1 hD1
  exact kk r u H1 locs1 hw hP2 hD2 hS1
theorem ct_backv {post : va_W → Prop} {a : Array Value} (hr : va_Run p l e R s m args below meth c H locs cells slots mc ms (F0 m pc ls st0) rest (va_Qv post (ct_B D cl wc H.size) (va_A wc H.size) a) (va_A wc H.size)) (hP : va_P D cl ws H) (hD : va_D A ws) (hS : va_S A H0 H locs) (hA : ∀ q, H0.size ≤ q → A q)
    (hC : isC.map (fun i => ws[i]?) = wc.map some) (hR : isR.map (fun i => ws[i]?) = wr.map some) (hn : va_nd isR = true) (hdis : ∀ i ∈ isR, i ∉ isC)
    (kk : ∀ (w1 : va_W) (H : Heap) (locs : List Loc), post w1 → va_P D cl (wr ++ w1) H → va_D A (wr ++ w1) → va_S A H0 H locs → W p l e R s m args below meth c H locs (cells + mc) (slots + ms) Q (F0 m (pc + 3) ls rest)) : W p l e R s m args below meth c H locs cells slots Q (F0 m pc ls st0) := by
  have hFc := va_free (wc := wc) hD hS hA isC hC
  refine va_callv hr hS (fun q _ h => hFc q h) hFc (fun u t H1 locs1 ht hvm hw hB hz1 hk1 hS1 => ?_)
  obtain ⟨hP1, hD1⟩ := hB
  rw [ht] at hP1
  obtain ⟨hP2, hD2⟩ := va_join hP hD isC isR hC hR hn hdis hk1 hFc hP1 hD1
  exact kk u H1 locs1 hw hP2 hD2 hS1
variable {EN : State → Prop} {y : MethodName} {bytes : ByteArray} {maxL nL n index : Nat} {ret : Option FieldType} {wy Ts : List Cond} {rm : Room} {own C host : String} {b : Addr} {As : List Value}
theorem ct_Vi {post : Int32 → va_W → Prop} (S : CallFix p m c cc nL s args Ts own) (hE : ct_E EN) (hEN : EN s) (hM : ct_i l y wy rm EN D cl wc (.ref b :: As) post mc ms) (cw : CallW R s args own C index y bytes maxL ret wy rm mc ms n) (hrec : ∃ cellB : Cell, H[b]? = some cellB ∧ cellB.vm.isStatics = false ∧ s.vm.findClass C = some cellB.cls)
    (hP : va_P D cl ws H) (hD : va_D A ws) (hS : va_S A H0 H locs) (hA : ∀ q, H0.size ≤ q → A q) (isC isR : List Nat) (hC : isC.map (fun i => ws[i]?) = wc.map some) (hR : isR.map (fun i => ws[i]?) = wr.map some) (hnC : va_nd isC = true) (hn : va_nd isR = true) (hdis : ∀ i ∈ isR, i ∉ isC)
    (hl : As.length = n) (hsz : ls.size = nL) (hst : st0 = As.reverse ++ .ref b :: rest) (hW : (rest.map fun v => v.category).sum ≤ 8) (hdg : decode cc pc = .ok (.invokevirtual index, 3)) (hf : cells + mc ≤ R.cells ∧ slots + ms ≤ R.slots)
    (kk : ∀ (r : Int32) (w1 : va_W) (H : Heap) (locs : List Loc), post r w1 → va_P D cl (wr ++ w1) H → va_D A (wr ++ w1) → va_S A H0 H locs → W p l e R s m args below meth c H locs (cells + mc) (slots + ms) Q (F0 m (pc + 3) ls (.int r :: rest))) : W p l e R s m args below meth c H locs cells slots Q (F0 m pc ls st0) :=
  ct_backi (va_runV S (hM H.size) cw ⟨ct_blind hE, hrec, ct_pre hE hEN hP hD hC hnC⟩ rfl hl hsz hst (lv_room hW) hdg hf) hP hD hS hA hC hR hn hdis kk
theorem ct_Vv {post : va_W → Prop} (S : CallFix p m c cc nL s args Ts own) (hE : ct_E EN) (hEN : EN s) (hM : ct_v l y wy rm EN D cl wc (.ref b :: As) post mc ms) (cw : CallW R s args own C index y bytes maxL ret wy rm mc ms n) (hrec : ∃ cellB : Cell, H[b]? = some cellB ∧ cellB.vm.isStatics = false ∧ s.vm.findClass C = some cellB.cls)
    (hP : va_P D cl ws H) (hD : va_D A ws) (hS : va_S A H0 H locs) (hA : ∀ q, H0.size ≤ q → A q) (isC isR : List Nat) (hC : isC.map (fun i => ws[i]?) = wc.map some) (hR : isR.map (fun i => ws[i]?) = wr.map some) (hnC : va_nd isC = true) (hn : va_nd isR = true) (hdis : ∀ i ∈ isR, i ∉ isC)
    (hl : As.length = n) (hsz : ls.size = nL) (hst : st0 = As.reverse ++ .ref b :: rest) (hW : (rest.map fun v => v.category).sum ≤ 8) (hdg : decode cc pc = .ok (.invokevirtual index, 3)) (hf : cells + mc ≤ R.cells ∧ slots + ms ≤ R.slots)
    (kk : ∀ (w1 : va_W) (H : Heap) (locs : List Loc), post w1 → va_P D cl (wr ++ w1) H → va_D A (wr ++ w1) → va_S A H0 H locs → W p l e R s m args below meth c H locs (cells + mc) (slots + ms) Q (F0 m (pc + 3) ls rest)) : W p l e R s m args below meth c H locs cells slots Q (F0 m pc ls st0) :=
  ct_backv (va_runV S (hM H.size) cw ⟨ct_blind hE, hrec, ct_pre hE hEN hP hD hC hnC⟩ rfl hl hsz hst (lv_room hW) hdg hf) hP hD hS hA hC hR hn hdis kk
theorem ct_Si {post : Int32 → va_W → Prop} (S : CallFix p m c cc nL s args Ts own) (hE : ct_E EN) (hEN : EN s) (hM : ct_i l y wy rm EN D cl wc As post mc ms) (cw : CallB R s args own index y bytes maxL ret wy rm mc ms n ∧ (Cond.static y).before args s = true)
    (hP : va_P D cl ws H) (hD : va_D A ws) (hS : va_S A H0 H locs) (hA : ∀ q, H0.size ≤ q → A q) (isC isR : List Nat) (hC : isC.map (fun i => ws[i]?) = wc.map some) (hR : isR.map (fun i => ws[i]?) = wr.map some) (hnC : va_nd isC = true) (hn : va_nd isR = true) (hdis : ∀ i ∈ isR, i ∉ isC)
    (hl : As.length = n) (hsz : ls.size = nL) (hst : st0 = As.reverse ++ rest) (hW : (rest.map fun v => v.category).sum ≤ 8) (hdg : decode cc pc = .ok (.invokestatic index, 3)) (hf : cells + mc ≤ R.cells ∧ slots + ms ≤ R.slots)
    (kk : ∀ (r : Int32) (w1 : va_W) (H : Heap) (locs : List Loc), post r w1 → va_P D cl (wr ++ w1) H → va_D A (wr ++ w1) → va_S A H0 H locs → W p l e R s m args below meth c H locs (cells + mc) (slots + ms) Q (F0 m (pc + 3) ls (.int r :: rest))) : W p l e R s m args below meth c H locs cells slots Q (F0 m pc ls st0) :=
  ct_backi (va_runS S (hM H.size) cw ⟨ct_blind hE, ct_pre hE hEN hP hD hC hnC⟩ rfl hl hsz hst (lv_room hW) hdg hf) hP hD hS hA hC hR hn hdis kk
theorem ct_Sv {post : va_W → Prop} (S : CallFix p m c cc nL s args Ts own) (hE : ct_E EN) (hEN : EN s) (hM : ct_v l y wy rm EN D cl wc As post mc ms) (cw : CallB R s args own index y bytes maxL ret wy rm mc ms n ∧ (Cond.static y).before args s = true)
    (hP : va_P D cl ws H) (hD : va_D A ws) (hS : va_S A H0 H locs) (hA : ∀ q, H0.size ≤ q → A q) (isC isR : List Nat) (hC : isC.map (fun i => ws[i]?) = wc.map some) (hR : isR.map (fun i => ws[i]?) = wr.map some) (hnC : va_nd isC = true) (hn : va_nd isR = true) (hdis : ∀ i ∈ isR, i ∉ isC)
    (hl : As.length = n) (hsz : ls.size = nL) (hst : st0 = As.reverse ++ rest) (hW : (rest.map fun v => v.category).sum ≤ 8) (hdg : decode cc pc = .ok (.invokestatic index, 3)) (hf : cells + mc ≤ R.cells ∧ slots + ms ≤ R.slots)
    (kk : ∀ (w1 : va_W) (H : Heap) (locs : List Loc), post w1 → va_P D cl (wr ++ w1) H → va_D A (wr ++ w1) → va_S A H0 H locs → W p l e R s m args below meth c H locs (cells + mc) (slots + ms) Q (F0 m (pc + 3) ls rest)) : W p l e R s m args below meth c H locs cells slots Q (F0 m pc ls st0) :=
  ct_backv (va_runS S (hM H.size) cw ⟨ct_blind hE, ct_pre hE hEN hP hD hC hnC⟩ rfl hl hsz hst (lv_room hW) hdg hf) hP hD hS hA hC hR hn hdis kk
end CT
