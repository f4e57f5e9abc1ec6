/-! contracts of methods that may throw: the world behind a throw too -/
def isXw : Cond → Bool
  | .castable .. => true
  | .declares .. => true
  | _ => false
def xwL : List Cond := tables_1.filter isXw
def EX (D : va_G) (tys : List (ClassId × FieldType)) : State → Prop := fun U => EN D tys U ∧ (∀ w ∈ xwL, va_Nw w U) ∧ ∀ (k : Nat) (tx : String), Cond.stringRef RX4 k tx ∈ tables_1 → ∃ sa, vk_R RX4 k tx sa U
theorem EX_E (D : va_G) (tys : List (ClassId × FieldType)) : ct_E (EX D tys) := by
  refine ⟨fun s U hW h => ⟨(EN_E D tys).1 s U hW h.1, fun w hw => ?_, fun k tx hk => ?_⟩, fun u U he h => ⟨(EN_E D tys).2 u U he h.1, fun w hw => ?_, fun k tx hk => ?_⟩⟩
  · have h1 := (List.mem_filter.mp hw).2
    have h2 := h.2.1 w hw
    cases w with
    | castable a b => exact va_Nw.warmC hW h2
    | declares a => exact va_Nw.warmD hW h2
    | _ => cases h1
  · obtain ⟨sa, h1⟩ := h.2.2 k tx hk
    exact ⟨sa, vk_R.warm hW h1⟩
  · have h1 := (List.mem_filter.mp hw).2
    have h2 := h.2.1 w hw
    refine va_Nw.same ?_ he h2
    cases w with
    | castable a b => rfl
    | declares a => rfl
    | _ => cases h1
  · obtain ⟨sa, h1⟩ := h.2.2 k tx hk
    exact ⟨sa, vk_R.same he.symm h1⟩
/-- the two statics that a made exception reads -/
def xZ (A : Nat → Prop) (U : State) (H : Heap) : Prop := vx_Zq Bundle.tN "UNASSIGNED_STACK" Bundle.steD A U H ∧ vx_Zq Bundle.tN "SUPPRESSED_SENTINEL" Bundle.listD A U H
theorem xZ.to {A B : Nat → Prop} {u U : State} {H H1 : Heap} (h : xZ A u H) (hvm : u.vm.Alike U.vm) (hq : ∀ a : Nat, a < H.size → ¬ A a → H1[a]? = H[a]?) (hAB : ∀ q, B q → A q) : xZ B U H1 :=
  ⟨vx_Zq.moved hvm ((h.1.kept hq).narrow hAB), vx_Zq.moved hvm ((h.2.kept hq).narrow hAB)⟩
def tx_S (EN : State → Prop) (D : va_G) (cl : List vw_C) (ws : va_W) (As : List Value) (sz : Nat) : Array Value → State → Prop := va_Pc As (fun U => U.heap.size = sz ∧ va_P D cl ws U.heap ∧ EN U ∧ va_D (fun _ => True) ws ∧ xZ (va_A ws sz) U U.heap)
def tx_X (pX : String → va_W → Prop) (D : va_G) (cl : List vw_C) (A : Nat → Prop) : String → State → State → Prop := vx_X (fun _ : va_W => True) (fun E w t => pX E w ∧ va_P D cl w t.heap ∧ va_D A w) A
def tx_i (l : Launch) (y : MethodName) (wy : List Cond) (rm : Room) (EN : State → Prop) (D : va_G) (cl : List vw_C) (ws : va_W) (As : List Value) (post : Int32 → va_W → Prop) (pX : String → va_W → Prop) (mc ms : Nat) : Prop :=
  ∀ sz : Nat, vx_Met l y wy rm (tx_S EN D cl ws As sz) (ct_Qi post D cl (va_A ws sz)) (tx_X pX D cl (va_A ws sz)) mc ms (va_A ws sz)
def tx_v (l : Launch) (y : MethodName) (wy : List Cond) (rm : Room) (EN : State → Prop) (D : va_G) (cl : List vw_C) (ws : va_W) (As : List Value) (post : va_W → Prop) (pX : String → va_W → Prop) (mc ms : Nat) : Prop :=
  ∀ sz : Nat, vx_Met l y wy rm (tx_S EN D cl ws As sz) (ct_Qv post D cl (va_A ws sz)) (tx_X pX D cl (va_A ws sz)) mc ms (va_A ws sz)
theorem tx_blind {EN : State → Prop} (hE : ct_E EN) {D : va_G} {cl : List vw_C} {ws : va_W} {As : List Value} {sz : Nat} : FrameBlind (tx_S EN D cl ws As sz) := by
  intro a U g mk q
  obtain ⟨q0, q1, qP, qK, qD, qZ⟩ := q
  exact ⟨q0, q1, qP, hE.2 U _ rfl qK, qD, qZ.to (Vm.Alike.refl U.vm) (fun _ _ _ => rfl) (fun _ h => h)⟩
theorem tx_pre {EN : State → Prop} (hE : ct_E EN) {D : va_G} {cl : List vw_C} {ws wc : va_W} {As : List Value} {H : Heap} {locs : List Loc} {s : State} {A : Nat → Prop} (hEN : EN s) (hZ : xZ A s s.heap) (hP : va_P D cl ws H) (hD : va_D A ws) (hS : va_S A s.heap H locs) (hA : ∀ q, s.heap.size ≤ q → A q) {isC : List Nat} (hC : isC.map (fun i => ws[i]?) = wc.map some) (hn : va_nd isC = true) : ∀ U : State, U.heap = H → s.WarmedH U.vm → tx_S EN D cl wc As H.size As.toArray U :=
  fun U hU hW => ⟨rfl, by rw [hU], by rw [hU]; exact ct_subP hP hC, hE.1 s U hW hEN, (hD.sub isC hn hC).weaken (fun _ _ _ _ => trivial), by rw [hU]; exact hZ.to hW.alike hS.2.1 (va_free (wc := wc) hD hS hA isC hC)⟩
theorem tx_ofi {l : Launch} {y : MethodName} {cc : ByteArray} {maxL : Nat} {ret : Option FieldType} {ws' : List Cond} {rm : Room} {EN : State → Prop} {D : va_G} {cl : List vw_C} {ws : va_W} {As : List Value} {post : Int32 → va_W → Prop} {pX : String → va_W → Prop} {mc ms : Nat} (hy : plainName y.cls = true) (hn : (lg_sl As).length ≤ maxL)
    (body : ∀ (p : Program) (e : Env) (s : State) (m : MethodId) (below : List Frame) (meth : Method) (c : Code) (A : Nat → Prop) (H : Heap) (locs : List Loc) (av : Array Value) (Q : State → Prop) (ls : Array Slot), p.tables.exec = Jvm.exec → c.code = cc → meth.sig.returnType = ret → c.maxLocals = maxL → s.vm.findClass y.cls = some m.cls → meth.locks = false → (∀ x ∈ c.exceptionTable.toList, False) → (∀ w ∈ ws', w.before av s = true) → EN s → xZ A s s.heap → Q = vx_MQ below (ct_Qi post D cl A) (tx_X pX D cl A) av s mc ms A → va_P D cl ws H → va_D A ws → va_S A s.heap H locs → (∀ q, s.heap.size ≤ q → A q) → lv_has ls maxL (lv_args 0 As) →
      W p l e rm s m av below meth c H locs 0 0 Q (F0 m 0 ls [])) : tx_i l y (.code y cc maxL ret :: ws') rm EN D cl ws As post pX mc ms := by
  intro sz
  refine vx_ofW (cc := cc) (maxL := maxL) (ret := ret) hy rfl ?_
  intro p e s m args below meth c s₁ B hml hex hv
  obtain ⟨rfl, hsz, hP, hEN, hD0, hZ⟩ := hv
  subst hsz
  rw [lg_entry_eq]
  exact body p e s m below meth c (va_A ws s.heap.size) s.heap [] As.toArray _ _ B.exec B.bytes B.returns hml (findClass_of_methodNamed B.named) B.notSynchronized hex (fun w h => atoms_spec (ws := .code y cc maxL ret :: ws') B.pre w (List.mem_cons_of_mem _ h)) hEN hZ rfl hP (hD0.self (sz := s.heap.size)) va_S.rf (fun q h => Or.inr h) (lv_entry As hn)
theorem tx_ofv {l : Launch} {y : MethodName} {cc : ByteArray} {maxL : Nat} {ret : Option FieldType} {ws' : List Cond} {rm : Room} {EN : State → Prop} {D : va_G} {cl : List vw_C} {ws : va_W} {As : List Value} {post : va_W → Prop} {pX : String → va_W → Prop} {mc ms : Nat} (hy : plainName y.cls = true) (hn : (lg_sl As).length ≤ maxL)
    (body : ∀ (p : Program) (e : Env) (s : State) (m : MethodId) (below : List Frame) (meth : Method) (c : Code) (A : Nat → Prop) (H : Heap) (locs : List Loc) (av : Array Value) (Q : State → Prop) (ls : Array Slot), p.tables.exec = Jvm.exec → c.code = cc → meth.sig.returnType = ret → c.maxLocals = maxL → s.vm.findClass y.cls = some m.cls → meth.locks = false → (∀ x ∈ c.exceptionTable.toList, False) → (∀ w ∈ ws', w.before av s = true) → EN s → xZ A s s.heap → Q = vx_MQ below (ct_Qv post D cl A) (tx_X pX D cl A) av s mc ms A → va_P D cl ws H → va_D A ws → va_S A s.heap H locs → (∀ q, s.heap.size ≤ q → A q) → lv_has ls maxL (lv_args 0 As) →
      W p l e rm s m av below meth c H locs 0 0 Q (F0 m 0 ls [])) : tx_v l y (.code y cc maxL ret :: ws') rm EN D cl ws As post pX mc ms := by
  intro sz
  refine vx_ofW (cc := cc) (maxL := maxL) (ret := ret) hy rfl ?_
  intro p e s m args below meth c s₁ B hml hex hv
  obtain ⟨rfl, hsz, hP, hEN, hD0, hZ⟩ := hv
  subst hsz
  rw [lg_entry_eq]
  exact body p e s m below meth c (va_A ws s.heap.size) s.heap [] As.toArray _ _ B.exec B.bytes B.returns hml (findClass_of_methodNamed B.named) B.notSynchronized hex (fun w h => atoms_spec (ws := .code y cc maxL ret :: ws') B.pre w (List.mem_cons_of_mem _ h)) hEN hZ rfl hP (hD0.self (sz := s.heap.size)) va_S.rf (fun q h => Or.inr h) (lv_entry As hn)
section TX
variable {p : Program} {l : Launch} {e : Env} {R : Room} {s : State} {m : MethodId} {args : Array Value} {below : List Frame} {meth : Method} {c : Code} {H : Heap} {locs : List Loc} {cells slots : Nat} {Q : State → Prop}
variable {cc : ByteArray} {pc : Nat} {ls : Array Slot} {rest st0 : List Value} {D : va_G} {cl : List vw_C} {A : Nat → Prop} {tys : List (ClassId × FieldType)} {w ws wc wr : va_W} {mc ms : Nat} {isC isR : List Nat}
theorem tx_iret {post : Int32 → va_W → Prop} {XC : String → State → State → Prop} {v : Int32} (hx : p.tables.exec = Jvm.exec) (hb : c.code = cc) (hr : meth.sig.returnType = some .int) (hlocks : meth.locks = false) (hP : va_P D cl w H) (hD : va_D A w) (hS : va_S A s.heap H locs) (hd : decode cc pc = .ok (.ireturn, 1)) (hc : cells ≤ mc) (hs : slots ≤ ms) (hw : post v w) :
    W p l e R s m args below meth c H locs cells slots (vx_MQ below (ct_Qi post D cl A) XC args s mc ms A) (F0 m pc ls [.int v]) :=
  vx_ret (W.widen hc hs (ct_iret hx hb hr hlocks hP hD hS hd hw))
theorem tx_zret {post : Int32 → va_W → Prop} {XC : String → State → State → Prop} {v : Int32} (hx : p.tables.exec = Jvm.exec) (hb : c.code = cc) (hr : meth.sig.returnType = some .boolean) (hlocks : meth.locks = false) (hP : va_P D cl w H) (hD : va_D A w) (hS : va_S A s.heap H locs) (hd : decode cc pc = .ok (.ireturn, 1)) (hc : cells ≤ mc) (hs : slots ≤ ms) (hv : v = 0 ∨ v = 1) (hw : post v w) :
    W p l e R s m args below meth c H locs cells slots (vx_MQ below (ct_Qi post D cl A) XC args s mc ms A) (F0 m pc ls [.int v]) :=
  vx_ret (W.widen hc hs (ct_zret hx hb hr hlocks hP hD hS hd hv hw))
theorem tx_vret {post : va_W → Prop} {XC : String → State → State → Prop} (hx : p.tables.exec = Jvm.exec) (hb : c.code = cc) (hr : meth.sig.returnType = none) (hlocks : meth.locks = false) (hP : va_P D cl w H) (hD : va_D A w) (hS : va_S A s.heap H locs) (hd : decode cc pc = .ok (.return_, 1)) (hc : cells ≤ mc) (hs : slots ≤ ms) (hw : post w) :
    W p l e R s m args below meth c H locs cells slots (vx_MQ below (ct_Qv post D cl A) XC args s mc ms A) (F0 m pc ls []) :=
  vx_ret (W.widen hc hs (ct_vret hx hb hr hlocks hP hD hS hd hw))
/-- throw new E("text") in CableSizes -/
theorem tx_throw {Qc : Array Value → State → Outcome → State → Prop} {pX : String → va_W → Prop} {E tx : String} {ik is ic : Nat} (hx : p.tables.exec = Jvm.exec) (hb : c.code = cc) (hl : l.stackTraces = false) (hown : s.vm.findClass RX4 = some m.cls) (hfit : Bundle.fit E = true) (hbw : ∀ w ∈ bw, w.before args s = true) (hEX : EX D tys s) (hZ : xZ A s s.heap)
    (hk : Cond.classLink RX4 ik E ∈ bw) (hi : Cond.initialized E ∈ bw) (hstr : Cond.stringRef RX4 is tx ∈ tables_1) (h1 : ∀ w ∈ (vx_atS RX4 ic E ["java/lang/RuntimeException", "java/lang/Exception"]).filter goodWord, w ∈ bw) (h2 : ∀ w ∈ (vx_atS RX4 ic E ["java/lang/RuntimeException", "java/lang/Exception"]).filter (fun w => !goodWord w), w ∈ xwL)
    (hg : ∀ w ∈ Cond.classLink RX4 ik E :: Cond.initialized E :: vx_atS RX4 ic E ["java/lang/RuntimeException", "java/lang/Exception"], vx_ot w = true) (hP : va_P D cl w H) (hD : va_D A w) (hS : va_S A s.heap H locs) (hsize : ls.size = c.maxLocals)
    (d0 : decode cc pc = .ok (.new ik, 3)) (d3 : decode cc (pc + 3) = .ok (.dup, 1)) (d4 : decode cc (pc + 4) = .ok (.ldc is, 2)) (d6 : decode cc (pc + 6) = .ok (.invokespecial ic, 3)) (d9 : decode cc (pc + 9) = .ok (.athrow, 1))
    (hex : ∀ x ∈ c.exceptionTable.toList, False) (hRf : 5 < R.frames) (hRl : (rest.map fun v => v.category).sum + 82 ≤ R.locals) (hRc : cells + 1 ≤ R.cells) (hRs : slots + 6 ≤ R.slots) (hlocks : meth.locks = false) (hc : cells + 1 ≤ mc) (hs : slots + 6 ≤ ms) (hpX : pX E w) :
    W p l e R s m args below meth c H locs cells slots (vx_MQ below Qc (tx_X pX D cl A) args s mc ms A) (F0 m pc ls rest) := by
  obtain ⟨sa, hsa⟩ := hEX.2.2 is tx hstr
  have hxw : ∀ w ∈ xwL, w.before args s = true := fun w hw => by
    have q := (List.mem_filter.mp hw).2
    have q2 := hEX.2.1 w hw
    refine va_Nw.use ?_ q2
    cases w with
    | castable a b => rfl
    | declares a => rfl
    | _ => cases q
  exact vx_throwS (own := RX4) (cls := E) (names := ["java/lang/RuntimeException", "java/lang/Exception"]) hx hb hl hown hfit (by decide +kernel) (hbw _ hk) (hbw _ hi) hsa (vx_hat (B := xwL) (fun w hw => hbw w (h1 w hw)) h2 hxw) hg hZ.1 hZ.2 hS hsize d0 d3 d4 d6 d9 (fun x h => absurd (hex x h) id) hRf (by show _ + (13 * (2 + 1) + 43) ≤ _; omega) hRc hRs hlocks
    (fun t ha hsz hk2 => ⟨w, trivial, ⟨hpX, hP.kept (fun k q hq => hk2 q.1 (hP k q hq).lt), hD⟩, Nat.le_trans hS.1 hsz, fun q h3 h4 => (hk2 q (Nat.lt_of_lt_of_le h3 hS.1)).trans (hS.2.1 q h3 h4)⟩) hS.2.2 hc hs
variable {EN : State → Prop} {y : MethodName} {bytes : ByteArray} {maxL nL n index : Nat} {ret : Option FieldType} {wy Ts : List Cond} {rm : Room} {own C : String} {b : Addr} {As : List Value} {Qc : Array Value → State → Outcome → State → Prop} {pX pX' : String → va_W → Prop} {mc' ms' : Nat}
/-- a static call of a method that may throw, none caught here -/
theorem tx_Sv {post : va_W → Prop} (S : CallFix p m c cc nL s args Ts own) (hE : ct_E EN) (hEN : EN s) (hZ : xZ A s s.heap) (hex : ∀ x ∈ c.exceptionTable.toList, False) (hlocks : meth.locks = false) (hM : tx_v l y wy rm EN D cl wc As post pX mc ms) (cw : CallB R s args own index y bytes maxL ret wy rm mc ms n ∧ (Cond.static y).before args s = true)
    (hP : va_P D cl ws H) (hD : va_D A ws) (hS : va_S A s.heap H locs) (hA : ∀ q, s.heap.size ≤ q → A q) (isC isR : List Nat) (hC : isC.map (fun i => ws[i]?) = wc.map some) (hR : isR.map (fun i => ws[i]?) = wr.map some) (hnC : va_nd isC = true) (hn : va_nd isR = true) (hdis : ∀ i ∈ isR, i ∉ isC)
    (hl : As.length = n) (hsz : ls.size = nL) (hst : st0 = As.reverse ++ rest) (hW : (rest.map fun v => v.category).sum ≤ 8) (hdg : decode cc pc = .ok (.invokestatic index, 3)) (hf : cells + mc ≤ R.cells ∧ slots + ms ≤ R.slots) (hmc : cells + mc ≤ mc') (hms : slots + ms ≤ ms')
    (hpx : ∀ (E : String) (w1 : va_W), pX E w1 → pX' E (wr ++ w1))
    (kk : ∀ (w1 : va_W) (H : Heap) (locs : List Loc), post w1 → va_P D cl (wr ++ w1) H → va_D A (wr ++ w1) → va_S A s.heap H locs → W p l e R s m args below meth c H locs (cells + mc) (slots + ms) (vx_MQ below Qc (tx_X pX' D cl A) args s mc' ms' A) (F0 m (pc + 3) ls rest)) : W p l e R s m args below meth c H locs cells slots (vx_MQ below Qc (tx_X pX' D cl A) args s mc' ms' A) (F0 m pc ls st0) := by
  have hFc := va_free (wc := wc) hD hS hA isC hC
  refine vx_callv (vx_runS S (hM H.size) cw ⟨tx_blind hE, tx_pre hE hEN hZ hP hD hS hA hC hnC⟩ rfl hl hsz hst (lv_room hW) hdg hf) hS (fun q _ h => hFc q h) hFc (fun q _ h => hFc q h) (fun E ce q9 u t H1 locs1 ht hvm _ hB hz1 hk1 hS1 hce hcv hcl => ?_) (fun u t H1 locs1 ht hvm hw hB hz1 hk1 hS1 => ?_)
  · obtain ⟨hp1, hP1, hD1⟩ := hB
    rw [ht] at hP1
    obtain ⟨hP2, hD2⟩ := va_join hP hD isC isR hC hR hn hdis hk1 hFc hP1 hD1
    exact vx_out (fun x h => absurd (hex x h) id) hlocks hce hcv hcl (fun t2 ht2 ha2 => ⟨wr ++ u, trivial, ⟨hpx E u hp1, by rw [ht2]; exact hP2, hD2⟩, hS1.F ht2⟩) hS1.2.2 hmc hms
  · obtain ⟨hP1, hD1⟩ := hB
    rw [ht] at hP1
    obtain ⟨hP2, hD2⟩ := va_join hP hD isC isR hC hR hn hdis hk1 hFc hP1 hD1
    exact kk u H1 locs1 hw hP2 hD2 hS1
end TX
