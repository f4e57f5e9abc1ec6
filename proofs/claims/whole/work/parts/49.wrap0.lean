/-! the law's wrappers: a call that may throw inside a method with an exception table -/
theorem xc_IAE : Cond.castable sIAE sIAE ∈ xwL := List.mem_filter.mpr ⟨List.mem_of_getElem? (i := 243) (by decide +kernel), rfl⟩
theorem xc_ISE : Cond.castable sISE sISE ∈ xwL := List.mem_filter.mpr ⟨List.mem_of_getElem? (i := 311) (by decide +kernel), rfl⟩
/-- what the law's states keep -/
def EW (D : va_G) (tys : List (ClassId × FieldType)) : State → Prop := fun U => EX D tys U ∧ va_Nc sISE sIAE U
theorem EW_E (D : va_G) (tys : List (ClassId × FieldType)) : ct_E (EW D tys) :=
  ⟨fun s U hW h => ⟨(EX_E D tys).1 s U hW h.1, h.2.moved hW.alike⟩, fun u U he h => ⟨(EX_E D tys).2 u U he h.1, h.2.moved (by rw [he]; exact Vm.Alike.refl U.vm)⟩⟩
def tw_i (l : Launch) (y : MethodName) (wy : List Cond) (rm : Room) (EN : State → Prop) (D : va_G) (cl : List vw_C) (ws : va_W) (As : List Value) (post : Int32 → va_W → Prop) (mc ms : Nat) : Prop :=
  ∀ sz : Nat, Met l y wy rm (tx_S EN D cl ws As sz) (ct_Qi post D cl (va_A ws sz)) mc ms (va_A ws sz)
theorem tw_of {l : Launch} {y : MethodName} {cc : ByteArray} {maxL : Nat} {ret : Option FieldType} {hh : List (Nat × Nat × Nat × Nat)} {ws' : List Cond} {rm : Room} {EN : State → Prop} {D : va_G} {cl : List vw_C} {ws : va_W} {As : List Value} {post : Int32 → va_W → Prop} {mc ms : Nat} (hy : plainName y.cls = true) (hn : (lg_sl As).length ≤ maxL)
    (body : ∀ (p : Program) (e : Env) (s : State) (m : MethodId) (below : List Frame) (meth : Method) (c : Code) (A : Nat → Prop) (H : Heap) (locs : List Loc) (av : Array Value) (Q : State → Prop) (ls : Array Slot), p.tables.exec = Jvm.exec → c.code = cc → meth.sig.returnType = ret → c.maxLocals = maxL → s.vm.findClass y.cls = some m.cls → meth.locks = false → c.exceptionTable.toList = tableOf hh → (∀ w ∈ ws', w.before av s = true) → EN s → xZ A s s.heap → Q = MQ below (ct_Qi post D cl A) av s mc ms A → va_P D cl ws H → va_D A ws → va_S A s.heap H locs → (∀ q, s.heap.size ≤ q → A q) → lv_has ls maxL (lv_args 0 As) →
      W p l e rm s m av below meth c H locs 0 0 Q (F0 m 0 ls [])) : tw_i l y (.codeWith y cc maxL ret hh :: ws') rm EN D cl ws As post mc ms := by
  intro sz
  refine va_MetW (cc := cc) (maxL := maxL) (ret := ret) (hh := hh) hy rfl ?_
  intro p e s m args below meth c s₁ B hml hv
  obtain ⟨rfl, hsz, hP, hEN, hD0, hZ⟩ := hv
  subst hsz
  rw [lg_entry_eq]
  exact body p e s m below meth c (va_A ws s.heap.size) s.heap [] As.toArray _ _ B.exec B.bytes B.returns hml (findClass_of_methodNamed B.named) B.notSynchronized (vx_table (x := y) B (atoms_spec (ws := .codeWith y cc maxL ret hh :: ws') B.pre _ List.mem_cons_self)) (fun w h => atoms_spec (ws := .codeWith y cc maxL ret hh :: ws') B.pre w (List.mem_cons_of_mem _ h)) hEN hZ rfl hP (hD0.self (sz := s.heap.size)) va_S.rf (fun q h => Or.inr h) (lv_entry As hn)
theorem tw_tail {A : Nat → Prop} {c0 : Nat × va_E} {ws : va_W} (h : va_D A (c0 :: ws)) : va_D A ws := ⟨fun i j x y hi hj e => Nat.succ.inj (h.1 (i + 1) (j + 1) x y hi hj e), fun k x hk => h.2 (k + 1) x hk⟩
theorem tw_hC (c0 : Nat × va_E) (ws : va_W) : ((List.range ws.length).map (fun i => i + 1)).map (fun i => (c0 :: ws)[i]?) = ws.map some := by
  apply List.ext_getElem?
  intro k
  by_cases h : k < ws.length
  · rw [List.getElem?_map, List.getElem?_map, List.getElem?_map, List.getElem?_range h]
    show some (ws[k]?) = _
    rw [List.getElem?_eq_getElem h]
    rfl
  · rw [List.getElem?_eq_none (by simp; omega), List.getElem?_eq_none (by simp; omega)]
theorem tw_dis (n : Nat) : ∀ i ∈ [0], i ∉ (List.range n).map (fun i => i + 1) := by
  intro i hi h
  obtain ⟨j, -, e⟩ := List.mem_map.mp h
  have : i = 0 := by simpa using hi
  omega
section TW
variable {p : Program} {l : Launch} {e : Env} {R : Room} {s : State} {m : MethodId} {args : Array Value} {below : List Frame} {meth : Method} {c : Code} {H : Heap} {locs : List Loc} {cells slots : Nat} {Q : State → Prop}
variable {cc : ByteArray} {pc : Nat} {ls : Array Slot} {rest st0 : List Value} {D : va_G} {cl : List vw_C} {A : Nat → Prop} {tys : List (ClassId × FieldType)} {w ws : va_W} {mc ms : Nat} {c0 : Nat × va_E}
variable {EN : State → Prop} {y : MethodName} {bytes : ByteArray} {maxL nL n index : Nat} {ret : Option FieldType} {wy Ts : List Cond} {rm : Room} {own C : String} {b : Addr} {As : List Value}
/-- a call that may throw; the world behind the first cell is the callee's -/
theorem tw_Vi {post : Int32 → va_W → Prop} {pX : String → va_W → Prop} (S : CallFix p m c cc nL s args Ts own) (hE : ct_E EN) (hEN : EN s) (hZ : xZ A s s.heap) (hM : tx_i l y wy rm EN D cl ws (.ref b :: As) post pX mc ms) (cw : CallW R s args own C index y bytes maxL ret wy rm mc ms n) (hrec : ∃ cellB : Cell, H[b]? = some cellB ∧ cellB.vm.isStatics = false ∧ s.vm.findClass C = some cellB.cls)
    (hP : va_P D cl (c0 :: ws) H) (hD : va_D A (c0 :: ws)) (hS : va_S A s.heap H locs) (hA : ∀ q, s.heap.size ≤ q → A q)
    (hl : As.length = n) (hsz : ls.size = nL) (hst : st0 = As.reverse ++ .ref b :: rest) (hW : (rest.map fun v => v.category).sum ≤ 8) (hdg : decode cc pc = .ok (.invokevirtual index, 3)) (hf : cells + mc ≤ R.cells ∧ slots + ms ≤ R.slots)
    (kx : ∀ (E : String) (ce : Cell) (q9 : Addr) (w1 : va_W) (H : Heap) (locs : List Loc), pX E w1 → va_P D cl (c0 :: w1) H → va_D A (c0 :: w1) → va_S A s.heap H locs → H[q9]? = some ce → ce.vm = .none → s.vm.findClass E = some ce.cls → vx_W p l e R s m args below meth c H locs (cells + mc) (slots + ms) Q (F0 m pc ls rest) q9)
    (kk : ∀ (r : Int32) (w1 : va_W) (H : Heap) (locs : List Loc), post r w1 → va_P D cl (c0 :: w1) H → va_D A (c0 :: w1) → va_S A s.heap H locs → W p l e R s m args below meth c H locs (cells + mc) (slots + ms) Q (F0 m (pc + 3) ls (.int r :: rest))) : W p l e R s m args below meth c H locs cells slots Q (F0 m pc ls st0) := by
  have hC := tw_hC c0 ws
  have hFc := va_free (wc := ws) hD hS hA _ hC
  have hpre : ∀ U : State, U.heap = H → s.WarmedH U.vm → tx_S EN D cl ws (.ref b :: As) H.size (Value.ref b :: As).toArray U :=
    fun U hU hW => ⟨rfl, by rw [hU], by rw [hU]; exact ct_subP hP hC, hE.1 s U hW hEN, (tw_tail hD).weaken (fun _ _ _ _ => trivial), by rw [hU]; exact hZ.to hW.alike hS.2.1 hFc⟩
  refine vx_calli (vx_runV S (hM H.size) cw ⟨tx_blind hE, hrec, hpre⟩ rfl hl hsz hst (lv_room hW) hdg hf) hS (fun q _ h => hFc q h) hFc (fun q _ h => hFc q h) (fun E ce q9 u t H1 locs1 ht hvm _ hB hz1 hk1 hS1 hce hcv hcl => ?_) (fun r u t H1 locs1 ht hvm hw hB hz1 hk1 hS1 => ?_)
  · obtain ⟨hp1, hP1, hD1⟩ := hB
    rw [ht] at hP1
    obtain ⟨hP2, hD2⟩ := va_join (wr := [c0]) hP hD _ [0] hC rfl rfl (tw_dis _) hk1 hFc hP1 hD1
    exact kx E ce q9 u H1 locs1 hp1 hP2 hD2 hS1 hce hcv hcl
  · obtain ⟨hP1, hD1⟩ := hB
    rw [ht] at hP1
    obtain ⟨hP2, hD2⟩ := va_join (wr := [c0]) hP hD _ [0] hC rfl rfl (tw_dis _) hk1 hFc hP1 hD1
    exact kk r u H1 locs1 hw hP2 hD2 hS1
theorem tw_cast {E : String} (hEX : EX D tys s) (h : Cond.castable E E ∈ xwL) : (Cond.castable E E).before args s = true := va_Nw.use rfl (hEX.2.1 _ h)
/-- an IllegalArgumentException is caught by the first row -/
theorem tw_iae {ce : Cell} {q : Addr} {x : ExceptionTableEntry} {suf : List ExceptionTableEntry} (hown : s.vm.findClass RL = some m.cls) (hbw : ∀ w ∈ bw, w.before args s = true) (hEX : EX D tys s) (ht : c.exceptionTable.toList = x :: suf) (hx : covers x pc = true) (hc : x.catchType = 13) (hcell : H[q]? = some ce) (hv : ce.vm = .none) (hcl : s.vm.findClass sIAE = some ce.cls)
    (kk : W p l e R s m args below meth c H locs cells slots Q (F0 m x.handlerPc ls [.ref q])) : vx_W p l e R s m args below meth c H locs cells slots Q (F0 m pc ls rest) q :=
  vx_catch (own := RL) (name := sIAE) (E := sIAE) hown [] x suf ht (fun z h => nomatch h) hx (by rw [hc]; decide) (by rw [hc]; exact hbw _ m_246) (tw_cast hEX xc_IAE) hcell hv hcl kk
/-- an IllegalStateException is caught by the second row -/
theorem tw_ise {ce : Cell} {q : Addr} {z x : ExceptionTableEntry} {suf : List ExceptionTableEntry} (hown : s.vm.findClass RL = some m.cls) (hbw : ∀ w ∈ bw, w.before args s = true) (hEW : EW D tys s) (ht : c.exceptionTable.toList = z :: x :: suf) (hz : z.catchType = 13) (hx : covers x pc = true) (hc : x.catchType = 15) (hcell : H[q]? = some ce) (hv : ce.vm = .none) (hcl : s.vm.findClass sISE = some ce.cls)
    (kk : W p l e R s m args below meth c H locs cells slots Q (F0 m x.handlerPc ls [.ref q])) : vx_W p l e R s m args below meth c H locs cells slots Q (F0 m pc ls rest) q :=
  vx_catch (own := RL) (name := sISE) (E := sISE) hown [z] x suf ht (fun z' h => by rw [List.mem_singleton.mp h]; exact Or.inr ⟨by rw [hz]; decide, sIAE, by rw [hz]; exact hbw _ m_246, hEW.2⟩) hx (by rw [hc]; decide) (by rw [hc]; exact hbw _ m_247) (tw_cast hEW.1 xc_ISE) hcell hv hcl kk
end TW
theorem tw_up (f : Nat → Int64) (v : Int64) : vp_updL f 0 v 0 = v := by simp [vp_updL]
