/-! contracts: the start of a body, its ends; what every state keeps beside the words; the worlds of the system -/
def ct_Qi (post : Int32 → va_W → Prop) (D : va_G) (cl : List vw_C) (A : Nat → Prop) : Array Value → State → Outcome → State → Prop := va_Qi post (fun w t => va_P D cl w t.heap ∧ va_D A w) A
def ct_Qv (post : va_W → Prop) (D : va_G) (cl : List vw_C) (A : Nat → Prop) : Array Value → State → Outcome → State → Prop := va_Qv post (fun w t => va_P D cl w t.heap ∧ va_D A w) A
theorem ct_ofi {l : Launch} {y : MethodName} {cc : ByteArray} {maxL : Nat} {ret : Option FieldType} {ws' : List Cond} {rm : Room} {EN : State → Prop} {D : va_G} {cl : List vw_C} {ws : va_W} {As : List Value} {post : Int32 → va_W → Prop} {mc ms : Nat} (hy : plainName y.cls = true) (hn : (lg_sl As).length ≤ maxL)
    (body : ∀ (p : Program) (e : Env) (s : State) (m : MethodId) (below : List Frame) (meth : Method) (c : Code) (A : Nat → Prop) (H : Heap) (locs : List Loc) (av : Array Value) (Q : State → Prop) (ls : Array Slot), p.tables.exec = Jvm.exec → c.code = cc → meth.sig.returnType = ret → c.maxLocals = maxL → s.vm.findClass y.cls = some m.cls → meth.locks = false → (meth.name = y.name) → (∀ w ∈ ws', w.before av s = true) → EN s → Q = MQ below (ct_Qi post D cl A) av s mc ms A → va_P D cl ws H → va_D A ws → va_S A s.heap H locs → (∀ q, s.heap.size ≤ q → A q) → lv_has ls maxL (lv_args 0 As) →
      W p l e rm s m av below meth c H locs 0 0 Q (F0 m 0 ls [])) : ct_i l y (.code y cc maxL ret :: ws') rm EN D cl ws As post mc ms := by
  intro sz
  refine Met.ofW (cc := cc) (maxL := maxL) (ret := ret) hy rfl ?_
  intro p e s m args below meth c s₁ B hml hv
  obtain ⟨rfl, hsz, hP, hEN, hD0⟩ := hv
  subst hsz
  rw [lg_entry_eq]
  exact body p e s m below meth c (va_A ws s.heap.size) s.heap [] As.toArray _ _ B.exec B.bytes B.returns hml (findClass_of_methodNamed B.named) B.notSynchronized (name_of_methodNamed B.named B.method).1 (fun w h => atoms_spec (ws := .code y cc maxL ret :: ws') B.pre w (List.mem_cons_of_mem _ h)) hEN rfl hP (hD0.self (sz := s.heap.size)) va_S.rf (fun q h => Or.inr h) (lv_entry As hn)
theorem ct_ofv {l : Launch} {y : MethodName} {cc : ByteArray} {maxL : Nat} {ret : Option FieldType} {ws' : List Cond} {rm : Room} {EN : State → Prop} {D : va_G} {cl : List vw_C} {ws : va_W} {As : List Value} {post : va_W → Prop} {mc ms : Nat} (hy : plainName y.cls = true) (hn : (lg_sl As).length ≤ maxL)
    (body : ∀ (p : Program) (e : Env) (s : State) (m : MethodId) (below : List Frame) (meth : Method) (c : Code) (A : Nat → Prop) (H : Heap) (locs : List Loc) (av : Array Value) (Q : State → Prop) (ls : Array Slot), p.tables.exec = Jvm.exec → c.code = cc → meth.sig.returnType = ret → c.maxLocals = maxL → s.vm.findClass y.cls = some m.cls → meth.locks = false → (meth.name = y.name) → (∀ w ∈ ws', w.before av s = true) → EN s → Q = MQ below (ct_Qv post D cl A) av s mc ms A → va_P D cl ws H → va_D A ws → va_S A s.heap H locs → (∀ q, s.heap.size ≤ q → A q) → lv_has ls maxL (lv_args 0 As) →
      W p l e rm s m av below meth c H locs 0 0 Q (F0 m 0 ls [])) : ct_v l y (.code y cc maxL ret :: ws') rm EN D cl ws As post mc ms := by
  intro sz
  refine Met.ofW (cc := cc) (maxL := maxL) (ret := ret) hy rfl ?_
  intro p e s m args below meth c s₁ B hml hv
  obtain ⟨rfl, hsz, hP, hEN, hD0⟩ := hv
  subst hsz
  rw [lg_entry_eq]
  exact body p e s m below meth c (va_A ws s.heap.size) s.heap [] As.toArray _ _ B.exec B.bytes B.returns hml (findClass_of_methodNamed B.named) B.notSynchronized (name_of_methodNamed B.named B.method).1 (fun w h => atoms_spec (ws := .code y cc maxL ret :: ws') B.pre w (List.mem_cons_of_mem _ h)) hEN rfl hP (hD0.self (sz := s.heap.size)) va_S.rf (fun q h => Or.inr h) (lv_entry As hn)
section CR
variable {p : Program} {l : Launch} {e : Env} {R : Room} {s : State} {m : MethodId} {args : Array Value} {below : List Frame} {meth : Method} {c : Code} {H : Heap} {locs : List Loc} {cells slots : Nat}
variable {cc : ByteArray} {pc : Nat} {ls : Array Slot} {D : va_G} {cl : List vw_C} {A : Nat → Prop} {w : va_W}
theorem ct_iret {post : Int32 → va_W → Prop} {v : Int32} (hx : p.tables.exec = Jvm.exec) (hb : c.code = cc) (hr : meth.sig.returnType = some .int) (hlocks : meth.locks = false) (hP : va_P D cl w H) (hD : va_D A w) (hS : va_S A s.heap H locs) (hd : decode cc pc = .ok (.ireturn, 1)) (hw : post v w) :
    W p l e R s m args below meth c H locs cells slots (MQ below (ct_Qi post D cl A) args s cells slots A) (F0 m pc ls [.int v]) :=
  W.iret hx hb hr (fun t ht hW => ⟨⟨v, w, rfl, hw, by rw [ht]; exact hP, hD⟩, hS.F ht⟩) hS.2.2 hd hlocks
theorem ct_zret {post : Int32 → va_W → Prop} {v : Int32} (hx : p.tables.exec = Jvm.exec) (hb : c.code = cc) (hr : meth.sig.returnType = some .boolean) (hlocks : meth.locks = false) (hP : va_P D cl w H) (hD : va_D A w) (hS : va_S A s.heap H locs) (hd : decode cc pc = .ok (.ireturn, 1)) (hv : v = 0 ∨ v = 1) (hw : post v w) :
    W p l e R s m args below meth c H locs cells slots (MQ below (ct_Qi post D cl A) args s cells slots A) (F0 m pc ls [.int v]) :=
  W.zret hx hb hr (by rcases hv with rfl | rfl <;> rfl) (fun t ht hW => ⟨⟨v, w, rfl, hw, by rw [ht]; exact hP, hD⟩, hS.F ht⟩) hS.2.2 hd hlocks
theorem ct_vret {post : va_W → Prop} (hx : p.tables.exec = Jvm.exec) (hb : c.code = cc) (hr : meth.sig.returnType = none) (hlocks : meth.locks = false) (hP : va_P D cl w H) (hD : va_D A w) (hS : va_S A s.heap H locs) (hd : decode cc pc = .ok (.return_, 1)) (hw : post w) :
    W p l e R s m args below meth c H locs cells slots (MQ below (ct_Qv post D cl A) args s cells slots A) (F0 m pc ls []) :=
  W.vret hx hb hr (fun t ht hW => ⟨⟨w, rfl, hw, by rw [ht]; exact hP, hD⟩, hS.F ht⟩) hS.2.2 hd hlocks
end CR
def isNest : Cond → Bool
  | .fieldLinkNest .. => true
  | _ => false
/-- the words on fields of nest mates -/
def nwL : List Cond := tables_1.filter isNest
/-- what every state keeps: the classes of the cells, the words on nest mates -/
def EN (D : va_G) (tys : List (ClassId × FieldType)) : State → Prop := fun U => va_K D vwCl tys U ∧ ∀ w ∈ nwL, va_Nw w U
theorem EN_E (D : va_G) (tys : List (ClassId × FieldType)) : ct_E (EN D tys) := by
  refine ⟨fun s U hW h => ⟨va_K.moved hW.alike h.1, fun w hw => ?_⟩, fun u U he h => ⟨?_, fun w hw => ?_⟩⟩
  · have h1 := (List.mem_filter.mp hw).2
    have h2 := h.2 w hw
    cases w with
    | fieldLinkNest a i b n d hh => exact va_Nw.warmF hW h2
    | _ => cases h1
  · refine va_K.moved (u := u) (U := U) ?_ h.1
    rw [he]
    exact Vm.Alike.refl U.vm
  · have h1 := (List.mem_filter.mp hw).2
    have h2 := h.2 w hw
    refine va_Nw.same ?_ he h2
    cases w with
    | fieldLinkNest a i b n d hh => rfl
    | _ => cases h1
abbrev iA (q : Nat) (cI : ClassId) (n : Nat) (g : Nat → Nat) : Nat × va_E := (q, .inl (cI, n, .inl (fun j => nI (g j))))
/-- the trays -/
def pT (q : Nat → Nat) (cI : ClassId) (n : Nat) (a b le ro di : Nat → Nat) : va_W := [(q 1, .inr (3, [.int (nI n), .ref (q 2), .ref (q 3), .ref (q 4), .ref (q 5), .ref (q 6)])), iA (q 2) cI 15 a, iA (q 3) cI 15 b, iA (q 4) cI 15 le, iA (q 5) cI 15 ro, iA (q 6) cI 10 di]
/-- the sizes -/
def pS (q : Nat → Nat) (cI : ClassId) (n : Nat) (ar rt oh : Nat → Nat) : va_W := [(q 7, .inr (1, [.int (nI n), .ref (q 8), .ref (q 9), .ref (q 10)])), iA (q 8) cI 6 ar, iA (q 9) cI 6 rt, iA (q 10) cI 6 oh]
/-- the cables, but for the rows of their ways -/
def pC (q r : Nat → Nat) (cI cG : ClassId) (n : Nat) (no ot cu wc wl : Nat → Nat) : va_W := [(q 11, .inr (0, [.int (nI n), .ref (q 12), .ref (q 13), .ref (q 14), .ref (q 15), .ref (q 16), .ref (q 17)])), iA (q 12) cI 20 no, iA (q 13) cI 20 ot, iA (q 14) cI 20 cu, iA (q 15) cI 20 wc, iA (q 16) cI 20 wl, (q 17, .inl (cG, 20, .inr (.inr (.inr (.inr (fun i => if i < 20 then some (r i) else none))))))]
/-- the rows of the ways -/
def pR (r : Nat → Nat) (cI : ClassId) (wt : Nat → Nat → Nat) : va_W := (List.range 20).map (fun i => iA (r i) cI 9 (wt i))
/-- a sizing -/
def pZ (z0 z1 z2 : Nat) (q : Nat → Nat) (cI : ClassId) (pk fi : Nat → Nat) : va_W := [(z0, .inr (2, [.ref (q 1), .ref (q 7), .ref (q 11), .ref z1, .ref z2])), iA z1 cI 20 pk, iA z2 cI 15 fi]
/-- the class ids of arrays: int[], int[][], long[], boolean[] -/
abbrev tyL (cI cG cL cB : ClassId) : List (ClassId × FieldType) := [(cI, .int), (cG, .array .int), (cL, .long), (cB, .boolean)]
