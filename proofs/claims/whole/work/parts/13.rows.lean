/-! words of calls; the rows of the ways -/
theorem gV {own : String} {idx : Nat} {C : String} {y : MethodName} {cc : ByteArray} {maxL : Nat} {ret : Option FieldType} (m1 : Cond.methodLink own idx y ∈ bw) (m2 : Cond.instanceMethod y ∈ bw) (m3 : Cond.selects C y y ∈ bw) (m4 : Cond.initialized C ∈ bw) (m5 : Cond.code y cc maxL ret ∈ bw) : GoodIn bw (wsV own idx C y (.code y cc maxL ret :: bw)) := by
  have key : ∀ w ∈ wsV own idx C y (.code y cc maxL ret :: bw), w ∈ bw := by
    intro w hw
    unfold wsV at hw
    simp only [List.cons_append, List.nil_append, List.mem_cons] at hw
    rcases hw with rfl | rfl | rfl | rfl | rfl | hw
    · exact m1
    · exact m2
    · exact m3
    · exact m4
    · exact m5
    · exact hw
  exact fun w hw => ⟨key w hw, good_of_word (bw_good w (key w hw))⟩
theorem gB {y : MethodName} {cc : ByteArray} {maxL : Nat} {ret : Option FieldType} (m5 : Cond.code y cc maxL ret ∈ bw) : GoodIn bw (.code y cc maxL ret :: bw) := by
  have key : ∀ w ∈ (Cond.code y cc maxL ret :: bw), w ∈ bw := by
    intro w hw
    rcases List.mem_cons.mp hw with rfl | hw
    · exact m5
    · exact hw
  exact fun w hw => ⟨key w hw, good_of_word (bw_good w (key w hw))⟩
theorem gS {R : Room} {s : State} {args : Array Value} {own : String} {index : Nat} {y : MethodName} {bytes : ByteArray} {maxL : Nat} {ret : Option FieldType} {rm : Room} {mc ms : Nat} (n : Nat) (ht : ∀ w ∈ bw, w.before args s = true) (m1 : Cond.methodLink own index y ∈ bw) (m2 : Cond.static y ∈ bw) (m3 : Cond.initialized y.cls ∈ bw) (m5 : Cond.code y bytes maxL ret ∈ bw) (hrc : rm.cells = mc) (hrs : rm.slots = ms)
    (hd : y.cls ≠ "java/lang/invoke/MethodHandle" ∧ y.cls ≠ "java/lang/invoke/VarHandle" ∧ (parseMethodDescriptor y.desc).map (fun d => d.parameters.length) = some n) (hR : rm.frames + 1 ≤ R.frames ∧ 8 + (maxL + 11) + rm.locals ≤ R.locals) :
    CallB R s args own index y bytes maxL ret (.code y bytes maxL ret :: bw) rm mc ms n ∧ (Cond.static y).before args s = true :=
  ⟨callB_of n ht (gB m5) rfl hrc hrs (ht _ m3) (ht _ m1) hd hR, ht _ m2⟩
def pR_up (wt : Nat → Nat → Nat) (i : Nat) (f : Nat → Nat) : Nat → Nat → Nat := fun k => if k = i then f else wt k
theorem pR_at {X : va_W} {r : Nat → Nat} {cI : ClassId} {wt : Nat → Nat → Nat} {i n : Nat} (hX : X.length = n) (hi : i < 20) : (X ++ pR r cI wt)[n + i]? = some (iA (r i) cI 9 (wt i)) := by
  subst hX
  rw [List.getElem?_append_right (by omega), Nat.add_sub_cancel_left]
  unfold pR
  rw [List.getElem?_map, List.getElem?_range hi]
  rfl
theorem pR_set {X : va_W} {r : Nat → Nat} {cI : ClassId} {wt : Nat → Nat → Nat} {i n : Nat} {f : Nat → Nat} (hX : X.length = n) (hi : i < 20) : (X ++ pR r cI wt).set (n + i) (iA (r i) cI 9 f) = X ++ pR r cI (pR_up wt i f) := by
  subst hX
  rw [List.set_append_right _ _ (by omega), Nat.add_sub_cancel_left]
  congr 1
  unfold pR
  apply List.ext_getElem?
  intro k
  by_cases hk : k = i
  · subst hk
    rw [List.getElem?_set_self (by simp; exact hi), List.getElem?_map, List.getElem?_range hi]
    simp [pR_up]
  · rw [List.getElem?_set_ne (Ne.symm hk), List.getElem?_map, List.getElem?_map]
    by_cases h20 : k < 20
    · rw [List.getElem?_range h20]
      simp [pR_up, hk]
    · rw [List.getElem?_eq_none (by simp; omega)]
      rfl
section GR
variable {p : Program} {l : Launch} {e : Env} {R : Room} {s : State} {m : MethodId} {args : Array Value} {below : List Frame} {meth : Method} {c : Code} {H : Heap} {locs : List Loc} {cells slots : Nat} {Q : State → Prop}
variable {cc : ByteArray} {pc : Nat} {ls : Array Slot} {rest : List Value} {D : va_G} {cl : List vw_C} {A : Nat → Prop} {a : Nat} {tys : List (ClassId × FieldType)} {ws X : va_W} {H0 : Heap}
theorem gr_aldn (hx : p.tables.exec = Jvm.exec) (hb : c.code = cc) (hK : va_K D cl tys s) (hP : va_P D cl ws H) (q0 t0 : Nat) {cA : ClassId} {n : Nat} {f : Nat → Option Nat} (ha : ws[q0]? = some (a, .inl (cA, n, .inr (.inr (.inr (.inr f)))))) (ht : tys[t0]? = some (cA, .array .int)) {k : Nat} (hk : k < n) (hn : n < 2 ^ 31) (hd : decode cc pc = .ok (.aaload, 1))
    (kk : W p l e R s m args below meth c H locs cells slots Q (F0 m (pc + 1) ls (va_rf (f k) :: rest))) : W p l e R s m args below meth c H locs cells slots Q (F0 m pc ls (.int (nI k) :: .ref a :: rest)) := by
  have hin : vp_in (nI k) n := vp_in_nI hk hn
  have hlt : (nI k).toNatClampNeg < n := Nat.not_le.mp fun q => hin (Or.inr q)
  exact W.aald (v := va_rf (f k)) (ty := .array .int) hx hb (hP q0 _ ha) ((hK.2 t0 _ ht).1 n (fun j => va_rf (f j))) rfl (fun q => by cases q) (by show ¬ (nI k < 0 ∨ (arrV _ _ _).slots.size ≤ _); rw [arrV_size]; exact hin) (by show (arrV _ _ _).slots[_]? = _; rw [arrV_read _ _ hlt, nI_clamp (by omega)]) rfl rfl hd kk
theorem gr_ald (hx : p.tables.exec = Jvm.exec) (hb : c.code = cc) (hK : va_K D cl tys s) (hP : va_P D cl ws H) (q0 t0 : Nat) {cA : ClassId} {r : Nat → Nat} (ha : ws[q0]? = some (a, .inl (cA, 20, .inr (.inr (.inr (.inr (fun i => if i < 20 then some (r i) else none))))))) (ht : tys[t0]? = some (cA, .array .int)) {k : Nat} (hk : k < 20) (hd : decode cc pc = .ok (.aaload, 1))
    (kk : W p l e R s m args below meth c H locs cells slots Q (F0 m (pc + 1) ls (.ref (r k) :: rest))) : W p l e R s m args below meth c H locs cells slots Q (F0 m pc ls (.int (nI k) :: .ref a :: rest)) := by
  refine gr_aldn hx hb hK hP q0 t0 ha ht hk (by decide) hd ?_
  rw [if_pos hk]
  exact kk
theorem gr_iald (hx : p.tables.exec = Jvm.exec) (hb : c.code = cc) (hK : va_K D cl tys s) {r : Nat → Nat} {cI : ClassId} {wt : Nat → Nat → Nat} (hP : va_P D cl (X ++ pR r cI wt) H) (t0 : Nat) (ht : tys[t0]? = some (cI, .int)) {i k : Nat} (hi : i < 20) (hk : k < 9) (hd : decode cc pc = .ok (.iaload, 1))
    (kk : W p l e R s m args below meth c H locs cells slots Q (F0 m (pc + 1) ls (.int (nI (wt i k)) :: rest))) : W p l e R s m args below meth c H locs cells slots Q (F0 m pc ls (.int (nI k) :: .ref (r i) :: rest)) :=
  nr_iald hx hb hK hP (X.length + i) t0 (pR_at rfl hi) ht hk (by decide) hd kk
theorem gr_iast (hx : p.tables.exec = Jvm.exec) (hb : c.code = cc) (hK : va_K D cl tys s) {r : Nat → Nat} {cI : ClassId} {wt : Nat → Nat → Nat} (hP : va_P D cl (X ++ pR r cI wt) H) (hD : va_D A (X ++ pR r cI wt)) (hS : va_S A H0 H locs) (t0 : Nat) (ht : tys[t0]? = some (cI, .int)) {i k v : Nat} (hi : i < 20) (hk : k < 9) (hd : decode cc pc = .ok (.iastore, 1))
    (kk : ∀ (H : Heap) (locs : List Loc), va_P D cl (X ++ pR r cI (pR_up wt i (nr_up (wt i) k v))) H → va_D A (X ++ pR r cI (pR_up wt i (nr_up (wt i) k v))) → va_S A H0 H locs → W p l e R s m args below meth c H locs cells slots Q (F0 m (pc + 1) ls rest)) : W p l e R s m args below meth c H locs cells slots Q (F0 m pc ls (.int (nI v) :: .int (nI k) :: .ref (r i) :: rest)) := by
  refine nr_iast hx hb hK hP hD hS (X.length + i) t0 (pR_at rfl hi) ht hk (by decide) hd (fun H1 locs1 h1 h2 h3 => ?_)
  have e := pR_set (X := X) (r := r) (cI := cI) (wt := wt) (f := nr_up (wt i) k v) rfl hi
  unfold iA at e
  rw [e] at h1 h2
  exact kk H1 locs1 h1 h2 h3
end GR
