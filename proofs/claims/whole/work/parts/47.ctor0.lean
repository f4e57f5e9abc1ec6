/-! constructors: new arrays, calls of <init>, the grid of rows -/
theorem va_AOA.moved {ty : FieldType} {u U : State} (hvm : u.vm.Alike U.vm) (h : va_AOA ty u) : va_AOA ty U := over_moved hvm h
/-- what every state keeps, and the class of arrays of int[] -/
def EM (D : va_G) (tys : List (ClassId × FieldType)) : State → Prop := fun U => EN D tys U ∧ va_AOA .int U
theorem EM_E (D : va_G) (tys : List (ClassId × FieldType)) : ct_E (EM D tys) := by
  refine ⟨fun s U hW h => ⟨(EN_E D tys).1 s U hW h.1, h.2.moved hW.alike⟩, fun u U he h => ⟨(EN_E D tys).2 u U he h.1, h.2.moved (by rw [he]; exact Vm.Alike.refl U.vm)⟩⟩
section NW
variable {p : Program} {l : Launch} {e : Env} {R : Room} {s : State} {m : MethodId} {args : Array Value} {below : List Frame} {meth : Method} {c : Code} {H : Heap} {locs : List Loc} {cells slots : Nat} {Q : State → Prop}
variable {cc : ByteArray} {pc : Nat} {ls : Array Slot} {rest st0 : List Value} {D : va_G} {cl : List vw_C} {A : Nat → Prop} {tys : List (ClassId × FieldType)} {ws wc wr : va_W} {H0 : Heap} {mc ms : Nat}
theorem nr_newa (hx : p.tables.exec = Jvm.exec) (hb : c.code = cc) (harr : (Cond.arrayClass .int).before args s = true) (hK : va_K D cl tys s) (hP : va_P D cl ws H) (hD : va_D A ws) (hS : va_S A H0 H locs) (hA : ∀ q, H0.size ≤ q → A q) (t0 : Nat) {cI : ClassId} (ht : tys[t0]? = some (cI, .int)) {n : Nat} (hn : n ≤ 1000) (hcells : cells + 1 ≤ R.cells) (hslots : slots + n ≤ R.slots) (hd : decode cc pc = .ok (.newarray .int, 2))
    (kk : ∀ (q : Nat) (H : Heap), va_P D cl (ws ++ [iA q cI n (fun _ => 0)]) H → va_D A (ws ++ [iA q cI n (fun _ => 0)]) → va_S A H0 H locs → W p l e R s m args below meth c H locs (cells + 1) (slots + n) Q (F0 m (pc + 2) ls (.ref q :: rest))) : W p l e R s m args below meth c H locs cells slots Q (F0 m pc ls (.int (nI n) :: rest)) := by
  refine va_newa (atype := .int) (ty := .int) (a0 := (n, .inl (fun _ => nI 0))) (N' := n) hx hb harr rfl hK hP hD hS hA (fun cA => rfl) (nI_pos (by omega)) (nI_clamp (by omega)) (by show n * 4 ≤ _; omega) hcells hslots hd (fun q cA H1 hK1 hP1 hD1 hS1 => ?_)
  have h1 : s.vm.findClass ("[" ++ FieldType.int.toString) = some cA := (hK1.2 tys.length (cA, .int) (by simp)).2
  have h2 : s.vm.findClass ("[" ++ FieldType.int.toString) = some cI := (hK.2 t0 _ ht).2
  have h3 : cA = cI := Option.some.inj (h1.symm.trans h2)
  subst h3
  exact kk q H1 hP1 hD1 hS1
theorem nr_newz (hx : p.tables.exec = Jvm.exec) (hb : c.code = cc) (harr : (Cond.arrayClass .boolean).before args s = true) (hK : va_K D cl tys s) (hP : va_P D cl ws H) (hD : va_D A ws) (hS : va_S A H0 H locs) (hA : ∀ q, H0.size ≤ q → A q) (t0 : Nat) {cI : ClassId} (ht : tys[t0]? = some (cI, .boolean)) {n : Nat} (hn : n ≤ 1000) (hcells : cells + 1 ≤ R.cells) (hslots : slots + n ≤ R.slots) (hd : decode cc pc = .ok (.newarray .boolean, 2))
    (kk : ∀ (q : Nat) (H : Heap), va_P D cl (ws ++ [iA q cI n (fun _ => 0)]) H → va_D A (ws ++ [iA q cI n (fun _ => 0)]) → va_S A H0 H locs → W p l e R s m args below meth c H locs (cells + 1) (slots + n) Q (F0 m (pc + 2) ls (.ref q :: rest))) : W p l e R s m args below meth c H locs cells slots Q (F0 m pc ls (.int (nI n) :: rest)) := by
  refine va_newa (atype := .boolean) (ty := .boolean) (a0 := (n, .inl (fun _ => nI 0))) (N' := n) hx hb harr rfl hK hP hD hS hA (fun cA => rfl) (nI_pos (by omega)) (nI_clamp (by omega)) (by show n * 1 ≤ _; omega) hcells hslots hd (fun q cA H1 hK1 hP1 hD1 hS1 => ?_)
  have h1 : s.vm.findClass ("[" ++ FieldType.boolean.toString) = some cA := (hK1.2 tys.length (cA, .boolean) (by simp)).2
  have h2 : s.vm.findClass ("[" ++ FieldType.boolean.toString) = some cI := (hK.2 t0 _ ht).2
  have h3 : cA = cI := Option.some.inj (h1.symm.trans h2)
  subst h3
  exact kk q H1 hP1 hD1 hS1
abbrev lA (q : Nat) (cL : ClassId) (f : Nat → Int64) : Nat × va_E := (q, .inl (cL, 1, .inr (.inl f)))
theorem nr_newl (hx : p.tables.exec = Jvm.exec) (hb : c.code = cc) (harr : (Cond.arrayClass .long).before args s = true) (hK : va_K D cl tys s) (hP : va_P D cl ws H) (hD : va_D A ws) (hS : va_S A H0 H locs) (hA : ∀ q, H0.size ≤ q → A q) (t0 : Nat) {cL : ClassId} (ht : tys[t0]? = some (cL, .long)) (hcells : cells + 1 ≤ R.cells) (hslots : slots + 1 ≤ R.slots) (hd : decode cc pc = .ok (.newarray .long, 2))
    (kk : ∀ (q : Nat) (H : Heap), va_P D cl (ws ++ [lA q cL (fun _ => 0)]) H → va_D A (ws ++ [lA q cL (fun _ => 0)]) → va_S A H0 H locs → W p l e R s m args below meth c H locs (cells + 1) (slots + 1) Q (F0 m (pc + 2) ls (.ref q :: rest))) : W p l e R s m args below meth c H locs cells slots Q (F0 m pc ls (.int (nI 1) :: rest)) := by
  refine va_newa (atype := .long) (ty := .long) (a0 := (1, .inr (.inl (fun _ => 0)))) (N' := 1) hx hb harr rfl hK hP hD hS hA (fun cA => rfl) (nI_pos (by omega)) (nI_clamp (by omega)) (by decide) hcells hslots hd (fun q cA H1 hK1 hP1 hD1 hS1 => ?_)
  have h1 : s.vm.findClass ("[" ++ FieldType.long.toString) = some cA := (hK1.2 tys.length (cA, .long) (by simp)).2
  have h2 : s.vm.findClass ("[" ++ FieldType.long.toString) = some cL := (hK.2 t0 _ ht).2
  have h3 : cA = cL := Option.some.inj (h1.symm.trans h2)
  subst h3
  exact kk q H1 hP1 hD1 hS1
theorem pR_new (r : Nat → Nat) (cI : ClassId) (f : Nat → va_E) : va_pl ([] ++ (List.range 20).map r) (vr_up f ((List.range 20).map r) (.inl (cI, (9, .inl (fun _ => nI 0))))) = pR r cI (fun _ _ => 0) := by
  unfold va_pl pR
  rw [List.nil_append, List.map_map]
  refine List.map_congr_left (fun i hi => ?_)
  show (r i, vr_up f _ _ (r i)) = _
  rw [vr_up_in (List.mem_map.mpr ⟨i, hi, rfl⟩)]
/-- new int[20][9] -/
theorem nr_grid (hx : p.tables.exec = Jvm.exec) (hb : c.code = cc) {own : String} {index : Nat} (hown : s.vm.findClass own = some m.cls) (hclink : (Cond.classLink own index "[[I").before args s = true) (hover : va_AOA .int s) (harr : (Cond.arrayClass .int).before args s = true) {cI cG cL cB : ClassId} (hK : va_K D cl (tyL cI cG cL cB) s) (hP : va_P D cl ws H) (hD : va_D A ws) (hS : va_S A H0 H locs) (hA : ∀ q, H0.size ≤ q → A q) (hcells : cells + 21 ≤ R.cells) (hslots : slots + 200 ≤ R.slots) (hd : decode cc pc = .ok (.multianewarray index 2, 4))
    (kk : ∀ (q : Nat) (r : Nat → Nat) (H : Heap), va_P D cl (ws ++ [(q, .inl (cG, 20, .inr (.inr (.inr (.inr (fun i => if i < 20 then some (r i) else none))))))] ++ pR r cI (fun _ _ => 0)) H → va_D A (ws ++ [(q, .inl (cG, 20, .inr (.inr (.inr (.inr (fun i => if i < 20 then some (r i) else none))))))] ++ pR r cI (fun _ _ => 0)) → va_S A H0 H locs → W p l e R s m args below meth c H locs (cells + 21) (slots + 200) Q (F0 m (pc + 4) ls (.ref q :: rest))) : W p l e R s m args below meth c H locs cells slots Q (F0 m pc ls (.int (nI 9) :: .int (nI 20) :: rest)) := by
  have e1 : "[" ++ (FieldType.array .int).toString = "[[I" := by decide +kernel
  have e2 : (FieldType.array .int).toString = "[" ++ FieldType.int.toString := by decide +kernel
  have hcI : s.vm.findClass (FieldType.array .int).toString = some cI := by rw [e2]; exact (hK.2 0 _ rfl).2
  have hclink : (Cond.classLink own index ("[" ++ (FieldType.array .int).toString)).before args s = true := by rw [e1]; exact hclink
  have e0 : ws ++ va_pl [] (fun _ => .inr (0, [])) = ws := List.append_nil ws
  refine va_mna (ty := .int) (cy := cI) (X := ws) (L := []) (f := fun _ => .inr (0, [])) (N' := 20) (K' := 9) (z := (9, .inl (fun _ => nI 0))) hx hb hown hclink hover harr hcI hK (by rw [e0]; exact hP) (by rw [e0]; exact hD) hS hA (nI_pos (by omega)) (nI_pos (by omega)) (nI_clamp (by omega)) (nI_clamp (by omega)) (by decide) (by decide) (by decide) rfl rfl (by omega) (by omega) (fun c9 => by show Jvm.Free.Multi.innerC c9 9 (.int 0) = arrV c9 9 (fun _ => .int 0); rw [← arrV_new]; rfl) hd (fun q r cA H1 _ _ hK1 hP1 hD1 hS1 => ?_)
  have h1 : s.vm.findClass ("[" ++ (FieldType.array .int).toString) = some cA := (hK1.2 4 (cA, .array .int) rfl).2
  have h2 : s.vm.findClass ("[" ++ (FieldType.array .int).toString) = some cG := (hK.2 1 _ rfl).2
  have h3 : cA = cG := Option.some.inj (h1.symm.trans h2)
  subst h3
  rw [pR_new] at hP1 hD1
  rw [show cells + 1 + 20 = cells + 21 by omega, show slots + 20 + 20 * 9 = slots + 200 by omega]
  exact kk q r H1 hP1 hD1 hS1
variable {EN : State → Prop} {y : MethodName} {bytes : ByteArray} {maxL nL n index : Nat} {wy Ts : List Cond} {rm : Room} {own : String} {b : Addr} {As : List Value}
theorem ct_Iv {post : va_W → Prop} (S : CallFix p m c cc nL s args Ts own) (hE : ct_E EN) (hEN : EN s) (hM : ct_v l y wy rm EN D cl wc (.ref b :: As) post mc ms) (cw : CallB R s args own index y bytes maxL none wy rm mc ms n ∧ y.name = "<init>" ∧ (Cond.instanceMethod y).before args s = true)
    (hP : va_P D cl ws H) (hD : va_D A ws) (hS : va_S A H0 H locs) (hA : ∀ q, H0.size ≤ q → A q) (isC isR : List Nat) (hC : isC.map (fun i => ws[i]?) = wc.map some) (hR : isR.map (fun i => ws[i]?) = wr.map some) (hnC : va_nd isC = true) (hn : va_nd isR = true) (hdis : ∀ i ∈ isR, i ∉ isC)
    (hl : As.length = n) (hsz : ls.size = nL) (hst : st0 = As.reverse ++ .ref b :: rest) (hW : (rest.map fun v => v.category).sum ≤ 8) (hdg : decode cc pc = .ok (.invokespecial index, 3)) (hf : cells + mc ≤ R.cells ∧ slots + ms ≤ R.slots)
    (kk : ∀ (w1 : va_W) (H : Heap) (locs : List Loc), post w1 → va_P D cl (wr ++ w1) H → va_D A (wr ++ w1) → va_S A H0 H locs → W p l e R s m args below meth c H locs (cells + mc) (slots + ms) Q (F0 m (pc + 3) ls rest)) : W p l e R s m args below meth c H locs cells slots Q (F0 m pc ls st0) :=
  ct_backv (va_runI S (hM H.size) cw ⟨ct_blind hE, ct_pre hE hEN hP hD hC hnC⟩ rfl hl hsz hst (lv_room hW) hdg hf) hP hD hS hA hC hR hn hdis kk
end NW
