section
/-- a private method of a class that the tables say can be made, by its rows of tables_1 -/
def lw_okq (q : MethodName × Nat) : Prop := (q.1.cls ≠ "java/lang/invoke/MethodHandle" ∧ q.1.cls ≠ "java/lang/invoke/VarHandle") ∧ Cond.instantiable q.1.cls q.2 ∈ tables_1 ∧ Cond.privateMethod q.1 ∈ tables_1 ∧ Cond.instanceMethod q.1 ∈ tables_1
theorem lw_p0 : lw_okq (⟨"CableSizes", "findLeast", "()V"⟩, 8) := ⟨⟨by decide +kernel, by decide +kernel⟩, List.mem_of_getElem? (i := 15) (by decide +kernel), List.mem_of_getElem? (i := 173) (by decide +kernel), List.mem_of_getElem? (i := 174) (by decide +kernel)⟩
theorem lw_p1 : lw_okq (⟨"CableSizes$Sizing", "isRightAt", "(II)Z"⟩, 5) := ⟨⟨by decide +kernel, by decide +kernel⟩, List.mem_of_getElem? (i := 119) (by decide +kernel), List.mem_of_getElem? (i := 192) (by decide +kernel), List.mem_of_getElem? (i := 193) (by decide +kernel)⟩
theorem lw_p2 : lw_okq (⟨"CableSizes$Sizing", "raiseWrongOnes", "(I)Z"⟩, 5) := ⟨⟨by decide +kernel, by decide +kernel⟩, List.mem_of_getElem? (i := 119) (by decide +kernel), List.mem_of_getElem? (i := 215) (by decide +kernel), List.mem_of_getElem? (i := 216) (by decide +kernel)⟩
theorem lw_p3 : lw_okq (⟨"java/lang/Throwable", "fillInStackTrace", "(I)Ljava/lang/Throwable;"⟩, 6) := ⟨⟨by decide +kernel, by decide +kernel⟩, List.mem_of_getElem? (i := 279) (by decide +kernel), List.mem_of_getElem? (i := 277) (by decide +kernel), List.mem_of_getElem? (i := 278) (by decide +kernel)⟩
theorem lw_p4 : lw_okq (⟨"CableSizes$Trays", "shorten", "(III)Z"⟩, 6) := ⟨⟨by decide +kernel, by decide +kernel⟩, List.mem_of_getElem? (i := 23) (by decide +kernel), List.mem_of_getElem? (i := 340) (by decide +kernel), List.mem_of_getElem? (i := 341) (by decide +kernel)⟩
theorem lw_p5 : lw_okq (⟨"CableSizesModel", "noCable", "(I)Z"⟩, 19) := ⟨⟨by decide +kernel, by decide +kernel⟩, List.mem_of_getElem? (i := 465) (by decide +kernel), List.mem_of_getElem? (i := 559) (by decide +kernel), List.mem_of_getElem? (i := 560) (by decide +kernel)⟩
theorem lw_p6 : lw_okq (⟨"CableSizesModel", "noTray", "(I)Z"⟩, 19) := ⟨⟨by decide +kernel, by decide +kernel⟩, List.mem_of_getElem? (i := 465) (by decide +kernel), List.mem_of_getElem? (i := 567) (by decide +kernel), List.mem_of_getElem? (i := 568) (by decide +kernel)⟩
theorem lw_p7 : lw_okq (⟨"CableSizesModel", "goAll", "()V"⟩, 19) := ⟨⟨by decide +kernel, by decide +kernel⟩, List.mem_of_getElem? (i := 465) (by decide +kernel), List.mem_of_getElem? (i := 580) (by decide +kernel), List.mem_of_getElem? (i := 581) (by decide +kernel)⟩
theorem lw_p8 : lw_okq (⟨"CableSizesModel", "measure", "(I)V"⟩, 19) := ⟨⟨by decide +kernel, by decide +kernel⟩, List.mem_of_getElem? (i := 465) (by decide +kernel), List.mem_of_getElem? (i := 584) (by decide +kernel), List.mem_of_getElem? (i := 585) (by decide +kernel)⟩
theorem lw_p9 : lw_okq (⟨"CableSizesModel", "behind", "(II)I"⟩, 19) := ⟨⟨by decide +kernel, by decide +kernel⟩, List.mem_of_getElem? (i := 465) (by decide +kernel), List.mem_of_getElem? (i := 589) (by decide +kernel), List.mem_of_getElem? (i := 590) (by decide +kernel)⟩
theorem lw_p10 : lw_okq (⟨"CableSizesModel", "choose", "()Z"⟩, 19) := ⟨⟨by decide +kernel, by decide +kernel⟩, List.mem_of_getElem? (i := 465) (by decide +kernel), List.mem_of_getElem? (i := 601) (by decide +kernel), List.mem_of_getElem? (i := 602) (by decide +kernel)⟩
theorem lw_p11 : lw_okq (⟨"CableSizesModel", "isRight", "(I)Z"⟩, 19) := ⟨⟨by decide +kernel, by decide +kernel⟩, List.mem_of_getElem? (i := 465) (by decide +kernel), List.mem_of_getElem? (i := 605) (by decide +kernel), List.mem_of_getElem? (i := 606) (by decide +kernel)⟩
theorem lw_p12 : lw_okq (⟨"CableSizesModel", "carries", "(I)I"⟩, 19) := ⟨⟨by decide +kernel, by decide +kernel⟩, List.mem_of_getElem? (i := 465) (by decide +kernel), List.mem_of_getElem? (i := 609) (by decide +kernel), List.mem_of_getElem? (i := 610) (by decide +kernel)⟩
theorem lw_p13 : lw_okq (⟨"CableSizesModel", "factor", "(I)I"⟩, 19) := ⟨⟨by decide +kernel, by decide +kernel⟩, List.mem_of_getElem? (i := 465) (by decide +kernel), List.mem_of_getElem? (i := 613) (by decide +kernel), List.mem_of_getElem? (i := 614) (by decide +kernel)⟩
theorem lw_p14 : lw_okq (⟨"CableSizesModel", "fill", "(I)I"⟩, 19) := ⟨⟨by decide +kernel, by decide +kernel⟩, List.mem_of_getElem? (i := 465) (by decide +kernel), List.mem_of_getElem? (i := 617) (by decide +kernel), List.mem_of_getElem? (i := 618) (by decide +kernel)⟩
theorem lw_p15 : lw_okq (⟨"CableSizesModel", "isOn", "(II)Z"⟩, 19) := ⟨⟨by decide +kernel, by decide +kernel⟩, List.mem_of_getElem? (i := 465) (by decide +kernel), List.mem_of_getElem? (i := 621) (by decide +kernel), List.mem_of_getElem? (i := 622) (by decide +kernel)⟩
def lw_privs_1 : List (MethodName × Nat) := [(⟨"CableSizes", "findLeast", "()V"⟩, 8), (⟨"CableSizes$Sizing", "isRightAt", "(II)Z"⟩, 5), (⟨"CableSizes$Sizing", "raiseWrongOnes", "(I)Z"⟩, 5), (⟨"java/lang/Throwable", "fillInStackTrace", "(I)Ljava/lang/Throwable;"⟩, 6), (⟨"CableSizes$Trays", "shorten", "(III)Z"⟩, 6), (⟨"CableSizesModel", "noCable", "(I)Z"⟩, 19), (⟨"CableSizesModel", "noTray", "(I)Z"⟩, 19), (⟨"CableSizesModel", "goAll", "()V"⟩, 19), (⟨"CableSizesModel", "measure", "(I)V"⟩, 19), (⟨"CableSizesModel", "behind", "(II)I"⟩, 19), (⟨"CableSizesModel", "choose", "()Z"⟩, 19), (⟨"CableSizesModel", "isRight", "(I)Z"⟩, 19), (⟨"CableSizesModel", "carries", "(I)I"⟩, 19), (⟨"CableSizesModel", "factor", "(I)I"⟩, 19), (⟨"CableSizesModel", "fill", "(I)I"⟩, 19), (⟨"CableSizesModel", "isOn", "(II)Z"⟩, 19)]
theorem lw_r1 : ∀ q ∈ lw_privs_1, lw_okq q := List.forall_mem_cons.mpr ⟨lw_p0, List.forall_mem_cons.mpr ⟨lw_p1, List.forall_mem_cons.mpr ⟨lw_p2, List.forall_mem_cons.mpr ⟨lw_p3, List.forall_mem_cons.mpr ⟨lw_p4, List.forall_mem_cons.mpr ⟨lw_p5, List.forall_mem_cons.mpr ⟨lw_p6, List.forall_mem_cons.mpr ⟨lw_p7, List.forall_mem_cons.mpr ⟨lw_p8, List.forall_mem_cons.mpr ⟨lw_p9, List.forall_mem_cons.mpr ⟨lw_p10, List.forall_mem_cons.mpr ⟨lw_p11, List.forall_mem_cons.mpr ⟨lw_p12, List.forall_mem_cons.mpr ⟨lw_p13, List.forall_mem_cons.mpr ⟨lw_p14, List.forall_mem_cons.mpr ⟨lw_p15, fun _ h => absurd h List.not_mem_nil⟩⟩⟩⟩⟩⟩⟩⟩⟩⟩⟩⟩⟩⟩⟩⟩
theorem lw_p16 : lw_okq (⟨"CableSizesModel", "drop", "(I)I"⟩, 19) := ⟨⟨by decide +kernel, by decide +kernel⟩, List.mem_of_getElem? (i := 465) (by decide +kernel), List.mem_of_getElem? (i := 625) (by decide +kernel), List.mem_of_getElem? (i := 626) (by decide +kernel)⟩
def lw_privs_2 : List (MethodName × Nat) := [(⟨"CableSizesModel", "drop", "(I)I"⟩, 19)]
theorem lw_r2 : ∀ q ∈ lw_privs_2, lw_okq q := List.forall_mem_cons.mpr ⟨lw_p16, fun _ h => absurd h List.not_mem_nil⟩
def lw_privs : List (MethodName × Nat) := lw_privs_1 ++ (lw_privs_2)
def lw_tbl : List Cond := k2_sels lw_privs ++ tables_1
theorem lw_privs_ok : ∀ q ∈ lw_privs, lw_okq q := by
  show ∀ q ∈ lw_privs_1 ++ (lw_privs_2), lw_okq q
  exact List.forall_mem_append.mpr ⟨lw_r1, lw_r2⟩
def va_AOA (ty : FieldType) (U : State) : Prop := (Cond.arrayOver (.array ty)).before #[] U = true
theorem va_AOA.use {ty : FieldType} {A : Array Value} {U : State} (h : va_AOA ty U) : (Cond.arrayOver (.array ty)).before A U = true := h
/-! ===== BEGIN words of one list among another's, by their places ===== -/
theorem goodIn_r {big : List Cond} (ws : List Cond) (ps : List Nat) (hp : ws = ps.filterMap (fun i => big[i]?)) (h : ws.all goodWord = true) : GoodIn big ws := by
  intro w hw
  have h1 := List.all_eq_true.mp h w hw
  rw [hp] at hw
  obtain ⟨i, -, hi⟩ := List.mem_filterMap.mp hw
  have hm : w ∈ big := by first | exact List.mem_of_getElem? hi | exact List.getElem?_mem hi
  exact ⟨hm, good_of_word h1⟩
theorem goodIn_app {big a b : List Cond} (ha : GoodIn big a) (hb : GoodIn big b) : GoodIn big (a ++ b) := fun w h => (List.mem_append.mp h).elim (ha w) (hb w)
theorem goodIn_ca {big a b : List Cond} {c : Cond} (ha : GoodIn big (c :: a)) (hb : GoodIn big b) : GoodIn big (c :: (a ++ b)) := fun w h => (List.mem_cons.mp h).elim (fun e => ha w (List.mem_cons.mpr (Or.inl e))) (fun h => (List.mem_append.mp h).elim (fun h => ha w (List.mem_cons.mpr (Or.inr h))) (hb w))
theorem goodIn_sub {big ws : List Cond} (hm : ∀ w ∈ ws, w ∈ big) (h : ws.all goodWord = true) : GoodIn big ws := fun w hw => ⟨hm w hw, good_of_word (List.all_eq_true.mp h w hw)⟩
/-! ===== END ===== -/

/-! ===== BEGIN new T[n][m]: the outer array a place, the inner ones among the pooled ===== -/
/-- f, but v at every address of l -/
def vr_up {α : Type} (f : Nat → α) (l : List Nat) (v : α) : Nat → α := fun a => if a ∈ l then v else f a
theorem vr_up_in {α : Type} {f : Nat → α} {l : List Nat} {v : α} {a : Nat} (h : a ∈ l) : vr_up f l v a = v := if_pos h
theorem vr_up_ne {α : Type} {f : Nat → α} {l : List Nat} {v : α} {a : Nat} (h : a ∉ l) : vr_up f l v a = f a := if_neg h
theorem vr_rows {L l : List Nat} {f : Nat → va_E} {e : va_E} (h : ∀ a, a ∈ l → a ∉ L) : va_pl L f ++ l.map (fun a => (a, e)) = va_pl (L ++ l) (vr_up f l e) := by
  unfold va_pl
  rw [List.map_append]
  congr 1
  · apply List.map_congr_left
    intro a ha
    rw [vr_up_ne (fun q => h a q ha)]
  · apply List.map_congr_left
    intro a ha
    rw [vr_up_in ha]
theorem vr_lay {X rows : va_W} {x : Nat × va_E} {pl : va_W} {D : va_G} {cl : List vw_C} {H : Heap} (hP : va_P D cl (((X ++ pl) ++ [x]) ++ rows) H) : va_P D cl ((X ++ [x]) ++ (pl ++ rows)) H := by
  rw [List.append_assoc (X ++ pl)] at hP
  have h := va_P.swap hP
  rw [← List.append_assoc X] at h
  have h2 := va_P.swap h
  rw [List.append_assoc (X ++ [x])] at h2
  exact h2
theorem vr_layD {X rows : va_W} {x : Nat × va_E} {pl : va_W} {A : Nat → Prop} (hD : va_D A (((X ++ pl) ++ [x]) ++ rows)) : va_D A ((X ++ [x]) ++ (pl ++ rows)) := by
  rw [List.append_assoc (X ++ pl)] at hD
  have h := va_D.swap hD
  rw [← List.append_assoc X] at h
  have h2 := va_D.swap h
  rw [List.append_assoc (X ++ [x])] at h2
  exact h2
theorem vr_outer (c : ClassId) (N h0 : Nat) : ∀ i : Nat, Jvm.Free.Multi.outerC c N h0 i = arrV c N (fun j => va_rf (if j < i then some (h0 + 1 + j) else none))
  | 0 => by
    show ({ cls := c, slots := Array.replicate N .null, vm := .none } : Cell) = _
    rw [arrV_new]
    refine congrArg (arrV c N) (funext fun j => ?_)
    simp [va_rf]
  | i + 1 => by
    show (Jvm.Free.Multi.outerC c N h0 i).setSlot i (.ref (h0 + 1 + i)) = _
    rw [vr_outer c N h0 i, arrV_store]
    refine congrArg (arrV c N) (funext fun j => ?_)
    by_cases e : j = i
    · subst e
      simp [updV, va_rf]
    · by_cases h : j < i
      · simp [updV, e, h, Nat.lt_succ_of_lt h]
      · simp [updV, e, h, show ¬ j < i + 1 by omega]
section VGM
variable {p : Program} {l : Launch} {e : Env} {R : Room} {s : State} {m : MethodId} {args : Array Value} {below : List Frame} {meth : Method} {c : Code} {H : Heap} {locs : List Loc} {cells slots : Nat} {Q : State → Prop}
variable {cc : ByteArray} {pc : Nat} {ls : Array Slot} {rest : List Value} {D : va_G} {cl : List vw_C} {A : Nat → Prop} {a : Nat} {tys : List (ClassId × FieldType)} {ws : va_W} {H0 : Heap}
theorem va_mna {X : va_W} {L : List Nat} {f : Nat → va_E} {cc : ByteArray} (hexec : p.tables.exec = Jvm.exec) (hb : c.code = cc) {own : String} {index : Nat} {ty : FieldType} {cy : ClassId} (hown : s.vm.findClass own = some m.cls) (hclink : (Cond.classLink own index ("[" ++ (FieldType.array ty).toString)).before args s = true) (hover : va_AOA ty s) (harr : (Cond.arrayClass ty).before args s = true) (hcy : s.vm.findClass (FieldType.array ty).toString = some cy)
    (hK : va_K D cl tys s) (hP : va_P D cl (X ++ va_pl L f) H) (hD : va_D A (X ++ va_pl L f)) (hS : va_S A H0 H locs) (hA : ∀ q, H0.size ≤ q → A q) {n k : Int32} {N' K' : Nat} {z : vp_A} (hn : ¬ n < 0) (hk : ¬ k < 0) (hN : n.toNatClampNeg = N') (hM : k.toNatClampNeg = K')
    (hb1 : N' * 4 ≤ 536870912) (hb2 : K' * componentBytes ty ≤ 536870912) (hb3 : K' ≤ 536870912) (hdf : fits ty (defaultValue ty) = true) (hdd : (defaultValue ty).isDefault = true) (hcells : cells + (1 + N') ≤ R.cells) (hslots : slots + (N' + N' * K') ≤ R.slots) (hz : ∀ c : ClassId, Jvm.Free.Multi.innerC c K' (defaultValue ty) = vp_cell c z) (hdg : decode cc pc = .ok (.multianewarray index 2, 4))
    (kk : ∀ (q : Nat) (r : Nat → Nat) (cA : ClassId) (H1 : Heap), (∀ i j : Nat, i < N' → j < N' → r i = r j → i = j) → (∀ i : Nat, i < N' → r i ∉ L) → va_K D cl (tys ++ [(cA, .array ty)]) s →
      va_P D cl ((X ++ [(q, .inl (cA, N', .inr (.inr (.inr (.inr (fun i => if i < N' then some (r i) else none))))))]) ++ va_pl (L ++ (List.range N').map r) (vr_up f ((List.range N').map r) (.inl (cy, z)))) H1 → va_D A ((X ++ [(q, .inl (cA, N', .inr (.inr (.inr (.inr (fun i => if i < N' then some (r i) else none))))))]) ++ va_pl (L ++ (List.range N').map r) (vr_up f ((List.range N').map r) (.inl (cy, z)))) → va_S A H0 H1 locs →
      W p l e R s m args below meth c H1 locs (cells + 1 + N') (slots + N' + N' * K') Q (F0 m (pc + 4) ls (.ref q :: rest))) : W p l e R s m args below meth c H locs cells slots Q (F0 m pc ls (.int k :: .int n :: rest)) := by
  subst hN
  subst hM
  intro T hT Xs
  obtain ⟨vm₁, cA, comp, -, fA, fC, hO, -, X', step⟩ := Xs.multianewarray2F hexec hown hclink (va_AOA.use hover) harr (g := F0 m pc ls (.int k :: .int n :: rest)) rfl (by rw [hb]; exact hdg) rfl hn hk hb1 hb2 hb3 hdf hdd hcells hslots
  have ec : some cy = some comp := hcy.symm.trans fC
  cases ec
  generalize hF : Jvm.Free.Multi.fill (T.setVm vm₁) cA cy n.toNatClampNeg k.toNatClampNeg (defaultValue ty) n.toNatClampNeg = F at X' step
  have hTh : (T.setVm vm₁).heap = H := hT
  obtain ⟨f1, f2, -, -⟩ := Jvm.Free.Multi.fill_facts (T.setVm vm₁) cA cy n.toNatClampNeg k.toNatClampNeg (defaultValue ty) n.toNatClampNeg
  rw [hF, hTh] at f1 f2
  have hold : ∀ x : Nat, x < H.size → F.heap[x]? = H[x]? := fun x hx => by
    have := Jvm.Free.Multi.fill_old (T.setVm vm₁) cA cy n.toNatClampNeg k.toNatClampNeg (defaultValue ty) (a := x) (by rw [hTh]; exact hx) n.toNatClampNeg
    rw [hF, hTh] at this
    exact this
  have hrow : ∀ j : Nat, j < n.toNatClampNeg → F.heap[H.size + 1 + j]? = some (vp_cell cy z) := fun j hj => by
    have := Jvm.Free.Multi.fill_inner (T.setVm vm₁) cA cy n.toNatClampNeg k.toNatClampNeg (defaultValue ty) n.toNatClampNeg j hj
    rw [hF, hTh, hz] at this
    exact this
  have hout : Jvm.Free.Multi.outerC cA n.toNatClampNeg H.size n.toNatClampNeg = vp_cell cA (n.toNatClampNeg, .inr (.inr (.inr (.inr (fun i => if i < n.toNatClampNeg then some (H.size + 1 + i) else none))))) := by
    rw [vp_cell_q]
    exact vr_outer cA n.toNatClampNeg H.size n.toNatClampNeg
  rw [hout] at f2
  have hlt : ∀ a, a ∈ L → a < H.size := fun a ha => by
    obtain ⟨k9, hk9⟩ := va_pl_get (X := X) (f := f) ha
    exact (hP k9 _ hk9).lt
  have hnl : ∀ i : Nat, i < n.toNatClampNeg → H.size + 1 + i ∉ L := fun i _ h => by
    have := hlt _ h
    omega
  have hnm : ∀ a, a ∈ (List.range n.toNatClampNeg).map (fun i => H.size + 1 + i) → a ∉ L := fun a ha h => by
    obtain ⟨i, -, rfl⟩ := List.mem_map.mp ha
    have := hlt _ h
    omega
  have hP0 : va_P D cl (X ++ va_pl L f) F.heap := hP.kept (fun k9 x hx => hold x.1 ((hP k9 x hx).lt))
  have hP1 : va_P D cl ((X ++ va_pl L f) ++ [(H.size, .inl (cA, n.toNatClampNeg, .inr (.inr (.inr (.inr (fun i => if i < n.toNatClampNeg then some (H.size + 1 + i) else none))))))]) F.heap := hP0.app (fun k9 x hx => by
    have h0 : k9 < 1 := (List.getElem?_eq_some_iff.mp hx).1
    rw [show k9 = 0 by omega] at hx
    cases hx
    exact f2)
  have hP2 : va_P D cl (((X ++ va_pl L f) ++ [(H.size, .inl (cA, n.toNatClampNeg, .inr (.inr (.inr (.inr (fun i => if i < n.toNatClampNeg then some (H.size + 1 + i) else none))))))]) ++ ((List.range n.toNatClampNeg).map (fun i => H.size + 1 + i)).map (fun a => (a, .inl (cy, z)))) F.heap := hP1.app (fun k9 x hx => by
    obtain ⟨a, ha, rfl⟩ := List.mem_map.mp (List.mem_of_getElem? hx)
    obtain ⟨i, hi, rfl⟩ := List.mem_map.mp ha
    exact hrow i (List.mem_range.mp hi))
  have hD2 : va_D A (((X ++ va_pl L f) ++ [(H.size, .inl (cA, n.toNatClampNeg, .inr (.inr (.inr (.inr (fun i => if i < n.toNatClampNeg then some (H.size + 1 + i) else none))))))]) ++ ((List.range n.toNatClampNeg).map (fun i => H.size + 1 + i)).map (fun a => (a, .inl (cy, z)))) := by
    have hD1 := hD.push (e := .inl (cA, n.toNatClampNeg, .inr (.inr (.inr (.inr (fun i => if i < n.toNatClampNeg then some (H.size + 1 + i) else none)))))) hP rfl (hA _ hS.1)
    generalize hW1 : (X ++ va_pl L f) ++ [(H.size, .inl (cA, n.toNatClampNeg, .inr (.inr (.inr (.inr (fun i => if i < n.toNatClampNeg then some (H.size + 1 + i) else none))))))] = W1 at hD1 hP1 ⊢
    have hle : ∀ (k9 : Nat) (x : Nat × va_E), W1[k9]? = some x → x.1 ≤ H.size := fun k9 x hx => by
      rw [← hW1] at hx
      by_cases hl : k9 < (X ++ va_pl L f).length
      · rw [List.getElem?_append_left hl] at hx
        exact Nat.le_of_lt ((hP k9 x hx).lt)
      · rw [List.getElem?_append_right (by omega)] at hx
        have h0 : k9 - (X ++ va_pl L f).length < 1 := (List.getElem?_eq_some_iff.mp hx).1
        rw [show k9 - (X ++ va_pl L f).length = 0 by omega] at hx
        cases hx
        exact Nat.le_refl _
    have hr : ∀ (k9 : Nat) (x : Nat × va_E), (((List.range n.toNatClampNeg).map (fun i => H.size + 1 + i)).map (fun a => ((a, .inl (cy, z)) : Nat × va_E)))[k9]? = some x → x.1 = H.size + 1 + k9 := fun k9 x hx => by
      rw [List.getElem?_map, List.getElem?_map] at hx
      by_cases h9 : k9 < n.toNatClampNeg
      · rw [List.getElem?_range h9] at hx
        cases hx
        rfl
      · have hn0 : (List.range n.toNatClampNeg)[k9]? = none := List.getElem?_eq_none (by rw [List.length_range]; omega)
        rw [hn0] at hx
        cases hx
    refine ⟨fun i j x y hi hj hxy => ?_, fun k9 x hx => ?_⟩
    · by_cases h1 : i < W1.length <;> by_cases h2 : j < W1.length
      · rw [List.getElem?_append_left h1] at hi
        rw [List.getElem?_append_left h2] at hj
        exact hD1.1 i j x y hi hj hxy
      · rw [List.getElem?_append_left h1] at hi
        rw [List.getElem?_append_right (by omega)] at hj
        have := hle _ _ hi
        have := hr _ _ hj
        omega
      · rw [List.getElem?_append_right (by omega)] at hi
        rw [List.getElem?_append_left h2] at hj
        have := hle _ _ hj
        have := hr _ _ hi
        omega
      · rw [List.getElem?_append_right (by omega)] at hi hj
        have := hr _ _ hi
        have := hr _ _ hj
        omega
    · by_cases h1 : k9 < W1.length
      · rw [List.getElem?_append_left h1] at hx
        exact hD1.2 k9 x hx
      · rw [List.getElem?_append_right (by omega)] at hx
        have := hr _ _ hx
        exact hA _ (by have := hS.1; omega)
  have hAr : ArrOfT s cA (.array ty) := fun N9 z9 => by
    obtain ⟨-, k9, hk9, cm9, hkk9⟩ := (hO 0 0 0).1
    exact ⟨(fun q hq => by cases hq), k9, hk9, cm9, hkk9⟩
  have hK2 : va_K D cl (tys ++ [(cA, .array ty)]) s := ⟨hK.1, fun k9 x hx => by
    by_cases hl : k9 < tys.length
    · rw [List.getElem?_append_left hl] at hx
      exact hK.2 k9 x hx
    · rw [List.getElem?_append_right (by omega)] at hx
      have h0 : k9 - tys.length < 1 := (List.getElem?_eq_some_iff.mp hx).1
      rw [show k9 - tys.length = 0 by omega] at hx
      cases hx
      exact ⟨hAr, fA⟩⟩
  obtain ⟨t, a1, b1⟩ := kk H.size (fun i => H.size + 1 + i) cA F.heap (fun i j _ _ h => by have h9 : H.size + 1 + i = H.size + 1 + j := h; omega) hnl hK2 (by rw [← vr_rows hnm]; exact vr_lay hP2) (by rw [← vr_rows hnm]; exact vr_layD hD2) ⟨by rw [f1]; have := hS.1; omega, fun x h1 h2 => (hold x (Nat.lt_of_lt_of_le h1 hS.1)).trans (hS.2.1 x h1 h2), hS.2.2⟩ F rfl X'
  refine ⟨t, step t ?_, b1⟩
  have e : T.heap.size = H.size := by rw [hT]
  rw [e]
  exact a1
end VGM
/-! ===== END ===== -/

/-! ===== BEGIN exceptions that leave a method, and their catching by the caller (launches without stack traces) ===== -/
section VXA
/-! The laws vx_back, vx_callV, vx_callS, vx_callSW, vx_throw0, vx_throwS follow proofs of the library, with one case more: JvmDerived/Free/Laws.lean (Back.of_free), Shelf42/LK1.lean (callV, callS), Shelf/KitTraced.lean (throwNew0V, throwNewS). -/
/-- where a method has thrown q: the class by its name, the cell, what was written, the world -/
def vx_T (XC : String → State → State → Prop) (st : State) (q : Addr) (t : State) (mc ms : Nat) (free : Addr → Prop) : Prop :=
  ∃ (E : String) (ce : Cell) (L : List Loc), XC E st t ∧ t.heap[q]? = some ce ∧ ce.vm = .none ∧ st.vm.findClass E = some ce.cls ∧ st.WarmedH t.vm ∧ st.sameButNew ({ t with vm := st.vm } : State) L mc ms ∧ ∀ z ∈ L, free z.base
def vx_Q (Qc : Array Value → State → Outcome → State → Prop) (XC : String → State → State → Prop) (mc ms : Nat) (free : Addr → Prop) : Array Value → State → Outcome → State → Prop := fun a st o t =>
  (Qc a st o t ∧ ∃ L, FrameEnd st o t L mc ms ∧ ∀ q ∈ L, free q.base) ∨ ∃ q, o = .threw q ∧ vx_T XC st q t mc ms free
/-- a callee that returns or throws -/
def vx_Met (l : Launch) (y : MethodName) (ws : List Cond) (rm : Room) (Pc : Array Value → State → Prop) (Qc : Array Value → State → Outcome → State → Prop) (XC : String → State → State → Prop) (mc ms : Nat) (free : Addr → Prop) : Prop :=
  MetFree l y (headSpec ws rm) Pc (fun _ _ _ _ _ => True) (vx_Q Qc XC mc ms free)
def vx_Post (XC : String → State → State → Prop) (mc ms : Nat) (free : Addr → Prop) : Pt → Array Value → Addr → Pt → Prop := fun A a q B =>
  ∃ (g : JFrame) (mk : MethodId) (t : State) (L : List Loc) (E : String) (ce : Cell), B.U.heap = t.heap ∧ B.U.vm = t.vm ∧ XC E (A.U.calling g mk a) t ∧ t.heap[q]? = some ce ∧ ce.vm = .none ∧ A.U.vm.findClass E = some ce.cls ∧ B.locs = A.locs ++ L ∧ (∀ z ∈ L, free z.base) ∧ B.cells = A.cells + mc ∧ B.slots = A.slots + ms
def vx_Back (l : Launch) (R : Room) (p : Program) (e : Env) (below : List Frame) (s : State) (sargs : Array Value) (y : MethodName) (len W9 : Nat)
    (Pre : Pt → Array Value → Prop) (Post : Pt → Array Value → Option Value → Pt → Prop) (PostX : Pt → Array Value → Addr → Pt → Prop) : Prop :=
  ∀ (m : MethodId) (meth : Method) (c : Code) (A : Pt) (g : JFrame) (ig : Instr) (mk : MethodId) (a : Array Value),
    Stand p l e R s m sargs below meth c A.U A.locs A.cells A.slots → g.method = m → g.locals.size = c.maxLocals → decode c.code g.pc = .ok (ig, len) →
    2 * g.monitorRoom + (g.stack.map fun v => v.category).sum ≤ W9 → A.U.methodNamed? y = some mk → Pre A a →
    (∃ (v : Option Value) (B : Pt), Stand p l e R s m sargs below meth c B.U B.locs B.cells B.slots ∧ Post A a v B ∧
      Steps p.tables e below (doInvoke e (A.U.setTop g) [] mk a).1 (B.U.setTop { g with pc := g.pc + len, stack := v.toList ++ g.stack })) ∨
    (∃ (q : Addr) (B : Pt), Stand p l e R s m sargs below meth c B.U B.locs B.cells B.slots ∧ PostX A a q B ∧
      Steps p.tables e below (doInvoke e (A.U.setTop g) [] mk a).1 ((B.U.setTop g).pushFrame (.throwing q)))
section Payer
variable {l : Launch} {R : Room} {p : Program} {e : Env} {below : List Frame} {s : State} {sargs : Array Value} {y : MethodName} {len W9 : Nat}
theorem vx_back {ws : List Cond} {rm : Room} {Pc : Array Value → State → Prop} {Qc : Array Value → State → Outcome → State → Prop} {XC : String → State → State → Prop} {mc ms : Nat} {free : Addr → Prop} {bytes : ByteArray} {maxL : Nat} {ret : Option FieldType}
    (hM : vx_Met l y ws rm Pc Qc XC mc ms free) (hblind : FrameBlind Pc) (hrc : rm.cells = mc) (hrs : rm.slots = ms)
    (hframes : rm.frames + 1 ≤ R.frames) (hlocals : W9 + (maxL + 11) + rm.locals ≤ R.locals)
    (hws : ∀ w ∈ ws, ∀ a' U, s.WarmedH U.vm → w.before a' U = true) (hcode : Cond.code y bytes maxL ret ∈ ws) (hinit : ∀ a' U, s.WarmedH U.vm → (Cond.initialized y.cls).before a' U = true) :
    vx_Back l R p e below s sargs y len W9 (PreOf R mc ms Pc) (PostOf Qc mc ms free) (vx_Post XC mc ms free) := by
  intro m meth c A g ig mk a X hg hsize hdg hW hn hp
  have h1 : (headSpec ws rm).pre.before a A.U = true := atoms_intro fun w hw => hws w hw _ _ X.warmed
  have h2 : (Cond.code y bytes maxL ret).before a A.U = true := hws _ hcode _ _ X.warmed
  have h3 : (Cond.initialized y.cls).before a A.U = true := hinit _ _ X.warmed
  have h4 : A.cells + (headSpec ws rm).room.cells ≤ R.cells := by rw [show (headSpec ws rm).room.cells = mc from hrc]; exact hp.1
  have h5 : A.slots + (headSpec ws rm).room.slots ≤ R.slots := by rw [show (headSpec ws rm).room.slots = ms from hrs]; exact hp.2.1
  have hPc : Pc a (A.U.calling g mk a) := hblind _ _ _ _ hp.2.2
  obtain ⟨U, Ls, c0, s0⟩ := A
  dsimp only [Pt.U, Pt.locs, Pt.cells, Pt.slots] at h1 h2 h3 h4 h5 X hn hPc ⊢
  obtain ⟨methY, cY, hmY, hcY, -, hlY, -, -, -, -⟩ := Cond.code_spec hn h2
  obtain ⟨kY, hkY, -⟩ := className_of_methodNamed hn
  have hinitY : kY.init = .initialized := Cond.initialized_spec (findClass_of_methodNamed hn) hkY h3
  have h : At U g.method c below := by rw [hg]; exact X.here
  have hlocals9 : W9 + (maxL + 11) + (headSpec ws rm).room.locals ≤ R.locals := hlocals
  have happ : (headSpec ws rm).appliesLoose y e.platform (U.calling g mk a) = true :=
    Spec.appliesLoose_calling (g := g) h hdg hn hkY hinitY
      (X.room_calling (g := g) (R' := (headSpec ws rm).room) hsize hmY hcY hframes (by rw [hlY]; omega) h4 h5) h1
  obtain ⟨mid, hmid⟩ := h.above
  have hfr : (U.setTop g).frames = (.java g :: mid) ++ below := by rw [State.frames_setTop' g h.top, hmid]; rfl
  obtain ⟨o, s₂, hsteps, -, hend, hq⟩ := Steps.callFree hM p X.admits X.cas X.clock (acts := []) hfr happ hPc trivial
  have hq' : vx_Q Qc XC mc ms free a (U.calling g mk a) o s₂ := hq
  rw [State.frames_setTop' g h.top] at hend
  obtain ⟨g₀, hg0⟩ := Option.isSome_iff_exists.mp h.top
  obtain ⟨r, hr⟩ := State.topJava?_eq_some.mp hg0
  have hr' : (({ U with heap := s₂.heap, slotsUsed := s₂.slotsUsed } : State).setVm s₂.vm).frames = .java g₀ :: r := hr
  rcases hq' with ⟨hqc, L, hfe, hL⟩ | ⟨q, rfl, E, ce, L, hx, hce, hcv, hcl, hW₂, hsm, hL⟩
  · obtain ⟨⟨v, rfl⟩, hW₂, e2, q2, q3, q4, q5, q6⟩ := id hfe
    have e3 : s₂ = ({ (U.calling g mk a).setFrames s₂.frames with heap := s₂.heap, slotsUsed := s₂.slotsUsed } : State).setVm s₂.vm := by
      have : s₂ = ({ s₂ with vm := (U.calling g mk a).vm } : State).setVm s₂.vm := rfl
      rw [e2] at this
      exact this
    obtain ⟨c₂, i₂, len₂, hc₂, hd₂, hf₂⟩ := hend
    have hW' : U.WarmedH s₂.vm := hW₂
    have hcc : c₂ = c := by
      have h1 : s₂.code? g.method = U.code? g.method := by
        rw [State.code?_eq, State.code?_eq, hW'.alike.method?]
      exact Option.some.inj (hc₂.symm.trans (h1.trans h.code))
    subst hcc
    have hlen : len₂ = len := by rw [hdg] at hd₂; cases hd₂; rfl
    subst hlen
    have hs₂ : s₂ = (({ U with heap := s₂.heap, slotsUsed := s₂.slotsUsed } : State).setVm s₂.vm).setTop { g with pc := g.pc + len₂, stack := v.toList ++ g.stack } := by
      refine e3.trans ?_
      rw [hf₂, State.calling_eq h.top, State.setFrames_setFrames, State.setTop_of_frames _ hr', hr]
      rfl
    have hsame : U.sameButNew ({ U with heap := s₂.heap, slotsUsed := s₂.slotsUsed } : State) L mc ms := by
      refine ⟨?_, q2, q3, q4, q5, q6⟩
      obtain ⟨t, ht, -⟩ := State.frames_cons hr
      show ({ U with heap := s₂.heap, slotsUsed := s₂.slotsUsed } : State) = { U.setFrames U.frames with heap := s₂.heap, slotsUsed := s₂.slotsUsed }
      rw [State.setFrames_self ht]
    subst hg
    refine Or.inl ⟨v, ⟨(({ U with heap := s₂.heap, slotsUsed := s₂.slotsUsed } : State).setVm s₂.vm), Ls ++ L, c0 + mc, s0 + ms⟩,
      ⟨X.admits, X.cas, X.clock, X.frames, X.room, X.hears, X.method, X.code, (X.here.setHeapUsed s₂.heap s₂.slotsUsed).setVm hW'.alike, X.tail, State.WarmedH.trans X.warmed hW', X.limits, X.bytes, X.same.trans (hsame.setVm s.vm)⟩,
      ⟨g, mk, s₂, L, rfl, rfl, hqc, rfl, hL, rfl, rfl⟩, ?_⟩
    show Steps p.tables e below _ ((({ U with heap := s₂.heap, slotsUsed := s₂.slotsUsed } : State).setVm s₂.vm).setTop { g with pc := g.pc + len₂, stack := v.toList ++ g.stack })
    rw [← hs₂]
    exact hsteps
  · obtain ⟨e2, q2, q3, q4, q5, q6⟩ := id hsm
    have e3 : s₂ = ({ (U.calling g mk a).setFrames s₂.frames with heap := s₂.heap, slotsUsed := s₂.slotsUsed } : State).setVm s₂.vm := by
      have : s₂ = ({ s₂ with vm := (U.calling g mk a).vm } : State).setVm s₂.vm := rfl
      rw [e2] at this
      exact this
    have hf₂ : s₂.frames = .throwing q :: .java g :: U.frames.tail := hend
    have hW' : U.WarmedH s₂.vm := hW₂
    have hs₂ : s₂ = ((({ U with heap := s₂.heap, slotsUsed := s₂.slotsUsed } : State).setVm s₂.vm).setTop g).pushFrame (.throwing q) := by
      refine e3.trans ?_
      rw [hf₂, State.calling_eq h.top, State.setFrames_setFrames, State.pushFrame, State.frames_setTop _ hr', State.setTop_of_frames _ hr', State.setFrames_setFrames, hr]
      rfl
    have hsame : U.sameButNew ({ U with heap := s₂.heap, slotsUsed := s₂.slotsUsed } : State) L mc ms := by
      refine ⟨?_, q2, q3, q4, q5, q6⟩
      obtain ⟨t, ht, -⟩ := State.frames_cons hr
      show ({ U with heap := s₂.heap, slotsUsed := s₂.slotsUsed } : State) = { U.setFrames U.frames with heap := s₂.heap, slotsUsed := s₂.slotsUsed }
      rw [State.setFrames_self ht]
    subst hg
    refine Or.inr ⟨q, ⟨(({ U with heap := s₂.heap, slotsUsed := s₂.slotsUsed } : State).setVm s₂.vm), Ls ++ L, c0 + mc, s0 + ms⟩,
      ⟨X.admits, X.cas, X.clock, X.frames, X.room, X.hears, X.method, X.code, (X.here.setHeapUsed s₂.heap s₂.slotsUsed).setVm hW'.alike, X.tail, State.WarmedH.trans X.warmed hW', X.limits, X.bytes, X.same.trans (hsame.setVm s.vm)⟩,
      ⟨g, mk, s₂, L, E, ce, rfl, rfl, hx, hce, hcv, hcl, rfl, hL, rfl, rfl⟩, ?_⟩
    show Steps p.tables e below _ (((({ U with heap := s₂.heap, slotsUsed := s₂.slotsUsed } : State).setVm s₂.vm).setTop g).pushFrame (.throwing q))
    rw [← hs₂]
    exact hsteps
end Payer
section Calls
variable {p : Program} {l : Launch} {e : Env} {R : Room} {s : State} {m : MethodId} {args : Array Value} {below : List Frame} {meth : Method} {c : Code} {T : State} {locs : List Loc} {cells slots : Nat}
theorem vx_callV (X : Stand p l e R s m args below meth c T locs cells slots) (hexec : p.tables.exec = Jvm.exec) {own C : String} {index : Nat} {y : MethodName} {bytes : ByteArray} {maxL : Nat} {ret : Option FieldType}
    (hown : s.vm.findClass own = some m.cls) (hlink : (Cond.methodLink own index y).before args s = true) (hinst : (Cond.instanceMethod y).before args s = true) (hsel : (Cond.selects C y y).before args s = true)
    (hcode : (Cond.code y bytes maxL ret).before args s = true) (hy : y.cls ≠ "java/lang/invoke/MethodHandle" ∧ y.cls ≠ "java/lang/invoke/VarHandle")
    {W9 : Nat} {Pre : Pt → Array Value → Prop} {Post : Pt → Array Value → Option Value → Pt → Prop} {PostX : Pt → Array Value → Addr → Pt → Prop} (hK : vx_Back l R p e below s args y 3 W9 Pre Post PostX)
    {b : Addr} {cellB : Cell} (hcell : T.heap[b]? = some cellB) (hobj : cellB.vm.isStatics = false) (hcls : s.vm.findClass C = some cellB.cls)
    {g : JFrame} (hg : g.method = m) (hsize : g.locals.size = c.maxLocals) {argsL rest : List Value} (hlen : ∀ sig, parseMethodDescriptor y.desc = some sig → argsL.length = sig.parameters.length)
    (hstack : g.stack = argsL.reverse ++ .ref b :: rest) (hW : 2 * g.monitorRoom + (rest.map fun v => v.category).sum ≤ W9) (hdg : decode c.code g.pc = .ok (.invokevirtual index, 3))
    (hpre : ∀ vm₁, s.WarmedH vm₁ → Pre ⟨T.setVm vm₁, locs, cells, slots⟩ (Value.ref b :: argsL).toArray) :
    (∃ (v : Option Value) (vm₁ : Vm) (B : Pt), s.WarmedH vm₁ ∧ Stand p l e R s m args below meth c B.U B.locs B.cells B.slots ∧ Post ⟨T.setVm vm₁, locs, cells, slots⟩ (Value.ref b :: argsL).toArray v B ∧
      ∀ target, Steps p.tables e below (B.U.setTop { g with pc := g.pc + 3, stack := v.toList ++ rest }) target → Steps p.tables e below (T.setTop g) target) ∨
    (∃ (q : Addr) (vm₁ : Vm) (B : Pt), s.WarmedH vm₁ ∧ Stand p l e R s m args below meth c B.U B.locs B.cells B.slots ∧ PostX ⟨T.setVm vm₁, locs, cells, slots⟩ (Value.ref b :: argsL).toArray q B ∧
      Steps p.tables e below (T.setTop g) ((B.U.setTop { g with stack := rest }).pushFrame (.throwing q))) := by
  obtain ⟨mk, methM, hnamed, hmethM, hstM, habM⟩ := Cond.instanceMethod_spec hinst
  obtain ⟨methM', cM, hmethM', -, -, -, -, -, -, hsigM⟩ := Cond.code_spec hnamed hcode
  cases hmethM.symm.trans hmethM'
  obtain ⟨c2, r2, m2, q1, q2, q3, q4, kP, hkP, hkPi⟩ := Cond.selects_spec hsel
  cases hcls.symm.trans q1
  cases (State.methodFound?_of_named hnamed hy).symm.trans q2
  cases hnamed.symm.trans q3
  have hselP : selectMethod e.platform s.vm cellB.cls mk = .method mk := by rw [Launch.admits_selectMethod X.admits]; exact q4
  obtain ⟨vm₁, X₁, hstep₁⟩ := X.invokevirtual hexec hown hlink hnamed hmethM hstM hkP hkPi hy (a := b) (cell := cellB) hcell
    (fun z h => by rw [h] at hobj; cases hobj) hselP hmethM habM hkP hkPi (g := g) hg (argsL := argsL) (rest := rest) (hlen _ hsigM) hstack hdg
  rcases hK m meth c ⟨T.setVm vm₁, locs, cells, slots⟩ { g with stack := rest } (.invokevirtual index) mk (Value.ref b :: argsL).toArray X₁ hg hsize hdg hW (X₁.named hnamed) (hpre vm₁ X₁.warmed) with ⟨v, B, X', hpost, hsteps⟩ | ⟨q, B, X', hpost, hsteps⟩
  · exact Or.inl ⟨v, vm₁, B, X₁.warmed, X', hpost, fun target h => hstep₁ _ fun acts => by rw [doInvoke_state]; exact hsteps.trans h⟩
  · exact Or.inr ⟨q, vm₁, B, X₁.warmed, X', hpost, hstep₁ _ fun acts => by rw [doInvoke_state]; exact hsteps⟩
theorem vx_callS (X : Stand p l e R s m args below meth c T locs cells slots) (hexec : p.tables.exec = Jvm.exec) {own : String} {index : Nat} {y : MethodName} {bytes : ByteArray} {maxL : Nat} {ret : Option FieldType}
    (hown : s.vm.findClass own = some m.cls) (hlink : (Cond.methodLink own index y).before args s = true) (hstat : (Cond.static y).before args s = true) (hinit : (Cond.initialized y.cls).before args s = true)
    (hcode : (Cond.code y bytes maxL ret).before args s = true) (hy : y.cls ≠ "java/lang/invoke/MethodHandle" ∧ y.cls ≠ "java/lang/invoke/VarHandle")
    {W9 : Nat} {Pre : Pt → Array Value → Prop} {Post : Pt → Array Value → Option Value → Pt → Prop} {PostX : Pt → Array Value → Addr → Pt → Prop} (hK : vx_Back l R p e below s args y 3 W9 Pre Post PostX)
    {g : JFrame} (hg : g.method = m) (hsize : g.locals.size = c.maxLocals) {argsL rest : List Value} (hlen : ∀ sig, parseMethodDescriptor y.desc = some sig → argsL.length = sig.parameters.length)
    (hstack : g.stack = argsL.reverse ++ rest) (hW : 2 * g.monitorRoom + (rest.map fun v => v.category).sum ≤ W9) (hdg : decode c.code g.pc = .ok (.invokestatic index, 3))
    (hpre : ∀ vm₁, s.WarmedH vm₁ → Pre ⟨T.setVm vm₁, locs, cells, slots⟩ argsL.toArray) :
    (∃ (v : Option Value) (vm₁ : Vm) (B : Pt), s.WarmedH vm₁ ∧ Stand p l e R s m args below meth c B.U B.locs B.cells B.slots ∧ Post ⟨T.setVm vm₁, locs, cells, slots⟩ argsL.toArray v B ∧
      ∀ target, Steps p.tables e below (B.U.setTop { g with pc := g.pc + 3, stack := v.toList ++ rest }) target → Steps p.tables e below (T.setTop g) target) ∨
    (∃ (q : Addr) (vm₁ : Vm) (B : Pt), s.WarmedH vm₁ ∧ Stand p l e R s m args below meth c B.U B.locs B.cells B.slots ∧ PostX ⟨T.setVm vm₁, locs, cells, slots⟩ argsL.toArray q B ∧
      Steps p.tables e below (T.setTop g) ((B.U.setTop { g with stack := rest }).pushFrame (.throwing q))) := by
  obtain ⟨mk, hnamed⟩ := Cond.code_named hcode
  obtain ⟨methM, cM, hmethM, -, -, -, -, -, -, hsigM⟩ := Cond.code_spec hnamed hcode
  have hstatic : methM.isStatic = true := Cond.static_spec hnamed hmethM hstat
  obtain ⟨kP, hkP, -⟩ := className_of_methodNamed hnamed
  have hinitP : kP.init = .initialized := Cond.initialized_spec (findClass_of_methodNamed hnamed) hkP hinit
  obtain ⟨vm₁, X₁, hstep₁⟩ := X.invokestatic hexec hown hlink hnamed hmethM hstatic hkP hinitP hy (g := g) hg (argsL := argsL) (rest := rest) (hlen _ hsigM) hstack hdg
  rcases hK m meth c ⟨T.setVm vm₁, locs, cells, slots⟩ { g with stack := rest } (.invokestatic index) mk argsL.toArray X₁ hg hsize hdg hW (X₁.named hnamed) (hpre vm₁ X₁.warmed) with ⟨v, B, X', hpost, hsteps⟩ | ⟨q, B, X', hpost, hsteps⟩
  · exact Or.inl ⟨v, vm₁, B, X₁.warmed, X', hpost, fun target h => hstep₁ _ fun acts => by rw [doInvoke_state]; exact hsteps.trans h⟩
  · exact Or.inr ⟨q, vm₁, B, X₁.warmed, X', hpost, hstep₁ _ fun acts => by rw [doInvoke_state]; exact hsteps⟩
end Calls
theorem vx_cls {s : State} {T : State} {vm₁ : Vm} {E : String} {k : ClassId} (hW : s.WarmedH vm₁) (h : (T.setVm vm₁).vm.findClass E = some k) : s.vm.findClass E = some k := by
  have h1 : vm₁.findClass E = some k := h
  rw [hW.alike.findClass] at h1
  exact h1
/-- the method's frame g, with q thrown over it -/
def vx_W (p : Program) (l : Launch) (e : Env) (R : Room) (s : State) (m : MethodId) (args : Array Value) (below : List Frame) (meth : Method) (c : Code) (H : Heap) (locs : List Loc) (cells slots : Nat) (Q : State → Prop) (g : JFrame) (q : Addr) : Prop :=
  ∀ T : State, T.heap = H → Stand p l e R s m args below meth c T locs cells slots → ∃ t, Steps p.tables e below ((T.setTop g).pushFrame (.throwing q)) t ∧ Q t
def vx_Run (p : Program) (l : Launch) (e : Env) (R : Room) (s : State) (m : MethodId) (args : Array Value) (below : List Frame) (meth : Method) (c : Code) (H : Heap) (locs : List Loc) (cells slots mc ms : Nat) (g : JFrame) (rest : List Value) (Qa : State → Outcome → State → Prop) (XC : String → State → State → Prop) (free : Addr → Prop) : Prop :=
  ∀ T : State, T.heap = H → Stand p l e R s m args below meth c T locs cells slots →
    (∃ (v : Option Value) (st₀ t T' : State) (L : List Loc), st₀.heap = H ∧ Stand p l e R s m args below meth c T' (locs ++ L) (cells + mc) (slots + ms) ∧ (∀ q ∈ L, free q.base) ∧ T'.heap = t.heap ∧ T'.vm = t.vm ∧ Qa st₀ (.returned v) t ∧
      Goes p e below T g T' { g with pc := g.pc + 3, stack := v.toList ++ rest }) ∨
    (∃ (q : Addr) (st₀ t T' : State) (L : List Loc) (E : String) (ce : Cell), st₀.heap = H ∧ Stand p l e R s m args below meth c T' (locs ++ L) (cells + mc) (slots + ms) ∧ (∀ z ∈ L, free z.base) ∧ T'.heap = t.heap ∧ T'.vm = t.vm ∧ XC E st₀ t ∧ t.heap[q]? = some ce ∧ ce.vm = .none ∧ s.vm.findClass E = some ce.cls ∧
      Steps p.tables e below (T.setTop g) ((T'.setTop { g with stack := rest }).pushFrame (.throwing q)))
def vx_X {S : Type} (px : S → Prop) (B : String → S → State → Prop) (A : Nat → Prop) : String → State → State → Prop := fun E st t => ∃ u : S, px u ∧ B E u t ∧ va_F A st t
section Runs
variable {p : Program} {l : Launch} {e : Env} {R : Room} {s : State} {m : MethodId} {args : Array Value} {below : List Frame} {meth : Method} {c : Code} {H : Heap} {locs : List Loc} {cells slots : Nat}
variable {y : MethodName} {bytes cc : ByteArray} {maxL nL mc ms n index : Nat} {ret : Option FieldType} {ws : List Cond} {rm : Room} {Pc : Array Value → State → Prop} {Qc : Array Value → State → Outcome → State → Prop} {XC : String → State → State → Prop} {free : Addr → Prop} {Ts : List Cond} {own C : String} {b : Addr} {As rest : List Value} {g : JFrame}
theorem vx_callBack (cb : CallB R s args own index y bytes maxL ret ws rm mc ms n) (hM : vx_Met l y ws rm Pc Qc XC mc ms free) (hbl : FrameBlind Pc) : vx_Back l R p e below s args y 3 8 (PreOf R mc ms Pc) (PostOf Qc mc ms free) (vx_Post XC mc ms free) := by
  obtain ⟨hrc, hrs, hfr, hlo, hws, hcw, -, hini, -⟩ := cb
  exact vx_back (bytes := bytes) (maxL := maxL) (ret := ret) hM hbl hrc hrs hfr hlo hws hcw (fun a' U hW => word_at hW (Or.inl (by first | rfl | simp [Cond.onTables, Cond.keeps, Cond.steady])) hini)
theorem vx_runV (S : CallFix p m c cc nL s args Ts own) (hM : vx_Met l y ws rm Pc Qc XC mc ms free) (cw : CallW R s args own C index y bytes maxL ret ws rm mc ms n) (hp : PreV s H C b Pc As)
    (hg : g.method = m) (hn : As.length = n) (hsize : g.locals.size = nL) (hstack : g.stack = As.reverse ++ .ref b :: rest) (hW : 2 * g.monitorRoom + (rest.map fun v => v.category).sum ≤ 8) (hdg : decode cc g.pc = .ok (.invokevirtual index, 3)) (hf : cells + mc ≤ R.cells ∧ slots + ms ≤ R.slots) :
    vx_Run p l e R s m args below meth c H locs cells slots mc ms g rest (Qc (Value.ref b :: As).toArray) XC free := by
  have hK : vx_Back l R p e below s args y 3 8 (PreOf R mc ms Pc) (PostOf Qc mc ms free) (vx_Post XC mc ms free) := vx_callBack cw.1 hM hp.1
  obtain ⟨⟨-, -, -, -, -, -, hcode, -, hy, hlen, hl⟩, hin, hse⟩ := cw
  obtain ⟨hx, hb, hml, ho, -⟩ := S
  obtain ⟨-, ⟨cellB, hcB, hoB, hclB⟩, hPc⟩ := hp
  intro T hT X
  rcases vx_callV X hx (C := C) (bytes := bytes) (maxL := maxL) (ret := ret) ho hl hin hse hcode hy hK (by rw [hT]; exact hcB) hoB hclB hg (hsize.trans hml.symm) (argsL := As) (rest := rest) (fun sig h => hn.trans (hlen sig h)) hstack hW (by rw [hb]; exact hdg)
    (fun vm₁ hW₁ => ⟨hf.1, hf.2, hPc (T.setVm vm₁) hT hW₁⟩) with ⟨v, vm₁, ⟨U', l2, c2, s2⟩, hW₁, X', ⟨g', mk, t, L, e1, e2, hq, h1, hL, h2, h3⟩, st⟩ | ⟨q, vm₁, ⟨U', l2, c2, s2⟩, hW₁, X', ⟨g', mk, t, L, E, ce, e1, e2, hq, hce, hcv, hcl, h1, hL, h2, h3⟩, st⟩
  · dsimp only [Pt.U, Pt.locs, Pt.cells, Pt.slots] at X' e1 e2 h1 h2 h3 st
    subst h1; subst h2; subst h3
    exact Or.inl ⟨v, (T.setVm vm₁).calling g' mk (Value.ref b :: As).toArray, t, U', L, hT, X', hL, e1, e2, hq, st⟩
  · dsimp only [Pt.U, Pt.locs, Pt.cells, Pt.slots] at X' e1 e2 h1 h2 h3 st hcl
    subst h1; subst h2; subst h3
    exact Or.inr ⟨q, (T.setVm vm₁).calling g' mk (Value.ref b :: As).toArray, t, U', L, E, ce, hT, X', hL, e1, e2, hq, hce, hcv, vx_cls hW₁ hcl, st⟩
theorem vx_runS (S : CallFix p m c cc nL s args Ts own) (hM : vx_Met l y ws rm Pc Qc XC mc ms free) (cw : CallB R s args own index y bytes maxL ret ws rm mc ms n ∧ (Cond.static y).before args s = true) (hp : PreS s H Pc As)
    (hg : g.method = m) (hn : As.length = n) (hsize : g.locals.size = nL) (hstack : g.stack = As.reverse ++ rest) (hW : 2 * g.monitorRoom + (rest.map fun v => v.category).sum ≤ 8) (hdg : decode cc g.pc = .ok (.invokestatic index, 3)) (hf : cells + mc ≤ R.cells ∧ slots + ms ≤ R.slots) :
    vx_Run p l e R s m args below meth c H locs cells slots mc ms g rest (Qc As.toArray) XC free := by
  have hK : vx_Back l R p e below s args y 3 8 (PreOf R mc ms Pc) (PostOf Qc mc ms free) (vx_Post XC mc ms free) := vx_callBack cw.1 hM hp.1
  obtain ⟨⟨-, -, -, -, -, -, hcode, hini, hy, hlen, hl⟩, hstt⟩ := cw
  obtain ⟨hx, hb, hml, ho, -⟩ := S
  intro T hT X
  rcases vx_callS X hx (bytes := bytes) (maxL := maxL) (ret := ret) ho hl hstt hini hcode hy hK hg (hsize.trans hml.symm) (argsL := As) (rest := rest) (fun sig h => hn.trans (hlen sig h)) hstack hW (by rw [hb]; exact hdg)
    (fun vm₁ hW₁ => ⟨hf.1, hf.2, hp.2 (T.setVm vm₁) hT hW₁⟩) with ⟨v, vm₁, ⟨U', l2, c2, s2⟩, hW₁, X', ⟨g', mk, t, L, e1, e2, hq, h1, hL, h2, h3⟩, st⟩ | ⟨q, vm₁, ⟨U', l2, c2, s2⟩, hW₁, X', ⟨g', mk, t, L, E, ce, e1, e2, hq, hce, hcv, hcl, h1, hL, h2, h3⟩, st⟩
  · dsimp only [Pt.U, Pt.locs, Pt.cells, Pt.slots] at X' e1 e2 h1 h2 h3 st
    subst h1; subst h2; subst h3
    exact Or.inl ⟨v, (T.setVm vm₁).calling g' mk As.toArray, t, U', L, hT, X', hL, e1, e2, hq, st⟩
  · dsimp only [Pt.U, Pt.locs, Pt.cells, Pt.slots] at X' e1 e2 h1 h2 h3 st hcl
    subst h1; subst h2; subst h3
    exact Or.inr ⟨q, (T.setVm vm₁).calling g' mk As.toArray, t, U', L, E, ce, hT, X', hL, e1, e2, hq, hce, hcv, vx_cls hW₁ hcl, st⟩
end Runs
section Rows
variable {p : Program} {l : Launch} {e : Env} {R : Room} {s : State} {m : MethodId} {args : Array Value} {below : List Frame} {meth : Method} {c : Code} {H : Heap} {locs : List Loc} {cells slots : Nat} {Q : State → Prop}
variable {mc ms : Nat} {free : Addr → Prop} {A0 A1 : Nat → Prop} {H0 : Heap} {a : Array Value} {pc : Nat} {ls : Array Slot} {st0 rest : List Value}
theorem vx_keep {st₀ t T' : State} {L : List Loc} (h0 : st₀.heap = H) (e1 : T'.heap = t.heap) (hS : va_S A0 H0 H locs) (hA : ∀ q, q < H.size → A1 q → A0 q) (hf : ∀ q, free q → A0 q) (hL : ∀ q ∈ L, free q.base) (hF : va_F A1 st₀ t) :
    H.size ≤ T'.heap.size ∧ (∀ q : Nat, q < H.size → ¬ A1 q → T'.heap[q]? = H[q]?) ∧ va_S A0 H0 T'.heap (locs ++ L) := by
  obtain ⟨hz, hk⟩ := hF
  rw [h0] at hz hk
  exact ⟨by rw [e1]; exact hz, fun q h1 h2 => by rw [e1]; exact hk q h1 h2,
    ⟨Nat.le_trans hS.1 (by rw [e1]; exact hz), fun q h1 h2 => by rw [e1, hk q (Nat.lt_of_lt_of_le h1 hS.1) (fun z => h2 (hA q (Nat.lt_of_lt_of_le h1 hS.1) z))]; exact hS.2.1 q h1 h2, fun q hq => by
      rcases List.mem_append.mp hq with h | h
      · exact hS.2.2 q h
      · exact hf _ (hL q h)⟩⟩
theorem vx_calli {S SX : Type} {post : Int32 → S → Prop} {px : SX → Prop} {B : S → State → Prop} {BX : String → SX → State → Prop} {AX : Nat → Prop} (hr : vx_Run p l e R s m args below meth c H locs cells slots mc ms (F0 m pc ls st0) rest (va_Qi post B A1 a) (vx_X px BX AX) free) (hS : va_S A0 H0 H locs) (hA : ∀ q, q < H.size → A1 q → A0 q) (hf : ∀ q, free q → A0 q) (hAX : ∀ q, q < H.size → AX q → A0 q)
    (kx : ∀ (E : String) (ce : Cell) (q9 : Addr) (u : SX) (t : State) (H1 : Heap) (locs1 : List Loc), t.heap = H1 → s.vm.Alike t.vm → px u → BX E u t → H.size ≤ H1.size → (∀ q : Nat, q < H.size → ¬ AX q → H1[q]? = H[q]?) → va_S A0 H0 H1 locs1 → H1[q9]? = some ce → ce.vm = .none → s.vm.findClass E = some ce.cls → vx_W p l e R s m args below meth c H1 locs1 (cells + mc) (slots + ms) Q (F0 m pc ls rest) q9)
    (kk : ∀ (r : Int32) (u : S) (t : State) (H1 : Heap) (locs1 : List Loc), t.heap = H1 → s.vm.Alike t.vm → post r u → B u t → H.size ≤ H1.size → (∀ q : Nat, q < H.size → ¬ A1 q → H1[q]? = H[q]?) → va_S A0 H0 H1 locs1 → W p l e R s m args below meth c H1 locs1 (cells + mc) (slots + ms) Q (F0 m (pc + 3) ls (.int r :: rest))) : W p l e R s m args below meth c H locs cells slots Q (F0 m pc ls st0) := by
  intro T hT X
  rcases hr T hT X with ⟨v, st₀, t, T', L, h0, X', hL, e1, e2, ⟨⟨r, u, hv, hp, hb⟩, hF⟩, st⟩ | ⟨q, st₀, t, T', L, E, ce, h0, X', hL, e1, e2, ⟨u, hp, hb, hF⟩, hce, hcv, hcl, st⟩
  · cases hv
    obtain ⟨k1, k2, k3⟩ := vx_keep h0 e1 hS hA hf hL hF
    obtain ⟨t2, a1, b1⟩ := kk r u t T'.heap (locs ++ L) e1.symm (by rw [← e2]; exact X'.warmed.alike) hp hb k1 k2 k3 T' rfl X'
    exact ⟨t2, st t2 a1, b1⟩
  · obtain ⟨k1, k2, k3⟩ := vx_keep h0 e1 hS hAX hf hL hF
    obtain ⟨t2, a1, b1⟩ := kx E ce q u t T'.heap (locs ++ L) e1.symm (by rw [← e2]; exact X'.warmed.alike) hp hb k1 k2 k3 (by rw [e1]; exact hce) hcv hcl T' rfl X'
    exact ⟨t2, st.trans a1, b1⟩
theorem vx_calll {S SX : Type} {post : Int64 → S → Prop} {px : SX → Prop} {B : S → State → Prop} {BX : String → SX → State → Prop} {AX : Nat → Prop} (hr : vx_Run p l e R s m args below meth c H locs cells slots mc ms (F0 m pc ls st0) rest (va_Ql post B A1 a) (vx_X px BX AX) free) (hS : va_S A0 H0 H locs) (hA : ∀ q, q < H.size → A1 q → A0 q) (hf : ∀ q, free q → A0 q) (hAX : ∀ q, q < H.size → AX q → A0 q)
    (kx : ∀ (E : String) (ce : Cell) (q9 : Addr) (u : SX) (t : State) (H1 : Heap) (locs1 : List Loc), t.heap = H1 → s.vm.Alike t.vm → px u → BX E u t → H.size ≤ H1.size → (∀ q : Nat, q < H.size → ¬ AX q → H1[q]? = H[q]?) → va_S A0 H0 H1 locs1 → H1[q9]? = some ce → ce.vm = .none → s.vm.findClass E = some ce.cls → vx_W p l e R s m args below meth c H1 locs1 (cells + mc) (slots + ms) Q (F0 m pc ls rest) q9)
    (kk : ∀ (r : Int64) (u : S) (t : State) (H1 : Heap) (locs1 : List Loc), t.heap = H1 → s.vm.Alike t.vm → post r u → B u t → H.size ≤ H1.size → (∀ q : Nat, q < H.size → ¬ A1 q → H1[q]? = H[q]?) → va_S A0 H0 H1 locs1 → W p l e R s m args below meth c H1 locs1 (cells + mc) (slots + ms) Q (F0 m (pc + 3) ls (.long r :: rest))) : W p l e R s m args below meth c H locs cells slots Q (F0 m pc ls st0) := by
  intro T hT X
  rcases hr T hT X with ⟨v, st₀, t, T', L, h0, X', hL, e1, e2, ⟨⟨r, u, hv, hp, hb⟩, hF⟩, st⟩ | ⟨q, st₀, t, T', L, E, ce, h0, X', hL, e1, e2, ⟨u, hp, hb, hF⟩, hce, hcv, hcl, st⟩
  · cases hv
    obtain ⟨k1, k2, k3⟩ := vx_keep h0 e1 hS hA hf hL hF
    obtain ⟨t2, a1, b1⟩ := kk r u t T'.heap (locs ++ L) e1.symm (by rw [← e2]; exact X'.warmed.alike) hp hb k1 k2 k3 T' rfl X'
    exact ⟨t2, st t2 a1, b1⟩
  · obtain ⟨k1, k2, k3⟩ := vx_keep h0 e1 hS hAX hf hL hF
    obtain ⟨t2, a1, b1⟩ := kx E ce q u t T'.heap (locs ++ L) e1.symm (by rw [← e2]; exact X'.warmed.alike) hp hb k1 k2 k3 (by rw [e1]; exact hce) hcv hcl T' rfl X'
    exact ⟨t2, st.trans a1, b1⟩
theorem vx_callf {S SX : Type} {post : UInt32 → S → Prop} {px : SX → Prop} {B : S → State → Prop} {BX : String → SX → State → Prop} {AX : Nat → Prop} (hr : vx_Run p l e R s m args below meth c H locs cells slots mc ms (F0 m pc ls st0) rest (va_Qf post B A1 a) (vx_X px BX AX) free) (hS : va_S A0 H0 H locs) (hA : ∀ q, q < H.size → A1 q → A0 q) (hf : ∀ q, free q → A0 q) (hAX : ∀ q, q < H.size → AX q → A0 q)
    (kx : ∀ (E : String) (ce : Cell) (q9 : Addr) (u : SX) (t : State) (H1 : Heap) (locs1 : List Loc), t.heap = H1 → s.vm.Alike t.vm → px u → BX E u t → H.size ≤ H1.size → (∀ q : Nat, q < H.size → ¬ AX q → H1[q]? = H[q]?) → va_S A0 H0 H1 locs1 → H1[q9]? = some ce → ce.vm = .none → s.vm.findClass E = some ce.cls → vx_W p l e R s m args below meth c H1 locs1 (cells + mc) (slots + ms) Q (F0 m pc ls rest) q9)
    (kk : ∀ (r : UInt32) (u : S) (t : State) (H1 : Heap) (locs1 : List Loc), t.heap = H1 → s.vm.Alike t.vm → post r u → B u t → H.size ≤ H1.size → (∀ q : Nat, q < H.size → ¬ A1 q → H1[q]? = H[q]?) → va_S A0 H0 H1 locs1 → W p l e R s m args below meth c H1 locs1 (cells + mc) (slots + ms) Q (F0 m (pc + 3) ls (.float r :: rest))) : W p l e R s m args below meth c H locs cells slots Q (F0 m pc ls st0) := by
  intro T hT X
  rcases hr T hT X with ⟨v, st₀, t, T', L, h0, X', hL, e1, e2, ⟨⟨r, u, hv, hp, hb⟩, hF⟩, st⟩ | ⟨q, st₀, t, T', L, E, ce, h0, X', hL, e1, e2, ⟨u, hp, hb, hF⟩, hce, hcv, hcl, st⟩
  · cases hv
    obtain ⟨k1, k2, k3⟩ := vx_keep h0 e1 hS hA hf hL hF
    obtain ⟨t2, a1, b1⟩ := kk r u t T'.heap (locs ++ L) e1.symm (by rw [← e2]; exact X'.warmed.alike) hp hb k1 k2 k3 T' rfl X'
    exact ⟨t2, st t2 a1, b1⟩
  · obtain ⟨k1, k2, k3⟩ := vx_keep h0 e1 hS hAX hf hL hF
    obtain ⟨t2, a1, b1⟩ := kx E ce q u t T'.heap (locs ++ L) e1.symm (by rw [← e2]; exact X'.warmed.alike) hp hb k1 k2 k3 (by rw [e1]; exact hce) hcv hcl T' rfl X'
    exact ⟨t2, st.trans a1, b1⟩
theorem vx_calld {S SX : Type} {post : UInt64 → S → Prop} {px : SX → Prop} {B : S → State → Prop} {BX : String → SX → State → Prop} {AX : Nat → Prop} (hr : vx_Run p l e R s m args below meth c H locs cells slots mc ms (F0 m pc ls st0) rest (va_Qd post B A1 a) (vx_X px BX AX) free) (hS : va_S A0 H0 H locs) (hA : ∀ q, q < H.size → A1 q → A0 q) (hf : ∀ q, free q → A0 q) (hAX : ∀ q, q < H.size → AX q → A0 q)
    (kx : ∀ (E : String) (ce : Cell) (q9 : Addr) (u : SX) (t : State) (H1 : Heap) (locs1 : List Loc), t.heap = H1 → s.vm.Alike t.vm → px u → BX E u t → H.size ≤ H1.size → (∀ q : Nat, q < H.size → ¬ AX q → H1[q]? = H[q]?) → va_S A0 H0 H1 locs1 → H1[q9]? = some ce → ce.vm = .none → s.vm.findClass E = some ce.cls → vx_W p l e R s m args below meth c H1 locs1 (cells + mc) (slots + ms) Q (F0 m pc ls rest) q9)
    (kk : ∀ (r : UInt64) (u : S) (t : State) (H1 : Heap) (locs1 : List Loc), t.heap = H1 → s.vm.Alike t.vm → post r u → B u t → H.size ≤ H1.size → (∀ q : Nat, q < H.size → ¬ A1 q → H1[q]? = H[q]?) → va_S A0 H0 H1 locs1 → W p l e R s m args below meth c H1 locs1 (cells + mc) (slots + ms) Q (F0 m (pc + 3) ls (.double r :: rest))) : W p l e R s m args below meth c H locs cells slots Q (F0 m pc ls st0) := by
  intro T hT X
  rcases hr T hT X with ⟨v, st₀, t, T', L, h0, X', hL, e1, e2, ⟨⟨r, u, hv, hp, hb⟩, hF⟩, st⟩ | ⟨q, st₀, t, T', L, E, ce, h0, X', hL, e1, e2, ⟨u, hp, hb, hF⟩, hce, hcv, hcl, st⟩
  · cases hv
    obtain ⟨k1, k2, k3⟩ := vx_keep h0 e1 hS hA hf hL hF
    obtain ⟨t2, a1, b1⟩ := kk r u t T'.heap (locs ++ L) e1.symm (by rw [← e2]; exact X'.warmed.alike) hp hb k1 k2 k3 T' rfl X'
    exact ⟨t2, st t2 a1, b1⟩
  · obtain ⟨k1, k2, k3⟩ := vx_keep h0 e1 hS hAX hf hL hF
    obtain ⟨t2, a1, b1⟩ := kx E ce q u t T'.heap (locs ++ L) e1.symm (by rw [← e2]; exact X'.warmed.alike) hp hb k1 k2 k3 (by rw [e1]; exact hce) hcv hcl T' rfl X'
    exact ⟨t2, st.trans a1, b1⟩
theorem vx_callv {S SX : Type} {post : S → Prop} {px : SX → Prop} {B : S → State → Prop} {BX : String → SX → State → Prop} {AX : Nat → Prop} (hr : vx_Run p l e R s m args below meth c H locs cells slots mc ms (F0 m pc ls st0) rest (va_Qv post B A1 a) (vx_X px BX AX) free) (hS : va_S A0 H0 H locs) (hA : ∀ q, q < H.size → A1 q → A0 q) (hf : ∀ q, free q → A0 q) (hAX : ∀ q, q < H.size → AX q → A0 q)
    (kx : ∀ (E : String) (ce : Cell) (q9 : Addr) (u : SX) (t : State) (H1 : Heap) (locs1 : List Loc), t.heap = H1 → s.vm.Alike t.vm → px u → BX E u t → H.size ≤ H1.size → (∀ q : Nat, q < H.size → ¬ AX q → H1[q]? = H[q]?) → va_S A0 H0 H1 locs1 → H1[q9]? = some ce → ce.vm = .none → s.vm.findClass E = some ce.cls → vx_W p l e R s m args below meth c H1 locs1 (cells + mc) (slots + ms) Q (F0 m pc ls rest) q9)
    (kk : ∀ (u : S) (t : State) (H1 : Heap) (locs1 : List Loc), t.heap = H1 → s.vm.Alike t.vm → post u → B u t → H.size ≤ H1.size → (∀ q : Nat, q < H.size → ¬ A1 q → H1[q]? = H[q]?) → va_S A0 H0 H1 locs1 → W p l e R s m args below meth c H1 locs1 (cells + mc) (slots + ms) Q (F0 m (pc + 3) ls (rest))) : W p l e R s m args below meth c H locs cells slots Q (F0 m pc ls st0) := by
  intro T hT X
  rcases hr T hT X with ⟨v, st₀, t, T', L, h0, X', hL, e1, e2, ⟨⟨u, hv, hp, hb⟩, hF⟩, st⟩ | ⟨q, st₀, t, T', L, E, ce, h0, X', hL, e1, e2, ⟨u, hp, hb, hF⟩, hce, hcv, hcl, st⟩
  · cases hv
    obtain ⟨k1, k2, k3⟩ := vx_keep h0 e1 hS hA hf hL hF
    obtain ⟨t2, a1, b1⟩ := kk u t T'.heap (locs ++ L) e1.symm (by rw [← e2]; exact X'.warmed.alike) hp hb k1 k2 k3 T' rfl X'
    exact ⟨t2, st t2 a1, b1⟩
  · obtain ⟨k1, k2, k3⟩ := vx_keep h0 e1 hS hAX hf hL hF
    obtain ⟨t2, a1, b1⟩ := kx E ce q u t T'.heap (locs ++ L) e1.symm (by rw [← e2]; exact X'.warmed.alike) hp hb k1 k2 k3 (by rw [e1]; exact hce) hcv hcl T' rfl X'
    exact ⟨t2, st.trans a1, b1⟩
/-- caught by the row x of this method's table; the rows ahead don't take it -/
theorem vx_catch {own name : String} {E : String} {ce : Cell} {q : Addr} (hown : s.vm.findClass own = some m.cls) (pre : List ExceptionTableEntry) (x : ExceptionTableEntry) (suf : List ExceptionTableEntry) (hsplit : c.exceptionTable.toList = pre ++ x :: suf)
    (hpass : ∀ z ∈ pre, covers z pc = false ∨ (z.catchType ≠ 0 ∧ ∃ nm : String, (Cond.classLink own z.catchType nm).before args s = true ∧ va_Nc E nm s)) (hx : covers x pc = true) (h0 : x.catchType ≠ 0)
    (hlink : (Cond.classLink own x.catchType name).before args s = true) (hcast : (Cond.castable E name).before args s = true) (hcell : H[q]? = some ce) (hv : ce.vm = .none) (hcl : s.vm.findClass E = some ce.cls)
    (kk : W p l e R s m args below meth c H locs cells slots Q (F0 m x.handlerPc ls [.ref q])) : vx_W p l e R s m args below meth c H locs cells slots Q (F0 m pc ls rest) q := by
  intro T hT X
  have hpl : e.platform.magicAccessors = ({} : Platform).magicAccessors := by rw [X.admits.platform]
  obtain ⟨c3, c4, hc3, hc4, hasg⟩ := Cond.castable_spec hcast
  cases Option.some.inj (hc3.symm.trans hcl)
  obtain ⟨c5, hc5, hcl5⟩ := Cond.classLink_spec hown hlink e.platform hpl
  cases Option.some.inj (hc4.symm.trans hc5)
  obtain ⟨vm', X', st⟩ := X.thenCaughtThrough q (g := F0 m pc ls rest) rfl (Steps.refl _) (by rw [hT]; exact hcell) (by rw [hv]; rfl) (by obtain ⟨k9, h9, -⟩ := Vm.findClass_spec hcl; exact ⟨k9, h9⟩) pre x suf hsplit
    (fun z hz => by
      rcases hpass z hz with h | ⟨hz0, nm, hl1, hn1⟩
      · exact Or.inl h
      · obtain ⟨c6, hc6, hcl6⟩ := Cond.classLink_spec hown hl1 e.platform hpl
        obtain ⟨a8, b8, h1, h2, h3⟩ := hn1
        cases Option.some.inj (h1.symm.trans hcl)
        cases Option.some.inj (h2.symm.trans hc6)
        exact Or.inr ⟨hz0, _, hcl6, h3⟩) hx (Or.inr ⟨h0, c4, hcl5, hasg⟩)
  obtain ⟨t, a1, b1⟩ := kk (T.setVm vm') hT X'
  exact ⟨t, st.trans a1, b1⟩
end Rows
section Ends
variable {p : Program} {l : Launch} {e : Env} {R : Room} {s : State} {m : MethodId} {args : Array Value} {below : List Frame} {meth : Method} {c : Code} {H : Heap} {locs : List Loc} {cells slots : Nat} {Q : State → Prop}
variable {mc ms : Nat} {free : Addr → Prop} {A0 A1 : Nat → Prop} {H0 : Heap} {a : Array Value} {ls : Array Slot} {st0 rest : List Value}
variable {Qc : Array Value → State → Outcome → State → Prop} {XC : String → State → State → Prop}
/-- what a body that may throw owes at its end -/
def vx_MQ (below : List Frame) (Qc : Array Value → State → Outcome → State → Prop) (XC : String → State → State → Prop) (a : Array Value) (s : State) (mc ms : Nat) (free : Addr → Prop) : State → Prop := fun t =>
  ∃ o, t.status = .running ∧ Ended t below o ∧ vx_Q Qc XC mc ms free a s o t
theorem vx_ret {g : JFrame} {mc ms : Nat} (k : W p l e R s m args below meth c H locs cells slots (MQ below Qc args s mc ms free) g) : W p l e R s m args below meth c H locs cells slots (vx_MQ below Qc XC args s mc ms free) g := by
  intro T hT X
  obtain ⟨t, a1, o, b1, b2, b3, b4⟩ := k T hT X
  exact ⟨t, a1, o, b1, b2, Or.inl ⟨b3, b4⟩⟩
/-- not caught here: it goes on to the caller -/
theorem vx_widen {g : JFrame} {q : Addr} {k n : Nat} (h1 : cells ≤ k) (h2 : slots ≤ n) (kk : vx_W p l e R s m args below meth c H locs k n Q g q) : vx_W p l e R s m args below meth c H locs cells slots Q g q := fun T hT X => kk T hT (stand_widen X h1 h2)
theorem vx_out {pc : Nat} {E : String} {ce : Cell} {q : Addr} {mc ms : Nat} (hout : ∀ x ∈ c.exceptionTable.toList, covers x pc = false) (hlocks : meth.locks = false) (hcell : H[q]? = some ce) (hv : ce.vm = .none) (hcl : s.vm.findClass E = some ce.cls)
    (hx : ∀ t : State, t.heap = H → s.vm.Alike t.vm → XC E s t) (hf : ∀ z ∈ locs, free z.base) (hc : cells ≤ mc) (hs : slots ≤ ms) :
    vx_W p l e R s m args below meth c H locs cells slots (vx_MQ below Qc XC args s mc ms free) (F0 m pc ls rest) q := by
  intro T hT X
  obtain ⟨st1, hrun, hend, hW, hsm⟩ := X.leaveThrown q (g := F0 m pc ls rest) rfl rfl rfl hout hlocks
  have hcell9 : (T.setFrames (.throwing q :: below)).heap[q]? = some ce := by
    show T.heap[q]? = some ce
    rw [hT]; exact hcell
  exact ⟨_, st1, .threw q, hrun, hend, Or.inr ⟨q, rfl, E, ce, locs, hx _ hT hW.alike, hcell9, hv, hcl, hW, hsm.mono hc hs, hf⟩⟩
theorem vx_frame {U : State} {k n : Nat} (h : s.sameButNew ({ U with vm := s.vm } : State) locs k n) : s.heap.size ≤ U.heap.size ∧ ∀ q : Nat, q < s.heap.size → (∀ z ∈ locs, z.base ≠ q) → U.heap[q]? = s.heap[q]? := by
  obtain ⟨-, h2, -, -, -, h6⟩ := h
  refine ⟨h2, fun q hq hz => ?_⟩
  obtain ⟨c9, e1, e2, e3, e4⟩ := h6 q _ (Array.getElem?_eq_getElem hq)
  have hs : c9.slots = (s.heap[q]).slots := Array.ext_getElem? fun i => e4 i fun hm => hz _ hm rfl
  have h9 : c9 = s.heap[q] := by
    rw [hs] at e2
    exact e2
  have e5 : U.heap[q]? = some c9 := e1
  rw [e5, h9, Array.getElem?_eq_getElem hq]
/-- the words of a throw but the four that speak of the heap -/
def vx_no (w : Cond) : Bool := decide (w ≠ .isRef (.static Bundle.tN "UNASSIGNED_STACK" Bundle.steD)) && decide (w ≠ .isRef (.static Bundle.tN "SUPPRESSED_SENTINEL" Bundle.listD)) && decide (w ≠ .laysStatic Bundle.tN "UNASSIGNED_STACK" Bundle.steD) && decide (w ≠ .laysStatic Bundle.tN "SUPPRESSED_SENTINEL" Bundle.listD)
def vx_at0 (own : String) (ic : Nat) (X : String) (names : List String) : List Cond := (Bundle.ownAtoms0 own ic X names).filter vx_no
def vx_atS (own : String) (ic : Nat) (X : String) (names : List String) : List Cond := (Bundle.ownAtoms own ic X names).filter vx_no
/-- a word that the tables alone decide, or a good one -/
def vx_ot (w : Cond) : Bool := w.onTables || goodWord w
theorem vx_ot_at {args a' : Array Value} {s U : State} {w : Cond} (hW : s.WarmedH U.vm) (hvm : s.vm = U.vm) (hg : vx_ot w = true) (h : w.before args s = true) : w.before a' U = true := by
  simp only [vx_ot, Bool.or_eq_true] at hg
  rcases hg with hg | hg
  · exact va_tabs hg hvm h
  · exact word_at hW (good_of_word hg) h
/-- a list's words: the good ones out of the method's own list, the others by premises of their own -/
theorem vx_hat {args : Array Value} {s : State} {L B : List Cond} (h1 : ∀ w ∈ L.filter goodWord, w.before args s = true) (h2 : ∀ w ∈ L.filter (fun w => !goodWord w), w ∈ B) (h3 : ∀ w ∈ B, w.before args s = true) : ∀ w ∈ L, w.before args s = true := by
  intro w hw
  by_cases g : goodWord w = true
  · exact h1 w (List.mem_filter.mpr ⟨hw, g⟩)
  · refine h3 w (h2 w (List.mem_filter.mpr ⟨hw, ?_⟩))
    show (!goodWord w) = true
    cases hgw : goodWord w
    · rfl
    · exact absurd hgw g
theorem vx_c {args : Array Value} {s : State} {w : Cond} {B : List Cond} (h : w.before args s = true) (t : ∀ w ∈ B, w.before args s = true) : ∀ w' ∈ w :: B, w'.before args s = true := fun w' h' => (List.mem_cons.mp h').elim (fun e => by rw [e]; exact h) (t w')
theorem vx_n {args : Array Value} {s : State} : ∀ w ∈ ([] : List Cond), w.before args s = true := fun _ h => nomatch h
theorem vx_own {args : Array Value} {s : State} {L : List Cond} (h1 : ∀ w ∈ L.filter vx_no, w.before args s = true)
    (hU : (Cond.isRef (.static Bundle.tN "UNASSIGNED_STACK" Bundle.steD)).before args s = true) (hN : (Cond.isRef (.static Bundle.tN "SUPPRESSED_SENTINEL" Bundle.listD)).before args s = true)
    (lU : (Cond.laysStatic Bundle.tN "UNASSIGNED_STACK" Bundle.steD).before args s = true) (lN : (Cond.laysStatic Bundle.tN "SUPPRESSED_SENTINEL" Bundle.listD).before args s = true) : ∀ w ∈ L, w.before args s = true := by
  intro w hw
  by_cases e1 : w = .isRef (.static Bundle.tN "UNASSIGNED_STACK" Bundle.steD)
  · rw [e1]; exact hU
  · by_cases e2 : w = .isRef (.static Bundle.tN "SUPPRESSED_SENTINEL" Bundle.listD)
    · rw [e2]; exact hN
    · by_cases e3 : w = .laysStatic Bundle.tN "UNASSIGNED_STACK" Bundle.steD
      · rw [e3]; exact lU
      · by_cases e4 : w = .laysStatic Bundle.tN "SUPPRESSED_SENTINEL" Bundle.listD
        · rw [e4]; exact lN
        · exact h1 w (List.mem_filter.mpr ⟨hw, by unfold vx_no; rw [decide_eq_true e1, decide_eq_true e2, decide_eq_true e3, decide_eq_true e4]; rfl⟩)
/-- where a static field lies, its class's statics cell in H -/
def vx_L (C n d : String) (A : Nat → Prop) (U : State) (H : Heap) : Prop := ∃ (c : ClassId) (k : Class) (i : Nat) (f : Field) (a : Nat) (cell : Cell), U.vm.findClass C = some c ∧ U.fieldFound? C n d = some (c, k, i, f) ∧ f.isStatic = true ∧ k.statics = some a ∧ H[a]? = some cell ∧ cell.vm.isStatics = true ∧ cell.cls = c ∧ f.slot < cell.slots.size ∧ k.staticTypes[f.slot]? = some f.type ∧ ¬ A a
theorem vx_L.moved {C n d : String} {A : Nat → Prop} {u U : State} {H : Heap} (hvm : u.vm.Alike U.vm) (h : vx_L C n d A u H) : vx_L C n d A U H := by
  obtain ⟨c, k, i, f, a, cell, h1, h2, h3, h4, h5, h6, h7, h8, h9, h10⟩ := h
  obtain ⟨k', hi', he⟩ := State.fieldFound?_setVm hvm h2
  exact ⟨c, k', i, f, a, cell, by rw [hvm.findClass]; exact h1, hi', h3, by rw [he]; exact h4, h5, h6, h7, h8, by rw [he]; exact h9, h10⟩
theorem vx_L.kept {C n d : String} {A : Nat → Prop} {U : State} {H H1 : Heap} (h : vx_L C n d A U H) (hq : ∀ a : Nat, a < H.size → ¬ A a → H1[a]? = H[a]?) : vx_L C n d A U H1 := by
  obtain ⟨c, k, i, f, a, cell, h1, h2, h3, h4, h5, h6, h7, h8, h9, h10⟩ := h
  exact ⟨c, k, i, f, a, cell, h1, h2, h3, h4, by rw [hq a (Array.getElem?_eq_some_iff.mp h5).1 h10]; exact h5, h6, h7, h8, h9, h10⟩
theorem vx_L.narrow {C n d : String} {A B : Nat → Prop} {U : State} {H : Heap} (h : vx_L C n d A U H) (hAB : ∀ q, B q → A q) : vx_L C n d B U H := by
  obtain ⟨c, k, i, f, a, cell, h1, h2, h3, h4, h5, h6, h7, h8, h9, h10⟩ := h
  exact ⟨c, k, i, f, a, cell, h1, h2, h3, h4, h5, h6, h7, h8, h9, fun z => h10 (hAB _ z)⟩
theorem vx_L.word {C n d : String} {A : Nat → Prop} {s : State} {args : Array Value} (h : vx_L C n d A s s.heap) : (Cond.laysStatic C n d).before args s = true := by
  obtain ⟨c, k, i, f, a, cell, h1, h2, h3, h4, h5, h6, h7, h8, h9, -⟩ := h
  show (Cond.laysStatic C n d).holds args s none s [] = true
  exact Cond.laysStatic_of h1 h2 h3 h4 h5 h6 h7 h8 h9
/-- .. and what it holds: null or some reference -/
def vx_Zq (C n d : String) (A : Nat → Prop) (U : State) (H : Heap) : Prop := va_Zq C n d A U H ∧ vx_L C n d A U H
theorem vx_Zq.moved {C n d : String} {A : Nat → Prop} {u U : State} {H : Heap} (hvm : u.vm.Alike U.vm) (h : vx_Zq C n d A u H) : vx_Zq C n d A U H := ⟨va_Zq.moved hvm h.1, vx_L.moved hvm h.2⟩
theorem vx_Zq.kept {C n d : String} {A : Nat → Prop} {U : State} {H H1 : Heap} (h : vx_Zq C n d A U H) (hq : ∀ a : Nat, a < H.size → ¬ A a → H1[a]? = H[a]?) : vx_Zq C n d A U H1 := ⟨va_Zq.kept h.1 hq, vx_L.kept h.2 hq⟩
theorem vx_Zq.narrow {C n d : String} {A B : Nat → Prop} {U : State} {H : Heap} (h : vx_Zq C n d A U H) (hAB : ∀ q, B q → A q) : vx_Zq C n d B U H := ⟨va_Zq.narrow h.1 hAB, vx_L.narrow h.2 hAB⟩
theorem vx_Zqof {args : Array Value} {s : State} {C n d : String} {A : Nat → Prop} (hl : (Cond.laysStatic C n d).before args s = true) (hini : (Cond.initialized C).before args s = true) (h : (Cond.isRef (.static C n d)).before args s = true) (hA : ∀ a : Nat, a < s.heap.size → ¬ A a) : vx_Zq C n d A s s.heap := by
  refine ⟨va_Zqof hl hini h hA, ?_⟩
  obtain ⟨c, k, i, f, a, cell, h1, h2, h3, h4, h5, h6, h7, h8, h9⟩ := Cond.laysStatic_spec hl
  exact ⟨c, k, i, f, a, cell, h1, h2, h3, h4, h5, h6, h7, h8, h9, hA a (Array.getElem?_eq_some_iff.mp h5).1⟩
theorem vx_isRef {C n d : String} {v : Value} {A : Nat → Prop} {s : State} {args : Array Value} (h : va_Z C n d v A s s.heap) (hv : v.isRef = true) : (Cond.isRef (.static C n d)).before args s = true := by
  obtain ⟨cf, kf, fi, f, a, cell, h1, h2, h3, h4, h5, h6, h7, -⟩ := h
  have he : (Term.static C n d).eval args s none [] s = some v := by
    simp [Term.eval, State.fieldNamed?, h1, h2, h4, h5, h6, h7]
  simp only [Cond.before, Cond.holds, Cond.value, he]
  cases v <;> simp_all [Value.isRef]
theorem vx_isRefq {C n d : String} {A : Nat → Prop} {s : State} {args : Array Value} (h : va_Zq C n d A s s.heap) : (Cond.isRef (.static C n d)).before args s = true := by
  rcases h with h | ⟨t, h⟩
  · exact vx_isRef h rfl
  · exact vx_isRef h rfl
/-- the same frame, seen from here: as if the method were called anew in this heap -/
theorem vx_rebase {T : State} (X : Stand p l e R s m args below meth c T locs cells slots) {R' : Room} (hf : R'.frames ≤ R.frames) (hl : R'.locals ≤ R.locals) (hc : cells + R'.cells ≤ R.cells) (hs : slots + R'.slots ≤ R.slots) :
    Stand p l e R' ((T.setVm s.vm).setFrames (.invoking m args :: below)) m args below meth c T [] 0 0 := by
  have htop : (T.setVm s.vm).topJava?.isSome := X.here.top
  have hF : ((T.setVm s.vm).setFrames (.invoking m args :: below)).frames = .invoking m args :: below := State.frames_setFrames _ (State.cur_lt_of_top htop)
  obtain ⟨g₀, hg0⟩ := Option.isSome_iff_exists.mp htop
  obtain ⟨r, hr⟩ := State.topJava?_eq_some.mp hg0
  have hl9 : e.platform.stackLimits (T.setVm s.vm).me = e.platform.stackLimits s.me := X.limits
  have hb9 : (T.setVm s.vm).me.stackBytes = s.me.stackBytes := X.bytes
  refine ⟨X.admits, X.cas, X.clock, hF, ?_, X.hears, X.method, X.code, X.here, X.tail, X.warmed, ?_, ?_, ?_⟩
  · have h := X.room
    have hU : ((T.setVm s.vm).setFrames (.invoking m args :: below)).localsInUse = s.localsInUse := by
      rw [State.localsInUse_invoking hF (meth := meth) (c := c) X.method X.code, State.localsInUse_invoking X.frames X.method X.code]
    simp only [State.hasRoom, Bool.and_eq_true, decide_eq_true_eq] at h ⊢
    obtain ⟨⟨⟨⟨h1, h2, h3, h4, h5, h6⟩, h7⟩, h8⟩, h9⟩ := h
    rw [X.frames, List.length_cons] at h2 h3
    have q1 := X.heapSize
    have q2 := X.used
    simp only [hF, hU, List.length_cons, State.stackLimits_setFrames, State.stackBytes_setFrames, hl9, hb9]
    refine ⟨⟨⟨⟨by omega, by omega, by omega, by omega, by omega, h6⟩, ?_⟩, ?_⟩, X.book⟩
    · show T.heap.size + R'.cells ≤ e.platform.maxCells
      omega
    · show T.slotsUsed + R'.slots ≤ e.platform.maxSlots
      omega
  · rw [State.stackLimits_setFrames]; rfl
  · rw [State.stackBytes_setFrames]; rfl
  · refine ⟨?_, Nat.le_refl _, Nat.le_refl _, ?_, ?_, fun a c9 h9 => ⟨c9, h9, rfl, rfl, fun _ _ => rfl⟩⟩
    · obtain ⟨t, ht, -⟩ := State.frames_cons hr
      show T.setVm s.vm = { ((T.setVm s.vm).setFrames (.invoking m args :: below)).setFrames (T.setVm s.vm).frames with heap := T.heap, slotsUsed := T.slotsUsed }
      rw [State.setFrames_setFrames, State.setFrames_self ht]
      rfl
    · show T.slotsUsed = T.slotsUsed + ((T.heap.toList.drop T.heap.size).map (·.slots.size)).sum
      rw [List.drop_eq_nil_of_le (Nat.le_of_eq Array.length_toList)]
      rfl
    · show ((T.heap.toList.drop T.heap.size).map (·.slots.size)).sum ≤ 0
      rw [List.drop_eq_nil_of_le (Nat.le_of_eq Array.length_toList)]
      exact Nat.le_refl _
/-- 'throw new E()': new; dup; invokespecial; athrow -/
theorem vx_throw0 {cc : ByteArray} {pc : Nat} (hexec : p.tables.exec = Jvm.exec) (hb : c.code = cc) (hl : l.stackTraces = false) {own cls : String} {names : List String} {ik ic mc ms : Nat} {A : Nat → Prop}
    (hown : s.vm.findClass own = some m.cls) (hcls : Bundle.fit cls = true) (hnames : ∀ n ∈ names, Bundle.fit n = true)
    (hk : (Cond.classLink own ik cls).before args s = true) (hini : (Cond.initialized cls).before args s = true) (hat : ∀ w ∈ vx_at0 own ic cls names, w.before args s = true)
    (hgood : ∀ w ∈ Cond.classLink own ik cls :: Cond.initialized cls :: vx_at0 own ic cls names, vx_ot w = true)
    (hU : vx_Zq Bundle.tN "UNASSIGNED_STACK" Bundle.steD A s s.heap) (hN : vx_Zq Bundle.tN "SUPPRESSED_SENTINEL" Bundle.listD A s s.heap) (hS : va_S A s.heap H locs) (hsize : ls.size = c.maxLocals)
    (d0 : decode cc pc = .ok (.new ik, 3)) (d3 : decode cc (pc + 3) = .ok (.dup, 1)) (d4 : decode cc (pc + 4) = .ok (.invokespecial ic, 3)) (d7 : decode cc (pc + 7) = .ok (.athrow, 1))
    (hout : ∀ x ∈ c.exceptionTable.toList, covers x (pc + 7) = false)
    (hRframes : names.length + 3 < R.frames) (hRlocals : (rest.map fun v => v.category).sum + (13 * (names.length + 1) + 42) ≤ R.locals) (hRcells : cells + 1 ≤ R.cells) (hRslots : slots + 6 ≤ R.slots) (hlocks : meth.locks = false)
    (hx : ∀ t : State, s.vm.Alike t.vm → H.size ≤ t.heap.size → (∀ q : Nat, q < H.size → t.heap[q]? = H[q]?) → XC cls s t)
    (hf : ∀ z ∈ locs, free z.base) (hc : cells + 1 ≤ mc) (hs : slots + 6 ≤ ms) :
    W p l e R s m args below meth c H locs cells slots (vx_MQ below Qc XC args s mc ms free) (F0 m pc ls rest) := by
  intro T hT X
  have htr : e.platform.stackTraces = false := (show e.platform.stackTraces = l.stackTraces by rw [X.admits.platform]).trans hl
  have Y := vx_rebase X (R' := { frames := R.frames, locals := R.locals, cells := 1, slots := 6 }) (Nat.le_refl _) (Nat.le_refl _) hRcells hRslots
  obtain ⟨s', hA⟩ : ∃ z, z = (T.setVm s.vm).setFrames (.invoking m args :: below) := ⟨_, rfl⟩
  rw [← hA] at Y
  have hvm : s'.vm = s.vm := by rw [hA]; rfl
  have hhp : s'.heap = H := by rw [hA]; exact hT
  have hW0 : s.WarmedH s'.vm := by rw [hvm]; exact State.WarmedH.refl s
  have hat' : ∀ w ∈ vx_at0 own ic cls names, w.before args s' = true := fun w hw => vx_ot_at hW0 hvm.symm (hgood w (List.mem_cons_of_mem _ (List.mem_cons_of_mem _ hw))) (hat w hw)
  have hk' : (Cond.classLink own ik cls).before args s' = true := vx_ot_at hW0 hvm.symm (hgood _ List.mem_cons_self) hk
  have hini' : (Cond.initialized cls).before args s' = true := vx_ot_at hW0 hvm.symm (hgood _ (List.mem_cons_of_mem _ List.mem_cons_self)) hini
  have hU' : vx_Zq Bundle.tN "UNASSIGNED_STACK" Bundle.steD A s' s'.heap := by rw [hhp]; exact vx_Zq.moved hW0.alike (hU.kept hS.2.1)
  have hN' : vx_Zq Bundle.tN "SUPPRESSED_SENTINEL" Bundle.listD A s' s'.heap := by rw [hhp]; exact vx_Zq.moved hW0.alike (hN.kept hS.2.1)
  have h : ∀ w ∈ Bundle.ownAtoms0 own ic cls names, w.before args s' = true := vx_own hat' (vx_isRefq hU'.1) (vx_isRefq hN'.1) hU'.2.word hN'.2.word
  have hown' : s'.vm.findClass own = some m.cls := by rw [hvm]; exact hown
  have hins : (Cond.instantiable cls 6).before args s' = true := h _ (by simp [Bundle.ownAtoms0])
  obtain ⟨vm₁, cX, kX, hfX, hkX, -, -, X₁, st1⟩ := Y.newCold hexec (own := own) (C := cls) (index := ik) (n := 6) hown' hk' hins hini'
    (g := F0 m pc ls rest) rfl (by rw [hb]; exact d0) (Nat.le_refl _) (Nat.le_refl _)
  generalize hT1 : (T.setVm vm₁).pushCell { cls := cX, slots := kX.instanceTypes.map defaultValue, vm := .none } = T1 at X₁ st1
  have hcat : (Value.ref T.heap.size).category = 1 := rfl
  have hcellA : T1.heap[T.heap.size]? = some (freshCell cX kX) := by rw [← hT1]; exact State.heap_pushCell_size _ _
  have d3' : decode c.code (pc + 3) = .ok (.dup, 1) := by rw [hb]; exact d3
  obtain ⟨U, hsteps, hrun, hend, hW, hsame, ce, hce, hO⟩ := X₁.ctorThrow0 hexec htr (own := own) (cls := cls) (names := names) (ic := ic) hown' hcls hnames h (fun x hx => nomatch hx) hfX hkX hcellA (by rw [hhp, hT]; exact Nat.le_refl _)
    (g := { method := m, pc := pc + 4, locals := ls, stack := .ref T.heap.size :: .ref T.heap.size :: rest, locked := none }) rfl hsize rfl rfl (rest := rest) rfl
    (by rw [hb]; exact d4) (by rw [hb]; exact d7) hout hRframes (by simp only [List.map_cons, List.sum_cons, hcat]; omega) hlocks
  obtain ⟨f1, f2⟩ := vx_frame hsame
  rw [hhp] at f1 f2
  have hWs : s.WarmedH U.vm := State.WarmedH.trans hW0 hW
  have hcl : s.vm.findClass cls = some ce.cls := by
    have h9 := hO.cls
    rw [hvm] at h9
    exact h9
  have hall : s.sameButNew ({ U with vm := s.vm } : State) locs mc ms := by
    subst hA
    obtain ⟨e1, e2⟩ := hsame
    rw [State.setFrames_setFrames] at e1
    have h2 : (T.setVm s.vm).sameButNew ({ U with vm := s.vm } : State) [] (0 + 1) (0 + 6) := ⟨e1, e2⟩
    have h3 := X.same.trans h2
    rw [List.append_nil] at h3
    exact h3.mono hc hs
  refine ⟨U, ?_, .threw T.heap.size, hrun, hend, Or.inr ⟨T.heap.size, rfl, cls, ce, locs, hx U hWs.alike f1 (fun q hq => f2 q hq (fun z hz => nomatch hz)), hce, hO.vm, hcl, hWs, hall, hf⟩⟩
  refine st1 _ ?_
  show Steps p.tables e below (T1.setTop { method := m, pc := pc + 3, locals := ls, stack := .ref T.heap.size :: rest, locked := none }) _
  jvm_step X₁.here [X₁.here.top, hexec, d3', Value.category]
  exact hsteps
/-- 'throw new E("text")': new; dup; ldc; invokespecial; athrow -/
theorem vx_throwS {cc : ByteArray} {pc : Nat} (hexec : p.tables.exec = Jvm.exec) (hb : c.code = cc) (hl : l.stackTraces = false) {own cls text : String} {names : List String} {ik is ic mc ms sa : Nat} {A : Nat → Prop}
    (hown : s.vm.findClass own = some m.cls) (hcls : Bundle.fit cls = true) (hnames : ∀ n ∈ names, Bundle.fit n = true)
    (hk : (Cond.classLink own ik cls).before args s = true) (hini : (Cond.initialized cls).before args s = true) (hstr : vk_R own is text sa s) (hat : ∀ w ∈ vx_atS own ic cls names, w.before args s = true)
    (hgood : ∀ w ∈ Cond.classLink own ik cls :: Cond.initialized cls :: vx_atS own ic cls names, vx_ot w = true)
    (hU : vx_Zq Bundle.tN "UNASSIGNED_STACK" Bundle.steD A s s.heap) (hN : vx_Zq Bundle.tN "SUPPRESSED_SENTINEL" Bundle.listD A s s.heap) (hS : va_S A s.heap H locs) (hsize : ls.size = c.maxLocals)
    (d0 : decode cc pc = .ok (.new ik, 3)) (d3 : decode cc (pc + 3) = .ok (.dup, 1)) (d4 : decode cc (pc + 4) = .ok (.ldc is, 2)) (d6 : decode cc (pc + 6) = .ok (.invokespecial ic, 3)) (d9 : decode cc (pc + 9) = .ok (.athrow, 1))
    (hout : ∀ x ∈ c.exceptionTable.toList, covers x (pc + 9) = false)
    (hRframes : names.length + 3 < R.frames) (hRlocals : (rest.map fun v => v.category).sum + (13 * (names.length + 1) + 43) ≤ R.locals) (hRcells : cells + 1 ≤ R.cells) (hRslots : slots + 6 ≤ R.slots) (hlocks : meth.locks = false)
    (hx : ∀ t : State, s.vm.Alike t.vm → H.size ≤ t.heap.size → (∀ q : Nat, q < H.size → t.heap[q]? = H[q]?) → XC cls s t)
    (hf : ∀ z ∈ locs, free z.base) (hc : cells + 1 ≤ mc) (hs : slots + 6 ≤ ms) :
    W p l e R s m args below meth c H locs cells slots (vx_MQ below Qc XC args s mc ms free) (F0 m pc ls rest) := by
  intro T hT X
  have htr : e.platform.stackTraces = false := (show e.platform.stackTraces = l.stackTraces by rw [X.admits.platform]).trans hl
  have Y := vx_rebase X (R' := { frames := R.frames, locals := R.locals, cells := 1, slots := 6 }) (Nat.le_refl _) (Nat.le_refl _) hRcells hRslots
  obtain ⟨s', hA⟩ : ∃ z, z = (T.setVm s.vm).setFrames (.invoking m args :: below) := ⟨_, rfl⟩
  rw [← hA] at Y
  have hvm : s'.vm = s.vm := by rw [hA]; rfl
  have hhp : s'.heap = H := by rw [hA]; exact hT
  have hW0 : s.WarmedH s'.vm := by rw [hvm]; exact State.WarmedH.refl s
  have hat' : ∀ w ∈ vx_atS own ic cls names, w.before args s' = true := fun w hw => vx_ot_at hW0 hvm.symm (hgood w (List.mem_cons_of_mem _ (List.mem_cons_of_mem _ hw))) (hat w hw)
  have hk' : (Cond.classLink own ik cls).before args s' = true := vx_ot_at hW0 hvm.symm (hgood _ List.mem_cons_self) hk
  have hini' : (Cond.initialized cls).before args s' = true := vx_ot_at hW0 hvm.symm (hgood _ (List.mem_cons_of_mem _ List.mem_cons_self)) hini
  have hU' : vx_Zq Bundle.tN "UNASSIGNED_STACK" Bundle.steD A s' s'.heap := by rw [hhp]; exact vx_Zq.moved hW0.alike (hU.kept hS.2.1)
  have hN' : vx_Zq Bundle.tN "SUPPRESSED_SENTINEL" Bundle.listD A s' s'.heap := by rw [hhp]; exact vx_Zq.moved hW0.alike (hN.kept hS.2.1)
  have h : ∀ w ∈ Bundle.ownAtoms own ic cls names, w.before args s' = true := vx_own hat' (vx_isRefq hU'.1) (vx_isRefq hN'.1) hU'.2.word hN'.2.word
  have hown' : s'.vm.findClass own = some m.cls := by rw [hvm]; exact hown
  have hins : (Cond.instantiable cls 6).before args s' = true := h _ (by simp [Bundle.ownAtoms])
  obtain ⟨vm₁, cX, kX, hfX, hkX, -, -, X₁, st1⟩ := Y.newCold hexec (own := own) (C := cls) (index := ik) (n := 6) hown' hk' hins hini'
    (g := F0 m pc ls rest) rfl (by rw [hb]; exact d0) (Nat.le_refl _) (Nat.le_refl _)
  generalize hT1 : (T.setVm vm₁).pushCell { cls := cX, slots := kX.instanceTypes.map defaultValue, vm := .none } = T1 at X₁ st1
  have hcat : (Value.ref T.heap.size).category = 1 := rfl
  have hcellA : T1.heap[T.heap.size]? = some (freshCell cX kX) := by rw [← hT1]; exact State.heap_pushCell_size _ _
  have d3' : decode c.code (pc + 3) = .ok (.dup, 1) := by rw [hb]; exact d3
  have d4' : decode c.code (pc + 4) = .ok (.ldc is, 2) := by rw [hb]; exact d4
  have hstr' : vk_R own is text sa s' := vk_R.warm hW0 hstr
  obtain ⟨U, hsteps, hrun, hend, hW, hsame, ce, hce, hO⟩ := X₁.ctorThrowS hexec htr (own := own) (cls := cls) (names := names) (ic := ic) hown' hcls hnames h (fun x hx => nomatch hx) hfX hkX hcellA (by rw [hhp, hT]; exact Nat.le_refl _) (msg := .ref sa) rfl
    (g := { method := m, pc := pc + 6, locals := ls, stack := .ref sa :: .ref T.heap.size :: .ref T.heap.size :: rest, locked := none }) rfl hsize rfl rfl (rest := rest) rfl
    (by rw [hb]; exact d6) (by rw [hb]; exact d9) hout hRframes (by simp only [List.map_cons, List.sum_cons, hcat]; omega) hlocks
  obtain ⟨f1, f2⟩ := vx_frame hsame
  rw [hhp] at f1 f2
  have hWs : s.WarmedH U.vm := State.WarmedH.trans hW0 hW
  have hcl : s.vm.findClass cls = some ce.cls := by
    have h9 := hO.cls
    rw [hvm] at h9
    exact h9
  have hall : s.sameButNew ({ U with vm := s.vm } : State) locs mc ms := by
    subst hA
    obtain ⟨e1, e2⟩ := hsame
    rw [State.setFrames_setFrames] at e1
    have h2 : (T.setVm s.vm).sameButNew ({ U with vm := s.vm } : State) [] (0 + 1) (0 + 6) := ⟨e1, e2⟩
    have h3 := X.same.trans h2
    rw [List.append_nil] at h3
    exact h3.mono hc hs
  refine ⟨U, ?_, .threw T.heap.size, hrun, hend, Or.inr ⟨T.heap.size, rfl, cls, ce, locs, hx U hWs.alike f1 (fun q hq => f2 q hq (fun z hz => nomatch hz)), hce, hO.vm, hcl, hWs, hall, hf⟩⟩
  refine st1 _ ?_
  show Steps p.tables e below (T1.setTop { method := m, pc := pc + 3, locals := ls, stack := .ref T.heap.size :: rest, locked := none }) _
  jvm_step X₁.here [X₁.here.top, hexec, d3', Value.category]
  exact X₁.ldcString hexec (own := own) (text := text) (index := is) (a := sa) hown' hstr'.1 hstr'.2
    (g := { method := m, pc := pc + 4, locals := ls, stack := .ref T.heap.size :: .ref T.heap.size :: rest, locked := none }) rfl d4' _ hsteps
/-- 'throw new E("text")', the text by a wide index -/
theorem vx_throwSW {cc : ByteArray} {pc : Nat} (hexec : p.tables.exec = Jvm.exec) (hb : c.code = cc) (hl : l.stackTraces = false) {own cls text : String} {names : List String} {ik is ic mc ms sa : Nat} {A : Nat → Prop}
    (hown : s.vm.findClass own = some m.cls) (hcls : Bundle.fit cls = true) (hnames : ∀ n ∈ names, Bundle.fit n = true)
    (hk : (Cond.classLink own ik cls).before args s = true) (hini : (Cond.initialized cls).before args s = true) (hstr : vk_R own is text sa s) (hat : ∀ w ∈ vx_atS own ic cls names, w.before args s = true)
    (hgood : ∀ w ∈ Cond.classLink own ik cls :: Cond.initialized cls :: vx_atS own ic cls names, vx_ot w = true)
    (hU : vx_Zq Bundle.tN "UNASSIGNED_STACK" Bundle.steD A s s.heap) (hN : vx_Zq Bundle.tN "SUPPRESSED_SENTINEL" Bundle.listD A s s.heap) (hS : va_S A s.heap H locs) (hsize : ls.size = c.maxLocals)
    (d0 : decode cc pc = .ok (.new ik, 3)) (d3 : decode cc (pc + 3) = .ok (.dup, 1)) (d4 : decode cc (pc + 4) = .ok (.ldc_w is, 3)) (d7 : decode cc (pc + 7) = .ok (.invokespecial ic, 3)) (d10 : decode cc (pc + 10) = .ok (.athrow, 1))
    (hout : ∀ x ∈ c.exceptionTable.toList, covers x (pc + 10) = false)
    (hRframes : names.length + 3 < R.frames) (hRlocals : (rest.map fun v => v.category).sum + (13 * (names.length + 1) + 43) ≤ R.locals) (hRcells : cells + 1 ≤ R.cells) (hRslots : slots + 6 ≤ R.slots) (hlocks : meth.locks = false)
    (hx : ∀ t : State, s.vm.Alike t.vm → H.size ≤ t.heap.size → (∀ q : Nat, q < H.size → t.heap[q]? = H[q]?) → XC cls s t)
    (hf : ∀ z ∈ locs, free z.base) (hc : cells + 1 ≤ mc) (hs : slots + 6 ≤ ms) :
    W p l e R s m args below meth c H locs cells slots (vx_MQ below Qc XC args s mc ms free) (F0 m pc ls rest) := by
  intro T hT X
  have htr : e.platform.stackTraces = false := (show e.platform.stackTraces = l.stackTraces by rw [X.admits.platform]).trans hl
  have Y := vx_rebase X (R' := { frames := R.frames, locals := R.locals, cells := 1, slots := 6 }) (Nat.le_refl _) (Nat.le_refl _) hRcells hRslots
  obtain ⟨s', hA⟩ : ∃ z, z = (T.setVm s.vm).setFrames (.invoking m args :: below) := ⟨_, rfl⟩
  rw [← hA] at Y
  have hvm : s'.vm = s.vm := by rw [hA]; rfl
  have hhp : s'.heap = H := by rw [hA]; exact hT
  have hW0 : s.WarmedH s'.vm := by rw [hvm]; exact State.WarmedH.refl s
  have hat' : ∀ w ∈ vx_atS own ic cls names, w.before args s' = true := fun w hw => vx_ot_at hW0 hvm.symm (hgood w (List.mem_cons_of_mem _ (List.mem_cons_of_mem _ hw))) (hat w hw)
  have hk' : (Cond.classLink own ik cls).before args s' = true := vx_ot_at hW0 hvm.symm (hgood _ List.mem_cons_self) hk
  have hini' : (Cond.initialized cls).before args s' = true := vx_ot_at hW0 hvm.symm (hgood _ (List.mem_cons_of_mem _ List.mem_cons_self)) hini
  have hU' : vx_Zq Bundle.tN "UNASSIGNED_STACK" Bundle.steD A s' s'.heap := by rw [hhp]; exact vx_Zq.moved hW0.alike (hU.kept hS.2.1)
  have hN' : vx_Zq Bundle.tN "SUPPRESSED_SENTINEL" Bundle.listD A s' s'.heap := by rw [hhp]; exact vx_Zq.moved hW0.alike (hN.kept hS.2.1)
  have h : ∀ w ∈ Bundle.ownAtoms own ic cls names, w.before args s' = true := vx_own hat' (vx_isRefq hU'.1) (vx_isRefq hN'.1) hU'.2.word hN'.2.word
  have hown' : s'.vm.findClass own = some m.cls := by rw [hvm]; exact hown
  have hins : (Cond.instantiable cls 6).before args s' = true := h _ (by simp [Bundle.ownAtoms])
  obtain ⟨vm₁, cX, kX, hfX, hkX, -, -, X₁, st1⟩ := Y.newCold hexec (own := own) (C := cls) (index := ik) (n := 6) hown' hk' hins hini'
    (g := F0 m pc ls rest) rfl (by rw [hb]; exact d0) (Nat.le_refl _) (Nat.le_refl _)
  generalize hT1 : (T.setVm vm₁).pushCell { cls := cX, slots := kX.instanceTypes.map defaultValue, vm := .none } = T1 at X₁ st1
  have hcat : (Value.ref T.heap.size).category = 1 := rfl
  have hcellA : T1.heap[T.heap.size]? = some (freshCell cX kX) := by rw [← hT1]; exact State.heap_pushCell_size _ _
  have d3' : decode c.code (pc + 3) = .ok (.dup, 1) := by rw [hb]; exact d3
  have d4' : decode c.code (pc + 4) = .ok (.ldc_w is, 3) := by rw [hb]; exact d4
  have hstr' : vk_R own is text sa s' := vk_R.warm hW0 hstr
  obtain ⟨U, hsteps, hrun, hend, hW, hsame, ce, hce, hO⟩ := X₁.ctorThrowS hexec htr (own := own) (cls := cls) (names := names) (ic := ic) hown' hcls hnames h (fun x hx => nomatch hx) hfX hkX hcellA (by rw [hhp, hT]; exact Nat.le_refl _) (msg := .ref sa) rfl
    (g := { method := m, pc := pc + 7, locals := ls, stack := .ref sa :: .ref T.heap.size :: .ref T.heap.size :: rest, locked := none }) rfl hsize rfl rfl (rest := rest) rfl
    (by rw [hb]; exact d7) (by rw [hb]; exact d10) hout hRframes (by simp only [List.map_cons, List.sum_cons, hcat]; omega) hlocks
  obtain ⟨f1, f2⟩ := vx_frame hsame
  rw [hhp] at f1 f2
  have hWs : s.WarmedH U.vm := State.WarmedH.trans hW0 hW
  have hcl : s.vm.findClass cls = some ce.cls := by
    have h9 := hO.cls
    rw [hvm] at h9
    exact h9
  have hall : s.sameButNew ({ U with vm := s.vm } : State) locs mc ms := by
    subst hA
    obtain ⟨e1, e2⟩ := hsame
    rw [State.setFrames_setFrames] at e1
    have h2 : (T.setVm s.vm).sameButNew ({ U with vm := s.vm } : State) [] (0 + 1) (0 + 6) := ⟨e1, e2⟩
    have h3 := X.same.trans h2
    rw [List.append_nil] at h3
    exact h3.mono hc hs
  refine ⟨U, ?_, .threw T.heap.size, hrun, hend, Or.inr ⟨T.heap.size, rfl, cls, ce, locs, hx U hWs.alike f1 (fun q hq => f2 q hq (fun z hz => nomatch hz)), hce, hO.vm, hcl, hWs, hall, hf⟩⟩
  refine st1 _ ?_
  show Steps p.tables e below (T1.setTop { method := m, pc := pc + 3, locals := ls, stack := .ref T.heap.size :: rest, locked := none }) _
  jvm_step X₁.here [X₁.here.top, hexec, d3', Value.category]
  exact X₁.ldcStringW hexec (own := own) (text := text) (index := is) (a := sa) hown' hstr'.1 hstr'.2
    (g := { method := m, pc := pc + 4, locals := ls, stack := .ref T.heap.size :: .ref T.heap.size :: rest, locked := none }) rfl d4' _ hsteps
end Ends
section Bodies
variable {l : Launch}
theorem vx_ofW {y : MethodName} {ws ws' : List Cond} {rm : Room} {Pc : Array Value → State → Prop} {Qc : Array Value → State → Outcome → State → Prop} {XC : String → State → State → Prop} {mc ms : Nat} {free : Addr → Prop} {cc : ByteArray} {maxL : Nat} {ret : Option FieldType}
    (hy : plainName y.cls = true) (hw : ws = Cond.code y cc maxL ret :: ws')
    (body : ∀ p e s m args below meth c s₁, BodyLoose p l y (headSpec ws rm) cc maxL ret e s m args below meth c s₁ → c.maxLocals = maxL → (∀ x ∈ c.exceptionTable.toList, False) → Pc args s →
      W p l e (headSpec ws rm).room s m args below meth c s.heap [] 0 0 (vx_MQ below Qc XC args s mc ms free) (entryFrame m args maxL)) : vx_Met l y ws rm Pc Qc XC mc ms free := by
  refine MetFree.of_bodyS (code := cc) (maxLocals := maxL) (ret := ret) hy ?_ ?_
  · intro args s m h hn
    obtain ⟨meth, c, h1, h2, h3, h4, h5, h6, -, -⟩ := Cond.code_spec hn (atoms_spec (ws := ws) h _ (by rw [hw]; exact List.mem_cons_self))
    exact ⟨meth, c, h1, h2, h3, h4, h5, h6⟩
  · intro p e s m args below meth c s₁ B hml hP _
    have hh0 : s₁.heap = s.heap := by rw [B.state]; rfl
    have ht : ∀ x ∈ c.exceptionTable.toList, False := by
      obtain ⟨meth9, c9, h1, h2, -, -, -, -, h7, -⟩ := Cond.code_spec B.named (atoms_spec (ws := ws) B.pre _ (by rw [hw]; exact List.mem_cons_self))
      cases Option.some.inj (h1.symm.trans B.method)
      cases Option.some.inj (h2.symm.trans (Stand.of_body B).code)
      intro x hx
      rw [Array.isEmpty_iff.mp h7] at hx
      cases hx
    obtain ⟨t, a1, o, b1, b2, b3⟩ := body p e s m args below meth c s₁ B hml ht hP s₁ hh0 (Stand.of_body B)
    exact ⟨t, o, a1, b1, b2, b3⟩
/-- the table of a body with handlers -/
theorem vx_table {p : Program} {x y : MethodName} {S : Spec} {cc bytes : ByteArray} {maxL maxL' : Nat} {ret ret' : Option FieldType} {e : Env} {s s₁ : State} {m : MethodId} {args : Array Value} {below : List Frame} {meth : Method} {c : Code} {hh : List (Nat × Nat × Nat × Nat)}
    (B : BodyLoose p l y S cc maxL ret e s m args below meth c s₁) (h : (Cond.codeWith y bytes maxL' ret' hh).before args s = true) : c.exceptionTable.toList = tableOf hh := by
  obtain ⟨m9, meth9, c9, hn9, h1, h2, -, -, h6, -⟩ := Cond.codeWith_spec h
  cases Option.some.inj (hn9.symm.trans B.named)
  cases Option.some.inj (h1.symm.trans B.method)
  cases Option.some.inj (h2.symm.trans (Stand.of_body B).code)
  rw [← h6, table_eq]
end Bodies
end VXA
/-! ===== END ===== -/
/-! ===== BEGIN a static call of a method with an exception table ===== -/
section VXS
variable {p : Program} {l : Launch} {e : Env} {R : Room} {s : State} {m : MethodId} {args : Array Value} {below : List Frame} {meth : Method} {c : Code} {T : State} {H : Heap} {locs : List Loc} {cells slots : Nat}
abbrev vx_CSW (R : Room) (s : State) (args : Array Value) (own : String) (index : Nat) (y : MethodName) (bytes : ByteArray) (maxL : Nat) (ret : Option FieldType) (hh : List (Nat × Nat × Nat × Nat)) (ws : List Cond) (rm : Room) (mc ms n : Nat) : Prop :=
  (rm.cells = mc ∧ rm.slots = ms ∧ rm.frames + 1 ≤ R.frames ∧ 8 + (maxL + 11) + rm.locals ≤ R.locals ∧ (∀ w ∈ ws, ∀ (a' : Array Value) (U : State), s.WarmedH U.vm → w.before a' U = true) ∧ Cond.codeWith y bytes maxL ret hh ∈ ws) ∧
  (Cond.codeWith y bytes maxL ret hh).before args s = true ∧ (Cond.initialized y.cls).before args s = true ∧ (y.cls ≠ "java/lang/invoke/MethodHandle" ∧ y.cls ≠ "java/lang/invoke/VarHandle") ∧
  (∀ sig, parseMethodDescriptor y.desc = some sig → n = sig.parameters.length) ∧ (Cond.methodLink own index y).before args s = true ∧ (Cond.static y).before args s = true
theorem vx_cwSW {own : String} {index maxL mc ms : Nat} {y : MethodName} {bytes : ByteArray} {ret : Option FieldType} {hh : List (Nat × Nat × Nat × Nat)} {Ts ws ws' : List Cond} {rm : Room} (n : Nat) (ht : ∀ w ∈ Ts, w.before args s = true) (hT : GoodIn Ts (va_wsS own index y ws)) (hw : ws = Cond.codeWith y bytes maxL ret hh :: ws') (hrc : rm.cells = mc) (hrs : rm.slots = ms)
    (hd : y.cls ≠ "java/lang/invoke/MethodHandle" ∧ y.cls ≠ "java/lang/invoke/VarHandle" ∧ (parseMethodDescriptor y.desc).map (fun d => d.parameters.length) = some n) (hR : rm.frames + 1 ≤ R.frames ∧ 8 + (maxL + 11) + rm.locals ≤ R.locals) :
    vx_CSW R s args own index y bytes maxL ret hh ws rm mc ms n := by
  have ok : ∀ w ∈ va_wsS own index y ws, w.before args s = true := fun w h => ht w (hT w h).1
  have hG : GoodIn Ts ws := fun w h => hT w (by unfold va_wsS; exact List.mem_append_right _ h)
  have hc : Cond.codeWith y bytes maxL ret hh ∈ ws := by rw [hw]; exact List.mem_cons_self
  refine ⟨⟨hrc, hrs, hR.1, hR.2, pay_in ht hG, hc⟩, ht _ (hG _ hc).1, ok _ (by simp [va_wsS]), ⟨hd.1, hd.2.1⟩, fun sig h => ?_, ok _ (by simp [va_wsS]), ok _ (by simp [va_wsS])⟩
  have h2 := hd.2.2
  rw [h] at h2
  exact (Option.some.inj h2).symm
theorem vx_callSW (X : Stand p l e R s m args below meth c T locs cells slots) (hexec : p.tables.exec = Jvm.exec) {own : String} {index : Nat} {y : MethodName} {bytes : ByteArray} {maxL : Nat} {ret : Option FieldType} {hh : List (Nat × Nat × Nat × Nat)}
    (hown : s.vm.findClass own = some m.cls) (hlink : (Cond.methodLink own index y).before args s = true) (hstat : (Cond.static y).before args s = true) (hinit : (Cond.initialized y.cls).before args s = true)
    (hcode : (Cond.codeWith y bytes maxL ret hh).before args s = true) (hy : y.cls ≠ "java/lang/invoke/MethodHandle" ∧ y.cls ≠ "java/lang/invoke/VarHandle")
    {W9 : Nat} {Pre : Pt → Array Value → Prop} {Post : Pt → Array Value → Option Value → Pt → Prop} (hK : Back l R p e below s args y 3 W9 Pre Post)
    {g : JFrame} (hg : g.method = m) (hsize : g.locals.size = c.maxLocals) {argsL rest : List Value} (hlen : ∀ sig, parseMethodDescriptor y.desc = some sig → argsL.length = sig.parameters.length)
    (hstack : g.stack = argsL.reverse ++ rest) (hW : 2 * g.monitorRoom + (rest.map fun v => v.category).sum ≤ W9) (hdg : decode c.code g.pc = .ok (.invokestatic index, 3))
    (hpre : ∀ vm₁, s.WarmedH vm₁ → Pre ⟨T.setVm vm₁, locs, cells, slots⟩ argsL.toArray) :
    ∃ (v : Option Value) (vm₁ : Vm) (B : Pt), s.WarmedH vm₁ ∧ Stand p l e R s m args below meth c B.U B.locs B.cells B.slots ∧ Post ⟨T.setVm vm₁, locs, cells, slots⟩ argsL.toArray v B ∧
      ∀ target, Steps p.tables e below (B.U.setTop { g with pc := g.pc + 3, stack := v.toList ++ rest }) target → Steps p.tables e below (T.setTop g) target := by
  obtain ⟨mk, methM, cM, hnamed, hmethM, -, -, -, -, -, -, hsigM⟩ := Cond.codeWith_spec hcode
  have hstatic : methM.isStatic = true := Cond.static_spec hnamed hmethM hstat
  obtain ⟨kP, hkP, -⟩ := className_of_methodNamed hnamed
  have hinitP : kP.init = .initialized := Cond.initialized_spec (findClass_of_methodNamed hnamed) hkP hinit
  obtain ⟨vm₁, X₁, hstep₁⟩ := X.invokestatic hexec hown hlink hnamed hmethM hstatic hkP hinitP hy (g := g) hg (argsL := argsL) (rest := rest) (hlen _ hsigM) hstack hdg
  obtain ⟨v, B, X', hpost, hsteps⟩ := hK m meth c ⟨T.setVm vm₁, locs, cells, slots⟩ { g with stack := rest } (.invokestatic index) mk argsL.toArray X₁ hg hsize hdg hW (X₁.named hnamed) (hpre vm₁ X₁.warmed)
  exact ⟨v, vm₁, B, X₁.warmed, X', hpost, fun target h => hstep₁ _ fun acts => by rw [doInvoke_state]; exact hsteps.trans h⟩
theorem vx_runSW {y : MethodName} {bytes cc : ByteArray} {maxL nL mc ms n index : Nat} {ret : Option FieldType} {hh : List (Nat × Nat × Nat × Nat)} {ws : List Cond} {rm : Room} {Pc : Array Value → State → Prop} {Qc : Array Value → State → Outcome → State → Prop} {free : Addr → Prop} {Ts : List Cond} {own : String} {As rest : List Value} {g : JFrame}
    (S : CallFix p m c cc nL s args Ts own) (hM : Met l y ws rm Pc Qc mc ms free) (cw : vx_CSW R s args own index y bytes maxL ret hh ws rm mc ms n) (hp : PreS s H Pc As)
    (hg : g.method = m) (hn : As.length = n) (hsize : g.locals.size = nL) (hstack : g.stack = As.reverse ++ rest) (hW : 2 * g.monitorRoom + (rest.map fun v => v.category).sum ≤ 8) (hdg : decode cc g.pc = .ok (.invokestatic index, 3)) (hf : cells + mc ≤ R.cells ∧ slots + ms ≤ R.slots) :
    va_Run p l e R s m args below meth c H locs cells slots mc ms g rest (Qc As.toArray) (free) := by
  obtain ⟨⟨hrc, hrs, hfr, hlo, hws, hcw⟩, hcode, hini, hy, hlen, hl, hstt⟩ := cw
  have hK : Back l R p e below s args y 3 8 (PreOf R mc ms Pc) (PostOf Qc mc ms free) := va_backW (hh := hh) (bytes := bytes) (maxL := maxL) (ret := ret) hM hp.1 hrc hrs hfr hlo hws hcw (fun a' U hW => word_at hW (Or.inl (by first | rfl | simp [Cond.onTables, Cond.keeps, Cond.steady])) hini)
  obtain ⟨hx, hb, hml, ho, -⟩ := S
  intro T hT X
  obtain ⟨v, vm₁, ⟨U', l2, c2, s2⟩, hW₁, X', ⟨g', mk, t, L, e1, e2, hq, h1, hL, h2, h3⟩, st⟩ := vx_callSW X hx (hh := hh) (bytes := bytes) (maxL := maxL) (ret := ret) ho hl hstt hini hcode hy hK hg (hsize.trans hml.symm) (argsL := As) (rest := rest) (fun sig h => hn.trans (hlen sig h)) hstack hW (by rw [hb]; exact hdg)
    (fun vm₁ hW₁ => ⟨hf.1, hf.2, hp.2 (T.setVm vm₁) hT hW₁⟩)
  dsimp only [Pt.U, Pt.locs, Pt.cells, Pt.slots] at X' e1 e2 h1 h2 h3 st
  subst h1; subst h2; subst h3
  exact ⟨v, (T.setVm vm₁).calling g' mk As.toArray, t, U', L, hT, X', hL, e1, e2, hq, st⟩
/-- not caught here, past rows that name other classes: it goes on to the caller -/
theorem vx_outP {p : Program} {l : Launch} {e : Env} {R : Room} {s : State} {m : MethodId} {args : Array Value} {below : List Frame} {meth : Method} {c : Code} {H : Heap} {locs : List Loc} {cells slots : Nat} {free : Addr → Prop} {ls : Array Slot} {rest : List Value} {Qc : Array Value → State → Outcome → State → Prop} {XC : String → State → State → Prop}
    {pc : Nat} {own E : String} {ce : Cell} {q : Addr} {mc ms : Nat} (hown : s.vm.findClass own = some m.cls) (hlocks : meth.locks = false)
    (hpass : ∀ z ∈ c.exceptionTable.toList, covers z pc = false ∨ (z.catchType ≠ 0 ∧ ∃ nm : String, (Cond.classLink own z.catchType nm).before args s = true ∧ va_Nc E nm s)) (hcell : H[q]? = some ce) (hv : ce.vm = .none) (hcl : s.vm.findClass E = some ce.cls)
    (hx : ∀ t : State, t.heap = H → s.vm.Alike t.vm → XC E s t) (hf : ∀ z ∈ locs, free z.base) (hc : cells ≤ mc) (hs : slots ≤ ms) :
    vx_W p l e R s m args below meth c H locs cells slots (vx_MQ below Qc XC args s mc ms free) (F0 m pc ls rest) q := by
  intro T hT X
  have hpl : e.platform.magicAccessors = ({} : Platform).magicAccessors := by rw [X.admits.platform]
  obtain ⟨vm', hW', X', st⟩ := X.outThrough hlocks q (g := F0 m pc ls rest) rfl rfl rfl (cell := ce) (by rw [hT]; exact hcell) (by rw [hv]; rfl)
    (by obtain ⟨k9, h9, -⟩ := Vm.findClass_spec hcl; exact ⟨k9, h9⟩) (fun z hz => by
      rcases hpass z hz with h | ⟨hz0, nm, hl1, hn1⟩
      · exact Or.inl h
      · obtain ⟨c6, hc6, hcl6⟩ := Cond.classLink_spec hown hl1 e.platform hpl
        obtain ⟨a8, b8, h1, h2, h3⟩ := hn1
        cases Option.some.inj (h1.symm.trans hcl)
        cases Option.some.inj (h2.symm.trans hc6)
        exact Or.inr ⟨hz0, _, hcl6, h3⟩)
  obtain ⟨g₀, hfr⟩ := X'.frames_eq
  have hcell9 : ((T.setVm vm').setFrames (.throwing q :: below)).heap[q]? = some ce := by
    show T.heap[q]? = some ce
    rw [hT]; exact hcell
  have hend : Ended ((T.setVm vm').setFrames (.throwing q :: below)) below (.threw q) := State.frames_setFrames _ (State.cur_lt_of_frames hfr)
  refine ⟨(T.setVm vm').setFrames (.throwing q :: below), ?_, .threw q, X'.here.running, hend, Or.inr ⟨q, rfl, E, ce, locs, hx _ hT (X'.ends _).1.alike, hcell9, hv, hcl, (X'.ends _).1, (X'.ends _).2.mono hc hs, hf⟩⟩
  rw [X.pushThrowing_eq]
  exact st
/-- a thing of a world lies in the heap -/
theorem vx_lt {D : va_G} {cl : List vw_C} {ws : va_W} {H1 : Heap} (h : va_P D cl ws H1) {k : Nat} {q : Nat × va_E} (hk : ws[k]? = some q) : q.1 < H1.size := (h k q hk).lt
end VXS
/-! ===== END ===== -/
/-! ===== BEGIN methods with a table of their own: called by a name, returning or throwing ===== -/
section VXH
/-! vx_backW, vx_callVX, vx_callSX, vx_callVW, vx_runVW, vx_runVX, vx_runSX, vx_ofWH follow the same proofs as their sisters above (Free/Laws.lean, Shelf42/LK1.lean); vx_outP calls Shelf42/NT130.lean (outThrough). -/
section
variable {l : Launch} {R : Room} {p : Program} {e : Env} {below : List Frame} {s : State} {sargs : Array Value} {y : MethodName} {len W9 : Nat}
theorem vx_backW {ws : List Cond} {rm : Room} {Pc : Array Value → State → Prop} {Qc : Array Value → State → Outcome → State → Prop} {XC : String → State → State → Prop} {mc ms : Nat} {free : Addr → Prop} {bytes : ByteArray} {maxL : Nat} {ret : Option FieldType} {hh : List (Nat × Nat × Nat × Nat)}
    (hM : vx_Met l y ws rm Pc Qc XC mc ms free) (hblind : FrameBlind Pc) (hrc : rm.cells = mc) (hrs : rm.slots = ms)
    (hframes : rm.frames + 1 ≤ R.frames) (hlocals : W9 + (maxL + 11) + rm.locals ≤ R.locals)
    (hws : ∀ w ∈ ws, ∀ a' U, s.WarmedH U.vm → w.before a' U = true) (hcode : Cond.codeWith y bytes maxL ret hh ∈ ws) (hinit : ∀ a' U, s.WarmedH U.vm → (Cond.initialized y.cls).before a' U = true) :
    vx_Back l R p e below s sargs y len W9 (PreOf R mc ms Pc) (PostOf Qc mc ms free) (vx_Post XC mc ms free) := by
  intro m meth c A g ig mk a X hg hsize hdg hW hn hp
  have h1 : (headSpec ws rm).pre.before a A.U = true := atoms_intro fun w hw => hws w hw _ _ X.warmed
  have h2 : (Cond.codeWith y bytes maxL ret hh).before a A.U = true := hws _ hcode _ _ X.warmed
  have h3 : (Cond.initialized y.cls).before a A.U = true := hinit _ _ X.warmed
  have h4 : A.cells + (headSpec ws rm).room.cells ≤ R.cells := by rw [show (headSpec ws rm).room.cells = mc from hrc]; exact hp.1
  have h5 : A.slots + (headSpec ws rm).room.slots ≤ R.slots := by rw [show (headSpec ws rm).room.slots = ms from hrs]; exact hp.2.1
  have hPc : Pc a (A.U.calling g mk a) := hblind _ _ _ _ hp.2.2
  obtain ⟨U, Ls, c0, s0⟩ := A
  dsimp only [Pt.U, Pt.locs, Pt.cells, Pt.slots] at h1 h2 h3 h4 h5 X hn hPc ⊢
  obtain ⟨m9, methY, cY, hn9, hmY, hcY, -, hlY, -⟩ := Cond.codeWith_spec h2
  cases Option.some.inj (hn9.symm.trans hn)
  obtain ⟨kY, hkY, -⟩ := className_of_methodNamed hn
  have hinitY : kY.init = .initialized := Cond.initialized_spec (findClass_of_methodNamed hn) hkY h3
  have h : At U g.method c below := by rw [hg]; exact X.here
  have hlocals9 : W9 + (maxL + 11) + (headSpec ws rm).room.locals ≤ R.locals := hlocals
  have happ : (headSpec ws rm).appliesLoose y e.platform (U.calling g mk a) = true :=
    Spec.appliesLoose_calling (g := g) h hdg hn hkY hinitY
      (X.room_calling (g := g) (R' := (headSpec ws rm).room) hsize hmY hcY hframes (by rw [hlY]; omega) h4 h5) h1
  obtain ⟨mid, hmid⟩ := h.above
  have hfr : (U.setTop g).frames = (.java g :: mid) ++ below := by rw [State.frames_setTop' g h.top, hmid]; rfl
  obtain ⟨o, s₂, hsteps, -, hend, hq⟩ := Steps.callFree hM p X.admits X.cas X.clock (acts := []) hfr happ hPc trivial
  have hq' : vx_Q Qc XC mc ms free a (U.calling g mk a) o s₂ := hq
  rw [State.frames_setTop' g h.top] at hend
  obtain ⟨g₀, hg0⟩ := Option.isSome_iff_exists.mp h.top
  obtain ⟨r, hr⟩ := State.topJava?_eq_some.mp hg0
  have hr' : (({ U with heap := s₂.heap, slotsUsed := s₂.slotsUsed } : State).setVm s₂.vm).frames = .java g₀ :: r := hr
  rcases hq' with ⟨hqc, L, hfe, hL⟩ | ⟨q, rfl, E, ce, L, hx, hce, hcv, hcl, hW₂, hsm, hL⟩
  · obtain ⟨⟨v, rfl⟩, hW₂, e2, q2, q3, q4, q5, q6⟩ := id hfe
    have e3 : s₂ = ({ (U.calling g mk a).setFrames s₂.frames with heap := s₂.heap, slotsUsed := s₂.slotsUsed } : State).setVm s₂.vm := by
      have : s₂ = ({ s₂ with vm := (U.calling g mk a).vm } : State).setVm s₂.vm := rfl
      rw [e2] at this
      exact this
    obtain ⟨c₂, i₂, len₂, hc₂, hd₂, hf₂⟩ := hend
    have hW' : U.WarmedH s₂.vm := hW₂
    have hcc : c₂ = c := by
      have h1 : s₂.code? g.method = U.code? g.method := by
        rw [State.code?_eq, State.code?_eq, hW'.alike.method?]
      exact Option.some.inj (hc₂.symm.trans (h1.trans h.code))
    subst hcc
    have hlen : len₂ = len := by rw [hdg] at hd₂; cases hd₂; rfl
    subst hlen
    have hs₂ : s₂ = (({ U with heap := s₂.heap, slotsUsed := s₂.slotsUsed } : State).setVm s₂.vm).setTop { g with pc := g.pc + len₂, stack := v.toList ++ g.stack } := by
      refine e3.trans ?_
      rw [hf₂, State.calling_eq h.top, State.setFrames_setFrames, State.setTop_of_frames _ hr', hr]
      rfl
    have hsame : U.sameButNew ({ U with heap := s₂.heap, slotsUsed := s₂.slotsUsed } : State) L mc ms := by
      refine ⟨?_, q2, q3, q4, q5, q6⟩
      obtain ⟨t, ht, -⟩ := State.frames_cons hr
      show ({ U with heap := s₂.heap, slotsUsed := s₂.slotsUsed } : State) = { U.setFrames U.frames with heap := s₂.heap, slotsUsed := s₂.slotsUsed }
      rw [State.setFrames_self ht]
    subst hg
    refine Or.inl ⟨v, ⟨(({ U with heap := s₂.heap, slotsUsed := s₂.slotsUsed } : State).setVm s₂.vm), Ls ++ L, c0 + mc, s0 + ms⟩,
      ⟨X.admits, X.cas, X.clock, X.frames, X.room, X.hears, X.method, X.code, (X.here.setHeapUsed s₂.heap s₂.slotsUsed).setVm hW'.alike, X.tail, State.WarmedH.trans X.warmed hW', X.limits, X.bytes, X.same.trans (hsame.setVm s.vm)⟩,
      ⟨g, mk, s₂, L, rfl, rfl, hqc, rfl, hL, rfl, rfl⟩, ?_⟩
    show Steps p.tables e below _ ((({ U with heap := s₂.heap, slotsUsed := s₂.slotsUsed } : State).setVm s₂.vm).setTop { g with pc := g.pc + len₂, stack := v.toList ++ g.stack })
    rw [← hs₂]
    exact hsteps
  · obtain ⟨e2, q2, q3, q4, q5, q6⟩ := id hsm
    have e3 : s₂ = ({ (U.calling g mk a).setFrames s₂.frames with heap := s₂.heap, slotsUsed := s₂.slotsUsed } : State).setVm s₂.vm := by
      have : s₂ = ({ s₂ with vm := (U.calling g mk a).vm } : State).setVm s₂.vm := rfl
      rw [e2] at this
      exact this
    have hf₂ : s₂.frames = .throwing q :: .java g :: U.frames.tail := hend
    have hW' : U.WarmedH s₂.vm := hW₂
    have hs₂ : s₂ = ((({ U with heap := s₂.heap, slotsUsed := s₂.slotsUsed } : State).setVm s₂.vm).setTop g).pushFrame (.throwing q) := by
      refine e3.trans ?_
      rw [hf₂, State.calling_eq h.top, State.setFrames_setFrames, State.pushFrame, State.frames_setTop _ hr', State.setTop_of_frames _ hr', State.setFrames_setFrames, hr]
      rfl
    have hsame : U.sameButNew ({ U with heap := s₂.heap, slotsUsed := s₂.slotsUsed } : State) L mc ms := by
      refine ⟨?_, q2, q3, q4, q5, q6⟩
      obtain ⟨t, ht, -⟩ := State.frames_cons hr
      show ({ U with heap := s₂.heap, slotsUsed := s₂.slotsUsed } : State) = { U.setFrames U.frames with heap := s₂.heap, slotsUsed := s₂.slotsUsed }
      rw [State.setFrames_self ht]
    subst hg
    refine Or.inr ⟨q, ⟨(({ U with heap := s₂.heap, slotsUsed := s₂.slotsUsed } : State).setVm s₂.vm), Ls ++ L, c0 + mc, s0 + ms⟩,
      ⟨X.admits, X.cas, X.clock, X.frames, X.room, X.hears, X.method, X.code, (X.here.setHeapUsed s₂.heap s₂.slotsUsed).setVm hW'.alike, X.tail, State.WarmedH.trans X.warmed hW', X.limits, X.bytes, X.same.trans (hsame.setVm s.vm)⟩,
      ⟨g, mk, s₂, L, E, ce, rfl, rfl, hx, hce, hcv, hcl, rfl, hL, rfl, rfl⟩, ?_⟩
    show Steps p.tables e below _ (((({ U with heap := s₂.heap, slotsUsed := s₂.slotsUsed } : State).setVm s₂.vm).setTop g).pushFrame (.throwing q))
    rw [← hs₂]
    exact hsteps
end
variable {p : Program} {l : Launch} {e : Env} {R : Room} {s : State} {m : MethodId} {args : Array Value} {below : List Frame} {meth : Method} {c : Code} {T : State} {H : Heap} {locs : List Loc} {cells slots : Nat}
theorem vx_callVX (X : Stand p l e R s m args below meth c T locs cells slots) (hexec : p.tables.exec = Jvm.exec) {own C : String} {index : Nat} {y : MethodName} {bytes : ByteArray} {maxL : Nat} {ret : Option FieldType} {hh : List (Nat × Nat × Nat × Nat)}
    (hown : s.vm.findClass own = some m.cls) (hlink : (Cond.methodLink own index y).before args s = true) (hinst : (Cond.instanceMethod y).before args s = true) (hsel : (Cond.selects C y y).before args s = true)
    (hcode : (Cond.codeWith y bytes maxL ret hh).before args s = true) (hy : y.cls ≠ "java/lang/invoke/MethodHandle" ∧ y.cls ≠ "java/lang/invoke/VarHandle")
    {W9 : Nat} {Pre : Pt → Array Value → Prop} {Post : Pt → Array Value → Option Value → Pt → Prop} {PostX : Pt → Array Value → Addr → Pt → Prop} (hK : vx_Back l R p e below s args y 3 W9 Pre Post PostX)
    {b : Addr} {cellB : Cell} (hcell : T.heap[b]? = some cellB) (hobj : cellB.vm.isStatics = false) (hcls : s.vm.findClass C = some cellB.cls)
    {g : JFrame} (hg : g.method = m) (hsize : g.locals.size = c.maxLocals) {argsL rest : List Value} (hlen : ∀ sig, parseMethodDescriptor y.desc = some sig → argsL.length = sig.parameters.length)
    (hstack : g.stack = argsL.reverse ++ .ref b :: rest) (hW : 2 * g.monitorRoom + (rest.map fun v => v.category).sum ≤ W9) (hdg : decode c.code g.pc = .ok (.invokevirtual index, 3))
    (hpre : ∀ vm₁, s.WarmedH vm₁ → Pre ⟨T.setVm vm₁, locs, cells, slots⟩ (Value.ref b :: argsL).toArray) :
    (∃ (v : Option Value) (vm₁ : Vm) (B : Pt), s.WarmedH vm₁ ∧ Stand p l e R s m args below meth c B.U B.locs B.cells B.slots ∧ Post ⟨T.setVm vm₁, locs, cells, slots⟩ (Value.ref b :: argsL).toArray v B ∧
      ∀ target, Steps p.tables e below (B.U.setTop { g with pc := g.pc + 3, stack := v.toList ++ rest }) target → Steps p.tables e below (T.setTop g) target) ∨
    (∃ (q : Addr) (vm₁ : Vm) (B : Pt), s.WarmedH vm₁ ∧ Stand p l e R s m args below meth c B.U B.locs B.cells B.slots ∧ PostX ⟨T.setVm vm₁, locs, cells, slots⟩ (Value.ref b :: argsL).toArray q B ∧
      Steps p.tables e below (T.setTop g) ((B.U.setTop { g with stack := rest }).pushFrame (.throwing q))) := by
  obtain ⟨mk, methM, hnamed, hmethM, hstM, habM⟩ := Cond.instanceMethod_spec hinst
  obtain ⟨m8, methM', cM, hn8, hmethM', -, -, -, -, -, -, hsigM⟩ := Cond.codeWith_spec hcode
  cases Option.some.inj (hn8.symm.trans hnamed)
  cases hmethM.symm.trans hmethM'
  obtain ⟨c2, r2, m2, q1, q2, q3, q4, kP, hkP, hkPi⟩ := Cond.selects_spec hsel
  cases hcls.symm.trans q1
  cases (State.methodFound?_of_named hnamed hy).symm.trans q2
  cases hnamed.symm.trans q3
  have hselP : selectMethod e.platform s.vm cellB.cls mk = .method mk := by rw [Launch.admits_selectMethod X.admits]; exact q4
  obtain ⟨vm₁, X₁, hstep₁⟩ := X.invokevirtual hexec hown hlink hnamed hmethM hstM hkP hkPi hy (a := b) (cell := cellB) hcell
    (fun z h => by rw [h] at hobj; cases hobj) hselP hmethM habM hkP hkPi (g := g) hg (argsL := argsL) (rest := rest) (hlen _ hsigM) hstack hdg
  rcases hK m meth c ⟨T.setVm vm₁, locs, cells, slots⟩ { g with stack := rest } (.invokevirtual index) mk (Value.ref b :: argsL).toArray X₁ hg hsize hdg hW (X₁.named hnamed) (hpre vm₁ X₁.warmed) with ⟨v, B, X', hpost, hsteps⟩ | ⟨q, B, X', hpost, hsteps⟩
  · exact Or.inl ⟨v, vm₁, B, X₁.warmed, X', hpost, fun target h => hstep₁ _ fun acts => by rw [doInvoke_state]; exact hsteps.trans h⟩
  · exact Or.inr ⟨q, vm₁, B, X₁.warmed, X', hpost, hstep₁ _ fun acts => by rw [doInvoke_state]; exact hsteps⟩
theorem vx_callSX (X : Stand p l e R s m args below meth c T locs cells slots) (hexec : p.tables.exec = Jvm.exec) {own : String} {index : Nat} {y : MethodName} {bytes : ByteArray} {maxL : Nat} {ret : Option FieldType} {hh : List (Nat × Nat × Nat × Nat)}
    (hown : s.vm.findClass own = some m.cls) (hlink : (Cond.methodLink own index y).before args s = true) (hstat : (Cond.static y).before args s = true) (hinit : (Cond.initialized y.cls).before args s = true)
    (hcode : (Cond.codeWith y bytes maxL ret hh).before args s = true) (hy : y.cls ≠ "java/lang/invoke/MethodHandle" ∧ y.cls ≠ "java/lang/invoke/VarHandle")
    {W9 : Nat} {Pre : Pt → Array Value → Prop} {Post : Pt → Array Value → Option Value → Pt → Prop} {PostX : Pt → Array Value → Addr → Pt → Prop} (hK : vx_Back l R p e below s args y 3 W9 Pre Post PostX)
    {g : JFrame} (hg : g.method = m) (hsize : g.locals.size = c.maxLocals) {argsL rest : List Value} (hlen : ∀ sig, parseMethodDescriptor y.desc = some sig → argsL.length = sig.parameters.length)
    (hstack : g.stack = argsL.reverse ++ rest) (hW : 2 * g.monitorRoom + (rest.map fun v => v.category).sum ≤ W9) (hdg : decode c.code g.pc = .ok (.invokestatic index, 3))
    (hpre : ∀ vm₁, s.WarmedH vm₁ → Pre ⟨T.setVm vm₁, locs, cells, slots⟩ argsL.toArray) :
    (∃ (v : Option Value) (vm₁ : Vm) (B : Pt), s.WarmedH vm₁ ∧ Stand p l e R s m args below meth c B.U B.locs B.cells B.slots ∧ Post ⟨T.setVm vm₁, locs, cells, slots⟩ argsL.toArray v B ∧
      ∀ target, Steps p.tables e below (B.U.setTop { g with pc := g.pc + 3, stack := v.toList ++ rest }) target → Steps p.tables e below (T.setTop g) target) ∨
    (∃ (q : Addr) (vm₁ : Vm) (B : Pt), s.WarmedH vm₁ ∧ Stand p l e R s m args below meth c B.U B.locs B.cells B.slots ∧ PostX ⟨T.setVm vm₁, locs, cells, slots⟩ argsL.toArray q B ∧
      Steps p.tables e below (T.setTop g) ((B.U.setTop { g with stack := rest }).pushFrame (.throwing q))) := by
  obtain ⟨mk, methM, cM, hnamed, hmethM, -, -, -, -, -, -, hsigM⟩ := Cond.codeWith_spec hcode
  have hstatic : methM.isStatic = true := Cond.static_spec hnamed hmethM hstat
  obtain ⟨kP, hkP, -⟩ := className_of_methodNamed hnamed
  have hinitP : kP.init = .initialized := Cond.initialized_spec (findClass_of_methodNamed hnamed) hkP hinit
  obtain ⟨vm₁, X₁, hstep₁⟩ := X.invokestatic hexec hown hlink hnamed hmethM hstatic hkP hinitP hy (g := g) hg (argsL := argsL) (rest := rest) (hlen _ hsigM) hstack hdg
  rcases hK m meth c ⟨T.setVm vm₁, locs, cells, slots⟩ { g with stack := rest } (.invokestatic index) mk argsL.toArray X₁ hg hsize hdg hW (X₁.named hnamed) (hpre vm₁ X₁.warmed) with ⟨v, B, X', hpost, hsteps⟩ | ⟨q, B, X', hpost, hsteps⟩
  · exact Or.inl ⟨v, vm₁, B, X₁.warmed, X', hpost, fun target h => hstep₁ _ fun acts => by rw [doInvoke_state]; exact hsteps.trans h⟩
  · exact Or.inr ⟨q, vm₁, B, X₁.warmed, X', hpost, hstep₁ _ fun acts => by rw [doInvoke_state]; exact hsteps⟩
theorem vx_callVW (X : Stand p l e R s m args below meth c T locs cells slots) (hexec : p.tables.exec = Jvm.exec) {own C : String} {index : Nat} {y : MethodName} {bytes : ByteArray} {maxL : Nat} {ret : Option FieldType} {hh : List (Nat × Nat × Nat × Nat)}
    (hown : s.vm.findClass own = some m.cls) (hlink : (Cond.methodLink own index y).before args s = true) (hinst : (Cond.instanceMethod y).before args s = true) (hsel : (Cond.selects C y y).before args s = true)
    (hcode : (Cond.codeWith y bytes maxL ret hh).before args s = true) (hy : y.cls ≠ "java/lang/invoke/MethodHandle" ∧ y.cls ≠ "java/lang/invoke/VarHandle")
    {W9 : Nat} {Pre : Pt → Array Value → Prop} {Post : Pt → Array Value → Option Value → Pt → Prop} (hK : Back l R p e below s args y 3 W9 Pre Post)
    {b : Addr} {cellB : Cell} (hcell : T.heap[b]? = some cellB) (hobj : cellB.vm.isStatics = false) (hcls : s.vm.findClass C = some cellB.cls)
    {g : JFrame} (hg : g.method = m) (hsize : g.locals.size = c.maxLocals) {argsL rest : List Value} (hlen : ∀ sig, parseMethodDescriptor y.desc = some sig → argsL.length = sig.parameters.length)
    (hstack : g.stack = argsL.reverse ++ .ref b :: rest) (hW : 2 * g.monitorRoom + (rest.map fun v => v.category).sum ≤ W9) (hdg : decode c.code g.pc = .ok (.invokevirtual index, 3))
    (hpre : ∀ vm₁, s.WarmedH vm₁ → Pre ⟨T.setVm vm₁, locs, cells, slots⟩ (Value.ref b :: argsL).toArray) :
    ∃ (v : Option Value) (vm₁ : Vm) (B : Pt), s.WarmedH vm₁ ∧ Stand p l e R s m args below meth c B.U B.locs B.cells B.slots ∧ Post ⟨T.setVm vm₁, locs, cells, slots⟩ (Value.ref b :: argsL).toArray v B ∧
      ∀ target, Steps p.tables e below (B.U.setTop { g with pc := g.pc + 3, stack := v.toList ++ rest }) target → Steps p.tables e below (T.setTop g) target := by
  obtain ⟨mk, methM, hnamed, hmethM, hstM, habM⟩ := Cond.instanceMethod_spec hinst
  obtain ⟨m8, methM', cM, hn8, hmethM', -, -, -, -, -, -, hsigM⟩ := Cond.codeWith_spec hcode
  cases Option.some.inj (hn8.symm.trans hnamed)
  cases hmethM.symm.trans hmethM'
  obtain ⟨c2, r2, m2, q1, q2, q3, q4, kP, hkP, hkPi⟩ := Cond.selects_spec hsel
  cases hcls.symm.trans q1
  cases (State.methodFound?_of_named hnamed hy).symm.trans q2
  cases hnamed.symm.trans q3
  have hselP : selectMethod e.platform s.vm cellB.cls mk = .method mk := by rw [Launch.admits_selectMethod X.admits]; exact q4
  obtain ⟨vm₁, X₁, hstep₁⟩ := X.invokevirtual hexec hown hlink hnamed hmethM hstM hkP hkPi hy (a := b) (cell := cellB) hcell
    (fun z h => by rw [h] at hobj; cases hobj) hselP hmethM habM hkP hkPi (g := g) hg (argsL := argsL) (rest := rest) (hlen _ hsigM) hstack hdg
  obtain ⟨v, B, X', hpost, hsteps⟩ := hK m meth c ⟨T.setVm vm₁, locs, cells, slots⟩ { g with stack := rest } (.invokevirtual index) mk (Value.ref b :: argsL).toArray X₁ hg hsize hdg hW (X₁.named hnamed) (hpre vm₁ X₁.warmed)
  exact ⟨v, vm₁, B, X₁.warmed, X', hpost, fun target h => hstep₁ _ fun acts => by rw [doInvoke_state]; exact hsteps.trans h⟩
abbrev vx_CVW (R : Room) (s : State) (args : Array Value) (own C : String) (index : Nat) (y : MethodName) (bytes : ByteArray) (maxL : Nat) (ret : Option FieldType) (hh : List (Nat × Nat × Nat × Nat)) (ws : List Cond) (rm : Room) (mc ms n : Nat) : Prop :=
  (rm.cells = mc ∧ rm.slots = ms ∧ rm.frames + 1 ≤ R.frames ∧ 8 + (maxL + 11) + rm.locals ≤ R.locals ∧ (∀ w ∈ ws, ∀ (a' : Array Value) (U : State), s.WarmedH U.vm → w.before a' U = true) ∧ Cond.codeWith y bytes maxL ret hh ∈ ws) ∧
  (Cond.codeWith y bytes maxL ret hh).before args s = true ∧ (Cond.initialized y.cls).before args s = true ∧ (y.cls ≠ "java/lang/invoke/MethodHandle" ∧ y.cls ≠ "java/lang/invoke/VarHandle") ∧
  (∀ sig, parseMethodDescriptor y.desc = some sig → n = sig.parameters.length) ∧ (Cond.methodLink own index y).before args s = true ∧ (Cond.instanceMethod y).before args s = true ∧ (Cond.selects C y y).before args s = true
theorem vx_cwVW {own C : String} {index maxL mc ms : Nat} {y : MethodName} {bytes : ByteArray} {ret : Option FieldType} {hh : List (Nat × Nat × Nat × Nat)} {Ts ws ws' : List Cond} {rm : Room} (n : Nat) (ht : ∀ w ∈ Ts, w.before args s = true) (hT : GoodIn Ts (wsV own index C y ws)) (hw : ws = Cond.codeWith y bytes maxL ret hh :: ws') (hrc : rm.cells = mc) (hrs : rm.slots = ms)
    (hd : y.cls = C ∧ y.cls ≠ "java/lang/invoke/MethodHandle" ∧ y.cls ≠ "java/lang/invoke/VarHandle" ∧ (parseMethodDescriptor y.desc).map (fun d => d.parameters.length) = some n) (hR : rm.frames + 1 ≤ R.frames ∧ 8 + (maxL + 11) + rm.locals ≤ R.locals) :
    vx_CVW R s args own C index y bytes maxL ret hh ws rm mc ms n := by
  obtain ⟨hC, hd⟩ := hd
  subst hC
  have ok : ∀ w ∈ wsV own index y.cls y ws, w.before args s = true := fun w h => ht w (hT w h).1
  have hG : GoodIn Ts ws := fun w h => hT w (by unfold wsV; exact List.mem_append_right _ h)
  have hc : Cond.codeWith y bytes maxL ret hh ∈ ws := by rw [hw]; exact List.mem_cons_self
  refine ⟨⟨hrc, hrs, hR.1, hR.2, pay_in ht hG, hc⟩, ht _ (hG _ hc).1, ok _ (by simp [wsV]), ⟨hd.1, hd.2.1⟩, fun sig h => ?_, ok _ (by simp [wsV]), ok _ (by simp [wsV]), ok _ (by simp [wsV])⟩
  have h2 := hd.2.2
  rw [h] at h2
  exact (Option.some.inj h2).symm
theorem vx_runVW {y : MethodName} {bytes cc : ByteArray} {maxL nL mc ms n index : Nat} {ret : Option FieldType} {hh : List (Nat × Nat × Nat × Nat)} {ws : List Cond} {rm : Room} {Pc : Array Value → State → Prop} {Qc : Array Value → State → Outcome → State → Prop} {free : Addr → Prop} {Ts : List Cond} {own C : String} {b : Addr} {As rest : List Value} {g : JFrame}
    (S : CallFix p m c cc nL s args Ts own) (hM : Met l y ws rm Pc Qc mc ms free) (cw : vx_CVW R s args own C index y bytes maxL ret hh ws rm mc ms n) (hp : PreV s H C b Pc As)
    (hg : g.method = m) (hn : As.length = n) (hsize : g.locals.size = nL) (hstack : g.stack = As.reverse ++ .ref b :: rest) (hW : 2 * g.monitorRoom + (rest.map fun v => v.category).sum ≤ 8) (hdg : decode cc g.pc = .ok (.invokevirtual index, 3)) (hf : cells + mc ≤ R.cells ∧ slots + ms ≤ R.slots) :
    va_Run p l e R s m args below meth c H locs cells slots mc ms g rest (Qc (Value.ref b :: As).toArray) free := by
  obtain ⟨⟨hrc, hrs, hfr, hlo, hws, hcw⟩, hcode, hini, hy, hlen, hl, hin, hse⟩ := cw
  have hK : Back l R p e below s args y 3 8 (PreOf R mc ms Pc) (PostOf Qc mc ms free) := va_backW (hh := hh) (bytes := bytes) (maxL := maxL) (ret := ret) hM hp.1 hrc hrs hfr hlo hws hcw (fun a' U hW => word_at hW (Or.inl (by first | rfl | simp [Cond.onTables, Cond.keeps, Cond.steady])) hini)
  obtain ⟨hx, hb, hml, ho, -⟩ := S
  obtain ⟨-, ⟨cellB, hcB, hoB, hclB⟩, hPc⟩ := hp
  intro T hT X
  obtain ⟨v, vm₁, ⟨U', l2, c2, s2⟩, hW₁, X', ⟨g', mk, t, L, e1, e2, hq, h1, hL, h2, h3⟩, st⟩ := vx_callVW X hx (C := C) (hh := hh) (bytes := bytes) (maxL := maxL) (ret := ret) ho hl hin hse hcode hy hK (by rw [hT]; exact hcB) hoB hclB hg (hsize.trans hml.symm) (argsL := As) (rest := rest) (fun sig h => hn.trans (hlen sig h)) hstack hW (by rw [hb]; exact hdg)
    (fun vm₁ hW₁ => ⟨hf.1, hf.2, hPc (T.setVm vm₁) hT hW₁⟩)
  dsimp only [Pt.U, Pt.locs, Pt.cells, Pt.slots] at X' e1 e2 h1 h2 h3 st
  subst h1; subst h2; subst h3
  exact ⟨v, (T.setVm vm₁).calling g' mk (Value.ref b :: As).toArray, t, U', L, hT, X', hL, e1, e2, hq, st⟩
section
variable {y : MethodName} {bytes cc : ByteArray} {maxL nL mc ms n index : Nat} {ret : Option FieldType} {ws : List Cond} {rm : Room} {Pc : Array Value → State → Prop} {Qc : Array Value → State → Outcome → State → Prop} {XC : String → State → State → Prop} {free : Addr → Prop} {Ts : List Cond} {own C : String} {b : Addr} {As rest : List Value} {g : JFrame}
theorem vx_runVX {hh : List (Nat × Nat × Nat × Nat)} (S : CallFix p m c cc nL s args Ts own) (hM : vx_Met l y ws rm Pc Qc XC mc ms free) (cw : vx_CVW R s args own C index y bytes maxL ret hh ws rm mc ms n) (hp : PreV s H C b Pc As)
    (hg : g.method = m) (hn : As.length = n) (hsize : g.locals.size = nL) (hstack : g.stack = As.reverse ++ .ref b :: rest) (hW : 2 * g.monitorRoom + (rest.map fun v => v.category).sum ≤ 8) (hdg : decode cc g.pc = .ok (.invokevirtual index, 3)) (hf : cells + mc ≤ R.cells ∧ slots + ms ≤ R.slots) :
    vx_Run p l e R s m args below meth c H locs cells slots mc ms g rest (Qc (Value.ref b :: As).toArray) XC free := by
  obtain ⟨⟨hrc, hrs, hfr, hlo, hws, hcw⟩, hcode, hini, hy, hlen, hl, hin, hse⟩ := cw
  have hK : vx_Back l R p e below s args y 3 8 (PreOf R mc ms Pc) (PostOf Qc mc ms free) (vx_Post XC mc ms free) := vx_backW (hh := hh) (bytes := bytes) (maxL := maxL) (ret := ret) hM hp.1 hrc hrs hfr hlo hws hcw (fun a' U hW => word_at hW (Or.inl (by first | rfl | simp [Cond.onTables, Cond.keeps, Cond.steady])) hini)
  obtain ⟨hx, hb, hml, ho, -⟩ := S
  obtain ⟨-, ⟨cellB, hcB, hoB, hclB⟩, hPc⟩ := hp
  intro T hT X
  rcases vx_callVX X hx (C := C) (hh := hh) (bytes := bytes) (maxL := maxL) (ret := ret) ho hl hin hse hcode hy hK (by rw [hT]; exact hcB) hoB hclB hg (hsize.trans hml.symm) (argsL := As) (rest := rest) (fun sig h => hn.trans (hlen sig h)) hstack hW (by rw [hb]; exact hdg)
    (fun vm₁ hW₁ => ⟨hf.1, hf.2, hPc (T.setVm vm₁) hT hW₁⟩) with ⟨v, vm₁, ⟨U', l2, c2, s2⟩, hW₁, X', ⟨g', mk, t, L, e1, e2, hq, h1, hL, h2, h3⟩, st⟩ | ⟨q, vm₁, ⟨U', l2, c2, s2⟩, hW₁, X', ⟨g', mk, t, L, E, ce, e1, e2, hq, hce, hcv, hcl, h1, hL, h2, h3⟩, st⟩
  · dsimp only [Pt.U, Pt.locs, Pt.cells, Pt.slots] at X' e1 e2 h1 h2 h3 st
    subst h1; subst h2; subst h3
    exact Or.inl ⟨v, (T.setVm vm₁).calling g' mk (Value.ref b :: As).toArray, t, U', L, hT, X', hL, e1, e2, hq, st⟩
  · dsimp only [Pt.U, Pt.locs, Pt.cells, Pt.slots] at X' e1 e2 h1 h2 h3 st hcl
    subst h1; subst h2; subst h3
    exact Or.inr ⟨q, (T.setVm vm₁).calling g' mk (Value.ref b :: As).toArray, t, U', L, E, ce, hT, X', hL, e1, e2, hq, hce, hcv, vx_cls hW₁ hcl, st⟩
theorem vx_runSX {hh : List (Nat × Nat × Nat × Nat)} (S : CallFix p m c cc nL s args Ts own) (hM : vx_Met l y ws rm Pc Qc XC mc ms free) (cw : vx_CSW R s args own index y bytes maxL ret hh ws rm mc ms n) (hp : PreS s H Pc As)
    (hg : g.method = m) (hn : As.length = n) (hsize : g.locals.size = nL) (hstack : g.stack = As.reverse ++ rest) (hW : 2 * g.monitorRoom + (rest.map fun v => v.category).sum ≤ 8) (hdg : decode cc g.pc = .ok (.invokestatic index, 3)) (hf : cells + mc ≤ R.cells ∧ slots + ms ≤ R.slots) :
    vx_Run p l e R s m args below meth c H locs cells slots mc ms g rest (Qc As.toArray) XC free := by
  obtain ⟨⟨hrc, hrs, hfr, hlo, hws, hcw⟩, hcode, hini, hy, hlen, hl, hstt⟩ := cw
  have hK : vx_Back l R p e below s args y 3 8 (PreOf R mc ms Pc) (PostOf Qc mc ms free) (vx_Post XC mc ms free) := vx_backW (hh := hh) (bytes := bytes) (maxL := maxL) (ret := ret) hM hp.1 hrc hrs hfr hlo hws hcw (fun a' U hW => word_at hW (Or.inl (by first | rfl | simp [Cond.onTables, Cond.keeps, Cond.steady])) hini)
  obtain ⟨hx, hb, hml, ho, -⟩ := S
  intro T hT X
  rcases vx_callSX X hx (hh := hh) (bytes := bytes) (maxL := maxL) (ret := ret) ho hl hstt hini hcode hy hK hg (hsize.trans hml.symm) (argsL := As) (rest := rest) (fun sig h => hn.trans (hlen sig h)) hstack hW (by rw [hb]; exact hdg)
    (fun vm₁ hW₁ => ⟨hf.1, hf.2, hp.2 (T.setVm vm₁) hT hW₁⟩) with ⟨v, vm₁, ⟨U', l2, c2, s2⟩, hW₁, X', ⟨g', mk, t, L, e1, e2, hq, h1, hL, h2, h3⟩, st⟩ | ⟨q, vm₁, ⟨U', l2, c2, s2⟩, hW₁, X', ⟨g', mk, t, L, E, ce, e1, e2, hq, hce, hcv, hcl, h1, hL, h2, h3⟩, st⟩
  · dsimp only [Pt.U, Pt.locs, Pt.cells, Pt.slots] at X' e1 e2 h1 h2 h3 st
    subst h1; subst h2; subst h3
    exact Or.inl ⟨v, (T.setVm vm₁).calling g' mk As.toArray, t, U', L, hT, X', hL, e1, e2, hq, st⟩
  · dsimp only [Pt.U, Pt.locs, Pt.cells, Pt.slots] at X' e1 e2 h1 h2 h3 st hcl
    subst h1; subst h2; subst h3
    exact Or.inr ⟨q, (T.setVm vm₁).calling g' mk As.toArray, t, U', L, E, ce, hT, X', hL, e1, e2, hq, hce, hcv, vx_cls hW₁ hcl, st⟩
end
end VXH
theorem vx_ofWH {l : Launch} {y : MethodName} {ws ws' : List Cond} {rm : Room} {Pc : Array Value → State → Prop} {Qc : Array Value → State → Outcome → State → Prop} {XC : String → State → State → Prop} {mc ms : Nat} {free : Addr → Prop} {cc : ByteArray} {maxL : Nat} {ret : Option FieldType} {hh : List (Nat × Nat × Nat × Nat)}
    (hy : plainName y.cls = true) (hw : ws = Cond.codeWith y cc maxL ret hh :: ws')
    (body : ∀ p e s m args below meth c s₁, BodyLoose p l y (headSpec ws rm) cc maxL ret e s m args below meth c s₁ → c.maxLocals = maxL → Pc args s →
      W p l e (headSpec ws rm).room s m args below meth c s.heap [] 0 0 (vx_MQ below Qc XC args s mc ms free) (entryFrame m args maxL)) : vx_Met l y ws rm Pc Qc XC mc ms free := by
  refine MetFree.of_bodyS (code := cc) (maxLocals := maxL) (ret := ret) hy ?_ ?_
  · intro args s m h hn
    obtain ⟨m9, meth, c, hn9, h1, h2, h3, h4, -, h5, h6, -⟩ := Cond.codeWith_spec (atoms_spec (ws := ws) h _ (by rw [hw]; exact List.mem_cons_self))
    cases hn.symm.trans hn9
    exact ⟨meth, c, h1, h2, h3, h4, h5, h6⟩
  · intro p e s m args below meth c s₁ B hml hP _
    have hh0 : s₁.heap = s.heap := by rw [B.state]; rfl
    obtain ⟨t, a1, o, b1, b2, b3⟩ := body p e s m args below meth c s₁ B hml hP s₁ hh0 (Stand.of_body B)
    exact ⟨t, o, a1, b1, b2, b3⟩
/-! ===== END ===== -/
end
section
def RL : String := "CableSizesLaw"
def RX0 : String := "CableSizes$Cables"
def TX0 : u_T := fun k => match k with
  | 0 => ("CableSizes$Cables", "count", "I", false)
  | 1 => ("CableSizes$Cables", "nodes", "[I", true)
  | 2 => ("CableSizes$Cables", "others", "[I", true)
  | 3 => ("CableSizes$Cables", "currents", "[I", true)
  | 4 => ("CableSizes$Cables", "wayCounts", "[I", true)
  | 5 => ("CableSizes$Cables", "wayLengths", "[I", true)
  | _ => ("CableSizes$Cables", "wayTrays", "[[I", true)
def tyX0 : Nat → FieldType := fun k => match k with
  | 0 => .int
  | 1 => .array .int
  | 2 => .array .int
  | 3 => .array .int
  | 4 => .array .int
  | 5 => .array .int
  | _ => .array (.array .int)
theorem nmX0 : ∀ a, a < 7 → ∀ b, b < 7 → a ≠ b → (TX0 a).2.1 ≠ (TX0 b).2.1 := by decide +kernel
theorem tyX0_ok : ∀ k, k < 7 → parseFieldDescriptor (TX0 k).2.2.1 = some (tyX0 k) := by decide +kernel
def RX1 : String := "CableSizes$Sizes"
def TX1 : u_T := fun k => match k with
  | 0 => ("CableSizes$Sizes", "count", "I", false)
  | 1 => ("CableSizes$Sizes", "areas", "[I", true)
  | 2 => ("CableSizes$Sizes", "ratings", "[I", true)
  | _ => ("CableSizes$Sizes", "ohms", "[I", true)
def tyX1 : Nat → FieldType := fun k => match k with
  | 0 => .int
  | 1 => .array .int
  | 2 => .array .int
  | _ => .array .int
theorem nmX1 : ∀ a, a < 4 → ∀ b, b < 4 → a ≠ b → (TX1 a).2.1 ≠ (TX1 b).2.1 := by decide +kernel
theorem tyX1_ok : ∀ k, k < 4 → parseFieldDescriptor (TX1 k).2.2.1 = some (tyX1 k) := by decide +kernel
def RX2 : String := "CableSizes$Sizing"
def TX2 : u_T := fun k => match k with
  | 0 => ("CableSizes$Sizing", "trays", "LCableSizes$Trays;", true)
  | 1 => ("CableSizes$Sizing", "sizes", "LCableSizes$Sizes;", true)
  | 2 => ("CableSizes$Sizing", "cables", "LCableSizes$Cables;", true)
  | 3 => ("CableSizes$Sizing", "picks", "[I", true)
  | _ => ("CableSizes$Sizing", "fills", "[I", true)
def tyX2 : Nat → FieldType := fun k => match k with
  | 0 => .object "CableSizes$Trays"
  | 1 => .object "CableSizes$Sizes"
  | 2 => .object "CableSizes$Cables"
  | 3 => .array .int
  | _ => .array .int
theorem nmX2 : ∀ a, a < 5 → ∀ b, b < 5 → a ≠ b → (TX2 a).2.1 ≠ (TX2 b).2.1 := by decide +kernel
theorem tyX2_ok : ∀ k, k < 5 → parseFieldDescriptor (TX2 k).2.2.1 = some (tyX2 k) := by decide +kernel
def RX3 : String := "CableSizes$Trays"
def TX3 : u_T := fun k => match k with
  | 0 => ("CableSizes$Trays", "count", "I", false)
  | 1 => ("CableSizes$Trays", "nodes", "[I", true)
  | 2 => ("CableSizes$Trays", "others", "[I", true)
  | 3 => ("CableSizes$Trays", "lengths", "[I", true)
  | 4 => ("CableSizes$Trays", "rooms", "[I", true)
  | _ => ("CableSizes$Trays", "distances", "[I", true)
def tyX3 : Nat → FieldType := fun k => match k with
  | 0 => .int
  | 1 => .array .int
  | 2 => .array .int
  | 3 => .array .int
  | 4 => .array .int
  | _ => .array .int
theorem nmX3 : ∀ a, a < 6 → ∀ b, b < 6 → a ≠ b → (TX3 a).2.1 ≠ (TX3 b).2.1 := by decide +kernel
theorem tyX3_ok : ∀ k, k < 6 → parseFieldDescriptor (TX3 k).2.2.1 = some (tyX3 k) := by decide +kernel
def RX4 : String := "CableSizes"
def TX4 : u_T := fun k => match k with
  | 0 => ("CableSizes", "trays", "LCableSizes$Trays;", true)
  | 1 => ("CableSizes", "sizes", "LCableSizes$Sizes;", true)
  | 2 => ("CableSizes", "cables", "LCableSizes$Cables;", true)
  | 3 => ("CableSizes", "least", "LCableSizes$Sizing;", true)
  | 4 => ("CableSizes", "trial", "LCableSizes$Sizing;", true)
  | 5 => ("CableSizes", "dropLimit", "I", false)
  | 6 => ("CableSizes", "leastIsKnown", "Z", false)
  | _ => ("CableSizes", "leastExists", "Z", false)
def tyX4 : Nat → FieldType := fun k => match k with
  | 0 => .object "CableSizes$Trays"
  | 1 => .object "CableSizes$Sizes"
  | 2 => .object "CableSizes$Cables"
  | 3 => .object "CableSizes$Sizing"
  | 4 => .object "CableSizes$Sizing"
  | 5 => .int
  | 6 => .boolean
  | _ => .boolean
theorem nmX4 : ∀ a, a < 8 → ∀ b, b < 8 → a ≠ b → (TX4 a).2.1 ≠ (TX4 b).2.1 := by decide +kernel
theorem tyX4_ok : ∀ k, k < 8 → parseFieldDescriptor (TX4 k).2.2.1 = some (tyX4 k) := by decide +kernel
def RX5 : String := "CableSizesModel"
def TX5 : u_T := fun k => match k with
  | 0 => ("CableSizesModel", "thrown", "I", false)
  | 1 => ("CableSizesModel", "trays", "I", false)
  | 2 => ("CableSizesModel", "ends", "[I", true)
  | 3 => ("CableSizesModel", "lengths", "[I", true)
  | 4 => ("CableSizesModel", "rooms", "[I", true)
  | 5 => ("CableSizesModel", "sizes", "I", false)
  | 6 => ("CableSizesModel", "areas", "[I", true)
  | 7 => ("CableSizesModel", "ratings", "[I", true)
  | 8 => ("CableSizesModel", "ohms", "[I", true)
  | 9 => ("CableSizesModel", "cables", "I", false)
  | 10 => ("CableSizesModel", "firsts", "[I", true)
  | 11 => ("CableSizesModel", "lasts", "[I", true)
  | 12 => ("CableSizesModel", "currents", "[I", true)
  | 13 => ("CableSizesModel", "limit", "I", false)
  | 14 => ("CableSizesModel", "far", "[I", true)
  | 15 => ("CableSizesModel", "ways", "[I", true)
  | 16 => ("CableSizesModel", "long0", "[I", true)
  | 17 => ("CableSizesModel", "chosen", "[I", true)
  | _ => ("CableSizesModel", "bad", "[Z", true)
def tyX5 : Nat → FieldType := fun k => match k with
  | 0 => .int
  | 1 => .int
  | 2 => .array .int
  | 3 => .array .int
  | 4 => .array .int
  | 5 => .int
  | 6 => .array .int
  | 7 => .array .int
  | 8 => .array .int
  | 9 => .int
  | 10 => .array .int
  | 11 => .array .int
  | 12 => .array .int
  | 13 => .int
  | 14 => .array .int
  | 15 => .array .int
  | 16 => .array .int
  | 17 => .array .int
  | _ => .array .boolean
theorem nmX5 : ∀ a, a < 19 → ∀ b, b < 19 → a ≠ b → (TX5 a).2.1 ≠ (TX5 b).2.1 := by decide +kernel
theorem tyX5_ok : ∀ k, k < 19 → parseFieldDescriptor (TX5 k).2.2.1 = some (tyX5 k) := by decide +kernel
abbrev vwCl : List vw_C := [(RX0, TX0, 7), (RX1, TX1, 4), (RX2, TX2, 5), (RX3, TX3, 6), (RX4, TX4, 8), (RX5, TX5, 19)]
abbrev cX4_init : ByteArray := prog_1_method_1_code
def yX4_init : MethodName := ⟨"CableSizes", "<init>", "()V"⟩
abbrev cX3_init : ByteArray := prog_5_method_1_code
def yX3_init : MethodName := ⟨"CableSizes$Trays", "<init>", "()V"⟩
abbrev cX1_init : ByteArray := prog_3_method_1_code
def yX1_init : MethodName := ⟨"CableSizes$Sizes", "<init>", "()V"⟩
abbrev cX0_init : ByteArray := prog_2_method_1_code
def yX0_init : MethodName := ⟨"CableSizes$Cables", "<init>", "()V"⟩
abbrev cX2_init : ByteArray := prog_4_method_1_code
def yX2_init : MethodName := ⟨"CableSizes$Sizing", "<init>", "(LCableSizes$Trays;LCableSizes$Sizes;LCableSizes$Cables;)V"⟩
abbrev cX4_settled : ByteArray := prog_1_method_10_code
def yX4_settled : MethodName := ⟨"CableSizes", "settled", "()Z"⟩
abbrev cX4_findLeast : ByteArray := prog_1_method_16_code
def yX4_findLeast : MethodName := ⟨"CableSizes", "findLeast", "()V"⟩
abbrev cX2_climb : ByteArray := prog_4_method_2_code
def yX2_climb : MethodName := ⟨"CableSizes$Sizing", "climb", "(I)Z"⟩
abbrev cJ_fill : ByteArray := prog_15_method_103_code
def yJ_fill : MethodName := ⟨"java/util/Arrays", "fill", "([II)V"⟩
abbrev cX2_fillTrays : ByteArray := prog_4_method_4_code
def yX2_fillTrays : MethodName := ⟨"CableSizes$Sizing", "fillTrays", "()V"⟩
abbrev cX2_allAreRight : ByteArray := prog_4_method_5_code
def yX2_allAreRight : MethodName := ⟨"CableSizes$Sizing", "allAreRight", "(I)Z"⟩
abbrev cX2_isRightAt : ByteArray := prog_4_method_6_code
def yX2_isRightAt : MethodName := ⟨"CableSizes$Sizing", "isRightAt", "(II)Z"⟩
abbrev cX0_isLoose : ByteArray := prog_2_method_3_code
def yX0_isLoose : MethodName := ⟨"CableSizes$Cables", "isLoose", "(I)Z"⟩
abbrev cX2_carriedBy : ByteArray := prog_4_method_7_code
def yX2_carriedBy : MethodName := ⟨"CableSizes$Sizing", "carriedBy", "(I)I"⟩
abbrev cX2_factorOf : ByteArray := prog_4_method_9_code
def yX2_factorOf : MethodName := ⟨"CableSizes$Sizing", "factorOf", "(I)I"⟩
abbrev cJ_min : ByteArray := prog_11_method_69_code
def yJ_min : MethodName := ⟨"java/lang/Math", "min", "(II)I"⟩
abbrev cX2_dropOf : ByteArray := prog_4_method_8_code
def yX2_dropOf : MethodName := ⟨"CableSizes$Sizing", "dropOf", "(I)I"⟩
abbrev cX2_raiseWrongOnes : ByteArray := prog_4_method_3_code
def yX2_raiseWrongOnes : MethodName := ⟨"CableSizes$Sizing", "raiseWrongOnes", "(I)Z"⟩
abbrev cX4_copper : ByteArray := prog_1_method_14_code
def yX4_copper : MethodName := ⟨"CableSizes", "copper", "()I"⟩
abbrev cX2_sumOfCopper : ByteArray := prog_4_method_10_code
def yX2_sumOfCopper : MethodName := ⟨"CableSizes$Sizing", "sumOfCopper", "()I"⟩
abbrev cL_tray : ByteArray := method_3_code
def yL_tray : MethodName := ⟨"CableSizesLaw", "tray", "(LCableSizes;IIII[J)I"⟩
abbrev cX4_tray : ByteArray := prog_1_method_2_code
def yX4_tray : MethodName := ⟨"CableSizes", "tray", "(IIII)I"⟩
abbrev cX4_checkNodes : ByteArray := prog_1_method_19_code
def yX4_checkNodes : MethodName := ⟨"CableSizes", "checkNodes", "(II)V"⟩
abbrev cX4_checkBounds : ByteArray := prog_1_method_17_code
def yX4_checkBounds : MethodName := ⟨"CableSizes", "checkBounds", "(III)V"⟩
abbrev cX3_add : ByteArray := prog_5_method_2_code
def yX3_add : MethodName := ⟨"CableSizes$Trays", "add", "(IIII)I"⟩
abbrev cX0_findWay : ByteArray := prog_2_method_4_code
def yX0_findWay : MethodName := ⟨"CableSizes$Cables", "findWay", "(ILCableSizes$Trays;)V"⟩
abbrev cX3_measureTo : ByteArray := prog_5_method_3_code
def yX3_measureTo : MethodName := ⟨"CableSizes$Trays", "measureTo", "(I)V"⟩
abbrev cX3_shorten : ByteArray := prog_5_method_4_code
def yX3_shorten : MethodName := ⟨"CableSizes$Trays", "shorten", "(III)Z"⟩
abbrev cX3_firstTowardsTarget : ByteArray := prog_5_method_5_code
def yX3_firstTowardsTarget : MethodName := ⟨"CableSizes$Trays", "firstTowardsTarget", "(I)I"⟩
abbrev cX3_endBehind : ByteArray := prog_5_method_6_code
def yX3_endBehind : MethodName := ⟨"CableSizes$Trays", "endBehind", "(II)I"⟩
abbrev cL_size : ByteArray := method_4_code
def yL_size : MethodName := ⟨"CableSizesLaw", "size", "(LCableSizes;III[J)I"⟩
abbrev cX4_size : ByteArray := prog_1_method_3_code
def yX4_size : MethodName := ⟨"CableSizes", "size", "(III)I"⟩
abbrev cX1_mayFollow : ByteArray := prog_3_method_2_code
def yX1_mayFollow : MethodName := ⟨"CableSizes$Sizes", "mayFollow", "(III)Z"⟩
abbrev cX1_add : ByteArray := prog_3_method_3_code
def yX1_add : MethodName := ⟨"CableSizes$Sizes", "add", "(III)I"⟩
abbrev cL_cable : ByteArray := method_5_code
def yL_cable : MethodName := ⟨"CableSizesLaw", "cable", "(LCableSizes;III[J)I"⟩
abbrev cX4_cable : ByteArray := prog_1_method_4_code
def yX4_cable : MethodName := ⟨"CableSizes", "cable", "(III)I"⟩
abbrev cX0_add : ByteArray := prog_2_method_2_code
def yX0_add : MethodName := ⟨"CableSizes$Cables", "add", "(III)I"⟩
abbrev cL_current : ByteArray := method_6_code
def yL_current : MethodName := ⟨"CableSizesLaw", "current", "(LCableSizes;II[J)I"⟩
abbrev cX4_current : ByteArray := prog_1_method_5_code
def yX4_current : MethodName := ⟨"CableSizes", "current", "(II)I"⟩
abbrev cX4_checkNumber : ByteArray := prog_1_method_18_code
def yX4_checkNumber : MethodName := ⟨"CableSizes", "checkNumber", "(II)V"⟩
abbrev cL_room : ByteArray := method_7_code
def yL_room : MethodName := ⟨"CableSizesLaw", "room", "(LCableSizes;II[J)I"⟩
abbrev cX4_room : ByteArray := prog_1_method_6_code
def yX4_room : MethodName := ⟨"CableSizes", "room", "(II)I"⟩
abbrev cL_limit : ByteArray := method_8_code
def yL_limit : MethodName := ⟨"CableSizesLaw", "limit", "(LCableSizes;I[J)I"⟩
abbrev cX4_limit : ByteArray := prog_1_method_7_code
def yX4_limit : MethodName := ⟨"CableSizes", "limit", "(I)I"⟩
abbrev cL_way : ByteArray := method_9_code
def yL_way : MethodName := ⟨"CableSizesLaw", "way", "(LCableSizes;I[J)I"⟩
abbrev cX4_way : ByteArray := prog_1_method_8_code
def yX4_way : MethodName := ⟨"CableSizes", "way", "(I)I"⟩
abbrev cL_way2 : ByteArray := method_10_code
def yL_way2 : MethodName := ⟨"CableSizesLaw", "way", "(LCableSizes;II[J)I"⟩
abbrev cX4_way2 : ByteArray := prog_1_method_9_code
def yX4_way2 : MethodName := ⟨"CableSizes", "way", "(II)I"⟩
abbrev cL_chosen : ByteArray := method_11_code
def yL_chosen : MethodName := ⟨"CableSizesLaw", "chosen", "(LCableSizes;I[J)I"⟩
abbrev cX4_chosen : ByteArray := prog_1_method_11_code
def yX4_chosen : MethodName := ⟨"CableSizes", "chosen", "(I)I"⟩
abbrev cL_told : ByteArray := method_12_code
def yL_told : MethodName := ⟨"CableSizesLaw", "told", "(LCableSizes;II[J)I"⟩
abbrev cX4_told : ByteArray := prog_1_method_12_code
def yX4_told : MethodName := ⟨"CableSizes", "told", "(II)I"⟩
abbrev cX0_countThrough : ByteArray := prog_2_method_5_code
def yX0_countThrough : MethodName := ⟨"CableSizes$Cables", "countThrough", "(I)I"⟩
abbrev cL_cableAt : ByteArray := method_13_code
def yL_cableAt : MethodName := ⟨"CableSizesLaw", "cableAt", "(LCableSizes;II[J)I"⟩
abbrev cX4_cableAt : ByteArray := prog_1_method_13_code
def yX4_cableAt : MethodName := ⟨"CableSizes", "cableAt", "(II)I"⟩
abbrev cL_right : ByteArray := method_14_code
def yL_right : MethodName := ⟨"CableSizesLaw", "right", "(LCableSizes;J[J)I"⟩
abbrev cX4_right : ByteArray := prog_1_method_15_code
def yX4_right : MethodName := ⟨"CableSizes", "right", "(J)Z"⟩
abbrev cX5_init : ByteArray := prog_7_method_1_code
def yX5_init : MethodName := ⟨"CableSizesModel", "<init>", "()V"⟩
abbrev cX5_thrown : ByteArray := prog_7_method_2_code
def yX5_thrown : MethodName := ⟨"CableSizesModel", "thrown", "()I"⟩
abbrev cX5_tray : ByteArray := prog_7_method_5_code
def yX5_tray : MethodName := ⟨"CableSizesModel", "tray", "(IIII)I"⟩
abbrev cX5_isNode : ByteArray := prog_7_method_4_code
def yX5_isNode : MethodName := ⟨"CableSizesModel", "isNode", "(I)Z"⟩
abbrev cX5_isIn : ByteArray := prog_7_method_3_code
def yX5_isIn : MethodName := ⟨"CableSizesModel", "isIn", "(JJJ)Z"⟩
abbrev cX5_size : ByteArray := prog_7_method_6_code
def yX5_size : MethodName := ⟨"CableSizesModel", "size", "(III)I"⟩
abbrev cX5_cable : ByteArray := prog_7_method_7_code
def yX5_cable : MethodName := ⟨"CableSizesModel", "cable", "(III)I"⟩
abbrev cX5_current : ByteArray := prog_7_method_10_code
def yX5_current : MethodName := ⟨"CableSizesModel", "current", "(II)I"⟩
abbrev cX5_noCable : ByteArray := prog_7_method_8_code
def yX5_noCable : MethodName := ⟨"CableSizesModel", "noCable", "(I)Z"⟩
abbrev cX5_room : ByteArray := prog_7_method_11_code
def yX5_room : MethodName := ⟨"CableSizesModel", "room", "(II)I"⟩
abbrev cX5_noTray : ByteArray := prog_7_method_9_code
def yX5_noTray : MethodName := ⟨"CableSizesModel", "noTray", "(I)Z"⟩
abbrev cX5_limit : ByteArray := prog_7_method_12_code
def yX5_limit : MethodName := ⟨"CableSizesModel", "limit", "(I)I"⟩
abbrev cX5_way : ByteArray := prog_7_method_17_code
def yX5_way : MethodName := ⟨"CableSizesModel", "way", "(I)I"⟩
abbrev cX5_goAll : ByteArray := prog_7_method_15_code
def yX5_goAll : MethodName := ⟨"CableSizesModel", "goAll", "()V"⟩
abbrev cX5_measure : ByteArray := prog_7_method_14_code
def yX5_measure : MethodName := ⟨"CableSizesModel", "measure", "(I)V"⟩
abbrev cX5_behind : ByteArray := prog_7_method_13_code
def yX5_behind : MethodName := ⟨"CableSizesModel", "behind", "(II)I"⟩
abbrev cX5_way2 : ByteArray := prog_7_method_18_code
def yX5_way2 : MethodName := ⟨"CableSizesModel", "way", "(II)I"⟩
abbrev cX5_settled : ByteArray := prog_7_method_25_code
def yX5_settled : MethodName := ⟨"CableSizesModel", "settled", "()Z"⟩
abbrev cX5_choose : ByteArray := prog_7_method_24_code
def yX5_choose : MethodName := ⟨"CableSizesModel", "choose", "()Z"⟩
abbrev cX5_isRight : ByteArray := prog_7_method_23_code
def yX5_isRight : MethodName := ⟨"CableSizesModel", "isRight", "(I)Z"⟩
abbrev cX5_carries : ByteArray := prog_7_method_21_code
def yX5_carries : MethodName := ⟨"CableSizesModel", "carries", "(I)I"⟩
abbrev cX5_factor : ByteArray := prog_7_method_20_code
def yX5_factor : MethodName := ⟨"CableSizesModel", "factor", "(I)I"⟩
abbrev cX5_fill : ByteArray := prog_7_method_19_code
def yX5_fill : MethodName := ⟨"CableSizesModel", "fill", "(I)I"⟩
abbrev cX5_isOn : ByteArray := prog_7_method_16_code
def yX5_isOn : MethodName := ⟨"CableSizesModel", "isOn", "(II)Z"⟩
abbrev cX5_drop : ByteArray := prog_7_method_22_code
def yX5_drop : MethodName := ⟨"CableSizesModel", "drop", "(I)I"⟩
abbrev cX5_chosen : ByteArray := prog_7_method_26_code
def yX5_chosen : MethodName := ⟨"CableSizesModel", "chosen", "(I)I"⟩
abbrev cX5_told : ByteArray := prog_7_method_27_code
def yX5_told : MethodName := ⟨"CableSizesModel", "told", "(II)I"⟩
abbrev cX5_cableAt : ByteArray := prog_7_method_28_code
def yX5_cableAt : MethodName := ⟨"CableSizesModel", "cableAt", "(II)I"⟩
abbrev cX5_copper : ByteArray := prog_7_method_29_code
def yX5_copper : MethodName := ⟨"CableSizesModel", "copper", "()I"⟩
abbrev cX5_right : ByteArray := prog_7_method_30_code
def yX5_right : MethodName := ⟨"CableSizesModel", "right", "(J)Z"⟩
abbrev cL_law : ByteArray := code
def yL_law : MethodName := ⟨"CableSizesLaw", "law", "([I)Z"⟩
/-- the words that every state keeps -/
def bw : List Cond := lw_tbl.filter goodWord
theorem in_X0 : ∀ w ∈ u_ws RX0 TX0 7, w ∈ bw := by decide +kernel
theorem in_X1 : ∀ w ∈ u_ws RX1 TX1 4, w ∈ bw := by decide +kernel
theorem in_X2 : ∀ w ∈ u_ws RX2 TX2 5, w ∈ bw := by decide +kernel
theorem in_X3 : ∀ w ∈ u_ws RX3 TX3 6, w ∈ bw := by decide +kernel
theorem in_X4 : ∀ w ∈ u_ws RX4 TX4 8, w ∈ bw := by decide +kernel
theorem in_X5 : ∀ w ∈ u_ws RX5 TX5 19, w ∈ bw := by decide +kernel
theorem bw_good : ∀ w ∈ bw, goodWord w = true := fun _ h => (List.mem_filter.mp h).2
theorem bw_in {ws : List Cond} {c : Cond} (h : ∀ w ∈ ws, w ∈ bw) : GoodIn (c :: bw) ws := fun w hw => ⟨List.mem_cons_of_mem _ (h w hw), good_of_word (bw_good w (h w hw))⟩
theorem bw_law {ws : List Cond} (h : ∀ w ∈ ws, w ∈ bw) : GoodIn lw_tbl ws := fun w hw => ⟨(List.mem_filter.mp (h w hw)).1, good_of_word (bw_good w (h w hw))⟩
end
section
theorem m_0 : (Cond.selects "CableSizes" ⟨"CableSizes", "findLeast", "()V"⟩ ⟨"CableSizes", "findLeast", "()V"⟩) ∈ bw := List.mem_filter.mpr ⟨List.mem_of_getElem? (i := 0) (by decide +kernel), by decide +kernel⟩
theorem m_1 : (Cond.selects "CableSizes$Sizing" ⟨"CableSizes$Sizing", "isRightAt", "(II)Z"⟩ ⟨"CableSizes$Sizing", "isRightAt", "(II)Z"⟩) ∈ bw := List.mem_filter.mpr ⟨List.mem_of_getElem? (i := 1) (by decide +kernel), by decide +kernel⟩
theorem m_2 : (Cond.selects "CableSizes$Sizing" ⟨"CableSizes$Sizing", "raiseWrongOnes", "(I)Z"⟩ ⟨"CableSizes$Sizing", "raiseWrongOnes", "(I)Z"⟩) ∈ bw := List.mem_filter.mpr ⟨List.mem_of_getElem? (i := 2) (by decide +kernel), by decide +kernel⟩
theorem m_3 : (Cond.selects "java/lang/Throwable" ⟨"java/lang/Throwable", "fillInStackTrace", "(I)Ljava/lang/Throwable;"⟩ ⟨"java/lang/Throwable", "fillInStackTrace", "(I)Ljava/lang/Throwable;"⟩) ∈ bw := List.mem_filter.mpr ⟨List.mem_of_getElem? (i := 3) (by decide +kernel), by decide +kernel⟩
theorem m_4 : (Cond.selects "CableSizes$Trays" ⟨"CableSizes$Trays", "shorten", "(III)Z"⟩ ⟨"CableSizes$Trays", "shorten", "(III)Z"⟩) ∈ bw := List.mem_filter.mpr ⟨List.mem_of_getElem? (i := 4) (by decide +kernel), by decide +kernel⟩
theorem m_5 : (Cond.selects "CableSizesModel" ⟨"CableSizesModel", "noCable", "(I)Z"⟩ ⟨"CableSizesModel", "noCable", "(I)Z"⟩) ∈ bw := List.mem_filter.mpr ⟨List.mem_of_getElem? (i := 5) (by decide +kernel), by decide +kernel⟩
theorem m_6 : (Cond.selects "CableSizesModel" ⟨"CableSizesModel", "noTray", "(I)Z"⟩ ⟨"CableSizesModel", "noTray", "(I)Z"⟩) ∈ bw := List.mem_filter.mpr ⟨List.mem_of_getElem? (i := 6) (by decide +kernel), by decide +kernel⟩
theorem m_7 : (Cond.selects "CableSizesModel" ⟨"CableSizesModel", "goAll", "()V"⟩ ⟨"CableSizesModel", "goAll", "()V"⟩) ∈ bw := List.mem_filter.mpr ⟨List.mem_of_getElem? (i := 7) (by decide +kernel), by decide +kernel⟩
theorem m_8 : (Cond.selects "CableSizesModel" ⟨"CableSizesModel", "measure", "(I)V"⟩ ⟨"CableSizesModel", "measure", "(I)V"⟩) ∈ bw := List.mem_filter.mpr ⟨List.mem_of_getElem? (i := 8) (by decide +kernel), by decide +kernel⟩
theorem m_9 : (Cond.selects "CableSizesModel" ⟨"CableSizesModel", "behind", "(II)I"⟩ ⟨"CableSizesModel", "behind", "(II)I"⟩) ∈ bw := List.mem_filter.mpr ⟨List.mem_of_getElem? (i := 9) (by decide +kernel), by decide +kernel⟩
theorem m_10 : (Cond.selects "CableSizesModel" ⟨"CableSizesModel", "choose", "()Z"⟩ ⟨"CableSizesModel", "choose", "()Z"⟩) ∈ bw := List.mem_filter.mpr ⟨List.mem_of_getElem? (i := 10) (by decide +kernel), by decide +kernel⟩
theorem m_11 : (Cond.selects "CableSizesModel" ⟨"CableSizesModel", "isRight", "(I)Z"⟩ ⟨"CableSizesModel", "isRight", "(I)Z"⟩) ∈ bw := List.mem_filter.mpr ⟨List.mem_of_getElem? (i := 11) (by decide +kernel), by decide +kernel⟩
theorem m_12 : (Cond.selects "CableSizesModel" ⟨"CableSizesModel", "carries", "(I)I"⟩ ⟨"CableSizesModel", "carries", "(I)I"⟩) ∈ bw := List.mem_filter.mpr ⟨List.mem_of_getElem? (i := 12) (by decide +kernel), by decide +kernel⟩
theorem m_13 : (Cond.selects "CableSizesModel" ⟨"CableSizesModel", "factor", "(I)I"⟩ ⟨"CableSizesModel", "factor", "(I)I"⟩) ∈ bw := List.mem_filter.mpr ⟨List.mem_of_getElem? (i := 13) (by decide +kernel), by decide +kernel⟩
theorem m_14 : (Cond.selects "CableSizesModel" ⟨"CableSizesModel", "fill", "(I)I"⟩ ⟨"CableSizesModel", "fill", "(I)I"⟩) ∈ bw := List.mem_filter.mpr ⟨List.mem_of_getElem? (i := 14) (by decide +kernel), by decide +kernel⟩
theorem m_15 : (Cond.selects "CableSizesModel" ⟨"CableSizesModel", "isOn", "(II)Z"⟩ ⟨"CableSizesModel", "isOn", "(II)Z"⟩) ∈ bw := List.mem_filter.mpr ⟨List.mem_of_getElem? (i := 15) (by decide +kernel), by decide +kernel⟩
theorem m_16 : (Cond.selects "CableSizesModel" ⟨"CableSizesModel", "drop", "(I)I"⟩ ⟨"CableSizesModel", "drop", "(I)I"⟩) ∈ bw := List.mem_filter.mpr ⟨List.mem_of_getElem? (i := 16) (by decide +kernel), by decide +kernel⟩
theorem m_17 : (Jvm.Cond.initialized "CableSizesLaw") ∈ bw := List.mem_filter.mpr ⟨List.mem_of_getElem? (i := 17) (by decide +kernel), by decide +kernel⟩
theorem m_18 : (Jvm.Cond.initialized "CableSizes") ∈ bw := List.mem_filter.mpr ⟨List.mem_of_getElem? (i := 18) (by decide +kernel), by decide +kernel⟩
theorem m_19 : (Jvm.Cond.initialized "CableSizes$Trays") ∈ bw := List.mem_filter.mpr ⟨List.mem_of_getElem? (i := 19) (by decide +kernel), by decide +kernel⟩
theorem m_20 : (Jvm.Cond.initialized "CableSizes$Sizes") ∈ bw := List.mem_filter.mpr ⟨List.mem_of_getElem? (i := 20) (by decide +kernel), by decide +kernel⟩
theorem m_21 : (Jvm.Cond.initialized "CableSizes$Cables") ∈ bw := List.mem_filter.mpr ⟨List.mem_of_getElem? (i := 21) (by decide +kernel), by decide +kernel⟩
theorem m_22 : (Jvm.Cond.initialized "CableSizes$Sizing") ∈ bw := List.mem_filter.mpr ⟨List.mem_of_getElem? (i := 22) (by decide +kernel), by decide +kernel⟩
theorem m_23 : (Jvm.Cond.initialized "CableSizesModel") ∈ bw := List.mem_filter.mpr ⟨List.mem_of_getElem? (i := 23) (by decide +kernel), by decide +kernel⟩
theorem m_24 : (Jvm.Cond.initialized "java/lang/Throwable") ∈ bw := List.mem_filter.mpr ⟨List.mem_of_getElem? (i := 24) (by decide +kernel), by decide +kernel⟩
theorem m_25 : (Jvm.Cond.initialized "java/lang/Exception") ∈ bw := List.mem_filter.mpr ⟨List.mem_of_getElem? (i := 25) (by decide +kernel), by decide +kernel⟩
theorem m_26 : (Jvm.Cond.initialized "java/lang/RuntimeException") ∈ bw := List.mem_filter.mpr ⟨List.mem_of_getElem? (i := 26) (by decide +kernel), by decide +kernel⟩
theorem m_27 : (Jvm.Cond.initialized "java/lang/IllegalArgumentException") ∈ bw := List.mem_filter.mpr ⟨List.mem_of_getElem? (i := 27) (by decide +kernel), by decide +kernel⟩
theorem m_28 : (Jvm.Cond.initialized "java/lang/IllegalStateException") ∈ bw := List.mem_filter.mpr ⟨List.mem_of_getElem? (i := 28) (by decide +kernel), by decide +kernel⟩
theorem m_29 : (Jvm.Cond.initialized "java/util/Arrays") ∈ bw := List.mem_filter.mpr ⟨List.mem_of_getElem? (i := 29) (by decide +kernel), by decide +kernel⟩
theorem mn_29 : (Jvm.Cond.fieldLinkNest "CableSizes" (62 : Nat) "CableSizes$Trays" "count" "I" "CableSizes") ∈ tables_1 := List.mem_of_getElem? (i := 29) (by decide +kernel)
theorem m_30 : (Jvm.Cond.initialized "java/lang/Math") ∈ bw := List.mem_filter.mpr ⟨List.mem_of_getElem? (i := 30) (by decide +kernel), by decide +kernel⟩
theorem mn_30 : (Jvm.Cond.fieldLinkNest "CableSizes$Sizing" (69 : Nat) "CableSizes$Trays" "count" "I" "CableSizes") ∈ tables_1 := List.mem_of_getElem? (i := 30) (by decide +kernel)
theorem m_31 : (Jvm.Cond.classLink "CableSizesLaw" (8 : Nat) "CableSizes") ∈ bw := List.mem_filter.mpr ⟨List.mem_of_getElem? (i := 31) (by decide +kernel), by decide +kernel⟩
theorem m_32 : (Jvm.Cond.instantiable "CableSizes" (8 : Nat)) ∈ bw := List.mem_filter.mpr ⟨List.mem_of_getElem? (i := 32) (by decide +kernel), by decide +kernel⟩
theorem m_33 : (Jvm.Cond.methodLink "CableSizesLaw" (53 : Nat) ({ cls := "CableSizes", name := "<init>", desc := "()V" } : Jvm.MethodName)) ∈ bw := List.mem_filter.mpr ⟨List.mem_of_getElem? (i := 33) (by decide +kernel), by decide +kernel⟩
theorem m_34 : (Jvm.Cond.instanceMethod ({ cls := "CableSizes", name := "<init>", desc := "()V" } : Jvm.MethodName)) ∈ bw := List.mem_filter.mpr ⟨List.mem_of_getElem? (i := 34) (by decide +kernel), by decide +kernel⟩
theorem mn_34 : (Jvm.Cond.fieldLinkNest "CableSizes$Cables" (50 : Nat) "CableSizes$Trays" "lengths" "[I" "CableSizes") ∈ tables_1 := List.mem_of_getElem? (i := 34) (by decide +kernel)
theorem m_35 : (Jvm.Cond.code ({ cls := "CableSizes", name := "<init>", desc := "()V" } : Jvm.MethodName) prog_1_method_1_code (1 : Nat) (Option.none : Option Jvm.ClassFile.FieldType)) ∈ bw := List.mem_filter.mpr ⟨List.mem_of_getElem? (i := 35) (by decide +kernel), by decide +kernel⟩
theorem m_36 : (Jvm.Cond.methodLink "CableSizes" (3 : Nat) ({ cls := "java/lang/Object", name := "<init>", desc := "()V" } : Jvm.MethodName)) ∈ bw := List.mem_filter.mpr ⟨List.mem_of_getElem? (i := 36) (by decide +kernel), by decide +kernel⟩
theorem mn_36 : (Jvm.Cond.fieldLinkNest "CableSizes$Sizing" (72 : Nat) "CableSizes$Trays" "rooms" "[I" "CableSizes") ∈ tables_1 := List.mem_of_getElem? (i := 36) (by decide +kernel)
theorem m_37 : (Jvm.Cond.instanceMethod ({ cls := "java/lang/Object", name := "<init>", desc := "()V" } : Jvm.MethodName)) ∈ bw := List.mem_filter.mpr ⟨List.mem_of_getElem? (i := 37) (by decide +kernel), by decide +kernel⟩
theorem mn_37 : (Jvm.Cond.fieldLinkNest "CableSizes" (103 : Nat) "CableSizes$Trays" "rooms" "[I" "CableSizes") ∈ tables_1 := List.mem_of_getElem? (i := 37) (by decide +kernel)
theorem m_38 : (Jvm.Cond.code ({ cls := "java/lang/Object", name := "<init>", desc := "()V" } : Jvm.MethodName) object_method_1_code (1 : Nat) (Option.none : Option Jvm.ClassFile.FieldType)) ∈ bw := List.mem_filter.mpr ⟨List.mem_of_getElem? (i := 38) (by decide +kernel), by decide +kernel⟩
theorem m_39 : (Jvm.Cond.classLink "CableSizes" (9 : Nat) "CableSizes$Trays") ∈ bw := List.mem_filter.mpr ⟨List.mem_of_getElem? (i := 39) (by decide +kernel), by decide +kernel⟩
theorem mn_39 : (Jvm.Cond.fieldLinkNest "CableSizes$Cables" (42 : Nat) "CableSizes$Trays" "distances" "[I" "CableSizes") ∈ tables_1 := List.mem_of_getElem? (i := 39) (by decide +kernel)
theorem m_40 : (Jvm.Cond.instantiable "CableSizes$Trays" (6 : Nat)) ∈ bw := List.mem_filter.mpr ⟨List.mem_of_getElem? (i := 40) (by decide +kernel), by decide +kernel⟩
theorem m_41 : (Jvm.Cond.methodLink "CableSizes" (11 : Nat) ({ cls := "CableSizes$Trays", name := "<init>", desc := "()V" } : Jvm.MethodName)) ∈ bw := List.mem_filter.mpr ⟨List.mem_of_getElem? (i := 41) (by decide +kernel), by decide +kernel⟩
theorem m_42 : (Jvm.Cond.instanceMethod ({ cls := "CableSizes$Trays", name := "<init>", desc := "()V" } : Jvm.MethodName)) ∈ bw := List.mem_filter.mpr ⟨List.mem_of_getElem? (i := 42) (by decide +kernel), by decide +kernel⟩
theorem m_43 : (Jvm.Cond.code ({ cls := "CableSizes$Trays", name := "<init>", desc := "()V" } : Jvm.MethodName) prog_5_method_1_code (1 : Nat) (Option.none : Option Jvm.ClassFile.FieldType)) ∈ bw := List.mem_filter.mpr ⟨List.mem_of_getElem? (i := 43) (by decide +kernel), by decide +kernel⟩
theorem m_44 : (Jvm.Cond.methodLink "CableSizes$Trays" (3 : Nat) ({ cls := "java/lang/Object", name := "<init>", desc := "()V" } : Jvm.MethodName)) ∈ bw := List.mem_filter.mpr ⟨List.mem_of_getElem? (i := 44) (by decide +kernel), by decide +kernel⟩
theorem m_45 : (Jvm.Cond.fieldLink "CableSizes$Trays" (9 : Nat) "CableSizes$Trays" "count" "I") ∈ bw := List.mem_filter.mpr ⟨List.mem_of_getElem? (i := 45) (by decide +kernel), by decide +kernel⟩
theorem m_48 : (Jvm.Cond.fieldLink "CableSizes$Trays" (15 : Nat) "CableSizes$Trays" "nodes" "[I") ∈ bw := List.mem_filter.mpr ⟨List.mem_of_getElem? (i := 48) (by decide +kernel), by decide +kernel⟩
theorem m_49 : (Jvm.Cond.fieldLink "CableSizes$Trays" (19 : Nat) "CableSizes$Trays" "others" "[I") ∈ bw := List.mem_filter.mpr ⟨List.mem_of_getElem? (i := 49) (by decide +kernel), by decide +kernel⟩
theorem m_50 : (Jvm.Cond.fieldLink "CableSizes$Trays" (22 : Nat) "CableSizes$Trays" "lengths" "[I") ∈ bw := List.mem_filter.mpr ⟨List.mem_of_getElem? (i := 50) (by decide +kernel), by decide +kernel⟩
theorem m_52 : (Jvm.Cond.fieldLink "CableSizes$Trays" (25 : Nat) "CableSizes$Trays" "rooms" "[I") ∈ bw := List.mem_filter.mpr ⟨List.mem_of_getElem? (i := 52) (by decide +kernel), by decide +kernel⟩
theorem m_55 : (Jvm.Cond.fieldLink "CableSizes$Trays" (28 : Nat) "CableSizes$Trays" "distances" "[I") ∈ bw := List.mem_filter.mpr ⟨List.mem_of_getElem? (i := 55) (by decide +kernel), by decide +kernel⟩
theorem mn_61 : (Jvm.Cond.fieldLinkNest "CableSizes$Sizing" (42 : Nat) "CableSizes$Sizes" "count" "I" "CableSizes") ∈ tables_1 := List.mem_of_getElem? (i := 61) (by decide +kernel)
theorem mn_62 : (Jvm.Cond.fieldLinkNest "CableSizes" (81 : Nat) "CableSizes$Sizes" "count" "I" "CableSizes") ∈ tables_1 := List.mem_of_getElem? (i := 62) (by decide +kernel)
theorem mn_64 : (Jvm.Cond.fieldLinkNest "CableSizes$Sizing" (66 : Nat) "CableSizes$Sizes" "areas" "[I" "CableSizes") ∈ tables_1 := List.mem_of_getElem? (i := 64) (by decide +kernel)
theorem mn_66 : (Jvm.Cond.fieldLinkNest "CableSizes$Sizing" (97 : Nat) "CableSizes$Sizes" "ratings" "[I" "CableSizes") ∈ tables_1 := List.mem_of_getElem? (i := 66) (by decide +kernel)
theorem mn_68 : (Jvm.Cond.fieldLinkNest "CableSizes$Sizing" (100 : Nat) "CableSizes$Sizes" "ohms" "[I" "CableSizes") ∈ tables_1 := List.mem_of_getElem? (i := 68) (by decide +kernel)
theorem m_70 : (Jvm.Cond.arrayClass Jvm.ClassFile.FieldType.int) ∈ bw := List.mem_filter.mpr ⟨List.mem_of_getElem? (i := 70) (by decide +kernel), by decide +kernel⟩
theorem m_71 : (Jvm.Cond.classLink "CableSizes" (16 : Nat) "CableSizes$Sizes") ∈ bw := List.mem_filter.mpr ⟨List.mem_of_getElem? (i := 71) (by decide +kernel), by decide +kernel⟩
theorem m_72 : (Jvm.Cond.instantiable "CableSizes$Sizes" (4 : Nat)) ∈ bw := List.mem_filter.mpr ⟨List.mem_of_getElem? (i := 72) (by decide +kernel), by decide +kernel⟩
theorem m_73 : (Jvm.Cond.methodLink "CableSizes" (18 : Nat) ({ cls := "CableSizes$Sizes", name := "<init>", desc := "()V" } : Jvm.MethodName)) ∈ bw := List.mem_filter.mpr ⟨List.mem_of_getElem? (i := 73) (by decide +kernel), by decide +kernel⟩
theorem m_74 : (Jvm.Cond.instanceMethod ({ cls := "CableSizes$Sizes", name := "<init>", desc := "()V" } : Jvm.MethodName)) ∈ bw := List.mem_filter.mpr ⟨List.mem_of_getElem? (i := 74) (by decide +kernel), by decide +kernel⟩
theorem m_75 : (Jvm.Cond.code ({ cls := "CableSizes$Sizes", name := "<init>", desc := "()V" } : Jvm.MethodName) prog_3_method_1_code (1 : Nat) (Option.none : Option Jvm.ClassFile.FieldType)) ∈ bw := List.mem_filter.mpr ⟨List.mem_of_getElem? (i := 75) (by decide +kernel), by decide +kernel⟩
theorem m_76 : (Jvm.Cond.methodLink "CableSizes$Sizes" (3 : Nat) ({ cls := "java/lang/Object", name := "<init>", desc := "()V" } : Jvm.MethodName)) ∈ bw := List.mem_filter.mpr ⟨List.mem_of_getElem? (i := 76) (by decide +kernel), by decide +kernel⟩
theorem m_77 : (Jvm.Cond.fieldLink "CableSizes$Sizes" (9 : Nat) "CableSizes$Sizes" "count" "I") ∈ bw := List.mem_filter.mpr ⟨List.mem_of_getElem? (i := 77) (by decide +kernel), by decide +kernel⟩
theorem m_80 : (Jvm.Cond.fieldLink "CableSizes$Sizes" (15 : Nat) "CableSizes$Sizes" "areas" "[I") ∈ bw := List.mem_filter.mpr ⟨List.mem_of_getElem? (i := 80) (by decide +kernel), by decide +kernel⟩
theorem m_82 : (Jvm.Cond.fieldLink "CableSizes$Sizes" (19 : Nat) "CableSizes$Sizes" "ratings" "[I") ∈ bw := List.mem_filter.mpr ⟨List.mem_of_getElem? (i := 82) (by decide +kernel), by decide +kernel⟩
theorem m_84 : (Jvm.Cond.fieldLink "CableSizes$Sizes" (22 : Nat) "CableSizes$Sizes" "ohms" "[I") ∈ bw := List.mem_filter.mpr ⟨List.mem_of_getElem? (i := 84) (by decide +kernel), by decide +kernel⟩
theorem mn_87 : (Jvm.Cond.fieldLinkNest "CableSizes$Sizing" (36 : Nat) "CableSizes$Cables" "count" "I" "CableSizes") ∈ tables_1 := List.mem_of_getElem? (i := 87) (by decide +kernel)
theorem mn_88 : (Jvm.Cond.fieldLinkNest "CableSizes" (76 : Nat) "CableSizes$Cables" "count" "I" "CableSizes") ∈ tables_1 := List.mem_of_getElem? (i := 88) (by decide +kernel)
theorem mn_92 : (Jvm.Cond.fieldLinkNest "CableSizes" (99 : Nat) "CableSizes$Cables" "currents" "[I" "CableSizes") ∈ tables_1 := List.mem_of_getElem? (i := 92) (by decide +kernel)
theorem mn_93 : (Jvm.Cond.fieldLinkNest "CableSizes$Sizing" (82 : Nat) "CableSizes$Cables" "currents" "[I" "CableSizes") ∈ tables_1 := List.mem_of_getElem? (i := 93) (by decide +kernel)
theorem m_95 : (Jvm.Cond.classLink "CableSizes" (23 : Nat) "CableSizes$Cables") ∈ bw := List.mem_filter.mpr ⟨List.mem_of_getElem? (i := 95) (by decide +kernel), by decide +kernel⟩
theorem mn_95 : (Jvm.Cond.fieldLinkNest "CableSizes$Sizing" (59 : Nat) "CableSizes$Cables" "wayCounts" "[I" "CableSizes") ∈ tables_1 := List.mem_of_getElem? (i := 95) (by decide +kernel)
theorem m_96 : (Jvm.Cond.instantiable "CableSizes$Cables" (7 : Nat)) ∈ bw := List.mem_filter.mpr ⟨List.mem_of_getElem? (i := 96) (by decide +kernel), by decide +kernel⟩
theorem mn_96 : (Jvm.Cond.fieldLinkNest "CableSizes" (119 : Nat) "CableSizes$Cables" "wayCounts" "[I" "CableSizes") ∈ tables_1 := List.mem_of_getElem? (i := 96) (by decide +kernel)
theorem m_97 : (Jvm.Cond.methodLink "CableSizes" (25 : Nat) ({ cls := "CableSizes$Cables", name := "<init>", desc := "()V" } : Jvm.MethodName)) ∈ bw := List.mem_filter.mpr ⟨List.mem_of_getElem? (i := 97) (by decide +kernel), by decide +kernel⟩
theorem m_98 : (Jvm.Cond.instanceMethod ({ cls := "CableSizes$Cables", name := "<init>", desc := "()V" } : Jvm.MethodName)) ∈ bw := List.mem_filter.mpr ⟨List.mem_of_getElem? (i := 98) (by decide +kernel), by decide +kernel⟩
theorem mn_98 : (Jvm.Cond.fieldLinkNest "CableSizes$Sizing" (103 : Nat) "CableSizes$Cables" "wayLengths" "[I" "CableSizes") ∈ tables_1 := List.mem_of_getElem? (i := 98) (by decide +kernel)
theorem m_99 : (Jvm.Cond.code ({ cls := "CableSizes$Cables", name := "<init>", desc := "()V" } : Jvm.MethodName) prog_2_method_1_code (1 : Nat) (Option.none : Option Jvm.ClassFile.FieldType)) ∈ bw := List.mem_filter.mpr ⟨List.mem_of_getElem? (i := 99) (by decide +kernel), by decide +kernel⟩
theorem mn_99 : (Jvm.Cond.fieldLinkNest "CableSizes" (111 : Nat) "CableSizes$Cables" "wayLengths" "[I" "CableSizes") ∈ tables_1 := List.mem_of_getElem? (i := 99) (by decide +kernel)
theorem m_100 : (Jvm.Cond.methodLink "CableSizes$Cables" (3 : Nat) ({ cls := "java/lang/Object", name := "<init>", desc := "()V" } : Jvm.MethodName)) ∈ bw := List.mem_filter.mpr ⟨List.mem_of_getElem? (i := 100) (by decide +kernel), by decide +kernel⟩
theorem m_101 : (Jvm.Cond.classLink "CableSizes$Cables" (31 : Nat) "[[I") ∈ bw := List.mem_filter.mpr ⟨List.mem_of_getElem? (i := 101) (by decide +kernel), by decide +kernel⟩
theorem mn_101 : (Jvm.Cond.fieldLinkNest "CableSizes$Sizing" (62 : Nat) "CableSizes$Cables" "wayTrays" "[[I" "CableSizes") ∈ tables_1 := List.mem_of_getElem? (i := 101) (by decide +kernel)
theorem mn_102 : (Jvm.Cond.fieldLinkNest "CableSizes" (122 : Nat) "CableSizes$Cables" "wayTrays" "[[I" "CableSizes") ∈ tables_1 := List.mem_of_getElem? (i := 102) (by decide +kernel)
theorem m_103 : (Jvm.Cond.fieldLink "CableSizes$Cables" (9 : Nat) "CableSizes$Cables" "count" "I") ∈ bw := List.mem_filter.mpr ⟨List.mem_of_getElem? (i := 103) (by decide +kernel), by decide +kernel⟩
theorem m_106 : (Jvm.Cond.fieldLink "CableSizes$Cables" (15 : Nat) "CableSizes$Cables" "nodes" "[I") ∈ bw := List.mem_filter.mpr ⟨List.mem_of_getElem? (i := 106) (by decide +kernel), by decide +kernel⟩
theorem m_107 : (Jvm.Cond.fieldLink "CableSizes$Cables" (19 : Nat) "CableSizes$Cables" "others" "[I") ∈ bw := List.mem_filter.mpr ⟨List.mem_of_getElem? (i := 107) (by decide +kernel), by decide +kernel⟩
theorem m_108 : (Jvm.Cond.fieldLink "CableSizes$Cables" (22 : Nat) "CableSizes$Cables" "currents" "[I") ∈ bw := List.mem_filter.mpr ⟨List.mem_of_getElem? (i := 108) (by decide +kernel), by decide +kernel⟩
theorem m_111 : (Jvm.Cond.fieldLink "CableSizes$Cables" (25 : Nat) "CableSizes$Cables" "wayCounts" "[I") ∈ bw := List.mem_filter.mpr ⟨List.mem_of_getElem? (i := 111) (by decide +kernel), by decide +kernel⟩
theorem m_114 : (Jvm.Cond.fieldLink "CableSizes$Cables" (28 : Nat) "CableSizes$Cables" "wayLengths" "[I") ∈ bw := List.mem_filter.mpr ⟨List.mem_of_getElem? (i := 114) (by decide +kernel), by decide +kernel⟩
theorem m_117 : (Jvm.Cond.fieldLink "CableSizes$Cables" (33 : Nat) "CableSizes$Cables" "wayTrays" "[[I") ∈ bw := List.mem_filter.mpr ⟨List.mem_of_getElem? (i := 117) (by decide +kernel), by decide +kernel⟩
theorem mn_128 : (Jvm.Cond.fieldLinkNest "CableSizes" (129 : Nat) "CableSizes$Sizing" "picks" "[I" "CableSizes") ∈ tables_1 := List.mem_of_getElem? (i := 128) (by decide +kernel)
theorem mn_130 : (Jvm.Cond.fieldLinkNest "CableSizes" (139 : Nat) "CableSizes$Sizing" "fills" "[I" "CableSizes") ∈ tables_1 := List.mem_of_getElem? (i := 130) (by decide +kernel)
theorem m_135 : (Jvm.Cond.classLink "CableSizes" (30 : Nat) "CableSizes$Sizing") ∈ bw := List.mem_filter.mpr ⟨List.mem_of_getElem? (i := 135) (by decide +kernel), by decide +kernel⟩
theorem m_136 : (Jvm.Cond.instantiable "CableSizes$Sizing" (5 : Nat)) ∈ bw := List.mem_filter.mpr ⟨List.mem_of_getElem? (i := 136) (by decide +kernel), by decide +kernel⟩
theorem m_137 : (Jvm.Cond.methodLink "CableSizes" (32 : Nat) ({ cls := "CableSizes$Sizing", name := "<init>", desc := "(LCableSizes$Trays;LCableSizes$Sizes;LCableSizes$Cables;)V" } : Jvm.MethodName)) ∈ bw := List.mem_filter.mpr ⟨List.mem_of_getElem? (i := 137) (by decide +kernel), by decide +kernel⟩
theorem m_138 : (Jvm.Cond.instanceMethod ({ cls := "CableSizes$Sizing", name := "<init>", desc := "(LCableSizes$Trays;LCableSizes$Sizes;LCableSizes$Cables;)V" } : Jvm.MethodName)) ∈ bw := List.mem_filter.mpr ⟨List.mem_of_getElem? (i := 138) (by decide +kernel), by decide +kernel⟩
theorem m_139 : (Jvm.Cond.code ({ cls := "CableSizes$Sizing", name := "<init>", desc := "(LCableSizes$Trays;LCableSizes$Sizes;LCableSizes$Cables;)V" } : Jvm.MethodName) prog_4_method_1_code (4 : Nat) (Option.none : Option Jvm.ClassFile.FieldType)) ∈ bw := List.mem_filter.mpr ⟨List.mem_of_getElem? (i := 139) (by decide +kernel), by decide +kernel⟩
theorem m_140 : (Jvm.Cond.methodLink "CableSizes$Sizing" (3 : Nat) ({ cls := "java/lang/Object", name := "<init>", desc := "()V" } : Jvm.MethodName)) ∈ bw := List.mem_filter.mpr ⟨List.mem_of_getElem? (i := 140) (by decide +kernel), by decide +kernel⟩
theorem m_141 : (Jvm.Cond.fieldLink "CableSizes$Sizing" (9 : Nat) "CableSizes$Sizing" "trays" "LCableSizes$Trays;") ∈ bw := List.mem_filter.mpr ⟨List.mem_of_getElem? (i := 141) (by decide +kernel), by decide +kernel⟩
theorem m_142 : (Jvm.Cond.fieldLink "CableSizes$Sizing" (15 : Nat) "CableSizes$Sizing" "sizes" "LCableSizes$Sizes;") ∈ bw := List.mem_filter.mpr ⟨List.mem_of_getElem? (i := 142) (by decide +kernel), by decide +kernel⟩
theorem m_143 : (Jvm.Cond.fieldLink "CableSizes$Sizing" (19 : Nat) "CableSizes$Sizing" "cables" "LCableSizes$Cables;") ∈ bw := List.mem_filter.mpr ⟨List.mem_of_getElem? (i := 143) (by decide +kernel), by decide +kernel⟩
theorem m_144 : (Jvm.Cond.fieldLink "CableSizes$Sizing" (23 : Nat) "CableSizes$Sizing" "picks" "[I") ∈ bw := List.mem_filter.mpr ⟨List.mem_of_getElem? (i := 144) (by decide +kernel), by decide +kernel⟩
theorem m_146 : (Jvm.Cond.fieldLink "CableSizes$Sizing" (27 : Nat) "CableSizes$Sizing" "fills" "[I") ∈ bw := List.mem_filter.mpr ⟨List.mem_of_getElem? (i := 146) (by decide +kernel), by decide +kernel⟩
theorem m_159 : (Jvm.Cond.constant "CableSizes" (42 : Nat) (100000 : Int32)) ∈ bw := List.mem_filter.mpr ⟨List.mem_of_getElem? (i := 159) (by decide +kernel), by decide +kernel⟩
theorem m_160 : (Jvm.Cond.fieldLink "CableSizes" (12 : Nat) "CableSizes" "trays" "LCableSizes$Trays;") ∈ bw := List.mem_filter.mpr ⟨List.mem_of_getElem? (i := 160) (by decide +kernel), by decide +kernel⟩
theorem m_161 : (Jvm.Cond.fieldLink "CableSizes" (19 : Nat) "CableSizes" "sizes" "LCableSizes$Sizes;") ∈ bw := List.mem_filter.mpr ⟨List.mem_of_getElem? (i := 161) (by decide +kernel), by decide +kernel⟩
theorem m_162 : (Jvm.Cond.fieldLink "CableSizes" (26 : Nat) "CableSizes" "cables" "LCableSizes$Cables;") ∈ bw := List.mem_filter.mpr ⟨List.mem_of_getElem? (i := 162) (by decide +kernel), by decide +kernel⟩
theorem m_163 : (Jvm.Cond.fieldLink "CableSizes" (35 : Nat) "CableSizes" "least" "LCableSizes$Sizing;") ∈ bw := List.mem_filter.mpr ⟨List.mem_of_getElem? (i := 163) (by decide +kernel), by decide +kernel⟩
theorem m_164 : (Jvm.Cond.fieldLink "CableSizes" (39 : Nat) "CableSizes" "trial" "LCableSizes$Sizing;") ∈ bw := List.mem_filter.mpr ⟨List.mem_of_getElem? (i := 164) (by decide +kernel), by decide +kernel⟩
theorem m_165 : (Jvm.Cond.fieldLink "CableSizes" (43 : Nat) "CableSizes" "dropLimit" "I") ∈ bw := List.mem_filter.mpr ⟨List.mem_of_getElem? (i := 165) (by decide +kernel), by decide +kernel⟩
theorem m_166 : (Jvm.Cond.fieldLink "CableSizes" (47 : Nat) "CableSizes" "leastIsKnown" "Z") ∈ bw := List.mem_filter.mpr ⟨List.mem_of_getElem? (i := 166) (by decide +kernel), by decide +kernel⟩
theorem m_167 : (Jvm.Cond.fieldLink "CableSizes" (51 : Nat) "CableSizes" "leastExists" "Z") ∈ bw := List.mem_filter.mpr ⟨List.mem_of_getElem? (i := 167) (by decide +kernel), by decide +kernel⟩
theorem m_185 : (Jvm.Cond.methodLink "CableSizesLaw" (91 : Nat) ({ cls := "CableSizes", name := "settled", desc := "()Z" } : Jvm.MethodName)) ∈ bw := List.mem_filter.mpr ⟨List.mem_of_getElem? (i := 185) (by decide +kernel), by decide +kernel⟩
theorem m_186 : (Jvm.Cond.instanceMethod ({ cls := "CableSizes", name := "settled", desc := "()Z" } : Jvm.MethodName)) ∈ bw := List.mem_filter.mpr ⟨List.mem_of_getElem? (i := 186) (by decide +kernel), by decide +kernel⟩
theorem m_187 : (Jvm.Cond.selects "CableSizes" ({ cls := "CableSizes", name := "settled", desc := "()Z" } : Jvm.MethodName) ({ cls := "CableSizes", name := "settled", desc := "()Z" } : Jvm.MethodName)) ∈ bw := List.mem_filter.mpr ⟨List.mem_of_getElem? (i := 187) (by decide +kernel), by decide +kernel⟩
theorem m_188 : (Jvm.Cond.code ({ cls := "CableSizes", name := "settled", desc := "()Z" } : Jvm.MethodName) prog_1_method_10_code (1 : Nat) (Option.some Jvm.ClassFile.FieldType.boolean)) ∈ bw := List.mem_filter.mpr ⟨List.mem_of_getElem? (i := 188) (by decide +kernel), by decide +kernel⟩
theorem m_189 : (Jvm.Cond.methodLink "CableSizes" (126 : Nat) ({ cls := "CableSizes", name := "findLeast", desc := "()V" } : Jvm.MethodName)) ∈ bw := List.mem_filter.mpr ⟨List.mem_of_getElem? (i := 189) (by decide +kernel), by decide +kernel⟩
theorem m_191 : (Jvm.Cond.instanceMethod ({ cls := "CableSizes", name := "findLeast", desc := "()V" } : Jvm.MethodName)) ∈ bw := List.mem_filter.mpr ⟨List.mem_of_getElem? (i := 191) (by decide +kernel), by decide +kernel⟩
theorem m_192 : (Jvm.Cond.code ({ cls := "CableSizes", name := "findLeast", desc := "()V" } : Jvm.MethodName) prog_1_method_16_code (1 : Nat) (Option.none : Option Jvm.ClassFile.FieldType)) ∈ bw := List.mem_filter.mpr ⟨List.mem_of_getElem? (i := 192) (by decide +kernel), by decide +kernel⟩
theorem m_193 : (Jvm.Cond.methodLink "CableSizes" (164 : Nat) ({ cls := "CableSizes$Sizing", name := "climb", desc := "(I)Z" } : Jvm.MethodName)) ∈ bw := List.mem_filter.mpr ⟨List.mem_of_getElem? (i := 193) (by decide +kernel), by decide +kernel⟩
theorem m_194 : (Jvm.Cond.instanceMethod ({ cls := "CableSizes$Sizing", name := "climb", desc := "(I)Z" } : Jvm.MethodName)) ∈ bw := List.mem_filter.mpr ⟨List.mem_of_getElem? (i := 194) (by decide +kernel), by decide +kernel⟩
theorem m_195 : (Jvm.Cond.selects "CableSizes$Sizing" ({ cls := "CableSizes$Sizing", name := "climb", desc := "(I)Z" } : Jvm.MethodName) ({ cls := "CableSizes$Sizing", name := "climb", desc := "(I)Z" } : Jvm.MethodName)) ∈ bw := List.mem_filter.mpr ⟨List.mem_of_getElem? (i := 195) (by decide +kernel), by decide +kernel⟩
theorem m_196 : (Jvm.Cond.code ({ cls := "CableSizes$Sizing", name := "climb", desc := "(I)Z" } : Jvm.MethodName) prog_4_method_2_code (3 : Nat) (Option.some Jvm.ClassFile.FieldType.boolean)) ∈ bw := List.mem_filter.mpr ⟨List.mem_of_getElem? (i := 196) (by decide +kernel), by decide +kernel⟩
theorem m_197 : (Jvm.Cond.methodLink "CableSizes$Sizing" (30 : Nat) ({ cls := "java/util/Arrays", name := "fill", desc := "([II)V" } : Jvm.MethodName)) ∈ bw := List.mem_filter.mpr ⟨List.mem_of_getElem? (i := 197) (by decide +kernel), by decide +kernel⟩
theorem m_198 : (Jvm.Cond.static ({ cls := "java/util/Arrays", name := "fill", desc := "([II)V" } : Jvm.MethodName)) ∈ bw := List.mem_filter.mpr ⟨List.mem_of_getElem? (i := 198) (by decide +kernel), by decide +kernel⟩
theorem m_199 : (Jvm.Cond.code ({ cls := "java/util/Arrays", name := "fill", desc := "([II)V" } : Jvm.MethodName) prog_15_method_103_code (4 : Nat) (Option.none : Option Jvm.ClassFile.FieldType)) ∈ bw := List.mem_filter.mpr ⟨List.mem_of_getElem? (i := 199) (by decide +kernel), by decide +kernel⟩
theorem m_200 : (Jvm.Cond.methodLink "CableSizes$Sizing" (45 : Nat) ({ cls := "CableSizes$Sizing", name := "fillTrays", desc := "()V" } : Jvm.MethodName)) ∈ bw := List.mem_filter.mpr ⟨List.mem_of_getElem? (i := 200) (by decide +kernel), by decide +kernel⟩
theorem m_201 : (Jvm.Cond.instanceMethod ({ cls := "CableSizes$Sizing", name := "fillTrays", desc := "()V" } : Jvm.MethodName)) ∈ bw := List.mem_filter.mpr ⟨List.mem_of_getElem? (i := 201) (by decide +kernel), by decide +kernel⟩
theorem m_202 : (Jvm.Cond.selects "CableSizes$Sizing" ({ cls := "CableSizes$Sizing", name := "fillTrays", desc := "()V" } : Jvm.MethodName) ({ cls := "CableSizes$Sizing", name := "fillTrays", desc := "()V" } : Jvm.MethodName)) ∈ bw := List.mem_filter.mpr ⟨List.mem_of_getElem? (i := 202) (by decide +kernel), by decide +kernel⟩
theorem m_203 : (Jvm.Cond.code ({ cls := "CableSizes$Sizing", name := "fillTrays", desc := "()V" } : Jvm.MethodName) prog_4_method_4_code (3 : Nat) (Option.none : Option Jvm.ClassFile.FieldType)) ∈ bw := List.mem_filter.mpr ⟨List.mem_of_getElem? (i := 203) (by decide +kernel), by decide +kernel⟩
theorem m_204 : (Jvm.Cond.methodLink "CableSizes$Sizing" (48 : Nat) ({ cls := "CableSizes$Sizing", name := "allAreRight", desc := "(I)Z" } : Jvm.MethodName)) ∈ bw := List.mem_filter.mpr ⟨List.mem_of_getElem? (i := 204) (by decide +kernel), by decide +kernel⟩
theorem m_205 : (Jvm.Cond.instanceMethod ({ cls := "CableSizes$Sizing", name := "allAreRight", desc := "(I)Z" } : Jvm.MethodName)) ∈ bw := List.mem_filter.mpr ⟨List.mem_of_getElem? (i := 205) (by decide +kernel), by decide +kernel⟩
theorem m_206 : (Jvm.Cond.selects "CableSizes$Sizing" ({ cls := "CableSizes$Sizing", name := "allAreRight", desc := "(I)Z" } : Jvm.MethodName) ({ cls := "CableSizes$Sizing", name := "allAreRight", desc := "(I)Z" } : Jvm.MethodName)) ∈ bw := List.mem_filter.mpr ⟨List.mem_of_getElem? (i := 206) (by decide +kernel), by decide +kernel⟩
theorem m_207 : (Jvm.Cond.code ({ cls := "CableSizes$Sizing", name := "allAreRight", desc := "(I)Z" } : Jvm.MethodName) prog_4_method_5_code (3 : Nat) (Option.some Jvm.ClassFile.FieldType.boolean)) ∈ bw := List.mem_filter.mpr ⟨List.mem_of_getElem? (i := 207) (by decide +kernel), by decide +kernel⟩
theorem m_208 : (Jvm.Cond.methodLink "CableSizes$Sizing" (55 : Nat) ({ cls := "CableSizes$Sizing", name := "isRightAt", desc := "(II)Z" } : Jvm.MethodName)) ∈ bw := List.mem_filter.mpr ⟨List.mem_of_getElem? (i := 208) (by decide +kernel), by decide +kernel⟩
theorem m_210 : (Jvm.Cond.instanceMethod ({ cls := "CableSizes$Sizing", name := "isRightAt", desc := "(II)Z" } : Jvm.MethodName)) ∈ bw := List.mem_filter.mpr ⟨List.mem_of_getElem? (i := 210) (by decide +kernel), by decide +kernel⟩
theorem m_211 : (Jvm.Cond.code ({ cls := "CableSizes$Sizing", name := "isRightAt", desc := "(II)Z" } : Jvm.MethodName) prog_4_method_6_code (3 : Nat) (Option.some Jvm.ClassFile.FieldType.boolean)) ∈ bw := List.mem_filter.mpr ⟨List.mem_of_getElem? (i := 211) (by decide +kernel), by decide +kernel⟩
theorem m_212 : (Jvm.Cond.methodLink "CableSizes$Sizing" (75 : Nat) ({ cls := "CableSizes$Cables", name := "isLoose", desc := "(I)Z" } : Jvm.MethodName)) ∈ bw := List.mem_filter.mpr ⟨List.mem_of_getElem? (i := 212) (by decide +kernel), by decide +kernel⟩
theorem m_213 : (Jvm.Cond.instanceMethod ({ cls := "CableSizes$Cables", name := "isLoose", desc := "(I)Z" } : Jvm.MethodName)) ∈ bw := List.mem_filter.mpr ⟨List.mem_of_getElem? (i := 213) (by decide +kernel), by decide +kernel⟩
theorem m_214 : (Jvm.Cond.selects "CableSizes$Cables" ({ cls := "CableSizes$Cables", name := "isLoose", desc := "(I)Z" } : Jvm.MethodName) ({ cls := "CableSizes$Cables", name := "isLoose", desc := "(I)Z" } : Jvm.MethodName)) ∈ bw := List.mem_filter.mpr ⟨List.mem_of_getElem? (i := 214) (by decide +kernel), by decide +kernel⟩
theorem m_215 : (Jvm.Cond.code ({ cls := "CableSizes$Cables", name := "isLoose", desc := "(I)Z" } : Jvm.MethodName) prog_2_method_3_code (2 : Nat) (Option.some Jvm.ClassFile.FieldType.boolean)) ∈ bw := List.mem_filter.mpr ⟨List.mem_of_getElem? (i := 215) (by decide +kernel), by decide +kernel⟩
theorem m_216 : (Jvm.Cond.methodLink "CableSizes$Sizing" (78 : Nat) ({ cls := "CableSizes$Sizing", name := "carriedBy", desc := "(I)I" } : Jvm.MethodName)) ∈ bw := List.mem_filter.mpr ⟨List.mem_of_getElem? (i := 216) (by decide +kernel), by decide +kernel⟩
theorem m_217 : (Jvm.Cond.instanceMethod ({ cls := "CableSizes$Sizing", name := "carriedBy", desc := "(I)I" } : Jvm.MethodName)) ∈ bw := List.mem_filter.mpr ⟨List.mem_of_getElem? (i := 217) (by decide +kernel), by decide +kernel⟩
theorem m_218 : (Jvm.Cond.selects "CableSizes$Sizing" ({ cls := "CableSizes$Sizing", name := "carriedBy", desc := "(I)I" } : Jvm.MethodName) ({ cls := "CableSizes$Sizing", name := "carriedBy", desc := "(I)I" } : Jvm.MethodName)) ∈ bw := List.mem_filter.mpr ⟨List.mem_of_getElem? (i := 218) (by decide +kernel), by decide +kernel⟩
theorem m_219 : (Jvm.Cond.code ({ cls := "CableSizes$Sizing", name := "carriedBy", desc := "(I)I" } : Jvm.MethodName) prog_4_method_7_code (4 : Nat) (Option.some Jvm.ClassFile.FieldType.int)) ∈ bw := List.mem_filter.mpr ⟨List.mem_of_getElem? (i := 219) (by decide +kernel), by decide +kernel⟩
theorem m_220 : (Jvm.Cond.methodLink "CableSizes$Sizing" (88 : Nat) ({ cls := "CableSizes$Sizing", name := "factorOf", desc := "(I)I" } : Jvm.MethodName)) ∈ bw := List.mem_filter.mpr ⟨List.mem_of_getElem? (i := 220) (by decide +kernel), by decide +kernel⟩
theorem m_221 : (Jvm.Cond.instanceMethod ({ cls := "CableSizes$Sizing", name := "factorOf", desc := "(I)I" } : Jvm.MethodName)) ∈ bw := List.mem_filter.mpr ⟨List.mem_of_getElem? (i := 221) (by decide +kernel), by decide +kernel⟩
theorem m_222 : (Jvm.Cond.selects "CableSizes$Sizing" ({ cls := "CableSizes$Sizing", name := "factorOf", desc := "(I)I" } : Jvm.MethodName) ({ cls := "CableSizes$Sizing", name := "factorOf", desc := "(I)I" } : Jvm.MethodName)) ∈ bw := List.mem_filter.mpr ⟨List.mem_of_getElem? (i := 222) (by decide +kernel), by decide +kernel⟩
theorem m_223 : (Jvm.Cond.code ({ cls := "CableSizes$Sizing", name := "factorOf", desc := "(I)I" } : Jvm.MethodName) prog_4_method_9_code (3 : Nat) (Option.some Jvm.ClassFile.FieldType.int)) ∈ bw := List.mem_filter.mpr ⟨List.mem_of_getElem? (i := 223) (by decide +kernel), by decide +kernel⟩
theorem m_224 : (Jvm.Cond.methodLink "CableSizes$Sizing" (91 : Nat) ({ cls := "java/lang/Math", name := "min", desc := "(II)I" } : Jvm.MethodName)) ∈ bw := List.mem_filter.mpr ⟨List.mem_of_getElem? (i := 224) (by decide +kernel), by decide +kernel⟩
theorem m_225 : (Jvm.Cond.static ({ cls := "java/lang/Math", name := "min", desc := "(II)I" } : Jvm.MethodName)) ∈ bw := List.mem_filter.mpr ⟨List.mem_of_getElem? (i := 225) (by decide +kernel), by decide +kernel⟩
theorem m_226 : (Jvm.Cond.code ({ cls := "java/lang/Math", name := "min", desc := "(II)I" } : Jvm.MethodName) prog_11_method_69_code (2 : Nat) (Option.some Jvm.ClassFile.FieldType.int)) ∈ bw := List.mem_filter.mpr ⟨List.mem_of_getElem? (i := 226) (by decide +kernel), by decide +kernel⟩
theorem m_227 : (Jvm.Cond.methodLink "CableSizes$Sizing" (85 : Nat) ({ cls := "CableSizes$Sizing", name := "dropOf", desc := "(I)I" } : Jvm.MethodName)) ∈ bw := List.mem_filter.mpr ⟨List.mem_of_getElem? (i := 227) (by decide +kernel), by decide +kernel⟩
theorem m_228 : (Jvm.Cond.instanceMethod ({ cls := "CableSizes$Sizing", name := "dropOf", desc := "(I)I" } : Jvm.MethodName)) ∈ bw := List.mem_filter.mpr ⟨List.mem_of_getElem? (i := 228) (by decide +kernel), by decide +kernel⟩
theorem m_229 : (Jvm.Cond.selects "CableSizes$Sizing" ({ cls := "CableSizes$Sizing", name := "dropOf", desc := "(I)I" } : Jvm.MethodName) ({ cls := "CableSizes$Sizing", name := "dropOf", desc := "(I)I" } : Jvm.MethodName)) ∈ bw := List.mem_filter.mpr ⟨List.mem_of_getElem? (i := 229) (by decide +kernel), by decide +kernel⟩
theorem m_230 : (Jvm.Cond.code ({ cls := "CableSizes$Sizing", name := "dropOf", desc := "(I)I" } : Jvm.MethodName) prog_4_method_8_code (2 : Nat) (Option.some Jvm.ClassFile.FieldType.int)) ∈ bw := List.mem_filter.mpr ⟨List.mem_of_getElem? (i := 230) (by decide +kernel), by decide +kernel⟩
theorem m_231 : (Jvm.Cond.methodLink "CableSizes$Sizing" (52 : Nat) ({ cls := "CableSizes$Sizing", name := "raiseWrongOnes", desc := "(I)Z" } : Jvm.MethodName)) ∈ bw := List.mem_filter.mpr ⟨List.mem_of_getElem? (i := 231) (by decide +kernel), by decide +kernel⟩
theorem m_233 : (Jvm.Cond.instanceMethod ({ cls := "CableSizes$Sizing", name := "raiseWrongOnes", desc := "(I)Z" } : Jvm.MethodName)) ∈ bw := List.mem_filter.mpr ⟨List.mem_of_getElem? (i := 233) (by decide +kernel), by decide +kernel⟩
theorem m_234 : (Jvm.Cond.code ({ cls := "CableSizes$Sizing", name := "raiseWrongOnes", desc := "(I)Z" } : Jvm.MethodName) prog_4_method_3_code (3 : Nat) (Option.some Jvm.ClassFile.FieldType.boolean)) ∈ bw := List.mem_filter.mpr ⟨List.mem_of_getElem? (i := 234) (by decide +kernel), by decide +kernel⟩
theorem m_235 : (Jvm.Cond.methodLink "CableSizesLaw" (105 : Nat) ({ cls := "CableSizes", name := "copper", desc := "()I" } : Jvm.MethodName)) ∈ bw := List.mem_filter.mpr ⟨List.mem_of_getElem? (i := 235) (by decide +kernel), by decide +kernel⟩
theorem m_236 : (Jvm.Cond.instanceMethod ({ cls := "CableSizes", name := "copper", desc := "()I" } : Jvm.MethodName)) ∈ bw := List.mem_filter.mpr ⟨List.mem_of_getElem? (i := 236) (by decide +kernel), by decide +kernel⟩
theorem m_237 : (Jvm.Cond.selects "CableSizes" ({ cls := "CableSizes", name := "copper", desc := "()I" } : Jvm.MethodName) ({ cls := "CableSizes", name := "copper", desc := "()I" } : Jvm.MethodName)) ∈ bw := List.mem_filter.mpr ⟨List.mem_of_getElem? (i := 237) (by decide +kernel), by decide +kernel⟩
theorem m_238 : (Jvm.Cond.code ({ cls := "CableSizes", name := "copper", desc := "()I" } : Jvm.MethodName) prog_1_method_14_code (1 : Nat) (Option.some Jvm.ClassFile.FieldType.int)) ∈ bw := List.mem_filter.mpr ⟨List.mem_of_getElem? (i := 238) (by decide +kernel), by decide +kernel⟩
theorem m_239 : (Jvm.Cond.methodLink "CableSizes" (148 : Nat) ({ cls := "CableSizes$Sizing", name := "sumOfCopper", desc := "()I" } : Jvm.MethodName)) ∈ bw := List.mem_filter.mpr ⟨List.mem_of_getElem? (i := 239) (by decide +kernel), by decide +kernel⟩
theorem m_240 : (Jvm.Cond.instanceMethod ({ cls := "CableSizes$Sizing", name := "sumOfCopper", desc := "()I" } : Jvm.MethodName)) ∈ bw := List.mem_filter.mpr ⟨List.mem_of_getElem? (i := 240) (by decide +kernel), by decide +kernel⟩
theorem m_241 : (Jvm.Cond.selects "CableSizes$Sizing" ({ cls := "CableSizes$Sizing", name := "sumOfCopper", desc := "()I" } : Jvm.MethodName) ({ cls := "CableSizes$Sizing", name := "sumOfCopper", desc := "()I" } : Jvm.MethodName)) ∈ bw := List.mem_filter.mpr ⟨List.mem_of_getElem? (i := 241) (by decide +kernel), by decide +kernel⟩
theorem m_242 : (Jvm.Cond.code ({ cls := "CableSizes$Sizing", name := "sumOfCopper", desc := "()I" } : Jvm.MethodName) prog_4_method_10_code (3 : Nat) (Option.some Jvm.ClassFile.FieldType.int)) ∈ bw := List.mem_filter.mpr ⟨List.mem_of_getElem? (i := 242) (by decide +kernel), by decide +kernel⟩
theorem m_243 : (Jvm.Cond.methodLink "CableSizesLaw" (57 : Nat) ({ cls := "CableSizesLaw", name := "tray", desc := "(LCableSizes;IIII[J)I" } : Jvm.MethodName)) ∈ bw := List.mem_filter.mpr ⟨List.mem_of_getElem? (i := 243) (by decide +kernel), by decide +kernel⟩
theorem m_244 : (Jvm.Cond.static ({ cls := "CableSizesLaw", name := "tray", desc := "(LCableSizes;IIII[J)I" } : Jvm.MethodName)) ∈ bw := List.mem_filter.mpr ⟨List.mem_of_getElem? (i := 244) (by decide +kernel), by decide +kernel⟩
theorem m_245 : (Jvm.Cond.codeWith ({ cls := "CableSizesLaw", name := "tray", desc := "(LCableSizes;IIII[J)I" } : Jvm.MethodName) method_3_code (7 : Nat) (Option.some Jvm.ClassFile.FieldType.int) [((0 : Nat), (14 : Nat), (17 : Nat), (13 : Nat)), ((0 : Nat), (14 : Nat), (21 : Nat), (15 : Nat))]) ∈ bw := List.mem_filter.mpr ⟨List.mem_of_getElem? (i := 245) (by decide +kernel), by decide +kernel⟩
theorem m_246 : (Jvm.Cond.classLink "CableSizesLaw" (13 : Nat) "java/lang/IllegalArgumentException") ∈ bw := List.mem_filter.mpr ⟨List.mem_of_getElem? (i := 246) (by decide +kernel), by decide +kernel⟩
theorem m_247 : (Jvm.Cond.classLink "CableSizesLaw" (15 : Nat) "java/lang/IllegalStateException") ∈ bw := List.mem_filter.mpr ⟨List.mem_of_getElem? (i := 247) (by decide +kernel), by decide +kernel⟩
theorem m_248 : (Jvm.Cond.methodLink "CableSizesLaw" (7 : Nat) ({ cls := "CableSizes", name := "tray", desc := "(IIII)I" } : Jvm.MethodName)) ∈ bw := List.mem_filter.mpr ⟨List.mem_of_getElem? (i := 248) (by decide +kernel), by decide +kernel⟩
theorem m_249 : (Jvm.Cond.instanceMethod ({ cls := "CableSizes", name := "tray", desc := "(IIII)I" } : Jvm.MethodName)) ∈ bw := List.mem_filter.mpr ⟨List.mem_of_getElem? (i := 249) (by decide +kernel), by decide +kernel⟩
theorem m_250 : (Jvm.Cond.selects "CableSizes" ({ cls := "CableSizes", name := "tray", desc := "(IIII)I" } : Jvm.MethodName) ({ cls := "CableSizes", name := "tray", desc := "(IIII)I" } : Jvm.MethodName)) ∈ bw := List.mem_filter.mpr ⟨List.mem_of_getElem? (i := 250) (by decide +kernel), by decide +kernel⟩
theorem m_251 : (Jvm.Cond.code ({ cls := "CableSizes", name := "tray", desc := "(IIII)I" } : Jvm.MethodName) prog_1_method_2_code (7 : Nat) (Option.some Jvm.ClassFile.FieldType.int)) ∈ bw := List.mem_filter.mpr ⟨List.mem_of_getElem? (i := 251) (by decide +kernel), by decide +kernel⟩
theorem m_252 : (Jvm.Cond.methodLink "CableSizes" (54 : Nat) ({ cls := "CableSizes", name := "checkNodes", desc := "(II)V" } : Jvm.MethodName)) ∈ bw := List.mem_filter.mpr ⟨List.mem_of_getElem? (i := 252) (by decide +kernel), by decide +kernel⟩
theorem m_253 : (Jvm.Cond.static ({ cls := "CableSizes", name := "checkNodes", desc := "(II)V" } : Jvm.MethodName)) ∈ bw := List.mem_filter.mpr ⟨List.mem_of_getElem? (i := 253) (by decide +kernel), by decide +kernel⟩
theorem m_254 : (Jvm.Cond.code ({ cls := "CableSizes", name := "checkNodes", desc := "(II)V" } : Jvm.MethodName) prog_1_method_19_code (2 : Nat) (Option.none : Option Jvm.ClassFile.FieldType)) ∈ bw := List.mem_filter.mpr ⟨List.mem_of_getElem? (i := 254) (by decide +kernel), by decide +kernel⟩
theorem m_255 : (Jvm.Cond.methodLink "CableSizes" (58 : Nat) ({ cls := "CableSizes", name := "checkBounds", desc := "(III)V" } : Jvm.MethodName)) ∈ bw := List.mem_filter.mpr ⟨List.mem_of_getElem? (i := 255) (by decide +kernel), by decide +kernel⟩
theorem m_256 : (Jvm.Cond.static ({ cls := "CableSizes", name := "checkBounds", desc := "(III)V" } : Jvm.MethodName)) ∈ bw := List.mem_filter.mpr ⟨List.mem_of_getElem? (i := 256) (by decide +kernel), by decide +kernel⟩
theorem m_257 : (Jvm.Cond.code ({ cls := "CableSizes", name := "checkBounds", desc := "(III)V" } : Jvm.MethodName) prog_1_method_17_code (3 : Nat) (Option.none : Option Jvm.ClassFile.FieldType)) ∈ bw := List.mem_filter.mpr ⟨List.mem_of_getElem? (i := 257) (by decide +kernel), by decide +kernel⟩
theorem m_258 : (Jvm.Cond.classLink "CableSizes" (114 : Nat) "java/lang/IllegalArgumentException") ∈ bw := List.mem_filter.mpr ⟨List.mem_of_getElem? (i := 258) (by decide +kernel), by decide +kernel⟩
theorem m_259 : (Jvm.Cond.instantiable "java/lang/IllegalArgumentException" (6 : Nat)) ∈ bw := List.mem_filter.mpr ⟨List.mem_of_getElem? (i := 259) (by decide +kernel), by decide +kernel⟩
theorem m_281 : (Jvm.Cond.instanceMethod ({ cls := "java/lang/Throwable", name := "<init>", desc := "()V" } : Jvm.MethodName)) ∈ bw := List.mem_filter.mpr ⟨List.mem_of_getElem? (i := 281) (by decide +kernel), by decide +kernel⟩
theorem m_282 : (Jvm.Cond.code ({ cls := "java/lang/Throwable", name := "<init>", desc := "()V" } : Jvm.MethodName) prog_14_method_1_code (1 : Nat) (Option.none : Option Jvm.ClassFile.FieldType)) ∈ bw := List.mem_filter.mpr ⟨List.mem_of_getElem? (i := 282) (by decide +kernel), by decide +kernel⟩
theorem m_283 : (Jvm.Cond.methodLink "java/lang/Throwable" (1 : Nat) ({ cls := "java/lang/Object", name := "<init>", desc := "()V" } : Jvm.MethodName)) ∈ bw := List.mem_filter.mpr ⟨List.mem_of_getElem? (i := 283) (by decide +kernel), by decide +kernel⟩
theorem m_284 : (Jvm.Cond.fieldLink "java/lang/Throwable" (13 : Nat) "java/lang/Throwable" "UNASSIGNED_STACK" "[Ljava/lang/StackTraceElement;") ∈ bw := List.mem_filter.mpr ⟨List.mem_of_getElem? (i := 284) (by decide +kernel), by decide +kernel⟩
theorem m_286 : (Jvm.Cond.fieldLink "java/lang/Throwable" (20 : Nat) "java/lang/Throwable" "SUPPRESSED_SENTINEL" "Ljava/util/List;") ∈ bw := List.mem_filter.mpr ⟨List.mem_of_getElem? (i := 286) (by decide +kernel), by decide +kernel⟩
theorem m_288 : (Jvm.Cond.methodLink "java/lang/Throwable" (27 : Nat) ({ cls := "java/lang/Throwable", name := "fillInStackTrace", desc := "()Ljava/lang/Throwable;" } : Jvm.MethodName)) ∈ bw := List.mem_filter.mpr ⟨List.mem_of_getElem? (i := 288) (by decide +kernel), by decide +kernel⟩
theorem m_289 : (Jvm.Cond.instanceMethod ({ cls := "java/lang/Throwable", name := "fillInStackTrace", desc := "()Ljava/lang/Throwable;" } : Jvm.MethodName)) ∈ bw := List.mem_filter.mpr ⟨List.mem_of_getElem? (i := 289) (by decide +kernel), by decide +kernel⟩
theorem m_291 : (Jvm.Cond.selects "java/lang/IllegalStateException" ({ cls := "java/lang/Throwable", name := "fillInStackTrace", desc := "()Ljava/lang/Throwable;" } : Jvm.MethodName) ({ cls := "java/lang/Throwable", name := "fillInStackTrace", desc := "()Ljava/lang/Throwable;" } : Jvm.MethodName)) ∈ bw := List.mem_filter.mpr ⟨List.mem_of_getElem? (i := 291) (by decide +kernel), by decide +kernel⟩
theorem m_293 : (Jvm.Cond.methodLink "java/lang/Throwable" (202 : Nat) ({ cls := "java/lang/Throwable", name := "fillInStackTrace", desc := "(I)Ljava/lang/Throwable;" } : Jvm.MethodName)) ∈ bw := List.mem_filter.mpr ⟨List.mem_of_getElem? (i := 293) (by decide +kernel), by decide +kernel⟩
theorem m_295 : (Jvm.Cond.instanceMethod ({ cls := "java/lang/Throwable", name := "fillInStackTrace", desc := "(I)Ljava/lang/Throwable;" } : Jvm.MethodName)) ∈ bw := List.mem_filter.mpr ⟨List.mem_of_getElem? (i := 295) (by decide +kernel), by decide +kernel⟩
theorem m_296 : (Jvm.Cond.instantiable "java/lang/Throwable" (6 : Nat)) ∈ bw := List.mem_filter.mpr ⟨List.mem_of_getElem? (i := 296) (by decide +kernel), by decide +kernel⟩
theorem m_299 : (Jvm.Cond.methodLink "CableSizes" (118 : Nat) ({ cls := "java/lang/IllegalArgumentException", name := "<init>", desc := "(Ljava/lang/String;)V" } : Jvm.MethodName)) ∈ bw := List.mem_filter.mpr ⟨List.mem_of_getElem? (i := 299) (by decide +kernel), by decide +kernel⟩
theorem m_300 : (Jvm.Cond.instanceMethod ({ cls := "java/lang/IllegalArgumentException", name := "<init>", desc := "(Ljava/lang/String;)V" } : Jvm.MethodName)) ∈ bw := List.mem_filter.mpr ⟨List.mem_of_getElem? (i := 300) (by decide +kernel), by decide +kernel⟩
theorem m_301 : (Jvm.Cond.code ({ cls := "java/lang/IllegalArgumentException", name := "<init>", desc := "(Ljava/lang/String;)V" } : Jvm.MethodName) prog_9_method_2_code (2 : Nat) (Option.none : Option Jvm.ClassFile.FieldType)) ∈ bw := List.mem_filter.mpr ⟨List.mem_of_getElem? (i := 301) (by decide +kernel), by decide +kernel⟩
theorem m_302 : (Jvm.Cond.methodLink "java/lang/IllegalArgumentException" (7 : Nat) ({ cls := "java/lang/RuntimeException", name := "<init>", desc := "(Ljava/lang/String;)V" } : Jvm.MethodName)) ∈ bw := List.mem_filter.mpr ⟨List.mem_of_getElem? (i := 302) (by decide +kernel), by decide +kernel⟩
theorem m_303 : (Jvm.Cond.instanceMethod ({ cls := "java/lang/RuntimeException", name := "<init>", desc := "(Ljava/lang/String;)V" } : Jvm.MethodName)) ∈ bw := List.mem_filter.mpr ⟨List.mem_of_getElem? (i := 303) (by decide +kernel), by decide +kernel⟩
theorem m_304 : (Jvm.Cond.code ({ cls := "java/lang/RuntimeException", name := "<init>", desc := "(Ljava/lang/String;)V" } : Jvm.MethodName) prog_12_method_2_code (2 : Nat) (Option.none : Option Jvm.ClassFile.FieldType)) ∈ bw := List.mem_filter.mpr ⟨List.mem_of_getElem? (i := 304) (by decide +kernel), by decide +kernel⟩
theorem m_305 : (Jvm.Cond.methodLink "java/lang/RuntimeException" (7 : Nat) ({ cls := "java/lang/Exception", name := "<init>", desc := "(Ljava/lang/String;)V" } : Jvm.MethodName)) ∈ bw := List.mem_filter.mpr ⟨List.mem_of_getElem? (i := 305) (by decide +kernel), by decide +kernel⟩
theorem m_306 : (Jvm.Cond.instanceMethod ({ cls := "java/lang/Exception", name := "<init>", desc := "(Ljava/lang/String;)V" } : Jvm.MethodName)) ∈ bw := List.mem_filter.mpr ⟨List.mem_of_getElem? (i := 306) (by decide +kernel), by decide +kernel⟩
theorem m_307 : (Jvm.Cond.code ({ cls := "java/lang/Exception", name := "<init>", desc := "(Ljava/lang/String;)V" } : Jvm.MethodName) prog_8_method_2_code (2 : Nat) (Option.none : Option Jvm.ClassFile.FieldType)) ∈ bw := List.mem_filter.mpr ⟨List.mem_of_getElem? (i := 307) (by decide +kernel), by decide +kernel⟩
theorem m_308 : (Jvm.Cond.methodLink "java/lang/Exception" (7 : Nat) ({ cls := "java/lang/Throwable", name := "<init>", desc := "(Ljava/lang/String;)V" } : Jvm.MethodName)) ∈ bw := List.mem_filter.mpr ⟨List.mem_of_getElem? (i := 308) (by decide +kernel), by decide +kernel⟩
theorem m_309 : (Jvm.Cond.instanceMethod ({ cls := "java/lang/Throwable", name := "<init>", desc := "(Ljava/lang/String;)V" } : Jvm.MethodName)) ∈ bw := List.mem_filter.mpr ⟨List.mem_of_getElem? (i := 309) (by decide +kernel), by decide +kernel⟩
theorem m_310 : (Jvm.Cond.code ({ cls := "java/lang/Throwable", name := "<init>", desc := "(Ljava/lang/String;)V" } : Jvm.MethodName) prog_14_method_2_code (2 : Nat) (Option.none : Option Jvm.ClassFile.FieldType)) ∈ bw := List.mem_filter.mpr ⟨List.mem_of_getElem? (i := 310) (by decide +kernel), by decide +kernel⟩
theorem m_311 : (Jvm.Cond.fieldLink "java/lang/Throwable" (198 : Nat) "java/lang/Throwable" "backtrace" "Ljava/lang/Object;") ∈ bw := List.mem_filter.mpr ⟨List.mem_of_getElem? (i := 311) (by decide +kernel), by decide +kernel⟩
theorem m_312 : (Jvm.Cond.fieldLink "java/lang/Throwable" (31 : Nat) "java/lang/Throwable" "detailMessage" "Ljava/lang/String;") ∈ bw := List.mem_filter.mpr ⟨List.mem_of_getElem? (i := 312) (by decide +kernel), by decide +kernel⟩
theorem m_313 : (Jvm.Cond.fieldLink "java/lang/Throwable" (7 : Nat) "java/lang/Throwable" "cause" "Ljava/lang/Throwable;") ∈ bw := List.mem_filter.mpr ⟨List.mem_of_getElem? (i := 313) (by decide +kernel), by decide +kernel⟩
theorem m_314 : (Jvm.Cond.fieldLink "java/lang/Throwable" (17 : Nat) "java/lang/Throwable" "stackTrace" "[Ljava/lang/StackTraceElement;") ∈ bw := List.mem_filter.mpr ⟨List.mem_of_getElem? (i := 314) (by decide +kernel), by decide +kernel⟩
theorem m_315 : (Jvm.Cond.fieldLink "java/lang/Throwable" (24 : Nat) "java/lang/Throwable" "suppressedExceptions" "Ljava/util/List;") ∈ bw := List.mem_filter.mpr ⟨List.mem_of_getElem? (i := 315) (by decide +kernel), by decide +kernel⟩
theorem m_324 : (Jvm.Cond.arrayClass Jvm.ClassFile.FieldType.byte) ∈ bw := List.mem_filter.mpr ⟨List.mem_of_getElem? (i := 324) (by decide +kernel), by decide +kernel⟩
theorem m_326 : (Jvm.Cond.classLink "CableSizes" (65 : Nat) "java/lang/IllegalStateException") ∈ bw := List.mem_filter.mpr ⟨List.mem_of_getElem? (i := 326) (by decide +kernel), by decide +kernel⟩
theorem m_327 : (Jvm.Cond.instantiable "java/lang/IllegalStateException" (6 : Nat)) ∈ bw := List.mem_filter.mpr ⟨List.mem_of_getElem? (i := 327) (by decide +kernel), by decide +kernel⟩
theorem m_336 : (Jvm.Cond.methodLink "CableSizes" (69 : Nat) ({ cls := "java/lang/IllegalStateException", name := "<init>", desc := "(Ljava/lang/String;)V" } : Jvm.MethodName)) ∈ bw := List.mem_filter.mpr ⟨List.mem_of_getElem? (i := 336) (by decide +kernel), by decide +kernel⟩
theorem m_337 : (Jvm.Cond.instanceMethod ({ cls := "java/lang/IllegalStateException", name := "<init>", desc := "(Ljava/lang/String;)V" } : Jvm.MethodName)) ∈ bw := List.mem_filter.mpr ⟨List.mem_of_getElem? (i := 337) (by decide +kernel), by decide +kernel⟩
theorem m_338 : (Jvm.Cond.code ({ cls := "java/lang/IllegalStateException", name := "<init>", desc := "(Ljava/lang/String;)V" } : Jvm.MethodName) prog_10_method_2_code (2 : Nat) (Option.none : Option Jvm.ClassFile.FieldType)) ∈ bw := List.mem_filter.mpr ⟨List.mem_of_getElem? (i := 338) (by decide +kernel), by decide +kernel⟩
theorem m_339 : (Jvm.Cond.methodLink "java/lang/IllegalStateException" (7 : Nat) ({ cls := "java/lang/RuntimeException", name := "<init>", desc := "(Ljava/lang/String;)V" } : Jvm.MethodName)) ∈ bw := List.mem_filter.mpr ⟨List.mem_of_getElem? (i := 339) (by decide +kernel), by decide +kernel⟩
theorem m_342 : (Jvm.Cond.methodLink "CableSizes" (72 : Nat) ({ cls := "CableSizes$Trays", name := "add", desc := "(IIII)I" } : Jvm.MethodName)) ∈ bw := List.mem_filter.mpr ⟨List.mem_of_getElem? (i := 342) (by decide +kernel), by decide +kernel⟩
theorem m_343 : (Jvm.Cond.instanceMethod ({ cls := "CableSizes$Trays", name := "add", desc := "(IIII)I" } : Jvm.MethodName)) ∈ bw := List.mem_filter.mpr ⟨List.mem_of_getElem? (i := 343) (by decide +kernel), by decide +kernel⟩
theorem m_344 : (Jvm.Cond.selects "CableSizes$Trays" ({ cls := "CableSizes$Trays", name := "add", desc := "(IIII)I" } : Jvm.MethodName) ({ cls := "CableSizes$Trays", name := "add", desc := "(IIII)I" } : Jvm.MethodName)) ∈ bw := List.mem_filter.mpr ⟨List.mem_of_getElem? (i := 344) (by decide +kernel), by decide +kernel⟩
theorem m_345 : (Jvm.Cond.code ({ cls := "CableSizes$Trays", name := "add", desc := "(IIII)I" } : Jvm.MethodName) prog_5_method_2_code (6 : Nat) (Option.some Jvm.ClassFile.FieldType.int)) ∈ bw := List.mem_filter.mpr ⟨List.mem_of_getElem? (i := 345) (by decide +kernel), by decide +kernel⟩
theorem m_346 : (Jvm.Cond.methodLink "CableSizes" (77 : Nat) ({ cls := "CableSizes$Cables", name := "findWay", desc := "(ILCableSizes$Trays;)V" } : Jvm.MethodName)) ∈ bw := List.mem_filter.mpr ⟨List.mem_of_getElem? (i := 346) (by decide +kernel), by decide +kernel⟩
theorem m_347 : (Jvm.Cond.instanceMethod ({ cls := "CableSizes$Cables", name := "findWay", desc := "(ILCableSizes$Trays;)V" } : Jvm.MethodName)) ∈ bw := List.mem_filter.mpr ⟨List.mem_of_getElem? (i := 347) (by decide +kernel), by decide +kernel⟩
theorem m_348 : (Jvm.Cond.selects "CableSizes$Cables" ({ cls := "CableSizes$Cables", name := "findWay", desc := "(ILCableSizes$Trays;)V" } : Jvm.MethodName) ({ cls := "CableSizes$Cables", name := "findWay", desc := "(ILCableSizes$Trays;)V" } : Jvm.MethodName)) ∈ bw := List.mem_filter.mpr ⟨List.mem_of_getElem? (i := 348) (by decide +kernel), by decide +kernel⟩
theorem m_349 : (Jvm.Cond.code ({ cls := "CableSizes$Cables", name := "findWay", desc := "(ILCableSizes$Trays;)V" } : Jvm.MethodName) prog_2_method_4_code (6 : Nat) (Option.none : Option Jvm.ClassFile.FieldType)) ∈ bw := List.mem_filter.mpr ⟨List.mem_of_getElem? (i := 349) (by decide +kernel), by decide +kernel⟩
theorem m_350 : (Jvm.Cond.methodLink "CableSizes$Cables" (36 : Nat) ({ cls := "CableSizes$Trays", name := "measureTo", desc := "(I)V" } : Jvm.MethodName)) ∈ bw := List.mem_filter.mpr ⟨List.mem_of_getElem? (i := 350) (by decide +kernel), by decide +kernel⟩
theorem m_351 : (Jvm.Cond.instanceMethod ({ cls := "CableSizes$Trays", name := "measureTo", desc := "(I)V" } : Jvm.MethodName)) ∈ bw := List.mem_filter.mpr ⟨List.mem_of_getElem? (i := 351) (by decide +kernel), by decide +kernel⟩
theorem m_352 : (Jvm.Cond.selects "CableSizes$Trays" ({ cls := "CableSizes$Trays", name := "measureTo", desc := "(I)V" } : Jvm.MethodName) ({ cls := "CableSizes$Trays", name := "measureTo", desc := "(I)V" } : Jvm.MethodName)) ∈ bw := List.mem_filter.mpr ⟨List.mem_of_getElem? (i := 352) (by decide +kernel), by decide +kernel⟩
theorem m_353 : (Jvm.Cond.code ({ cls := "CableSizes$Trays", name := "measureTo", desc := "(I)V" } : Jvm.MethodName) prog_5_method_3_code (7 : Nat) (Option.none : Option Jvm.ClassFile.FieldType)) ∈ bw := List.mem_filter.mpr ⟨List.mem_of_getElem? (i := 353) (by decide +kernel), by decide +kernel⟩
theorem m_354 : (Jvm.Cond.constant "CableSizes$Trays" (31 : Nat) (1000000 : Int32)) ∈ bw := List.mem_filter.mpr ⟨List.mem_of_getElem? (i := 354) (by decide +kernel), by decide +kernel⟩
theorem m_355 : (Jvm.Cond.methodLink "CableSizes$Trays" (32 : Nat) ({ cls := "java/util/Arrays", name := "fill", desc := "([II)V" } : Jvm.MethodName)) ∈ bw := List.mem_filter.mpr ⟨List.mem_of_getElem? (i := 355) (by decide +kernel), by decide +kernel⟩
theorem m_356 : (Jvm.Cond.methodLink "CableSizes$Trays" (38 : Nat) ({ cls := "CableSizes$Trays", name := "shorten", desc := "(III)Z" } : Jvm.MethodName)) ∈ bw := List.mem_filter.mpr ⟨List.mem_of_getElem? (i := 356) (by decide +kernel), by decide +kernel⟩
theorem m_358 : (Jvm.Cond.instanceMethod ({ cls := "CableSizes$Trays", name := "shorten", desc := "(III)Z" } : Jvm.MethodName)) ∈ bw := List.mem_filter.mpr ⟨List.mem_of_getElem? (i := 358) (by decide +kernel), by decide +kernel⟩
theorem m_359 : (Jvm.Cond.code ({ cls := "CableSizes$Trays", name := "shorten", desc := "(III)Z" } : Jvm.MethodName) prog_5_method_4_code (5 : Nat) (Option.some Jvm.ClassFile.FieldType.boolean)) ∈ bw := List.mem_filter.mpr ⟨List.mem_of_getElem? (i := 359) (by decide +kernel), by decide +kernel⟩
theorem m_360 : (Jvm.Cond.constant "CableSizes$Cables" (45 : Nat) (1000000 : Int32)) ∈ bw := List.mem_filter.mpr ⟨List.mem_of_getElem? (i := 360) (by decide +kernel), by decide +kernel⟩
theorem m_361 : (Jvm.Cond.methodLink "CableSizes$Cables" (46 : Nat) ({ cls := "CableSizes$Trays", name := "firstTowardsTarget", desc := "(I)I" } : Jvm.MethodName)) ∈ bw := List.mem_filter.mpr ⟨List.mem_of_getElem? (i := 361) (by decide +kernel), by decide +kernel⟩
theorem m_362 : (Jvm.Cond.instanceMethod ({ cls := "CableSizes$Trays", name := "firstTowardsTarget", desc := "(I)I" } : Jvm.MethodName)) ∈ bw := List.mem_filter.mpr ⟨List.mem_of_getElem? (i := 362) (by decide +kernel), by decide +kernel⟩
theorem m_363 : (Jvm.Cond.selects "CableSizes$Trays" ({ cls := "CableSizes$Trays", name := "firstTowardsTarget", desc := "(I)I" } : Jvm.MethodName) ({ cls := "CableSizes$Trays", name := "firstTowardsTarget", desc := "(I)I" } : Jvm.MethodName)) ∈ bw := List.mem_filter.mpr ⟨List.mem_of_getElem? (i := 363) (by decide +kernel), by decide +kernel⟩
theorem m_364 : (Jvm.Cond.code ({ cls := "CableSizes$Trays", name := "firstTowardsTarget", desc := "(I)I" } : Jvm.MethodName) prog_5_method_5_code (4 : Nat) (Option.some Jvm.ClassFile.FieldType.int)) ∈ bw := List.mem_filter.mpr ⟨List.mem_of_getElem? (i := 364) (by decide +kernel), by decide +kernel⟩
theorem m_365 : (Jvm.Cond.methodLink "CableSizes$Trays" (42 : Nat) ({ cls := "CableSizes$Trays", name := "endBehind", desc := "(II)I" } : Jvm.MethodName)) ∈ bw := List.mem_filter.mpr ⟨List.mem_of_getElem? (i := 365) (by decide +kernel), by decide +kernel⟩
theorem m_366 : (Jvm.Cond.instanceMethod ({ cls := "CableSizes$Trays", name := "endBehind", desc := "(II)I" } : Jvm.MethodName)) ∈ bw := List.mem_filter.mpr ⟨List.mem_of_getElem? (i := 366) (by decide +kernel), by decide +kernel⟩
theorem m_367 : (Jvm.Cond.selects "CableSizes$Trays" ({ cls := "CableSizes$Trays", name := "endBehind", desc := "(II)I" } : Jvm.MethodName) ({ cls := "CableSizes$Trays", name := "endBehind", desc := "(II)I" } : Jvm.MethodName)) ∈ bw := List.mem_filter.mpr ⟨List.mem_of_getElem? (i := 367) (by decide +kernel), by decide +kernel⟩
theorem m_368 : (Jvm.Cond.code ({ cls := "CableSizes$Trays", name := "endBehind", desc := "(II)I" } : Jvm.MethodName) prog_5_method_6_code (3 : Nat) (Option.some Jvm.ClassFile.FieldType.int)) ∈ bw := List.mem_filter.mpr ⟨List.mem_of_getElem? (i := 368) (by decide +kernel), by decide +kernel⟩
theorem m_369 : (Jvm.Cond.methodLink "CableSizes$Cables" (53 : Nat) ({ cls := "CableSizes$Trays", name := "endBehind", desc := "(II)I" } : Jvm.MethodName)) ∈ bw := List.mem_filter.mpr ⟨List.mem_of_getElem? (i := 369) (by decide +kernel), by decide +kernel⟩
theorem m_370 : (Jvm.Cond.methodLink "CableSizesLaw" (67 : Nat) ({ cls := "CableSizesLaw", name := "size", desc := "(LCableSizes;III[J)I" } : Jvm.MethodName)) ∈ bw := List.mem_filter.mpr ⟨List.mem_of_getElem? (i := 370) (by decide +kernel), by decide +kernel⟩
theorem m_371 : (Jvm.Cond.static ({ cls := "CableSizesLaw", name := "size", desc := "(LCableSizes;III[J)I" } : Jvm.MethodName)) ∈ bw := List.mem_filter.mpr ⟨List.mem_of_getElem? (i := 371) (by decide +kernel), by decide +kernel⟩
theorem m_372 : (Jvm.Cond.codeWith ({ cls := "CableSizesLaw", name := "size", desc := "(LCableSizes;III[J)I" } : Jvm.MethodName) method_4_code (6 : Nat) (Option.some Jvm.ClassFile.FieldType.int) [((0 : Nat), (12 : Nat), (15 : Nat), (13 : Nat)), ((0 : Nat), (12 : Nat), (19 : Nat), (15 : Nat))]) ∈ bw := List.mem_filter.mpr ⟨List.mem_of_getElem? (i := 372) (by decide +kernel), by decide +kernel⟩
theorem m_373 : (Jvm.Cond.methodLink "CableSizesLaw" (17 : Nat) ({ cls := "CableSizes", name := "size", desc := "(III)I" } : Jvm.MethodName)) ∈ bw := List.mem_filter.mpr ⟨List.mem_of_getElem? (i := 373) (by decide +kernel), by decide +kernel⟩
theorem m_374 : (Jvm.Cond.instanceMethod ({ cls := "CableSizes", name := "size", desc := "(III)I" } : Jvm.MethodName)) ∈ bw := List.mem_filter.mpr ⟨List.mem_of_getElem? (i := 374) (by decide +kernel), by decide +kernel⟩
theorem m_375 : (Jvm.Cond.selects "CableSizes" ({ cls := "CableSizes", name := "size", desc := "(III)I" } : Jvm.MethodName) ({ cls := "CableSizes", name := "size", desc := "(III)I" } : Jvm.MethodName)) ∈ bw := List.mem_filter.mpr ⟨List.mem_of_getElem? (i := 375) (by decide +kernel), by decide +kernel⟩
theorem m_376 : (Jvm.Cond.code ({ cls := "CableSizes", name := "size", desc := "(III)I" } : Jvm.MethodName) prog_1_method_3_code (4 : Nat) (Option.some Jvm.ClassFile.FieldType.int)) ∈ bw := List.mem_filter.mpr ⟨List.mem_of_getElem? (i := 376) (by decide +kernel), by decide +kernel⟩
theorem m_378 : (Jvm.Cond.methodLink "CableSizes" (84 : Nat) ({ cls := "CableSizes$Sizes", name := "mayFollow", desc := "(III)Z" } : Jvm.MethodName)) ∈ bw := List.mem_filter.mpr ⟨List.mem_of_getElem? (i := 378) (by decide +kernel), by decide +kernel⟩
theorem m_379 : (Jvm.Cond.instanceMethod ({ cls := "CableSizes$Sizes", name := "mayFollow", desc := "(III)Z" } : Jvm.MethodName)) ∈ bw := List.mem_filter.mpr ⟨List.mem_of_getElem? (i := 379) (by decide +kernel), by decide +kernel⟩
theorem m_380 : (Jvm.Cond.selects "CableSizes$Sizes" ({ cls := "CableSizes$Sizes", name := "mayFollow", desc := "(III)Z" } : Jvm.MethodName) ({ cls := "CableSizes$Sizes", name := "mayFollow", desc := "(III)Z" } : Jvm.MethodName)) ∈ bw := List.mem_filter.mpr ⟨List.mem_of_getElem? (i := 380) (by decide +kernel), by decide +kernel⟩
theorem m_381 : (Jvm.Cond.code ({ cls := "CableSizes$Sizes", name := "mayFollow", desc := "(III)Z" } : Jvm.MethodName) prog_3_method_2_code (5 : Nat) (Option.some Jvm.ClassFile.FieldType.boolean)) ∈ bw := List.mem_filter.mpr ⟨List.mem_of_getElem? (i := 381) (by decide +kernel), by decide +kernel⟩
theorem m_383 : (Jvm.Cond.methodLink "CableSizes" (90 : Nat) ({ cls := "CableSizes$Sizes", name := "add", desc := "(III)I" } : Jvm.MethodName)) ∈ bw := List.mem_filter.mpr ⟨List.mem_of_getElem? (i := 383) (by decide +kernel), by decide +kernel⟩
theorem m_384 : (Jvm.Cond.instanceMethod ({ cls := "CableSizes$Sizes", name := "add", desc := "(III)I" } : Jvm.MethodName)) ∈ bw := List.mem_filter.mpr ⟨List.mem_of_getElem? (i := 384) (by decide +kernel), by decide +kernel⟩
theorem m_385 : (Jvm.Cond.selects "CableSizes$Sizes" ({ cls := "CableSizes$Sizes", name := "add", desc := "(III)I" } : Jvm.MethodName) ({ cls := "CableSizes$Sizes", name := "add", desc := "(III)I" } : Jvm.MethodName)) ∈ bw := List.mem_filter.mpr ⟨List.mem_of_getElem? (i := 385) (by decide +kernel), by decide +kernel⟩
theorem m_386 : (Jvm.Cond.code ({ cls := "CableSizes$Sizes", name := "add", desc := "(III)I" } : Jvm.MethodName) prog_3_method_3_code (5 : Nat) (Option.some Jvm.ClassFile.FieldType.int)) ∈ bw := List.mem_filter.mpr ⟨List.mem_of_getElem? (i := 386) (by decide +kernel), by decide +kernel⟩
theorem m_387 : (Jvm.Cond.methodLink "CableSizesLaw" (71 : Nat) ({ cls := "CableSizesLaw", name := "cable", desc := "(LCableSizes;III[J)I" } : Jvm.MethodName)) ∈ bw := List.mem_filter.mpr ⟨List.mem_of_getElem? (i := 387) (by decide +kernel), by decide +kernel⟩
theorem m_388 : (Jvm.Cond.static ({ cls := "CableSizesLaw", name := "cable", desc := "(LCableSizes;III[J)I" } : Jvm.MethodName)) ∈ bw := List.mem_filter.mpr ⟨List.mem_of_getElem? (i := 388) (by decide +kernel), by decide +kernel⟩
theorem m_389 : (Jvm.Cond.codeWith ({ cls := "CableSizesLaw", name := "cable", desc := "(LCableSizes;III[J)I" } : Jvm.MethodName) method_5_code (6 : Nat) (Option.some Jvm.ClassFile.FieldType.int) [((0 : Nat), (12 : Nat), (15 : Nat), (13 : Nat)), ((0 : Nat), (12 : Nat), (19 : Nat), (15 : Nat))]) ∈ bw := List.mem_filter.mpr ⟨List.mem_of_getElem? (i := 389) (by decide +kernel), by decide +kernel⟩
theorem m_390 : (Jvm.Cond.methodLink "CableSizesLaw" (21 : Nat) ({ cls := "CableSizes", name := "cable", desc := "(III)I" } : Jvm.MethodName)) ∈ bw := List.mem_filter.mpr ⟨List.mem_of_getElem? (i := 390) (by decide +kernel), by decide +kernel⟩
theorem m_391 : (Jvm.Cond.instanceMethod ({ cls := "CableSizes", name := "cable", desc := "(III)I" } : Jvm.MethodName)) ∈ bw := List.mem_filter.mpr ⟨List.mem_of_getElem? (i := 391) (by decide +kernel), by decide +kernel⟩
theorem m_392 : (Jvm.Cond.selects "CableSizes" ({ cls := "CableSizes", name := "cable", desc := "(III)I" } : Jvm.MethodName) ({ cls := "CableSizes", name := "cable", desc := "(III)I" } : Jvm.MethodName)) ∈ bw := List.mem_filter.mpr ⟨List.mem_of_getElem? (i := 392) (by decide +kernel), by decide +kernel⟩
theorem m_393 : (Jvm.Cond.code ({ cls := "CableSizes", name := "cable", desc := "(III)I" } : Jvm.MethodName) prog_1_method_4_code (5 : Nat) (Option.some Jvm.ClassFile.FieldType.int)) ∈ bw := List.mem_filter.mpr ⟨List.mem_of_getElem? (i := 393) (by decide +kernel), by decide +kernel⟩
theorem m_395 : (Jvm.Cond.methodLink "CableSizes" (95 : Nat) ({ cls := "CableSizes$Cables", name := "add", desc := "(III)I" } : Jvm.MethodName)) ∈ bw := List.mem_filter.mpr ⟨List.mem_of_getElem? (i := 395) (by decide +kernel), by decide +kernel⟩
theorem m_396 : (Jvm.Cond.instanceMethod ({ cls := "CableSizes$Cables", name := "add", desc := "(III)I" } : Jvm.MethodName)) ∈ bw := List.mem_filter.mpr ⟨List.mem_of_getElem? (i := 396) (by decide +kernel), by decide +kernel⟩
theorem m_397 : (Jvm.Cond.selects "CableSizes$Cables" ({ cls := "CableSizes$Cables", name := "add", desc := "(III)I" } : Jvm.MethodName) ({ cls := "CableSizes$Cables", name := "add", desc := "(III)I" } : Jvm.MethodName)) ∈ bw := List.mem_filter.mpr ⟨List.mem_of_getElem? (i := 397) (by decide +kernel), by decide +kernel⟩
theorem m_398 : (Jvm.Cond.code ({ cls := "CableSizes$Cables", name := "add", desc := "(III)I" } : Jvm.MethodName) prog_2_method_2_code (5 : Nat) (Option.some Jvm.ClassFile.FieldType.int)) ∈ bw := List.mem_filter.mpr ⟨List.mem_of_getElem? (i := 398) (by decide +kernel), by decide +kernel⟩
theorem m_399 : (Jvm.Cond.methodLink "CableSizesLaw" (74 : Nat) ({ cls := "CableSizesLaw", name := "current", desc := "(LCableSizes;II[J)I" } : Jvm.MethodName)) ∈ bw := List.mem_filter.mpr ⟨List.mem_of_getElem? (i := 399) (by decide +kernel), by decide +kernel⟩
theorem m_400 : (Jvm.Cond.static ({ cls := "CableSizesLaw", name := "current", desc := "(LCableSizes;II[J)I" } : Jvm.MethodName)) ∈ bw := List.mem_filter.mpr ⟨List.mem_of_getElem? (i := 400) (by decide +kernel), by decide +kernel⟩
theorem m_401 : (Jvm.Cond.codeWith ({ cls := "CableSizesLaw", name := "current", desc := "(LCableSizes;II[J)I" } : Jvm.MethodName) method_6_code (5 : Nat) (Option.some Jvm.ClassFile.FieldType.int) [((0 : Nat), (10 : Nat), (13 : Nat), (13 : Nat))]) ∈ bw := List.mem_filter.mpr ⟨List.mem_of_getElem? (i := 401) (by decide +kernel), by decide +kernel⟩
theorem m_402 : (Jvm.Cond.methodLink "CableSizesLaw" (24 : Nat) ({ cls := "CableSizes", name := "current", desc := "(II)I" } : Jvm.MethodName)) ∈ bw := List.mem_filter.mpr ⟨List.mem_of_getElem? (i := 402) (by decide +kernel), by decide +kernel⟩
theorem m_403 : (Jvm.Cond.instanceMethod ({ cls := "CableSizes", name := "current", desc := "(II)I" } : Jvm.MethodName)) ∈ bw := List.mem_filter.mpr ⟨List.mem_of_getElem? (i := 403) (by decide +kernel), by decide +kernel⟩
theorem m_404 : (Jvm.Cond.selects "CableSizes" ({ cls := "CableSizes", name := "current", desc := "(II)I" } : Jvm.MethodName) ({ cls := "CableSizes", name := "current", desc := "(II)I" } : Jvm.MethodName)) ∈ bw := List.mem_filter.mpr ⟨List.mem_of_getElem? (i := 404) (by decide +kernel), by decide +kernel⟩
theorem m_405 : (Jvm.Cond.code ({ cls := "CableSizes", name := "current", desc := "(II)I" } : Jvm.MethodName) prog_1_method_5_code (4 : Nat) (Option.some Jvm.ClassFile.FieldType.int)) ∈ bw := List.mem_filter.mpr ⟨List.mem_of_getElem? (i := 405) (by decide +kernel), by decide +kernel⟩
theorem m_406 : (Jvm.Cond.methodLink "CableSizes" (96 : Nat) ({ cls := "CableSizes", name := "checkNumber", desc := "(II)V" } : Jvm.MethodName)) ∈ bw := List.mem_filter.mpr ⟨List.mem_of_getElem? (i := 406) (by decide +kernel), by decide +kernel⟩
theorem m_407 : (Jvm.Cond.static ({ cls := "CableSizes", name := "checkNumber", desc := "(II)V" } : Jvm.MethodName)) ∈ bw := List.mem_filter.mpr ⟨List.mem_of_getElem? (i := 407) (by decide +kernel), by decide +kernel⟩
theorem m_408 : (Jvm.Cond.code ({ cls := "CableSizes", name := "checkNumber", desc := "(II)V" } : Jvm.MethodName) prog_1_method_18_code (2 : Nat) (Option.none : Option Jvm.ClassFile.FieldType)) ∈ bw := List.mem_filter.mpr ⟨List.mem_of_getElem? (i := 408) (by decide +kernel), by decide +kernel⟩
theorem m_410 : (Jvm.Cond.methodLink "CableSizesLaw" (78 : Nat) ({ cls := "CableSizesLaw", name := "room", desc := "(LCableSizes;II[J)I" } : Jvm.MethodName)) ∈ bw := List.mem_filter.mpr ⟨List.mem_of_getElem? (i := 410) (by decide +kernel), by decide +kernel⟩
theorem m_411 : (Jvm.Cond.static ({ cls := "CableSizesLaw", name := "room", desc := "(LCableSizes;II[J)I" } : Jvm.MethodName)) ∈ bw := List.mem_filter.mpr ⟨List.mem_of_getElem? (i := 411) (by decide +kernel), by decide +kernel⟩
theorem m_412 : (Jvm.Cond.codeWith ({ cls := "CableSizesLaw", name := "room", desc := "(LCableSizes;II[J)I" } : Jvm.MethodName) method_7_code (5 : Nat) (Option.some Jvm.ClassFile.FieldType.int) [((0 : Nat), (10 : Nat), (13 : Nat), (13 : Nat))]) ∈ bw := List.mem_filter.mpr ⟨List.mem_of_getElem? (i := 412) (by decide +kernel), by decide +kernel⟩
theorem m_413 : (Jvm.Cond.methodLink "CableSizesLaw" (28 : Nat) ({ cls := "CableSizes", name := "room", desc := "(II)I" } : Jvm.MethodName)) ∈ bw := List.mem_filter.mpr ⟨List.mem_of_getElem? (i := 413) (by decide +kernel), by decide +kernel⟩
theorem m_414 : (Jvm.Cond.instanceMethod ({ cls := "CableSizes", name := "room", desc := "(II)I" } : Jvm.MethodName)) ∈ bw := List.mem_filter.mpr ⟨List.mem_of_getElem? (i := 414) (by decide +kernel), by decide +kernel⟩
theorem m_415 : (Jvm.Cond.selects "CableSizes" ({ cls := "CableSizes", name := "room", desc := "(II)I" } : Jvm.MethodName) ({ cls := "CableSizes", name := "room", desc := "(II)I" } : Jvm.MethodName)) ∈ bw := List.mem_filter.mpr ⟨List.mem_of_getElem? (i := 415) (by decide +kernel), by decide +kernel⟩
theorem m_416 : (Jvm.Cond.code ({ cls := "CableSizes", name := "room", desc := "(II)I" } : Jvm.MethodName) prog_1_method_6_code (4 : Nat) (Option.some Jvm.ClassFile.FieldType.int)) ∈ bw := List.mem_filter.mpr ⟨List.mem_of_getElem? (i := 416) (by decide +kernel), by decide +kernel⟩
theorem m_417 : (Jvm.Cond.methodLink "CableSizesLaw" (81 : Nat) ({ cls := "CableSizesLaw", name := "limit", desc := "(LCableSizes;I[J)I" } : Jvm.MethodName)) ∈ bw := List.mem_filter.mpr ⟨List.mem_of_getElem? (i := 417) (by decide +kernel), by decide +kernel⟩
theorem m_418 : (Jvm.Cond.static ({ cls := "CableSizesLaw", name := "limit", desc := "(LCableSizes;I[J)I" } : Jvm.MethodName)) ∈ bw := List.mem_filter.mpr ⟨List.mem_of_getElem? (i := 418) (by decide +kernel), by decide +kernel⟩
theorem m_419 : (Jvm.Cond.codeWith ({ cls := "CableSizesLaw", name := "limit", desc := "(LCableSizes;I[J)I" } : Jvm.MethodName) method_8_code (4 : Nat) (Option.some Jvm.ClassFile.FieldType.int) [((0 : Nat), (9 : Nat), (12 : Nat), (13 : Nat))]) ∈ bw := List.mem_filter.mpr ⟨List.mem_of_getElem? (i := 419) (by decide +kernel), by decide +kernel⟩
theorem m_420 : (Jvm.Cond.methodLink "CableSizesLaw" (31 : Nat) ({ cls := "CableSizes", name := "limit", desc := "(I)I" } : Jvm.MethodName)) ∈ bw := List.mem_filter.mpr ⟨List.mem_of_getElem? (i := 420) (by decide +kernel), by decide +kernel⟩
theorem m_421 : (Jvm.Cond.instanceMethod ({ cls := "CableSizes", name := "limit", desc := "(I)I" } : Jvm.MethodName)) ∈ bw := List.mem_filter.mpr ⟨List.mem_of_getElem? (i := 421) (by decide +kernel), by decide +kernel⟩
theorem m_422 : (Jvm.Cond.selects "CableSizes" ({ cls := "CableSizes", name := "limit", desc := "(I)I" } : Jvm.MethodName) ({ cls := "CableSizes", name := "limit", desc := "(I)I" } : Jvm.MethodName)) ∈ bw := List.mem_filter.mpr ⟨List.mem_of_getElem? (i := 422) (by decide +kernel), by decide +kernel⟩
theorem m_423 : (Jvm.Cond.code ({ cls := "CableSizes", name := "limit", desc := "(I)I" } : Jvm.MethodName) prog_1_method_7_code (3 : Nat) (Option.some Jvm.ClassFile.FieldType.int)) ∈ bw := List.mem_filter.mpr ⟨List.mem_of_getElem? (i := 423) (by decide +kernel), by decide +kernel⟩
theorem m_424 : (Jvm.Cond.constant "CableSizes" (106 : Nat) (1000000 : Int32)) ∈ bw := List.mem_filter.mpr ⟨List.mem_of_getElem? (i := 424) (by decide +kernel), by decide +kernel⟩
theorem m_425 : (Jvm.Cond.methodLink "CableSizesLaw" (85 : Nat) ({ cls := "CableSizesLaw", name := "way", desc := "(LCableSizes;I[J)I" } : Jvm.MethodName)) ∈ bw := List.mem_filter.mpr ⟨List.mem_of_getElem? (i := 425) (by decide +kernel), by decide +kernel⟩
theorem m_426 : (Jvm.Cond.static ({ cls := "CableSizesLaw", name := "way", desc := "(LCableSizes;I[J)I" } : Jvm.MethodName)) ∈ bw := List.mem_filter.mpr ⟨List.mem_of_getElem? (i := 426) (by decide +kernel), by decide +kernel⟩
theorem m_427 : (Jvm.Cond.codeWith ({ cls := "CableSizesLaw", name := "way", desc := "(LCableSizes;I[J)I" } : Jvm.MethodName) method_9_code (4 : Nat) (Option.some Jvm.ClassFile.FieldType.int) [((0 : Nat), (9 : Nat), (12 : Nat), (13 : Nat))]) ∈ bw := List.mem_filter.mpr ⟨List.mem_of_getElem? (i := 427) (by decide +kernel), by decide +kernel⟩
theorem m_428 : (Jvm.Cond.methodLink "CableSizesLaw" (35 : Nat) ({ cls := "CableSizes", name := "way", desc := "(I)I" } : Jvm.MethodName)) ∈ bw := List.mem_filter.mpr ⟨List.mem_of_getElem? (i := 428) (by decide +kernel), by decide +kernel⟩
theorem m_429 : (Jvm.Cond.instanceMethod ({ cls := "CableSizes", name := "way", desc := "(I)I" } : Jvm.MethodName)) ∈ bw := List.mem_filter.mpr ⟨List.mem_of_getElem? (i := 429) (by decide +kernel), by decide +kernel⟩
theorem m_430 : (Jvm.Cond.selects "CableSizes" ({ cls := "CableSizes", name := "way", desc := "(I)I" } : Jvm.MethodName) ({ cls := "CableSizes", name := "way", desc := "(I)I" } : Jvm.MethodName)) ∈ bw := List.mem_filter.mpr ⟨List.mem_of_getElem? (i := 430) (by decide +kernel), by decide +kernel⟩
theorem m_431 : (Jvm.Cond.code ({ cls := "CableSizes", name := "way", desc := "(I)I" } : Jvm.MethodName) prog_1_method_8_code (2 : Nat) (Option.some Jvm.ClassFile.FieldType.int)) ∈ bw := List.mem_filter.mpr ⟨List.mem_of_getElem? (i := 431) (by decide +kernel), by decide +kernel⟩
theorem m_432 : (Jvm.Cond.methodLink "CableSizes" (107 : Nat) ({ cls := "CableSizes$Cables", name := "isLoose", desc := "(I)Z" } : Jvm.MethodName)) ∈ bw := List.mem_filter.mpr ⟨List.mem_of_getElem? (i := 432) (by decide +kernel), by decide +kernel⟩
theorem m_433 : (Jvm.Cond.methodLink "CableSizesLaw" (88 : Nat) ({ cls := "CableSizesLaw", name := "way", desc := "(LCableSizes;II[J)I" } : Jvm.MethodName)) ∈ bw := List.mem_filter.mpr ⟨List.mem_of_getElem? (i := 433) (by decide +kernel), by decide +kernel⟩
theorem m_434 : (Jvm.Cond.static ({ cls := "CableSizesLaw", name := "way", desc := "(LCableSizes;II[J)I" } : Jvm.MethodName)) ∈ bw := List.mem_filter.mpr ⟨List.mem_of_getElem? (i := 434) (by decide +kernel), by decide +kernel⟩
theorem m_435 : (Jvm.Cond.codeWith ({ cls := "CableSizesLaw", name := "way", desc := "(LCableSizes;II[J)I" } : Jvm.MethodName) method_10_code (5 : Nat) (Option.some Jvm.ClassFile.FieldType.int) [((0 : Nat), (10 : Nat), (13 : Nat), (13 : Nat))]) ∈ bw := List.mem_filter.mpr ⟨List.mem_of_getElem? (i := 435) (by decide +kernel), by decide +kernel⟩
theorem m_436 : (Jvm.Cond.methodLink "CableSizesLaw" (38 : Nat) ({ cls := "CableSizes", name := "way", desc := "(II)I" } : Jvm.MethodName)) ∈ bw := List.mem_filter.mpr ⟨List.mem_of_getElem? (i := 436) (by decide +kernel), by decide +kernel⟩
theorem m_437 : (Jvm.Cond.instanceMethod ({ cls := "CableSizes", name := "way", desc := "(II)I" } : Jvm.MethodName)) ∈ bw := List.mem_filter.mpr ⟨List.mem_of_getElem? (i := 437) (by decide +kernel), by decide +kernel⟩
theorem m_438 : (Jvm.Cond.selects "CableSizes" ({ cls := "CableSizes", name := "way", desc := "(II)I" } : Jvm.MethodName) ({ cls := "CableSizes", name := "way", desc := "(II)I" } : Jvm.MethodName)) ∈ bw := List.mem_filter.mpr ⟨List.mem_of_getElem? (i := 438) (by decide +kernel), by decide +kernel⟩
theorem m_439 : (Jvm.Cond.code ({ cls := "CableSizes", name := "way", desc := "(II)I" } : Jvm.MethodName) prog_1_method_9_code (3 : Nat) (Option.some Jvm.ClassFile.FieldType.int)) ∈ bw := List.mem_filter.mpr ⟨List.mem_of_getElem? (i := 439) (by decide +kernel), by decide +kernel⟩
theorem m_441 : (Jvm.Cond.methodLink "CableSizesLaw" (96 : Nat) ({ cls := "CableSizesLaw", name := "chosen", desc := "(LCableSizes;I[J)I" } : Jvm.MethodName)) ∈ bw := List.mem_filter.mpr ⟨List.mem_of_getElem? (i := 441) (by decide +kernel), by decide +kernel⟩
theorem m_442 : (Jvm.Cond.static ({ cls := "CableSizesLaw", name := "chosen", desc := "(LCableSizes;I[J)I" } : Jvm.MethodName)) ∈ bw := List.mem_filter.mpr ⟨List.mem_of_getElem? (i := 442) (by decide +kernel), by decide +kernel⟩
theorem m_443 : (Jvm.Cond.codeWith ({ cls := "CableSizesLaw", name := "chosen", desc := "(LCableSizes;I[J)I" } : Jvm.MethodName) method_11_code (4 : Nat) (Option.some Jvm.ClassFile.FieldType.int) [((0 : Nat), (9 : Nat), (12 : Nat), (13 : Nat))]) ∈ bw := List.mem_filter.mpr ⟨List.mem_of_getElem? (i := 443) (by decide +kernel), by decide +kernel⟩
theorem m_444 : (Jvm.Cond.methodLink "CableSizesLaw" (40 : Nat) ({ cls := "CableSizes", name := "chosen", desc := "(I)I" } : Jvm.MethodName)) ∈ bw := List.mem_filter.mpr ⟨List.mem_of_getElem? (i := 444) (by decide +kernel), by decide +kernel⟩
theorem m_445 : (Jvm.Cond.instanceMethod ({ cls := "CableSizes", name := "chosen", desc := "(I)I" } : Jvm.MethodName)) ∈ bw := List.mem_filter.mpr ⟨List.mem_of_getElem? (i := 445) (by decide +kernel), by decide +kernel⟩
theorem m_446 : (Jvm.Cond.selects "CableSizes" ({ cls := "CableSizes", name := "chosen", desc := "(I)I" } : Jvm.MethodName) ({ cls := "CableSizes", name := "chosen", desc := "(I)I" } : Jvm.MethodName)) ∈ bw := List.mem_filter.mpr ⟨List.mem_of_getElem? (i := 446) (by decide +kernel), by decide +kernel⟩
theorem m_447 : (Jvm.Cond.code ({ cls := "CableSizes", name := "chosen", desc := "(I)I" } : Jvm.MethodName) prog_1_method_11_code (2 : Nat) (Option.some Jvm.ClassFile.FieldType.int)) ∈ bw := List.mem_filter.mpr ⟨List.mem_of_getElem? (i := 447) (by decide +kernel), by decide +kernel⟩
theorem m_448 : (Jvm.Cond.methodLink "CableSizesLaw" (99 : Nat) ({ cls := "CableSizesLaw", name := "told", desc := "(LCableSizes;II[J)I" } : Jvm.MethodName)) ∈ bw := List.mem_filter.mpr ⟨List.mem_of_getElem? (i := 448) (by decide +kernel), by decide +kernel⟩
theorem m_449 : (Jvm.Cond.static ({ cls := "CableSizesLaw", name := "told", desc := "(LCableSizes;II[J)I" } : Jvm.MethodName)) ∈ bw := List.mem_filter.mpr ⟨List.mem_of_getElem? (i := 449) (by decide +kernel), by decide +kernel⟩
theorem m_450 : (Jvm.Cond.codeWith ({ cls := "CableSizesLaw", name := "told", desc := "(LCableSizes;II[J)I" } : Jvm.MethodName) method_12_code (5 : Nat) (Option.some Jvm.ClassFile.FieldType.int) [((0 : Nat), (10 : Nat), (13 : Nat), (13 : Nat))]) ∈ bw := List.mem_filter.mpr ⟨List.mem_of_getElem? (i := 450) (by decide +kernel), by decide +kernel⟩
theorem m_451 : (Jvm.Cond.methodLink "CableSizesLaw" (43 : Nat) ({ cls := "CableSizes", name := "told", desc := "(II)I" } : Jvm.MethodName)) ∈ bw := List.mem_filter.mpr ⟨List.mem_of_getElem? (i := 451) (by decide +kernel), by decide +kernel⟩
theorem m_452 : (Jvm.Cond.instanceMethod ({ cls := "CableSizes", name := "told", desc := "(II)I" } : Jvm.MethodName)) ∈ bw := List.mem_filter.mpr ⟨List.mem_of_getElem? (i := 452) (by decide +kernel), by decide +kernel⟩
theorem m_453 : (Jvm.Cond.selects "CableSizes" ({ cls := "CableSizes", name := "told", desc := "(II)I" } : Jvm.MethodName) ({ cls := "CableSizes", name := "told", desc := "(II)I" } : Jvm.MethodName)) ∈ bw := List.mem_filter.mpr ⟨List.mem_of_getElem? (i := 453) (by decide +kernel), by decide +kernel⟩
theorem m_454 : (Jvm.Cond.code ({ cls := "CableSizes", name := "told", desc := "(II)I" } : Jvm.MethodName) prog_1_method_12_code (3 : Nat) (Option.some Jvm.ClassFile.FieldType.int)) ∈ bw := List.mem_filter.mpr ⟨List.mem_of_getElem? (i := 454) (by decide +kernel), by decide +kernel⟩
theorem m_455 : (Jvm.Cond.methodLink "CableSizes" (132 : Nat) ({ cls := "CableSizes$Cables", name := "countThrough", desc := "(I)I" } : Jvm.MethodName)) ∈ bw := List.mem_filter.mpr ⟨List.mem_of_getElem? (i := 455) (by decide +kernel), by decide +kernel⟩
theorem m_456 : (Jvm.Cond.instanceMethod ({ cls := "CableSizes$Cables", name := "countThrough", desc := "(I)I" } : Jvm.MethodName)) ∈ bw := List.mem_filter.mpr ⟨List.mem_of_getElem? (i := 456) (by decide +kernel), by decide +kernel⟩
theorem m_457 : (Jvm.Cond.selects "CableSizes$Cables" ({ cls := "CableSizes$Cables", name := "countThrough", desc := "(I)I" } : Jvm.MethodName) ({ cls := "CableSizes$Cables", name := "countThrough", desc := "(I)I" } : Jvm.MethodName)) ∈ bw := List.mem_filter.mpr ⟨List.mem_of_getElem? (i := 457) (by decide +kernel), by decide +kernel⟩
theorem m_458 : (Jvm.Cond.code ({ cls := "CableSizes$Cables", name := "countThrough", desc := "(I)I" } : Jvm.MethodName) prog_2_method_5_code (5 : Nat) (Option.some Jvm.ClassFile.FieldType.int)) ∈ bw := List.mem_filter.mpr ⟨List.mem_of_getElem? (i := 458) (by decide +kernel), by decide +kernel⟩
theorem m_459 : (Jvm.Cond.methodLink "CableSizes" (136 : Nat) ({ cls := "CableSizes$Sizing", name := "factorOf", desc := "(I)I" } : Jvm.MethodName)) ∈ bw := List.mem_filter.mpr ⟨List.mem_of_getElem? (i := 459) (by decide +kernel), by decide +kernel⟩
theorem m_460 : (Jvm.Cond.methodLink "CableSizesLaw" (102 : Nat) ({ cls := "CableSizesLaw", name := "cableAt", desc := "(LCableSizes;II[J)I" } : Jvm.MethodName)) ∈ bw := List.mem_filter.mpr ⟨List.mem_of_getElem? (i := 460) (by decide +kernel), by decide +kernel⟩
theorem m_461 : (Jvm.Cond.static ({ cls := "CableSizesLaw", name := "cableAt", desc := "(LCableSizes;II[J)I" } : Jvm.MethodName)) ∈ bw := List.mem_filter.mpr ⟨List.mem_of_getElem? (i := 461) (by decide +kernel), by decide +kernel⟩
theorem m_462 : (Jvm.Cond.codeWith ({ cls := "CableSizesLaw", name := "cableAt", desc := "(LCableSizes;II[J)I" } : Jvm.MethodName) method_13_code (5 : Nat) (Option.some Jvm.ClassFile.FieldType.int) [((0 : Nat), (10 : Nat), (13 : Nat), (13 : Nat))]) ∈ bw := List.mem_filter.mpr ⟨List.mem_of_getElem? (i := 462) (by decide +kernel), by decide +kernel⟩
theorem m_463 : (Jvm.Cond.methodLink "CableSizesLaw" (46 : Nat) ({ cls := "CableSizes", name := "cableAt", desc := "(II)I" } : Jvm.MethodName)) ∈ bw := List.mem_filter.mpr ⟨List.mem_of_getElem? (i := 463) (by decide +kernel), by decide +kernel⟩
theorem m_464 : (Jvm.Cond.instanceMethod ({ cls := "CableSizes", name := "cableAt", desc := "(II)I" } : Jvm.MethodName)) ∈ bw := List.mem_filter.mpr ⟨List.mem_of_getElem? (i := 464) (by decide +kernel), by decide +kernel⟩
theorem m_465 : (Jvm.Cond.selects "CableSizes" ({ cls := "CableSizes", name := "cableAt", desc := "(II)I" } : Jvm.MethodName) ({ cls := "CableSizes", name := "cableAt", desc := "(II)I" } : Jvm.MethodName)) ∈ bw := List.mem_filter.mpr ⟨List.mem_of_getElem? (i := 465) (by decide +kernel), by decide +kernel⟩
theorem m_466 : (Jvm.Cond.code ({ cls := "CableSizes", name := "cableAt", desc := "(II)I" } : Jvm.MethodName) prog_1_method_13_code (3 : Nat) (Option.some Jvm.ClassFile.FieldType.int)) ∈ bw := List.mem_filter.mpr ⟨List.mem_of_getElem? (i := 466) (by decide +kernel), by decide +kernel⟩
theorem m_467 : (Jvm.Cond.methodLink "CableSizes" (142 : Nat) ({ cls := "CableSizes$Sizing", name := "dropOf", desc := "(I)I" } : Jvm.MethodName)) ∈ bw := List.mem_filter.mpr ⟨List.mem_of_getElem? (i := 467) (by decide +kernel), by decide +kernel⟩
theorem m_468 : (Jvm.Cond.methodLink "CableSizes" (145 : Nat) ({ cls := "CableSizes$Sizing", name := "carriedBy", desc := "(I)I" } : Jvm.MethodName)) ∈ bw := List.mem_filter.mpr ⟨List.mem_of_getElem? (i := 468) (by decide +kernel), by decide +kernel⟩
theorem m_469 : (Jvm.Cond.methodLink "CableSizesLaw" (111 : Nat) ({ cls := "CableSizesLaw", name := "right", desc := "(LCableSizes;J[J)I" } : Jvm.MethodName)) ∈ bw := List.mem_filter.mpr ⟨List.mem_of_getElem? (i := 469) (by decide +kernel), by decide +kernel⟩
theorem m_470 : (Jvm.Cond.static ({ cls := "CableSizesLaw", name := "right", desc := "(LCableSizes;J[J)I" } : Jvm.MethodName)) ∈ bw := List.mem_filter.mpr ⟨List.mem_of_getElem? (i := 470) (by decide +kernel), by decide +kernel⟩
theorem m_471 : (Jvm.Cond.codeWith ({ cls := "CableSizesLaw", name := "right", desc := "(LCableSizes;J[J)I" } : Jvm.MethodName) method_14_code (5 : Nat) (Option.some Jvm.ClassFile.FieldType.int) [((0 : Nat), (16 : Nat), (19 : Nat), (13 : Nat))]) ∈ bw := List.mem_filter.mpr ⟨List.mem_of_getElem? (i := 471) (by decide +kernel), by decide +kernel⟩
theorem m_472 : (Jvm.Cond.methodLink "CableSizesLaw" (49 : Nat) ({ cls := "CableSizes", name := "right", desc := "(J)Z" } : Jvm.MethodName)) ∈ bw := List.mem_filter.mpr ⟨List.mem_of_getElem? (i := 472) (by decide +kernel), by decide +kernel⟩
theorem m_473 : (Jvm.Cond.instanceMethod ({ cls := "CableSizes", name := "right", desc := "(J)Z" } : Jvm.MethodName)) ∈ bw := List.mem_filter.mpr ⟨List.mem_of_getElem? (i := 473) (by decide +kernel), by decide +kernel⟩
theorem m_474 : (Jvm.Cond.selects "CableSizes" ({ cls := "CableSizes", name := "right", desc := "(J)Z" } : Jvm.MethodName) ({ cls := "CableSizes", name := "right", desc := "(J)Z" } : Jvm.MethodName)) ∈ bw := List.mem_filter.mpr ⟨List.mem_of_getElem? (i := 474) (by decide +kernel), by decide +kernel⟩
theorem m_475 : (Jvm.Cond.code ({ cls := "CableSizes", name := "right", desc := "(J)Z" } : Jvm.MethodName) prog_1_method_15_code (7 : Nat) (Option.some Jvm.ClassFile.FieldType.boolean)) ∈ bw := List.mem_filter.mpr ⟨List.mem_of_getElem? (i := 475) (by decide +kernel), by decide +kernel⟩
theorem m_477 : (Jvm.Cond.constantLong "CableSizes" (154 : Nat) (6 : Int64)) ∈ bw := List.mem_filter.mpr ⟨List.mem_of_getElem? (i := 477) (by decide +kernel), by decide +kernel⟩
theorem m_479 : (Jvm.Cond.methodLink "CableSizes" (158 : Nat) ({ cls := "CableSizes$Sizing", name := "fillTrays", desc := "()V" } : Jvm.MethodName)) ∈ bw := List.mem_filter.mpr ⟨List.mem_of_getElem? (i := 479) (by decide +kernel), by decide +kernel⟩
theorem m_480 : (Jvm.Cond.methodLink "CableSizes" (161 : Nat) ({ cls := "CableSizes$Sizing", name := "allAreRight", desc := "(I)Z" } : Jvm.MethodName)) ∈ bw := List.mem_filter.mpr ⟨List.mem_of_getElem? (i := 480) (by decide +kernel), by decide +kernel⟩
theorem m_481 : (Jvm.Cond.classLink "CableSizesLaw" (54 : Nat) "CableSizesModel") ∈ bw := List.mem_filter.mpr ⟨List.mem_of_getElem? (i := 481) (by decide +kernel), by decide +kernel⟩
theorem m_482 : (Jvm.Cond.instantiable "CableSizesModel" (19 : Nat)) ∈ bw := List.mem_filter.mpr ⟨List.mem_of_getElem? (i := 482) (by decide +kernel), by decide +kernel⟩
theorem m_483 : (Jvm.Cond.methodLink "CableSizesLaw" (56 : Nat) ({ cls := "CableSizesModel", name := "<init>", desc := "()V" } : Jvm.MethodName)) ∈ bw := List.mem_filter.mpr ⟨List.mem_of_getElem? (i := 483) (by decide +kernel), by decide +kernel⟩
theorem m_484 : (Jvm.Cond.instanceMethod ({ cls := "CableSizesModel", name := "<init>", desc := "()V" } : Jvm.MethodName)) ∈ bw := List.mem_filter.mpr ⟨List.mem_of_getElem? (i := 484) (by decide +kernel), by decide +kernel⟩
theorem m_485 : (Jvm.Cond.code ({ cls := "CableSizesModel", name := "<init>", desc := "()V" } : Jvm.MethodName) prog_7_method_1_code (1 : Nat) (Option.none : Option Jvm.ClassFile.FieldType)) ∈ bw := List.mem_filter.mpr ⟨List.mem_of_getElem? (i := 485) (by decide +kernel), by decide +kernel⟩
theorem m_486 : (Jvm.Cond.methodLink "CableSizesModel" (1 : Nat) ({ cls := "java/lang/Object", name := "<init>", desc := "()V" } : Jvm.MethodName)) ∈ bw := List.mem_filter.mpr ⟨List.mem_of_getElem? (i := 486) (by decide +kernel), by decide +kernel⟩
theorem m_487 : (Jvm.Cond.constant "CableSizesModel" (37 : Nat) (100000 : Int32)) ∈ bw := List.mem_filter.mpr ⟨List.mem_of_getElem? (i := 487) (by decide +kernel), by decide +kernel⟩
theorem m_488 : (Jvm.Cond.fieldLink "CableSizesModel" (58 : Nat) "CableSizesModel" "thrown" "I") ∈ bw := List.mem_filter.mpr ⟨List.mem_of_getElem? (i := 488) (by decide +kernel), by decide +kernel⟩
theorem m_489 : (Jvm.Cond.fieldLink "CableSizesModel" (73 : Nat) "CableSizesModel" "trays" "I") ∈ bw := List.mem_filter.mpr ⟨List.mem_of_getElem? (i := 489) (by decide +kernel), by decide +kernel⟩
theorem m_490 : (Jvm.Cond.fieldLink "CableSizesModel" (7 : Nat) "CableSizesModel" "ends" "[I") ∈ bw := List.mem_filter.mpr ⟨List.mem_of_getElem? (i := 490) (by decide +kernel), by decide +kernel⟩
theorem m_491 : (Jvm.Cond.fieldLink "CableSizesModel" (13 : Nat) "CableSizesModel" "lengths" "[I") ∈ bw := List.mem_filter.mpr ⟨List.mem_of_getElem? (i := 491) (by decide +kernel), by decide +kernel⟩
theorem m_492 : (Jvm.Cond.fieldLink "CableSizesModel" (16 : Nat) "CableSizesModel" "rooms" "[I") ∈ bw := List.mem_filter.mpr ⟨List.mem_of_getElem? (i := 492) (by decide +kernel), by decide +kernel⟩
theorem m_493 : (Jvm.Cond.fieldLink "CableSizesModel" (76 : Nat) "CableSizesModel" "sizes" "I") ∈ bw := List.mem_filter.mpr ⟨List.mem_of_getElem? (i := 493) (by decide +kernel), by decide +kernel⟩
theorem m_494 : (Jvm.Cond.fieldLink "CableSizesModel" (19 : Nat) "CableSizesModel" "areas" "[I") ∈ bw := List.mem_filter.mpr ⟨List.mem_of_getElem? (i := 494) (by decide +kernel), by decide +kernel⟩
theorem m_495 : (Jvm.Cond.fieldLink "CableSizesModel" (22 : Nat) "CableSizesModel" "ratings" "[I") ∈ bw := List.mem_filter.mpr ⟨List.mem_of_getElem? (i := 495) (by decide +kernel), by decide +kernel⟩
theorem m_496 : (Jvm.Cond.fieldLink "CableSizesModel" (25 : Nat) "CableSizesModel" "ohms" "[I") ∈ bw := List.mem_filter.mpr ⟨List.mem_of_getElem? (i := 496) (by decide +kernel), by decide +kernel⟩
theorem m_497 : (Jvm.Cond.fieldLink "CableSizesModel" (79 : Nat) "CableSizesModel" "cables" "I") ∈ bw := List.mem_filter.mpr ⟨List.mem_of_getElem? (i := 497) (by decide +kernel), by decide +kernel⟩
theorem m_498 : (Jvm.Cond.fieldLink "CableSizesModel" (28 : Nat) "CableSizesModel" "firsts" "[I") ∈ bw := List.mem_filter.mpr ⟨List.mem_of_getElem? (i := 498) (by decide +kernel), by decide +kernel⟩
theorem m_499 : (Jvm.Cond.fieldLink "CableSizesModel" (31 : Nat) "CableSizesModel" "lasts" "[I") ∈ bw := List.mem_filter.mpr ⟨List.mem_of_getElem? (i := 499) (by decide +kernel), by decide +kernel⟩
theorem m_500 : (Jvm.Cond.fieldLink "CableSizesModel" (34 : Nat) "CableSizesModel" "currents" "[I") ∈ bw := List.mem_filter.mpr ⟨List.mem_of_getElem? (i := 500) (by decide +kernel), by decide +kernel⟩
theorem m_501 : (Jvm.Cond.fieldLink "CableSizesModel" (38 : Nat) "CableSizesModel" "limit" "I") ∈ bw := List.mem_filter.mpr ⟨List.mem_of_getElem? (i := 501) (by decide +kernel), by decide +kernel⟩
theorem m_502 : (Jvm.Cond.fieldLink "CableSizesModel" (42 : Nat) "CableSizesModel" "far" "[I") ∈ bw := List.mem_filter.mpr ⟨List.mem_of_getElem? (i := 502) (by decide +kernel), by decide +kernel⟩
theorem m_503 : (Jvm.Cond.fieldLink "CableSizesModel" (45 : Nat) "CableSizesModel" "ways" "[I") ∈ bw := List.mem_filter.mpr ⟨List.mem_of_getElem? (i := 503) (by decide +kernel), by decide +kernel⟩
theorem m_504 : (Jvm.Cond.fieldLink "CableSizesModel" (48 : Nat) "CableSizesModel" "long0" "[I") ∈ bw := List.mem_filter.mpr ⟨List.mem_of_getElem? (i := 504) (by decide +kernel), by decide +kernel⟩
theorem m_505 : (Jvm.Cond.fieldLink "CableSizesModel" (51 : Nat) "CableSizesModel" "chosen" "[I") ∈ bw := List.mem_filter.mpr ⟨List.mem_of_getElem? (i := 505) (by decide +kernel), by decide +kernel⟩
theorem m_506 : (Jvm.Cond.fieldLink "CableSizesModel" (54 : Nat) "CableSizesModel" "bad" "[Z") ∈ bw := List.mem_filter.mpr ⟨List.mem_of_getElem? (i := 506) (by decide +kernel), by decide +kernel⟩
theorem m_546 : (Jvm.Cond.arrayClass Jvm.ClassFile.FieldType.boolean) ∈ bw := List.mem_filter.mpr ⟨List.mem_of_getElem? (i := 546) (by decide +kernel), by decide +kernel⟩
theorem m_547 : (Jvm.Cond.methodLink "CableSizesLaw" (63 : Nat) ({ cls := "CableSizesModel", name := "thrown", desc := "()I" } : Jvm.MethodName)) ∈ bw := List.mem_filter.mpr ⟨List.mem_of_getElem? (i := 547) (by decide +kernel), by decide +kernel⟩
theorem m_548 : (Jvm.Cond.instanceMethod ({ cls := "CableSizesModel", name := "thrown", desc := "()I" } : Jvm.MethodName)) ∈ bw := List.mem_filter.mpr ⟨List.mem_of_getElem? (i := 548) (by decide +kernel), by decide +kernel⟩
theorem m_549 : (Jvm.Cond.selects "CableSizesModel" ({ cls := "CableSizesModel", name := "thrown", desc := "()I" } : Jvm.MethodName) ({ cls := "CableSizesModel", name := "thrown", desc := "()I" } : Jvm.MethodName)) ∈ bw := List.mem_filter.mpr ⟨List.mem_of_getElem? (i := 549) (by decide +kernel), by decide +kernel⟩
theorem m_550 : (Jvm.Cond.code ({ cls := "CableSizesModel", name := "thrown", desc := "()I" } : Jvm.MethodName) prog_7_method_2_code (1 : Nat) (Option.some Jvm.ClassFile.FieldType.int)) ∈ bw := List.mem_filter.mpr ⟨List.mem_of_getElem? (i := 550) (by decide +kernel), by decide +kernel⟩
theorem m_551 : (Jvm.Cond.methodLink "CableSizesLaw" (62 : Nat) ({ cls := "CableSizesModel", name := "tray", desc := "(IIII)I" } : Jvm.MethodName)) ∈ bw := List.mem_filter.mpr ⟨List.mem_of_getElem? (i := 551) (by decide +kernel), by decide +kernel⟩
theorem m_552 : (Jvm.Cond.instanceMethod ({ cls := "CableSizesModel", name := "tray", desc := "(IIII)I" } : Jvm.MethodName)) ∈ bw := List.mem_filter.mpr ⟨List.mem_of_getElem? (i := 552) (by decide +kernel), by decide +kernel⟩
theorem m_553 : (Jvm.Cond.selects "CableSizesModel" ({ cls := "CableSizesModel", name := "tray", desc := "(IIII)I" } : Jvm.MethodName) ({ cls := "CableSizesModel", name := "tray", desc := "(IIII)I" } : Jvm.MethodName)) ∈ bw := List.mem_filter.mpr ⟨List.mem_of_getElem? (i := 553) (by decide +kernel), by decide +kernel⟩
theorem m_554 : (Jvm.Cond.code ({ cls := "CableSizesModel", name := "tray", desc := "(IIII)I" } : Jvm.MethodName) prog_7_method_5_code (6 : Nat) (Option.some Jvm.ClassFile.FieldType.int)) ∈ bw := List.mem_filter.mpr ⟨List.mem_of_getElem? (i := 554) (by decide +kernel), by decide +kernel⟩
theorem m_555 : (Jvm.Cond.methodLink "CableSizesModel" (61 : Nat) ({ cls := "CableSizesModel", name := "isNode", desc := "(I)Z" } : Jvm.MethodName)) ∈ bw := List.mem_filter.mpr ⟨List.mem_of_getElem? (i := 555) (by decide +kernel), by decide +kernel⟩
theorem m_556 : (Jvm.Cond.static ({ cls := "CableSizesModel", name := "isNode", desc := "(I)Z" } : Jvm.MethodName)) ∈ bw := List.mem_filter.mpr ⟨List.mem_of_getElem? (i := 556) (by decide +kernel), by decide +kernel⟩
theorem m_557 : (Jvm.Cond.code ({ cls := "CableSizesModel", name := "isNode", desc := "(I)Z" } : Jvm.MethodName) prog_7_method_4_code (1 : Nat) (Option.some Jvm.ClassFile.FieldType.boolean)) ∈ bw := List.mem_filter.mpr ⟨List.mem_of_getElem? (i := 557) (by decide +kernel), by decide +kernel⟩
theorem m_558 : (Jvm.Cond.constantLong "CableSizesModel" (65 : Nat) (100 : Int64)) ∈ bw := List.mem_filter.mpr ⟨List.mem_of_getElem? (i := 558) (by decide +kernel), by decide +kernel⟩
theorem m_559 : (Jvm.Cond.methodLink "CableSizesModel" (67 : Nat) ({ cls := "CableSizesModel", name := "isIn", desc := "(JJJ)Z" } : Jvm.MethodName)) ∈ bw := List.mem_filter.mpr ⟨List.mem_of_getElem? (i := 559) (by decide +kernel), by decide +kernel⟩
theorem m_560 : (Jvm.Cond.static ({ cls := "CableSizesModel", name := "isIn", desc := "(JJJ)Z" } : Jvm.MethodName)) ∈ bw := List.mem_filter.mpr ⟨List.mem_of_getElem? (i := 560) (by decide +kernel), by decide +kernel⟩
theorem m_561 : (Jvm.Cond.code ({ cls := "CableSizesModel", name := "isIn", desc := "(JJJ)Z" } : Jvm.MethodName) prog_7_method_3_code (6 : Nat) (Option.some Jvm.ClassFile.FieldType.boolean)) ∈ bw := List.mem_filter.mpr ⟨List.mem_of_getElem? (i := 561) (by decide +kernel), by decide +kernel⟩
theorem m_562 : (Jvm.Cond.constantLong "CableSizesModel" (71 : Nat) (1000 : Int64)) ∈ bw := List.mem_filter.mpr ⟨List.mem_of_getElem? (i := 562) (by decide +kernel), by decide +kernel⟩
theorem m_563 : (Jvm.Cond.methodLink "CableSizesLaw" (70 : Nat) ({ cls := "CableSizesModel", name := "size", desc := "(III)I" } : Jvm.MethodName)) ∈ bw := List.mem_filter.mpr ⟨List.mem_of_getElem? (i := 563) (by decide +kernel), by decide +kernel⟩
theorem m_564 : (Jvm.Cond.instanceMethod ({ cls := "CableSizesModel", name := "size", desc := "(III)I" } : Jvm.MethodName)) ∈ bw := List.mem_filter.mpr ⟨List.mem_of_getElem? (i := 564) (by decide +kernel), by decide +kernel⟩
theorem m_565 : (Jvm.Cond.selects "CableSizesModel" ({ cls := "CableSizesModel", name := "size", desc := "(III)I" } : Jvm.MethodName) ({ cls := "CableSizesModel", name := "size", desc := "(III)I" } : Jvm.MethodName)) ∈ bw := List.mem_filter.mpr ⟨List.mem_of_getElem? (i := 565) (by decide +kernel), by decide +kernel⟩
theorem m_566 : (Jvm.Cond.code ({ cls := "CableSizesModel", name := "size", desc := "(III)I" } : Jvm.MethodName) prog_7_method_6_code (6 : Nat) (Option.some Jvm.ClassFile.FieldType.int)) ∈ bw := List.mem_filter.mpr ⟨List.mem_of_getElem? (i := 566) (by decide +kernel), by decide +kernel⟩
theorem m_567 : (Jvm.Cond.methodLink "CableSizesLaw" (73 : Nat) ({ cls := "CableSizesModel", name := "cable", desc := "(III)I" } : Jvm.MethodName)) ∈ bw := List.mem_filter.mpr ⟨List.mem_of_getElem? (i := 567) (by decide +kernel), by decide +kernel⟩
theorem m_568 : (Jvm.Cond.instanceMethod ({ cls := "CableSizesModel", name := "cable", desc := "(III)I" } : Jvm.MethodName)) ∈ bw := List.mem_filter.mpr ⟨List.mem_of_getElem? (i := 568) (by decide +kernel), by decide +kernel⟩
theorem m_569 : (Jvm.Cond.selects "CableSizesModel" ({ cls := "CableSizesModel", name := "cable", desc := "(III)I" } : Jvm.MethodName) ({ cls := "CableSizesModel", name := "cable", desc := "(III)I" } : Jvm.MethodName)) ∈ bw := List.mem_filter.mpr ⟨List.mem_of_getElem? (i := 569) (by decide +kernel), by decide +kernel⟩
theorem m_570 : (Jvm.Cond.code ({ cls := "CableSizesModel", name := "cable", desc := "(III)I" } : Jvm.MethodName) prog_7_method_7_code (5 : Nat) (Option.some Jvm.ClassFile.FieldType.int)) ∈ bw := List.mem_filter.mpr ⟨List.mem_of_getElem? (i := 570) (by decide +kernel), by decide +kernel⟩
theorem m_571 : (Jvm.Cond.methodLink "CableSizesLaw" (77 : Nat) ({ cls := "CableSizesModel", name := "current", desc := "(II)I" } : Jvm.MethodName)) ∈ bw := List.mem_filter.mpr ⟨List.mem_of_getElem? (i := 571) (by decide +kernel), by decide +kernel⟩
theorem m_572 : (Jvm.Cond.instanceMethod ({ cls := "CableSizesModel", name := "current", desc := "(II)I" } : Jvm.MethodName)) ∈ bw := List.mem_filter.mpr ⟨List.mem_of_getElem? (i := 572) (by decide +kernel), by decide +kernel⟩
theorem m_573 : (Jvm.Cond.selects "CableSizesModel" ({ cls := "CableSizesModel", name := "current", desc := "(II)I" } : Jvm.MethodName) ({ cls := "CableSizesModel", name := "current", desc := "(II)I" } : Jvm.MethodName)) ∈ bw := List.mem_filter.mpr ⟨List.mem_of_getElem? (i := 573) (by decide +kernel), by decide +kernel⟩
theorem m_574 : (Jvm.Cond.code ({ cls := "CableSizesModel", name := "current", desc := "(II)I" } : Jvm.MethodName) prog_7_method_10_code (4 : Nat) (Option.some Jvm.ClassFile.FieldType.int)) ∈ bw := List.mem_filter.mpr ⟨List.mem_of_getElem? (i := 574) (by decide +kernel), by decide +kernel⟩
theorem m_575 : (Jvm.Cond.methodLink "CableSizesModel" (82 : Nat) ({ cls := "CableSizesModel", name := "noCable", desc := "(I)Z" } : Jvm.MethodName)) ∈ bw := List.mem_filter.mpr ⟨List.mem_of_getElem? (i := 575) (by decide +kernel), by decide +kernel⟩
theorem m_577 : (Jvm.Cond.instanceMethod ({ cls := "CableSizesModel", name := "noCable", desc := "(I)Z" } : Jvm.MethodName)) ∈ bw := List.mem_filter.mpr ⟨List.mem_of_getElem? (i := 577) (by decide +kernel), by decide +kernel⟩
theorem m_578 : (Jvm.Cond.code ({ cls := "CableSizesModel", name := "noCable", desc := "(I)Z" } : Jvm.MethodName) prog_7_method_8_code (2 : Nat) (Option.some Jvm.ClassFile.FieldType.boolean)) ∈ bw := List.mem_filter.mpr ⟨List.mem_of_getElem? (i := 578) (by decide +kernel), by decide +kernel⟩
theorem m_579 : (Jvm.Cond.methodLink "CableSizesLaw" (80 : Nat) ({ cls := "CableSizesModel", name := "room", desc := "(II)I" } : Jvm.MethodName)) ∈ bw := List.mem_filter.mpr ⟨List.mem_of_getElem? (i := 579) (by decide +kernel), by decide +kernel⟩
theorem m_580 : (Jvm.Cond.instanceMethod ({ cls := "CableSizesModel", name := "room", desc := "(II)I" } : Jvm.MethodName)) ∈ bw := List.mem_filter.mpr ⟨List.mem_of_getElem? (i := 580) (by decide +kernel), by decide +kernel⟩
theorem m_581 : (Jvm.Cond.selects "CableSizesModel" ({ cls := "CableSizesModel", name := "room", desc := "(II)I" } : Jvm.MethodName) ({ cls := "CableSizesModel", name := "room", desc := "(II)I" } : Jvm.MethodName)) ∈ bw := List.mem_filter.mpr ⟨List.mem_of_getElem? (i := 581) (by decide +kernel), by decide +kernel⟩
theorem m_582 : (Jvm.Cond.code ({ cls := "CableSizesModel", name := "room", desc := "(II)I" } : Jvm.MethodName) prog_7_method_11_code (4 : Nat) (Option.some Jvm.ClassFile.FieldType.int)) ∈ bw := List.mem_filter.mpr ⟨List.mem_of_getElem? (i := 582) (by decide +kernel), by decide +kernel⟩
theorem m_583 : (Jvm.Cond.methodLink "CableSizesModel" (85 : Nat) ({ cls := "CableSizesModel", name := "noTray", desc := "(I)Z" } : Jvm.MethodName)) ∈ bw := List.mem_filter.mpr ⟨List.mem_of_getElem? (i := 583) (by decide +kernel), by decide +kernel⟩
theorem m_585 : (Jvm.Cond.instanceMethod ({ cls := "CableSizesModel", name := "noTray", desc := "(I)Z" } : Jvm.MethodName)) ∈ bw := List.mem_filter.mpr ⟨List.mem_of_getElem? (i := 585) (by decide +kernel), by decide +kernel⟩
theorem m_586 : (Jvm.Cond.code ({ cls := "CableSizesModel", name := "noTray", desc := "(I)Z" } : Jvm.MethodName) prog_7_method_9_code (2 : Nat) (Option.some Jvm.ClassFile.FieldType.boolean)) ∈ bw := List.mem_filter.mpr ⟨List.mem_of_getElem? (i := 586) (by decide +kernel), by decide +kernel⟩
theorem m_587 : (Jvm.Cond.methodLink "CableSizesLaw" (84 : Nat) ({ cls := "CableSizesModel", name := "limit", desc := "(I)I" } : Jvm.MethodName)) ∈ bw := List.mem_filter.mpr ⟨List.mem_of_getElem? (i := 587) (by decide +kernel), by decide +kernel⟩
theorem m_588 : (Jvm.Cond.instanceMethod ({ cls := "CableSizesModel", name := "limit", desc := "(I)I" } : Jvm.MethodName)) ∈ bw := List.mem_filter.mpr ⟨List.mem_of_getElem? (i := 588) (by decide +kernel), by decide +kernel⟩
theorem m_589 : (Jvm.Cond.selects "CableSizesModel" ({ cls := "CableSizesModel", name := "limit", desc := "(I)I" } : Jvm.MethodName) ({ cls := "CableSizesModel", name := "limit", desc := "(I)I" } : Jvm.MethodName)) ∈ bw := List.mem_filter.mpr ⟨List.mem_of_getElem? (i := 589) (by decide +kernel), by decide +kernel⟩
theorem m_590 : (Jvm.Cond.code ({ cls := "CableSizesModel", name := "limit", desc := "(I)I" } : Jvm.MethodName) prog_7_method_12_code (3 : Nat) (Option.some Jvm.ClassFile.FieldType.int)) ∈ bw := List.mem_filter.mpr ⟨List.mem_of_getElem? (i := 590) (by decide +kernel), by decide +kernel⟩
theorem m_591 : (Jvm.Cond.constantLong "CableSizesModel" (88 : Nat) (1000000 : Int64)) ∈ bw := List.mem_filter.mpr ⟨List.mem_of_getElem? (i := 591) (by decide +kernel), by decide +kernel⟩
theorem m_592 : (Jvm.Cond.methodLink "CableSizesLaw" (87 : Nat) ({ cls := "CableSizesModel", name := "way", desc := "(I)I" } : Jvm.MethodName)) ∈ bw := List.mem_filter.mpr ⟨List.mem_of_getElem? (i := 592) (by decide +kernel), by decide +kernel⟩
theorem m_593 : (Jvm.Cond.instanceMethod ({ cls := "CableSizesModel", name := "way", desc := "(I)I" } : Jvm.MethodName)) ∈ bw := List.mem_filter.mpr ⟨List.mem_of_getElem? (i := 593) (by decide +kernel), by decide +kernel⟩
theorem m_594 : (Jvm.Cond.selects "CableSizesModel" ({ cls := "CableSizesModel", name := "way", desc := "(I)I" } : Jvm.MethodName) ({ cls := "CableSizesModel", name := "way", desc := "(I)I" } : Jvm.MethodName)) ∈ bw := List.mem_filter.mpr ⟨List.mem_of_getElem? (i := 594) (by decide +kernel), by decide +kernel⟩
theorem m_595 : (Jvm.Cond.code ({ cls := "CableSizesModel", name := "way", desc := "(I)I" } : Jvm.MethodName) prog_7_method_17_code (2 : Nat) (Option.some Jvm.ClassFile.FieldType.int)) ∈ bw := List.mem_filter.mpr ⟨List.mem_of_getElem? (i := 595) (by decide +kernel), by decide +kernel⟩
theorem m_596 : (Jvm.Cond.methodLink "CableSizesModel" (99 : Nat) ({ cls := "CableSizesModel", name := "goAll", desc := "()V" } : Jvm.MethodName)) ∈ bw := List.mem_filter.mpr ⟨List.mem_of_getElem? (i := 596) (by decide +kernel), by decide +kernel⟩
theorem m_598 : (Jvm.Cond.instanceMethod ({ cls := "CableSizesModel", name := "goAll", desc := "()V" } : Jvm.MethodName)) ∈ bw := List.mem_filter.mpr ⟨List.mem_of_getElem? (i := 598) (by decide +kernel), by decide +kernel⟩
theorem m_599 : (Jvm.Cond.code ({ cls := "CableSizesModel", name := "goAll", desc := "()V" } : Jvm.MethodName) prog_7_method_15_code (5 : Nat) (Option.none : Option Jvm.ClassFile.FieldType)) ∈ bw := List.mem_filter.mpr ⟨List.mem_of_getElem? (i := 599) (by decide +kernel), by decide +kernel⟩
theorem m_600 : (Jvm.Cond.methodLink "CableSizesModel" (91 : Nat) ({ cls := "CableSizesModel", name := "measure", desc := "(I)V" } : Jvm.MethodName)) ∈ bw := List.mem_filter.mpr ⟨List.mem_of_getElem? (i := 600) (by decide +kernel), by decide +kernel⟩
theorem m_602 : (Jvm.Cond.instanceMethod ({ cls := "CableSizesModel", name := "measure", desc := "(I)V" } : Jvm.MethodName)) ∈ bw := List.mem_filter.mpr ⟨List.mem_of_getElem? (i := 602) (by decide +kernel), by decide +kernel⟩
theorem m_603 : (Jvm.Cond.code ({ cls := "CableSizesModel", name := "measure", desc := "(I)V" } : Jvm.MethodName) prog_7_method_14_code (6 : Nat) (Option.none : Option Jvm.ClassFile.FieldType)) ∈ bw := List.mem_filter.mpr ⟨List.mem_of_getElem? (i := 603) (by decide +kernel), by decide +kernel⟩
theorem m_604 : (Jvm.Cond.constant "CableSizesModel" (90 : Nat) (1000000 : Int32)) ∈ bw := List.mem_filter.mpr ⟨List.mem_of_getElem? (i := 604) (by decide +kernel), by decide +kernel⟩
theorem m_605 : (Jvm.Cond.methodLink "CableSizesModel" (95 : Nat) ({ cls := "CableSizesModel", name := "behind", desc := "(II)I" } : Jvm.MethodName)) ∈ bw := List.mem_filter.mpr ⟨List.mem_of_getElem? (i := 605) (by decide +kernel), by decide +kernel⟩
theorem m_607 : (Jvm.Cond.instanceMethod ({ cls := "CableSizesModel", name := "behind", desc := "(II)I" } : Jvm.MethodName)) ∈ bw := List.mem_filter.mpr ⟨List.mem_of_getElem? (i := 607) (by decide +kernel), by decide +kernel⟩
theorem m_608 : (Jvm.Cond.code ({ cls := "CableSizesModel", name := "behind", desc := "(II)I" } : Jvm.MethodName) prog_7_method_13_code (3 : Nat) (Option.some Jvm.ClassFile.FieldType.int)) ∈ bw := List.mem_filter.mpr ⟨List.mem_of_getElem? (i := 608) (by decide +kernel), by decide +kernel⟩
theorem m_609 : (Jvm.Cond.methodLink "CableSizesLaw" (90 : Nat) ({ cls := "CableSizesModel", name := "way", desc := "(II)I" } : Jvm.MethodName)) ∈ bw := List.mem_filter.mpr ⟨List.mem_of_getElem? (i := 609) (by decide +kernel), by decide +kernel⟩
theorem m_610 : (Jvm.Cond.instanceMethod ({ cls := "CableSizesModel", name := "way", desc := "(II)I" } : Jvm.MethodName)) ∈ bw := List.mem_filter.mpr ⟨List.mem_of_getElem? (i := 610) (by decide +kernel), by decide +kernel⟩
theorem m_611 : (Jvm.Cond.selects "CableSizesModel" ({ cls := "CableSizesModel", name := "way", desc := "(II)I" } : Jvm.MethodName) ({ cls := "CableSizesModel", name := "way", desc := "(II)I" } : Jvm.MethodName)) ∈ bw := List.mem_filter.mpr ⟨List.mem_of_getElem? (i := 611) (by decide +kernel), by decide +kernel⟩
theorem m_612 : (Jvm.Cond.code ({ cls := "CableSizesModel", name := "way", desc := "(II)I" } : Jvm.MethodName) prog_7_method_18_code (4 : Nat) (Option.some Jvm.ClassFile.FieldType.int)) ∈ bw := List.mem_filter.mpr ⟨List.mem_of_getElem? (i := 612) (by decide +kernel), by decide +kernel⟩
theorem m_613 : (Jvm.Cond.methodLink "CableSizesLaw" (95 : Nat) ({ cls := "CableSizesModel", name := "settled", desc := "()Z" } : Jvm.MethodName)) ∈ bw := List.mem_filter.mpr ⟨List.mem_of_getElem? (i := 613) (by decide +kernel), by decide +kernel⟩
theorem m_614 : (Jvm.Cond.instanceMethod ({ cls := "CableSizesModel", name := "settled", desc := "()Z" } : Jvm.MethodName)) ∈ bw := List.mem_filter.mpr ⟨List.mem_of_getElem? (i := 614) (by decide +kernel), by decide +kernel⟩
theorem m_615 : (Jvm.Cond.selects "CableSizesModel" ({ cls := "CableSizesModel", name := "settled", desc := "()Z" } : Jvm.MethodName) ({ cls := "CableSizesModel", name := "settled", desc := "()Z" } : Jvm.MethodName)) ∈ bw := List.mem_filter.mpr ⟨List.mem_of_getElem? (i := 615) (by decide +kernel), by decide +kernel⟩
theorem m_616 : (Jvm.Cond.code ({ cls := "CableSizesModel", name := "settled", desc := "()Z" } : Jvm.MethodName) prog_7_method_25_code (1 : Nat) (Option.some Jvm.ClassFile.FieldType.boolean)) ∈ bw := List.mem_filter.mpr ⟨List.mem_of_getElem? (i := 616) (by decide +kernel), by decide +kernel⟩
theorem m_617 : (Jvm.Cond.methodLink "CableSizesModel" (122 : Nat) ({ cls := "CableSizesModel", name := "choose", desc := "()Z" } : Jvm.MethodName)) ∈ bw := List.mem_filter.mpr ⟨List.mem_of_getElem? (i := 617) (by decide +kernel), by decide +kernel⟩
theorem m_619 : (Jvm.Cond.instanceMethod ({ cls := "CableSizesModel", name := "choose", desc := "()Z" } : Jvm.MethodName)) ∈ bw := List.mem_filter.mpr ⟨List.mem_of_getElem? (i := 619) (by decide +kernel), by decide +kernel⟩
theorem m_620 : (Jvm.Cond.code ({ cls := "CableSizesModel", name := "choose", desc := "()Z" } : Jvm.MethodName) prog_7_method_24_code (3 : Nat) (Option.some Jvm.ClassFile.FieldType.boolean)) ∈ bw := List.mem_filter.mpr ⟨List.mem_of_getElem? (i := 620) (by decide +kernel), by decide +kernel⟩
theorem m_621 : (Jvm.Cond.methodLink "CableSizesModel" (119 : Nat) ({ cls := "CableSizesModel", name := "isRight", desc := "(I)Z" } : Jvm.MethodName)) ∈ bw := List.mem_filter.mpr ⟨List.mem_of_getElem? (i := 621) (by decide +kernel), by decide +kernel⟩
theorem m_623 : (Jvm.Cond.instanceMethod ({ cls := "CableSizesModel", name := "isRight", desc := "(I)Z" } : Jvm.MethodName)) ∈ bw := List.mem_filter.mpr ⟨List.mem_of_getElem? (i := 623) (by decide +kernel), by decide +kernel⟩
theorem m_624 : (Jvm.Cond.code ({ cls := "CableSizesModel", name := "isRight", desc := "(I)Z" } : Jvm.MethodName) prog_7_method_23_code (2 : Nat) (Option.some Jvm.ClassFile.FieldType.boolean)) ∈ bw := List.mem_filter.mpr ⟨List.mem_of_getElem? (i := 624) (by decide +kernel), by decide +kernel⟩
theorem m_625 : (Jvm.Cond.methodLink "CableSizesModel" (113 : Nat) ({ cls := "CableSizesModel", name := "carries", desc := "(I)I" } : Jvm.MethodName)) ∈ bw := List.mem_filter.mpr ⟨List.mem_of_getElem? (i := 625) (by decide +kernel), by decide +kernel⟩
theorem m_627 : (Jvm.Cond.instanceMethod ({ cls := "CableSizesModel", name := "carries", desc := "(I)I" } : Jvm.MethodName)) ∈ bw := List.mem_filter.mpr ⟨List.mem_of_getElem? (i := 627) (by decide +kernel), by decide +kernel⟩
theorem m_628 : (Jvm.Cond.code ({ cls := "CableSizesModel", name := "carries", desc := "(I)I" } : Jvm.MethodName) prog_7_method_21_code (5 : Nat) (Option.some Jvm.ClassFile.FieldType.int)) ∈ bw := List.mem_filter.mpr ⟨List.mem_of_getElem? (i := 628) (by decide +kernel), by decide +kernel⟩
theorem m_629 : (Jvm.Cond.methodLink "CableSizesModel" (110 : Nat) ({ cls := "CableSizesModel", name := "factor", desc := "(I)I" } : Jvm.MethodName)) ∈ bw := List.mem_filter.mpr ⟨List.mem_of_getElem? (i := 629) (by decide +kernel), by decide +kernel⟩
theorem m_631 : (Jvm.Cond.instanceMethod ({ cls := "CableSizesModel", name := "factor", desc := "(I)I" } : Jvm.MethodName)) ∈ bw := List.mem_filter.mpr ⟨List.mem_of_getElem? (i := 631) (by decide +kernel), by decide +kernel⟩
theorem m_632 : (Jvm.Cond.code ({ cls := "CableSizesModel", name := "factor", desc := "(I)I" } : Jvm.MethodName) prog_7_method_20_code (3 : Nat) (Option.some Jvm.ClassFile.FieldType.int)) ∈ bw := List.mem_filter.mpr ⟨List.mem_of_getElem? (i := 632) (by decide +kernel), by decide +kernel⟩
theorem m_633 : (Jvm.Cond.methodLink "CableSizesModel" (106 : Nat) ({ cls := "CableSizesModel", name := "fill", desc := "(I)I" } : Jvm.MethodName)) ∈ bw := List.mem_filter.mpr ⟨List.mem_of_getElem? (i := 633) (by decide +kernel), by decide +kernel⟩
theorem m_635 : (Jvm.Cond.instanceMethod ({ cls := "CableSizesModel", name := "fill", desc := "(I)I" } : Jvm.MethodName)) ∈ bw := List.mem_filter.mpr ⟨List.mem_of_getElem? (i := 635) (by decide +kernel), by decide +kernel⟩
theorem m_636 : (Jvm.Cond.code ({ cls := "CableSizesModel", name := "fill", desc := "(I)I" } : Jvm.MethodName) prog_7_method_19_code (4 : Nat) (Option.some Jvm.ClassFile.FieldType.int)) ∈ bw := List.mem_filter.mpr ⟨List.mem_of_getElem? (i := 636) (by decide +kernel), by decide +kernel⟩
theorem m_637 : (Jvm.Cond.methodLink "CableSizesModel" (102 : Nat) ({ cls := "CableSizesModel", name := "isOn", desc := "(II)Z" } : Jvm.MethodName)) ∈ bw := List.mem_filter.mpr ⟨List.mem_of_getElem? (i := 637) (by decide +kernel), by decide +kernel⟩
theorem m_639 : (Jvm.Cond.instanceMethod ({ cls := "CableSizesModel", name := "isOn", desc := "(II)Z" } : Jvm.MethodName)) ∈ bw := List.mem_filter.mpr ⟨List.mem_of_getElem? (i := 639) (by decide +kernel), by decide +kernel⟩
theorem m_640 : (Jvm.Cond.code ({ cls := "CableSizesModel", name := "isOn", desc := "(II)Z" } : Jvm.MethodName) prog_7_method_16_code (4 : Nat) (Option.some Jvm.ClassFile.FieldType.boolean)) ∈ bw := List.mem_filter.mpr ⟨List.mem_of_getElem? (i := 640) (by decide +kernel), by decide +kernel⟩
theorem m_641 : (Jvm.Cond.methodLink "CableSizesModel" (116 : Nat) ({ cls := "CableSizesModel", name := "drop", desc := "(I)I" } : Jvm.MethodName)) ∈ bw := List.mem_filter.mpr ⟨List.mem_of_getElem? (i := 641) (by decide +kernel), by decide +kernel⟩
theorem m_643 : (Jvm.Cond.instanceMethod ({ cls := "CableSizesModel", name := "drop", desc := "(I)I" } : Jvm.MethodName)) ∈ bw := List.mem_filter.mpr ⟨List.mem_of_getElem? (i := 643) (by decide +kernel), by decide +kernel⟩
theorem m_644 : (Jvm.Cond.code ({ cls := "CableSizesModel", name := "drop", desc := "(I)I" } : Jvm.MethodName) prog_7_method_22_code (2 : Nat) (Option.some Jvm.ClassFile.FieldType.int)) ∈ bw := List.mem_filter.mpr ⟨List.mem_of_getElem? (i := 644) (by decide +kernel), by decide +kernel⟩
theorem m_645 : (Jvm.Cond.methodLink "CableSizesLaw" (98 : Nat) ({ cls := "CableSizesModel", name := "chosen", desc := "(I)I" } : Jvm.MethodName)) ∈ bw := List.mem_filter.mpr ⟨List.mem_of_getElem? (i := 645) (by decide +kernel), by decide +kernel⟩
theorem m_646 : (Jvm.Cond.instanceMethod ({ cls := "CableSizesModel", name := "chosen", desc := "(I)I" } : Jvm.MethodName)) ∈ bw := List.mem_filter.mpr ⟨List.mem_of_getElem? (i := 646) (by decide +kernel), by decide +kernel⟩
theorem m_647 : (Jvm.Cond.selects "CableSizesModel" ({ cls := "CableSizesModel", name := "chosen", desc := "(I)I" } : Jvm.MethodName) ({ cls := "CableSizesModel", name := "chosen", desc := "(I)I" } : Jvm.MethodName)) ∈ bw := List.mem_filter.mpr ⟨List.mem_of_getElem? (i := 647) (by decide +kernel), by decide +kernel⟩
theorem m_648 : (Jvm.Cond.code ({ cls := "CableSizesModel", name := "chosen", desc := "(I)I" } : Jvm.MethodName) prog_7_method_26_code (2 : Nat) (Option.some Jvm.ClassFile.FieldType.int)) ∈ bw := List.mem_filter.mpr ⟨List.mem_of_getElem? (i := 648) (by decide +kernel), by decide +kernel⟩
theorem m_649 : (Jvm.Cond.methodLink "CableSizesLaw" (101 : Nat) ({ cls := "CableSizesModel", name := "told", desc := "(II)I" } : Jvm.MethodName)) ∈ bw := List.mem_filter.mpr ⟨List.mem_of_getElem? (i := 649) (by decide +kernel), by decide +kernel⟩
theorem m_650 : (Jvm.Cond.instanceMethod ({ cls := "CableSizesModel", name := "told", desc := "(II)I" } : Jvm.MethodName)) ∈ bw := List.mem_filter.mpr ⟨List.mem_of_getElem? (i := 650) (by decide +kernel), by decide +kernel⟩
theorem m_651 : (Jvm.Cond.selects "CableSizesModel" ({ cls := "CableSizesModel", name := "told", desc := "(II)I" } : Jvm.MethodName) ({ cls := "CableSizesModel", name := "told", desc := "(II)I" } : Jvm.MethodName)) ∈ bw := List.mem_filter.mpr ⟨List.mem_of_getElem? (i := 651) (by decide +kernel), by decide +kernel⟩
theorem m_652 : (Jvm.Cond.code ({ cls := "CableSizesModel", name := "told", desc := "(II)I" } : Jvm.MethodName) prog_7_method_27_code (6 : Nat) (Option.some Jvm.ClassFile.FieldType.int)) ∈ bw := List.mem_filter.mpr ⟨List.mem_of_getElem? (i := 652) (by decide +kernel), by decide +kernel⟩
theorem m_653 : (Jvm.Cond.constantLong "CableSizesModel" (126 : Nat) (2 : Int64)) ∈ bw := List.mem_filter.mpr ⟨List.mem_of_getElem? (i := 653) (by decide +kernel), by decide +kernel⟩
theorem m_654 : (Jvm.Cond.methodLink "CableSizesLaw" (104 : Nat) ({ cls := "CableSizesModel", name := "cableAt", desc := "(II)I" } : Jvm.MethodName)) ∈ bw := List.mem_filter.mpr ⟨List.mem_of_getElem? (i := 654) (by decide +kernel), by decide +kernel⟩
theorem m_655 : (Jvm.Cond.instanceMethod ({ cls := "CableSizesModel", name := "cableAt", desc := "(II)I" } : Jvm.MethodName)) ∈ bw := List.mem_filter.mpr ⟨List.mem_of_getElem? (i := 655) (by decide +kernel), by decide +kernel⟩
theorem m_656 : (Jvm.Cond.selects "CableSizesModel" ({ cls := "CableSizesModel", name := "cableAt", desc := "(II)I" } : Jvm.MethodName) ({ cls := "CableSizesModel", name := "cableAt", desc := "(II)I" } : Jvm.MethodName)) ∈ bw := List.mem_filter.mpr ⟨List.mem_of_getElem? (i := 656) (by decide +kernel), by decide +kernel⟩
theorem m_657 : (Jvm.Cond.code ({ cls := "CableSizesModel", name := "cableAt", desc := "(II)I" } : Jvm.MethodName) prog_7_method_28_code (3 : Nat) (Option.some Jvm.ClassFile.FieldType.int)) ∈ bw := List.mem_filter.mpr ⟨List.mem_of_getElem? (i := 657) (by decide +kernel), by decide +kernel⟩
theorem m_658 : (Jvm.Cond.methodLink "CableSizesLaw" (108 : Nat) ({ cls := "CableSizesModel", name := "copper", desc := "()I" } : Jvm.MethodName)) ∈ bw := List.mem_filter.mpr ⟨List.mem_of_getElem? (i := 658) (by decide +kernel), by decide +kernel⟩
theorem m_659 : (Jvm.Cond.instanceMethod ({ cls := "CableSizesModel", name := "copper", desc := "()I" } : Jvm.MethodName)) ∈ bw := List.mem_filter.mpr ⟨List.mem_of_getElem? (i := 659) (by decide +kernel), by decide +kernel⟩
theorem m_660 : (Jvm.Cond.selects "CableSizesModel" ({ cls := "CableSizesModel", name := "copper", desc := "()I" } : Jvm.MethodName) ({ cls := "CableSizesModel", name := "copper", desc := "()I" } : Jvm.MethodName)) ∈ bw := List.mem_filter.mpr ⟨List.mem_of_getElem? (i := 660) (by decide +kernel), by decide +kernel⟩
theorem m_661 : (Jvm.Cond.code ({ cls := "CableSizesModel", name := "copper", desc := "()I" } : Jvm.MethodName) prog_7_method_29_code (3 : Nat) (Option.some Jvm.ClassFile.FieldType.int)) ∈ bw := List.mem_filter.mpr ⟨List.mem_of_getElem? (i := 661) (by decide +kernel), by decide +kernel⟩
theorem m_662 : (Jvm.Cond.methodLink "CableSizesLaw" (114 : Nat) ({ cls := "CableSizesModel", name := "right", desc := "(J)Z" } : Jvm.MethodName)) ∈ bw := List.mem_filter.mpr ⟨List.mem_of_getElem? (i := 662) (by decide +kernel), by decide +kernel⟩
theorem m_663 : (Jvm.Cond.instanceMethod ({ cls := "CableSizesModel", name := "right", desc := "(J)Z" } : Jvm.MethodName)) ∈ bw := List.mem_filter.mpr ⟨List.mem_of_getElem? (i := 663) (by decide +kernel), by decide +kernel⟩
theorem m_664 : (Jvm.Cond.selects "CableSizesModel" ({ cls := "CableSizesModel", name := "right", desc := "(J)Z" } : Jvm.MethodName) ({ cls := "CableSizesModel", name := "right", desc := "(J)Z" } : Jvm.MethodName)) ∈ bw := List.mem_filter.mpr ⟨List.mem_of_getElem? (i := 664) (by decide +kernel), by decide +kernel⟩
theorem m_665 : (Jvm.Cond.code ({ cls := "CableSizesModel", name := "right", desc := "(J)Z" } : Jvm.MethodName) prog_7_method_30_code (8 : Nat) (Option.some Jvm.ClassFile.FieldType.boolean)) ∈ bw := List.mem_filter.mpr ⟨List.mem_of_getElem? (i := 665) (by decide +kernel), by decide +kernel⟩
theorem m_666 : (Jvm.Cond.constantLong "CableSizesModel" (128 : Nat) (6 : Int64)) ∈ bw := List.mem_filter.mpr ⟨List.mem_of_getElem? (i := 666) (by decide +kernel), by decide +kernel⟩
theorem m_667 : (Jvm.Cond.constantLong "CableSizesLaw" (109 : Nat) (4294967295 : Int64)) ∈ bw := List.mem_filter.mpr ⟨List.mem_of_getElem? (i := 667) (by decide +kernel), by decide +kernel⟩
theorem m_668 : (Jvm.Cond.arrayClass Jvm.ClassFile.FieldType.long) ∈ bw := List.mem_filter.mpr ⟨List.mem_of_getElem? (i := 668) (by decide +kernel), by decide +kernel⟩
end
section
theorem dX3_init_0 : decode cX3_init 0 = .ok (.aload_n 0, 1) := by decide +kernel
theorem dX3_init_1 : decode cX3_init 1 = .ok (.invokespecial 3, 3) := by decide +kernel
theorem dX3_init_4 : decode cX3_init 4 = .ok (.aload_n 0, 1) := by decide +kernel
theorem dX3_init_5 : decode cX3_init 5 = .ok (.iconst 0, 1) := by decide +kernel
theorem dX3_init_6 : decode cX3_init 6 = .ok (.putfield 9, 3) := by decide +kernel
theorem dX3_init_9 : decode cX3_init 9 = .ok (.aload_n 0, 1) := by decide +kernel
theorem dX3_init_10 : decode cX3_init 10 = .ok (.bipush 15, 2) := by decide +kernel
theorem dX3_init_12 : decode cX3_init 12 = .ok (.newarray .int, 2) := by decide +kernel
theorem dX3_init_14 : decode cX3_init 14 = .ok (.putfield 15, 3) := by decide +kernel
theorem dX3_init_17 : decode cX3_init 17 = .ok (.aload_n 0, 1) := by decide +kernel
theorem dX3_init_18 : decode cX3_init 18 = .ok (.bipush 15, 2) := by decide +kernel
theorem dX3_init_20 : decode cX3_init 20 = .ok (.newarray .int, 2) := by decide +kernel
theorem dX3_init_22 : decode cX3_init 22 = .ok (.putfield 19, 3) := by decide +kernel
theorem dX3_init_25 : decode cX3_init 25 = .ok (.aload_n 0, 1) := by decide +kernel
theorem dX3_init_26 : decode cX3_init 26 = .ok (.bipush 15, 2) := by decide +kernel
theorem dX3_init_28 : decode cX3_init 28 = .ok (.newarray .int, 2) := by decide +kernel
theorem dX3_init_30 : decode cX3_init 30 = .ok (.putfield 22, 3) := by decide +kernel
theorem dX3_init_33 : decode cX3_init 33 = .ok (.aload_n 0, 1) := by decide +kernel
theorem dX3_init_34 : decode cX3_init 34 = .ok (.bipush 15, 2) := by decide +kernel
theorem dX3_init_36 : decode cX3_init 36 = .ok (.newarray .int, 2) := by decide +kernel
theorem dX3_init_38 : decode cX3_init 38 = .ok (.putfield 25, 3) := by decide +kernel
theorem dX3_init_41 : decode cX3_init 41 = .ok (.aload_n 0, 1) := by decide +kernel
theorem dX3_init_42 : decode cX3_init 42 = .ok (.bipush 10, 2) := by decide +kernel
theorem dX3_init_44 : decode cX3_init 44 = .ok (.newarray .int, 2) := by decide +kernel
theorem dX3_init_46 : decode cX3_init 46 = .ok (.putfield 28, 3) := by decide +kernel
theorem dX3_init_49 : decode cX3_init 49 = .ok (.return_, 1) := by decide +kernel
theorem dX1_init_0 : decode cX1_init 0 = .ok (.aload_n 0, 1) := by decide +kernel
theorem dX1_init_1 : decode cX1_init 1 = .ok (.invokespecial 3, 3) := by decide +kernel
theorem dX1_init_4 : decode cX1_init 4 = .ok (.aload_n 0, 1) := by decide +kernel
theorem dX1_init_5 : decode cX1_init 5 = .ok (.iconst 0, 1) := by decide +kernel
theorem dX1_init_6 : decode cX1_init 6 = .ok (.putfield 9, 3) := by decide +kernel
theorem dX1_init_9 : decode cX1_init 9 = .ok (.aload_n 0, 1) := by decide +kernel
theorem dX1_init_10 : decode cX1_init 10 = .ok (.bipush 6, 2) := by decide +kernel
theorem dX1_init_12 : decode cX1_init 12 = .ok (.newarray .int, 2) := by decide +kernel
theorem dX1_init_14 : decode cX1_init 14 = .ok (.putfield 15, 3) := by decide +kernel
theorem dX1_init_17 : decode cX1_init 17 = .ok (.aload_n 0, 1) := by decide +kernel
theorem dX1_init_18 : decode cX1_init 18 = .ok (.bipush 6, 2) := by decide +kernel
theorem dX1_init_20 : decode cX1_init 20 = .ok (.newarray .int, 2) := by decide +kernel
theorem dX1_init_22 : decode cX1_init 22 = .ok (.putfield 19, 3) := by decide +kernel
theorem dX1_init_25 : decode cX1_init 25 = .ok (.aload_n 0, 1) := by decide +kernel
theorem dX1_init_26 : decode cX1_init 26 = .ok (.bipush 6, 2) := by decide +kernel
theorem dX1_init_28 : decode cX1_init 28 = .ok (.newarray .int, 2) := by decide +kernel
theorem dX1_init_30 : decode cX1_init 30 = .ok (.putfield 22, 3) := by decide +kernel
theorem dX1_init_33 : decode cX1_init 33 = .ok (.return_, 1) := by decide +kernel
theorem dX0_init_0 : decode cX0_init 0 = .ok (.aload_n 0, 1) := by decide +kernel
theorem dX0_init_1 : decode cX0_init 1 = .ok (.invokespecial 3, 3) := by decide +kernel
theorem dX0_init_4 : decode cX0_init 4 = .ok (.aload_n 0, 1) := by decide +kernel
theorem dX0_init_5 : decode cX0_init 5 = .ok (.iconst 0, 1) := by decide +kernel
theorem dX0_init_6 : decode cX0_init 6 = .ok (.putfield 9, 3) := by decide +kernel
theorem dX0_init_9 : decode cX0_init 9 = .ok (.aload_n 0, 1) := by decide +kernel
theorem dX0_init_10 : decode cX0_init 10 = .ok (.bipush 20, 2) := by decide +kernel
theorem dX0_init_12 : decode cX0_init 12 = .ok (.newarray .int, 2) := by decide +kernel
theorem dX0_init_14 : decode cX0_init 14 = .ok (.putfield 15, 3) := by decide +kernel
theorem dX0_init_17 : decode cX0_init 17 = .ok (.aload_n 0, 1) := by decide +kernel
theorem dX0_init_18 : decode cX0_init 18 = .ok (.bipush 20, 2) := by decide +kernel
theorem dX0_init_20 : decode cX0_init 20 = .ok (.newarray .int, 2) := by decide +kernel
theorem dX0_init_22 : decode cX0_init 22 = .ok (.putfield 19, 3) := by decide +kernel
theorem dX0_init_25 : decode cX0_init 25 = .ok (.aload_n 0, 1) := by decide +kernel
theorem dX0_init_26 : decode cX0_init 26 = .ok (.bipush 20, 2) := by decide +kernel
theorem dX0_init_28 : decode cX0_init 28 = .ok (.newarray .int, 2) := by decide +kernel
theorem dX0_init_30 : decode cX0_init 30 = .ok (.putfield 22, 3) := by decide +kernel
theorem dX0_init_33 : decode cX0_init 33 = .ok (.aload_n 0, 1) := by decide +kernel
theorem dX0_init_34 : decode cX0_init 34 = .ok (.bipush 20, 2) := by decide +kernel
theorem dX0_init_36 : decode cX0_init 36 = .ok (.newarray .int, 2) := by decide +kernel
theorem dX0_init_38 : decode cX0_init 38 = .ok (.putfield 25, 3) := by decide +kernel
theorem dX0_init_41 : decode cX0_init 41 = .ok (.aload_n 0, 1) := by decide +kernel
theorem dX0_init_42 : decode cX0_init 42 = .ok (.bipush 20, 2) := by decide +kernel
theorem dX0_init_44 : decode cX0_init 44 = .ok (.newarray .int, 2) := by decide +kernel
theorem dX0_init_46 : decode cX0_init 46 = .ok (.putfield 28, 3) := by decide +kernel
theorem dX0_init_49 : decode cX0_init 49 = .ok (.aload_n 0, 1) := by decide +kernel
theorem dX0_init_50 : decode cX0_init 50 = .ok (.bipush 20, 2) := by decide +kernel
theorem dX0_init_52 : decode cX0_init 52 = .ok (.bipush 9, 2) := by decide +kernel
theorem dX0_init_54 : decode cX0_init 54 = .ok (.multianewarray 31 2, 4) := by decide +kernel
theorem dX0_init_58 : decode cX0_init 58 = .ok (.putfield 33, 3) := by decide +kernel
theorem dX0_init_61 : decode cX0_init 61 = .ok (.return_, 1) := by decide +kernel
theorem dX2_init_0 : decode cX2_init 0 = .ok (.aload_n 0, 1) := by decide +kernel
theorem dX2_init_1 : decode cX2_init 1 = .ok (.invokespecial 3, 3) := by decide +kernel
theorem dX2_init_4 : decode cX2_init 4 = .ok (.aload_n 0, 1) := by decide +kernel
theorem dX2_init_5 : decode cX2_init 5 = .ok (.aload_n 1, 1) := by decide +kernel
theorem dX2_init_6 : decode cX2_init 6 = .ok (.putfield 9, 3) := by decide +kernel
theorem dX2_init_9 : decode cX2_init 9 = .ok (.aload_n 0, 1) := by decide +kernel
theorem dX2_init_10 : decode cX2_init 10 = .ok (.aload_n 2, 1) := by decide +kernel
theorem dX2_init_11 : decode cX2_init 11 = .ok (.putfield 15, 3) := by decide +kernel
theorem dX2_init_14 : decode cX2_init 14 = .ok (.aload_n 0, 1) := by decide +kernel
theorem dX2_init_15 : decode cX2_init 15 = .ok (.aload_n 3, 1) := by decide +kernel
theorem dX2_init_16 : decode cX2_init 16 = .ok (.putfield 19, 3) := by decide +kernel
theorem dX2_init_19 : decode cX2_init 19 = .ok (.aload_n 0, 1) := by decide +kernel
theorem dX2_init_20 : decode cX2_init 20 = .ok (.bipush 20, 2) := by decide +kernel
theorem dX2_init_22 : decode cX2_init 22 = .ok (.newarray .int, 2) := by decide +kernel
theorem dX2_init_24 : decode cX2_init 24 = .ok (.putfield 23, 3) := by decide +kernel
theorem dX2_init_27 : decode cX2_init 27 = .ok (.aload_n 0, 1) := by decide +kernel
theorem dX2_init_28 : decode cX2_init 28 = .ok (.bipush 15, 2) := by decide +kernel
theorem dX2_init_30 : decode cX2_init 30 = .ok (.newarray .int, 2) := by decide +kernel
theorem dX2_init_32 : decode cX2_init 32 = .ok (.putfield 27, 3) := by decide +kernel
theorem dX2_init_35 : decode cX2_init 35 = .ok (.return_, 1) := by decide +kernel
theorem dX2_climb_0 : decode cX2_climb 0 = .ok (.aload_n 0, 1) := by decide +kernel
theorem dX2_climb_1 : decode cX2_climb 1 = .ok (.getfield 23, 3) := by decide +kernel
theorem dX2_climb_4 : decode cX2_climb 4 = .ok (.iconst 0, 1) := by decide +kernel
theorem dX2_climb_5 : decode cX2_climb 5 = .ok (.invokestatic 30, 3) := by decide +kernel
theorem dX2_climb_8 : decode cX2_climb 8 = .ok (.aload_n 0, 1) := by decide +kernel
theorem dX2_climb_9 : decode cX2_climb 9 = .ok (.getfield 19, 3) := by decide +kernel
theorem dX2_climb_12 : decode cX2_climb 12 = .ok (.getfield 36, 3) := by decide +kernel
theorem dX2_climb_15 : decode cX2_climb 15 = .ok (.ifCond .le 15, 3) := by decide +kernel
theorem dX2_climb_18 : decode cX2_climb 18 = .ok (.aload_n 0, 1) := by decide +kernel
theorem dX2_climb_19 : decode cX2_climb 19 = .ok (.getfield 15, 3) := by decide +kernel
theorem dX2_climb_22 : decode cX2_climb 22 = .ok (.getfield 42, 3) := by decide +kernel
theorem dX2_climb_25 : decode cX2_climb 25 = .ok (.ifCond .ne 5, 3) := by decide +kernel
theorem dX2_climb_28 : decode cX2_climb 28 = .ok (.iconst 0, 1) := by decide +kernel
theorem dX2_climb_29 : decode cX2_climb 29 = .ok (.ireturn, 1) := by decide +kernel
theorem dX2_climb_30 : decode cX2_climb 30 = .ok (.iconst 0, 1) := by decide +kernel
theorem dX2_climb_31 : decode cX2_climb 31 = .ok (.istore_n 2, 1) := by decide +kernel
theorem dX2_climb_32 : decode cX2_climb 32 = .ok (.iload_n 2, 1) := by decide +kernel
theorem dX2_climb_33 : decode cX2_climb 33 = .ok (.bipush 101, 2) := by decide +kernel
theorem dX2_climb_35 : decode cX2_climb 35 = .ok (.if_icmp .ge 33, 3) := by decide +kernel
theorem dX2_climb_38 : decode cX2_climb 38 = .ok (.aload_n 0, 1) := by decide +kernel
theorem dX2_climb_39 : decode cX2_climb 39 = .ok (.invokevirtual 45, 3) := by decide +kernel
theorem dX2_climb_42 : decode cX2_climb 42 = .ok (.aload_n 0, 1) := by decide +kernel
theorem dX2_climb_43 : decode cX2_climb 43 = .ok (.iload_n 1, 1) := by decide +kernel
theorem dX2_climb_44 : decode cX2_climb 44 = .ok (.invokevirtual 48, 3) := by decide +kernel
theorem dX2_climb_47 : decode cX2_climb 47 = .ok (.ifCond .eq 5, 3) := by decide +kernel
theorem dX2_climb_50 : decode cX2_climb 50 = .ok (.iconst 1, 1) := by decide +kernel
theorem dX2_climb_51 : decode cX2_climb 51 = .ok (.ireturn, 1) := by decide +kernel
theorem dX2_climb_52 : decode cX2_climb 52 = .ok (.aload_n 0, 1) := by decide +kernel
theorem dX2_climb_53 : decode cX2_climb 53 = .ok (.iload_n 1, 1) := by decide +kernel
theorem dX2_climb_54 : decode cX2_climb 54 = .ok (.invokevirtual 52, 3) := by decide +kernel
theorem dX2_climb_57 : decode cX2_climb 57 = .ok (.ifCond .ne 5, 3) := by decide +kernel
theorem dX2_climb_60 : decode cX2_climb 60 = .ok (.iconst 0, 1) := by decide +kernel
theorem dX2_climb_61 : decode cX2_climb 61 = .ok (.ireturn, 1) := by decide +kernel
theorem dX2_climb_62 : decode cX2_climb 62 = .ok (.iinc 2 1, 3) := by decide +kernel
theorem dX2_climb_65 : decode cX2_climb 65 = .ok (.goto (-33), 3) := by decide +kernel
theorem dX2_climb_68 : decode cX2_climb 68 = .ok (.iconst 0, 1) := by decide +kernel
theorem dX2_climb_69 : decode cX2_climb 69 = .ok (.ireturn, 1) := by decide +kernel
theorem dJ_fill_0 : decode cJ_fill 0 = .ok (.iconst 0, 1) := by decide +kernel
theorem dJ_fill_1 : decode cJ_fill 1 = .ok (.istore_n 2, 1) := by decide +kernel
theorem dJ_fill_2 : decode cJ_fill 2 = .ok (.aload_n 0, 1) := by decide +kernel
theorem dJ_fill_3 : decode cJ_fill 3 = .ok (.arraylength, 1) := by decide +kernel
theorem dJ_fill_4 : decode cJ_fill 4 = .ok (.istore_n 3, 1) := by decide +kernel
theorem dJ_fill_5 : decode cJ_fill 5 = .ok (.iload_n 2, 1) := by decide +kernel
theorem dJ_fill_6 : decode cJ_fill 6 = .ok (.iload_n 3, 1) := by decide +kernel
theorem dJ_fill_7 : decode cJ_fill 7 = .ok (.if_icmp .ge 13, 3) := by decide +kernel
theorem dJ_fill_10 : decode cJ_fill 10 = .ok (.aload_n 0, 1) := by decide +kernel
theorem dJ_fill_11 : decode cJ_fill 11 = .ok (.iload_n 2, 1) := by decide +kernel
theorem dJ_fill_12 : decode cJ_fill 12 = .ok (.iload_n 1, 1) := by decide +kernel
theorem dJ_fill_13 : decode cJ_fill 13 = .ok (.iastore, 1) := by decide +kernel
theorem dJ_fill_14 : decode cJ_fill 14 = .ok (.iinc 2 1, 3) := by decide +kernel
theorem dJ_fill_17 : decode cJ_fill 17 = .ok (.goto (-12), 3) := by decide +kernel
theorem dJ_fill_20 : decode cJ_fill 20 = .ok (.return_, 1) := by decide +kernel
theorem dX2_fillTrays_0 : decode cX2_fillTrays 0 = .ok (.aload_n 0, 1) := by decide +kernel
theorem dX2_fillTrays_1 : decode cX2_fillTrays 1 = .ok (.getfield 27, 3) := by decide +kernel
theorem dX2_fillTrays_4 : decode cX2_fillTrays 4 = .ok (.iconst 0, 1) := by decide +kernel
theorem dX2_fillTrays_5 : decode cX2_fillTrays 5 = .ok (.invokestatic 30, 3) := by decide +kernel
theorem dX2_fillTrays_8 : decode cX2_fillTrays 8 = .ok (.iconst 0, 1) := by decide +kernel
theorem dX2_fillTrays_9 : decode cX2_fillTrays 9 = .ok (.istore_n 1, 1) := by decide +kernel
theorem dX2_fillTrays_10 : decode cX2_fillTrays 10 = .ok (.iload_n 1, 1) := by decide +kernel
theorem dX2_fillTrays_11 : decode cX2_fillTrays 11 = .ok (.aload_n 0, 1) := by decide +kernel
theorem dX2_fillTrays_12 : decode cX2_fillTrays 12 = .ok (.getfield 19, 3) := by decide +kernel
theorem dX2_fillTrays_15 : decode cX2_fillTrays 15 = .ok (.getfield 36, 3) := by decide +kernel
theorem dX2_fillTrays_18 : decode cX2_fillTrays 18 = .ok (.if_icmp .ge 63, 3) := by decide +kernel
theorem dX2_fillTrays_21 : decode cX2_fillTrays 21 = .ok (.iconst 0, 1) := by decide +kernel
theorem dX2_fillTrays_22 : decode cX2_fillTrays 22 = .ok (.istore_n 2, 1) := by decide +kernel
theorem dX2_fillTrays_23 : decode cX2_fillTrays 23 = .ok (.iload_n 2, 1) := by decide +kernel
theorem dX2_fillTrays_24 : decode cX2_fillTrays 24 = .ok (.aload_n 0, 1) := by decide +kernel
theorem dX2_fillTrays_25 : decode cX2_fillTrays 25 = .ok (.getfield 19, 3) := by decide +kernel
theorem dX2_fillTrays_28 : decode cX2_fillTrays 28 = .ok (.getfield 59, 3) := by decide +kernel
theorem dX2_fillTrays_31 : decode cX2_fillTrays 31 = .ok (.iload_n 1, 1) := by decide +kernel
theorem dX2_fillTrays_32 : decode cX2_fillTrays 32 = .ok (.iaload, 1) := by decide +kernel
theorem dX2_fillTrays_33 : decode cX2_fillTrays 33 = .ok (.if_icmp .ge 42, 3) := by decide +kernel
theorem dX2_fillTrays_36 : decode cX2_fillTrays 36 = .ok (.aload_n 0, 1) := by decide +kernel
theorem dX2_fillTrays_37 : decode cX2_fillTrays 37 = .ok (.getfield 27, 3) := by decide +kernel
theorem dX2_fillTrays_40 : decode cX2_fillTrays 40 = .ok (.aload_n 0, 1) := by decide +kernel
theorem dX2_fillTrays_41 : decode cX2_fillTrays 41 = .ok (.getfield 19, 3) := by decide +kernel
theorem dX2_fillTrays_44 : decode cX2_fillTrays 44 = .ok (.getfield 62, 3) := by decide +kernel
theorem dX2_fillTrays_47 : decode cX2_fillTrays 47 = .ok (.iload_n 1, 1) := by decide +kernel
theorem dX2_fillTrays_48 : decode cX2_fillTrays 48 = .ok (.aaload, 1) := by decide +kernel
theorem dX2_fillTrays_49 : decode cX2_fillTrays 49 = .ok (.iload_n 2, 1) := by decide +kernel
theorem dX2_fillTrays_50 : decode cX2_fillTrays 50 = .ok (.iaload, 1) := by decide +kernel
theorem dX2_fillTrays_51 : decode cX2_fillTrays 51 = .ok (.dup2, 1) := by decide +kernel
theorem dX2_fillTrays_52 : decode cX2_fillTrays 52 = .ok (.iaload, 1) := by decide +kernel
theorem dX2_fillTrays_53 : decode cX2_fillTrays 53 = .ok (.aload_n 0, 1) := by decide +kernel
theorem dX2_fillTrays_54 : decode cX2_fillTrays 54 = .ok (.getfield 15, 3) := by decide +kernel
theorem dX2_fillTrays_57 : decode cX2_fillTrays 57 = .ok (.getfield 66, 3) := by decide +kernel
theorem dX2_fillTrays_60 : decode cX2_fillTrays 60 = .ok (.aload_n 0, 1) := by decide +kernel
theorem dX2_fillTrays_61 : decode cX2_fillTrays 61 = .ok (.getfield 23, 3) := by decide +kernel
theorem dX2_fillTrays_64 : decode cX2_fillTrays 64 = .ok (.iload_n 1, 1) := by decide +kernel
theorem dX2_fillTrays_65 : decode cX2_fillTrays 65 = .ok (.iaload, 1) := by decide +kernel
theorem dX2_fillTrays_66 : decode cX2_fillTrays 66 = .ok (.iaload, 1) := by decide +kernel
theorem dX2_fillTrays_67 : decode cX2_fillTrays 67 = .ok (.iadd, 1) := by decide +kernel
theorem dX2_fillTrays_68 : decode cX2_fillTrays 68 = .ok (.iastore, 1) := by decide +kernel
theorem dX2_fillTrays_69 : decode cX2_fillTrays 69 = .ok (.iinc 2 1, 3) := by decide +kernel
theorem dX2_fillTrays_72 : decode cX2_fillTrays 72 = .ok (.goto (-49), 3) := by decide +kernel
theorem dX2_fillTrays_75 : decode cX2_fillTrays 75 = .ok (.iinc 1 1, 3) := by decide +kernel
theorem dX2_fillTrays_78 : decode cX2_fillTrays 78 = .ok (.goto (-68), 3) := by decide +kernel
theorem dX2_fillTrays_81 : decode cX2_fillTrays 81 = .ok (.iconst 0, 1) := by decide +kernel
theorem dX2_fillTrays_82 : decode cX2_fillTrays 82 = .ok (.istore_n 1, 1) := by decide +kernel
theorem dX2_fillTrays_83 : decode cX2_fillTrays 83 = .ok (.iload_n 1, 1) := by decide +kernel
theorem dX2_fillTrays_84 : decode cX2_fillTrays 84 = .ok (.aload_n 0, 1) := by decide +kernel
theorem dX2_fillTrays_85 : decode cX2_fillTrays 85 = .ok (.getfield 9, 3) := by decide +kernel
theorem dX2_fillTrays_88 : decode cX2_fillTrays 88 = .ok (.getfield 69, 3) := by decide +kernel
theorem dX2_fillTrays_91 : decode cX2_fillTrays 91 = .ok (.if_icmp .ge 35, 3) := by decide +kernel
theorem dX2_fillTrays_94 : decode cX2_fillTrays 94 = .ok (.aload_n 0, 1) := by decide +kernel
theorem dX2_fillTrays_95 : decode cX2_fillTrays 95 = .ok (.getfield 27, 3) := by decide +kernel
theorem dX2_fillTrays_98 : decode cX2_fillTrays 98 = .ok (.iload_n 1, 1) := by decide +kernel
theorem dX2_fillTrays_99 : decode cX2_fillTrays 99 = .ok (.aload_n 0, 1) := by decide +kernel
theorem dX2_fillTrays_100 : decode cX2_fillTrays 100 = .ok (.getfield 27, 3) := by decide +kernel
theorem dX2_fillTrays_103 : decode cX2_fillTrays 103 = .ok (.iload_n 1, 1) := by decide +kernel
theorem dX2_fillTrays_104 : decode cX2_fillTrays 104 = .ok (.iaload, 1) := by decide +kernel
theorem dX2_fillTrays_105 : decode cX2_fillTrays 105 = .ok (.sipush 1000, 3) := by decide +kernel
theorem dX2_fillTrays_108 : decode cX2_fillTrays 108 = .ok (.imul, 1) := by decide +kernel
theorem dX2_fillTrays_109 : decode cX2_fillTrays 109 = .ok (.aload_n 0, 1) := by decide +kernel
theorem dX2_fillTrays_110 : decode cX2_fillTrays 110 = .ok (.getfield 9, 3) := by decide +kernel
theorem dX2_fillTrays_113 : decode cX2_fillTrays 113 = .ok (.getfield 72, 3) := by decide +kernel
theorem dX2_fillTrays_116 : decode cX2_fillTrays 116 = .ok (.iload_n 1, 1) := by decide +kernel
theorem dX2_fillTrays_117 : decode cX2_fillTrays 117 = .ok (.iaload, 1) := by decide +kernel
theorem dX2_fillTrays_118 : decode cX2_fillTrays 118 = .ok (.idiv, 1) := by decide +kernel
theorem dX2_fillTrays_119 : decode cX2_fillTrays 119 = .ok (.iastore, 1) := by decide +kernel
theorem dX2_fillTrays_120 : decode cX2_fillTrays 120 = .ok (.iinc 1 1, 3) := by decide +kernel
theorem dX2_fillTrays_123 : decode cX2_fillTrays 123 = .ok (.goto (-40), 3) := by decide +kernel
theorem dX2_fillTrays_126 : decode cX2_fillTrays 126 = .ok (.return_, 1) := by decide +kernel
theorem dX2_allAreRight_0 : decode cX2_allAreRight 0 = .ok (.iconst 0, 1) := by decide +kernel
theorem dX2_allAreRight_1 : decode cX2_allAreRight 1 = .ok (.istore_n 2, 1) := by decide +kernel
theorem dX2_allAreRight_2 : decode cX2_allAreRight 2 = .ok (.iload_n 2, 1) := by decide +kernel
theorem dX2_allAreRight_3 : decode cX2_allAreRight 3 = .ok (.aload_n 0, 1) := by decide +kernel
theorem dX2_allAreRight_4 : decode cX2_allAreRight 4 = .ok (.getfield 19, 3) := by decide +kernel
theorem dX2_allAreRight_7 : decode cX2_allAreRight 7 = .ok (.getfield 36, 3) := by decide +kernel
theorem dX2_allAreRight_10 : decode cX2_allAreRight 10 = .ok (.if_icmp .ge 20, 3) := by decide +kernel
theorem dX2_allAreRight_13 : decode cX2_allAreRight 13 = .ok (.aload_n 0, 1) := by decide +kernel
theorem dX2_allAreRight_14 : decode cX2_allAreRight 14 = .ok (.iload_n 2, 1) := by decide +kernel
theorem dX2_allAreRight_15 : decode cX2_allAreRight 15 = .ok (.iload_n 1, 1) := by decide +kernel
theorem dX2_allAreRight_16 : decode cX2_allAreRight 16 = .ok (.invokevirtual 55, 3) := by decide +kernel
theorem dX2_allAreRight_19 : decode cX2_allAreRight 19 = .ok (.ifCond .ne 5, 3) := by decide +kernel
theorem dX2_allAreRight_22 : decode cX2_allAreRight 22 = .ok (.iconst 0, 1) := by decide +kernel
theorem dX2_allAreRight_23 : decode cX2_allAreRight 23 = .ok (.ireturn, 1) := by decide +kernel
theorem dX2_allAreRight_24 : decode cX2_allAreRight 24 = .ok (.iinc 2 1, 3) := by decide +kernel
theorem dX2_allAreRight_27 : decode cX2_allAreRight 27 = .ok (.goto (-25), 3) := by decide +kernel
theorem dX2_allAreRight_30 : decode cX2_allAreRight 30 = .ok (.iconst 1, 1) := by decide +kernel
theorem dX2_allAreRight_31 : decode cX2_allAreRight 31 = .ok (.ireturn, 1) := by decide +kernel
theorem dX2_isRightAt_0 : decode cX2_isRightAt 0 = .ok (.aload_n 0, 1) := by decide +kernel
theorem dX2_isRightAt_1 : decode cX2_isRightAt 1 = .ok (.getfield 19, 3) := by decide +kernel
theorem dX2_isRightAt_4 : decode cX2_isRightAt 4 = .ok (.iload_n 1, 1) := by decide +kernel
theorem dX2_isRightAt_5 : decode cX2_isRightAt 5 = .ok (.invokevirtual 75, 3) := by decide +kernel
theorem dX2_isRightAt_8 : decode cX2_isRightAt 8 = .ok (.ifCond .eq 5, 3) := by decide +kernel
theorem dX2_isRightAt_11 : decode cX2_isRightAt 11 = .ok (.iconst 1, 1) := by decide +kernel
theorem dX2_isRightAt_12 : decode cX2_isRightAt 12 = .ok (.ireturn, 1) := by decide +kernel
theorem dX2_isRightAt_13 : decode cX2_isRightAt 13 = .ok (.aload_n 0, 1) := by decide +kernel
theorem dX2_isRightAt_14 : decode cX2_isRightAt 14 = .ok (.iload_n 1, 1) := by decide +kernel
theorem dX2_isRightAt_15 : decode cX2_isRightAt 15 = .ok (.invokevirtual 78, 3) := by decide +kernel
theorem dX2_isRightAt_18 : decode cX2_isRightAt 18 = .ok (.aload_n 0, 1) := by decide +kernel
theorem dX2_isRightAt_19 : decode cX2_isRightAt 19 = .ok (.getfield 19, 3) := by decide +kernel
theorem dX2_isRightAt_22 : decode cX2_isRightAt 22 = .ok (.getfield 82, 3) := by decide +kernel
theorem dX2_isRightAt_25 : decode cX2_isRightAt 25 = .ok (.iload_n 1, 1) := by decide +kernel
theorem dX2_isRightAt_26 : decode cX2_isRightAt 26 = .ok (.iaload, 1) := by decide +kernel
theorem dX2_isRightAt_27 : decode cX2_isRightAt 27 = .ok (.if_icmp .lt 16, 3) := by decide +kernel
theorem dX2_isRightAt_30 : decode cX2_isRightAt 30 = .ok (.aload_n 0, 1) := by decide +kernel
theorem dX2_isRightAt_31 : decode cX2_isRightAt 31 = .ok (.iload_n 1, 1) := by decide +kernel
theorem dX2_isRightAt_32 : decode cX2_isRightAt 32 = .ok (.invokevirtual 85, 3) := by decide +kernel
theorem dX2_isRightAt_35 : decode cX2_isRightAt 35 = .ok (.iload_n 2, 1) := by decide +kernel
theorem dX2_isRightAt_36 : decode cX2_isRightAt 36 = .ok (.if_icmp .gt 7, 3) := by decide +kernel
theorem dX2_isRightAt_39 : decode cX2_isRightAt 39 = .ok (.iconst 1, 1) := by decide +kernel
theorem dX2_isRightAt_40 : decode cX2_isRightAt 40 = .ok (.goto 4, 3) := by decide +kernel
theorem dX2_isRightAt_43 : decode cX2_isRightAt 43 = .ok (.iconst 0, 1) := by decide +kernel
theorem dX2_isRightAt_44 : decode cX2_isRightAt 44 = .ok (.ireturn, 1) := by decide +kernel
theorem dX0_isLoose_0 : decode cX0_isLoose 0 = .ok (.aload_n 0, 1) := by decide +kernel
theorem dX0_isLoose_1 : decode cX0_isLoose 1 = .ok (.getfield 25, 3) := by decide +kernel
theorem dX0_isLoose_4 : decode cX0_isLoose 4 = .ok (.iload_n 1, 1) := by decide +kernel
theorem dX0_isLoose_5 : decode cX0_isLoose 5 = .ok (.iaload, 1) := by decide +kernel
theorem dX0_isLoose_6 : decode cX0_isLoose 6 = .ok (.ifCond .ne 7, 3) := by decide +kernel
theorem dX0_isLoose_9 : decode cX0_isLoose 9 = .ok (.iconst 1, 1) := by decide +kernel
theorem dX0_isLoose_10 : decode cX0_isLoose 10 = .ok (.goto 4, 3) := by decide +kernel
theorem dX0_isLoose_13 : decode cX0_isLoose 13 = .ok (.iconst 0, 1) := by decide +kernel
theorem dX0_isLoose_14 : decode cX0_isLoose 14 = .ok (.ireturn, 1) := by decide +kernel
theorem dX2_carriedBy_0 : decode cX2_carriedBy 0 = .ok (.sipush 1000, 3) := by decide +kernel
theorem dX2_carriedBy_3 : decode cX2_carriedBy 3 = .ok (.istore_n 2, 1) := by decide +kernel
theorem dX2_carriedBy_4 : decode cX2_carriedBy 4 = .ok (.iconst 0, 1) := by decide +kernel
theorem dX2_carriedBy_5 : decode cX2_carriedBy 5 = .ok (.istore_n 3, 1) := by decide +kernel
theorem dX2_carriedBy_6 : decode cX2_carriedBy 6 = .ok (.iload_n 3, 1) := by decide +kernel
theorem dX2_carriedBy_7 : decode cX2_carriedBy 7 = .ok (.aload_n 0, 1) := by decide +kernel
theorem dX2_carriedBy_8 : decode cX2_carriedBy 8 = .ok (.getfield 19, 3) := by decide +kernel
theorem dX2_carriedBy_11 : decode cX2_carriedBy 11 = .ok (.getfield 59, 3) := by decide +kernel
theorem dX2_carriedBy_14 : decode cX2_carriedBy 14 = .ok (.iload_n 1, 1) := by decide +kernel
theorem dX2_carriedBy_15 : decode cX2_carriedBy 15 = .ok (.iaload, 1) := by decide +kernel
theorem dX2_carriedBy_16 : decode cX2_carriedBy 16 = .ok (.if_icmp .ge 29, 3) := by decide +kernel
theorem dX2_carriedBy_19 : decode cX2_carriedBy 19 = .ok (.iload_n 2, 1) := by decide +kernel
theorem dX2_carriedBy_20 : decode cX2_carriedBy 20 = .ok (.aload_n 0, 1) := by decide +kernel
theorem dX2_carriedBy_21 : decode cX2_carriedBy 21 = .ok (.aload_n 0, 1) := by decide +kernel
theorem dX2_carriedBy_22 : decode cX2_carriedBy 22 = .ok (.getfield 19, 3) := by decide +kernel
theorem dX2_carriedBy_25 : decode cX2_carriedBy 25 = .ok (.getfield 62, 3) := by decide +kernel
theorem dX2_carriedBy_28 : decode cX2_carriedBy 28 = .ok (.iload_n 1, 1) := by decide +kernel
theorem dX2_carriedBy_29 : decode cX2_carriedBy 29 = .ok (.aaload, 1) := by decide +kernel
theorem dX2_carriedBy_30 : decode cX2_carriedBy 30 = .ok (.iload_n 3, 1) := by decide +kernel
theorem dX2_carriedBy_31 : decode cX2_carriedBy 31 = .ok (.iaload, 1) := by decide +kernel
theorem dX2_carriedBy_32 : decode cX2_carriedBy 32 = .ok (.invokevirtual 88, 3) := by decide +kernel
theorem dX2_carriedBy_35 : decode cX2_carriedBy 35 = .ok (.invokestatic 91, 3) := by decide +kernel
theorem dX2_carriedBy_38 : decode cX2_carriedBy 38 = .ok (.istore_n 2, 1) := by decide +kernel
theorem dX2_carriedBy_39 : decode cX2_carriedBy 39 = .ok (.iinc 3 1, 3) := by decide +kernel
theorem dX2_carriedBy_42 : decode cX2_carriedBy 42 = .ok (.goto (-36), 3) := by decide +kernel
theorem dX2_carriedBy_45 : decode cX2_carriedBy 45 = .ok (.aload_n 0, 1) := by decide +kernel
theorem dX2_carriedBy_46 : decode cX2_carriedBy 46 = .ok (.getfield 15, 3) := by decide +kernel
theorem dX2_carriedBy_49 : decode cX2_carriedBy 49 = .ok (.getfield 97, 3) := by decide +kernel
theorem dX2_carriedBy_52 : decode cX2_carriedBy 52 = .ok (.aload_n 0, 1) := by decide +kernel
theorem dX2_carriedBy_53 : decode cX2_carriedBy 53 = .ok (.getfield 23, 3) := by decide +kernel
theorem dX2_carriedBy_56 : decode cX2_carriedBy 56 = .ok (.iload_n 1, 1) := by decide +kernel
theorem dX2_carriedBy_57 : decode cX2_carriedBy 57 = .ok (.iaload, 1) := by decide +kernel
theorem dX2_carriedBy_58 : decode cX2_carriedBy 58 = .ok (.iaload, 1) := by decide +kernel
theorem dX2_carriedBy_59 : decode cX2_carriedBy 59 = .ok (.iload_n 2, 1) := by decide +kernel
theorem dX2_carriedBy_60 : decode cX2_carriedBy 60 = .ok (.imul, 1) := by decide +kernel
theorem dX2_carriedBy_61 : decode cX2_carriedBy 61 = .ok (.sipush 1000, 3) := by decide +kernel
theorem dX2_carriedBy_64 : decode cX2_carriedBy 64 = .ok (.idiv, 1) := by decide +kernel
theorem dX2_carriedBy_65 : decode cX2_carriedBy 65 = .ok (.ireturn, 1) := by decide +kernel
theorem dX2_factorOf_0 : decode cX2_factorOf 0 = .ok (.aload_n 0, 1) := by decide +kernel
theorem dX2_factorOf_1 : decode cX2_factorOf 1 = .ok (.getfield 27, 3) := by decide +kernel
theorem dX2_factorOf_4 : decode cX2_factorOf 4 = .ok (.iload_n 1, 1) := by decide +kernel
theorem dX2_factorOf_5 : decode cX2_factorOf 5 = .ok (.iaload, 1) := by decide +kernel
theorem dX2_factorOf_6 : decode cX2_factorOf 6 = .ok (.istore_n 2, 1) := by decide +kernel
theorem dX2_factorOf_7 : decode cX2_factorOf 7 = .ok (.iload_n 2, 1) := by decide +kernel
theorem dX2_factorOf_8 : decode cX2_factorOf 8 = .ok (.sipush 200, 3) := by decide +kernel
theorem dX2_factorOf_11 : decode cX2_factorOf 11 = .ok (.if_icmp .gt 7, 3) := by decide +kernel
theorem dX2_factorOf_14 : decode cX2_factorOf 14 = .ok (.sipush 1000, 3) := by decide +kernel
theorem dX2_factorOf_17 : decode cX2_factorOf 17 = .ok (.ireturn, 1) := by decide +kernel
theorem dX2_factorOf_18 : decode cX2_factorOf 18 = .ok (.iload_n 2, 1) := by decide +kernel
theorem dX2_factorOf_19 : decode cX2_factorOf 19 = .ok (.sipush 400, 3) := by decide +kernel
theorem dX2_factorOf_22 : decode cX2_factorOf 22 = .ok (.if_icmp .gt 7, 3) := by decide +kernel
theorem dX2_factorOf_25 : decode cX2_factorOf 25 = .ok (.sipush 800, 3) := by decide +kernel
theorem dX2_factorOf_28 : decode cX2_factorOf 28 = .ok (.ireturn, 1) := by decide +kernel
theorem dX2_factorOf_29 : decode cX2_factorOf 29 = .ok (.iload_n 2, 1) := by decide +kernel
theorem dX2_factorOf_30 : decode cX2_factorOf 30 = .ok (.sipush 600, 3) := by decide +kernel
theorem dX2_factorOf_33 : decode cX2_factorOf 33 = .ok (.if_icmp .gt 7, 3) := by decide +kernel
theorem dX2_factorOf_36 : decode cX2_factorOf 36 = .ok (.sipush 650, 3) := by decide +kernel
theorem dX2_factorOf_39 : decode cX2_factorOf 39 = .ok (.ireturn, 1) := by decide +kernel
theorem dX2_factorOf_40 : decode cX2_factorOf 40 = .ok (.iload_n 2, 1) := by decide +kernel
theorem dX2_factorOf_41 : decode cX2_factorOf 41 = .ok (.sipush 800, 3) := by decide +kernel
theorem dX2_factorOf_44 : decode cX2_factorOf 44 = .ok (.if_icmp .gt 7, 3) := by decide +kernel
theorem dX2_factorOf_47 : decode cX2_factorOf 47 = .ok (.sipush 550, 3) := by decide +kernel
theorem dX2_factorOf_50 : decode cX2_factorOf 50 = .ok (.ireturn, 1) := by decide +kernel
theorem dX2_factorOf_51 : decode cX2_factorOf 51 = .ok (.iload_n 2, 1) := by decide +kernel
theorem dX2_factorOf_52 : decode cX2_factorOf 52 = .ok (.sipush 1000, 3) := by decide +kernel
theorem dX2_factorOf_55 : decode cX2_factorOf 55 = .ok (.if_icmp .gt 9, 3) := by decide +kernel
theorem dX2_factorOf_58 : decode cX2_factorOf 58 = .ok (.sipush 500, 3) := by decide +kernel
theorem dX2_factorOf_61 : decode cX2_factorOf 61 = .ok (.goto 4, 3) := by decide +kernel
theorem dX2_factorOf_64 : decode cX2_factorOf 64 = .ok (.iconst 0, 1) := by decide +kernel
theorem dX2_factorOf_65 : decode cX2_factorOf 65 = .ok (.ireturn, 1) := by decide +kernel
theorem dJ_min_0 : decode cJ_min 0 = .ok (.iload_n 0, 1) := by decide +kernel
theorem dJ_min_1 : decode cJ_min 1 = .ok (.iload_n 1, 1) := by decide +kernel
theorem dJ_min_2 : decode cJ_min 2 = .ok (.if_icmp .gt 7, 3) := by decide +kernel
theorem dJ_min_5 : decode cJ_min 5 = .ok (.iload_n 0, 1) := by decide +kernel
theorem dJ_min_6 : decode cJ_min 6 = .ok (.goto 4, 3) := by decide +kernel
theorem dJ_min_9 : decode cJ_min 9 = .ok (.iload_n 1, 1) := by decide +kernel
theorem dJ_min_10 : decode cJ_min 10 = .ok (.ireturn, 1) := by decide +kernel
theorem dX2_dropOf_0 : decode cX2_dropOf 0 = .ok (.aload_n 0, 1) := by decide +kernel
theorem dX2_dropOf_1 : decode cX2_dropOf 1 = .ok (.getfield 19, 3) := by decide +kernel
theorem dX2_dropOf_4 : decode cX2_dropOf 4 = .ok (.getfield 82, 3) := by decide +kernel
theorem dX2_dropOf_7 : decode cX2_dropOf 7 = .ok (.iload_n 1, 1) := by decide +kernel
theorem dX2_dropOf_8 : decode cX2_dropOf 8 = .ok (.iaload, 1) := by decide +kernel
theorem dX2_dropOf_9 : decode cX2_dropOf 9 = .ok (.aload_n 0, 1) := by decide +kernel
theorem dX2_dropOf_10 : decode cX2_dropOf 10 = .ok (.getfield 15, 3) := by decide +kernel
theorem dX2_dropOf_13 : decode cX2_dropOf 13 = .ok (.getfield 100, 3) := by decide +kernel
theorem dX2_dropOf_16 : decode cX2_dropOf 16 = .ok (.aload_n 0, 1) := by decide +kernel
theorem dX2_dropOf_17 : decode cX2_dropOf 17 = .ok (.getfield 23, 3) := by decide +kernel
theorem dX2_dropOf_20 : decode cX2_dropOf 20 = .ok (.iload_n 1, 1) := by decide +kernel
theorem dX2_dropOf_21 : decode cX2_dropOf 21 = .ok (.iaload, 1) := by decide +kernel
theorem dX2_dropOf_22 : decode cX2_dropOf 22 = .ok (.iaload, 1) := by decide +kernel
theorem dX2_dropOf_23 : decode cX2_dropOf 23 = .ok (.imul, 1) := by decide +kernel
theorem dX2_dropOf_24 : decode cX2_dropOf 24 = .ok (.aload_n 0, 1) := by decide +kernel
theorem dX2_dropOf_25 : decode cX2_dropOf 25 = .ok (.getfield 19, 3) := by decide +kernel
theorem dX2_dropOf_28 : decode cX2_dropOf 28 = .ok (.getfield 103, 3) := by decide +kernel
theorem dX2_dropOf_31 : decode cX2_dropOf 31 = .ok (.iload_n 1, 1) := by decide +kernel
theorem dX2_dropOf_32 : decode cX2_dropOf 32 = .ok (.iaload, 1) := by decide +kernel
theorem dX2_dropOf_33 : decode cX2_dropOf 33 = .ok (.imul, 1) := by decide +kernel
theorem dX2_dropOf_34 : decode cX2_dropOf 34 = .ok (.sipush 1000, 3) := by decide +kernel
theorem dX2_dropOf_37 : decode cX2_dropOf 37 = .ok (.idiv, 1) := by decide +kernel
theorem dX2_dropOf_38 : decode cX2_dropOf 38 = .ok (.ireturn, 1) := by decide +kernel
theorem dX2_raiseWrongOnes_0 : decode cX2_raiseWrongOnes 0 = .ok (.iconst 0, 1) := by decide +kernel
theorem dX2_raiseWrongOnes_1 : decode cX2_raiseWrongOnes 1 = .ok (.istore_n 2, 1) := by decide +kernel
theorem dX2_raiseWrongOnes_2 : decode cX2_raiseWrongOnes 2 = .ok (.iload_n 2, 1) := by decide +kernel
theorem dX2_raiseWrongOnes_3 : decode cX2_raiseWrongOnes 3 = .ok (.aload_n 0, 1) := by decide +kernel
theorem dX2_raiseWrongOnes_4 : decode cX2_raiseWrongOnes 4 = .ok (.getfield 19, 3) := by decide +kernel
theorem dX2_raiseWrongOnes_7 : decode cX2_raiseWrongOnes 7 = .ok (.getfield 36, 3) := by decide +kernel
theorem dX2_raiseWrongOnes_10 : decode cX2_raiseWrongOnes 10 = .ok (.if_icmp .ge 48, 3) := by decide +kernel
theorem dX2_raiseWrongOnes_13 : decode cX2_raiseWrongOnes 13 = .ok (.aload_n 0, 1) := by decide +kernel
theorem dX2_raiseWrongOnes_14 : decode cX2_raiseWrongOnes 14 = .ok (.iload_n 2, 1) := by decide +kernel
theorem dX2_raiseWrongOnes_15 : decode cX2_raiseWrongOnes 15 = .ok (.iload_n 1, 1) := by decide +kernel
theorem dX2_raiseWrongOnes_16 : decode cX2_raiseWrongOnes 16 = .ok (.invokevirtual 55, 3) := by decide +kernel
theorem dX2_raiseWrongOnes_19 : decode cX2_raiseWrongOnes 19 = .ok (.ifCond .ne 33, 3) := by decide +kernel
theorem dX2_raiseWrongOnes_22 : decode cX2_raiseWrongOnes 22 = .ok (.aload_n 0, 1) := by decide +kernel
theorem dX2_raiseWrongOnes_23 : decode cX2_raiseWrongOnes 23 = .ok (.getfield 23, 3) := by decide +kernel
theorem dX2_raiseWrongOnes_26 : decode cX2_raiseWrongOnes 26 = .ok (.iload_n 2, 1) := by decide +kernel
theorem dX2_raiseWrongOnes_27 : decode cX2_raiseWrongOnes 27 = .ok (.iaload, 1) := by decide +kernel
theorem dX2_raiseWrongOnes_28 : decode cX2_raiseWrongOnes 28 = .ok (.iconst 1, 1) := by decide +kernel
theorem dX2_raiseWrongOnes_29 : decode cX2_raiseWrongOnes 29 = .ok (.iadd, 1) := by decide +kernel
theorem dX2_raiseWrongOnes_30 : decode cX2_raiseWrongOnes 30 = .ok (.aload_n 0, 1) := by decide +kernel
theorem dX2_raiseWrongOnes_31 : decode cX2_raiseWrongOnes 31 = .ok (.getfield 15, 3) := by decide +kernel
theorem dX2_raiseWrongOnes_34 : decode cX2_raiseWrongOnes 34 = .ok (.getfield 42, 3) := by decide +kernel
theorem dX2_raiseWrongOnes_37 : decode cX2_raiseWrongOnes 37 = .ok (.if_icmp .lt 5, 3) := by decide +kernel
theorem dX2_raiseWrongOnes_40 : decode cX2_raiseWrongOnes 40 = .ok (.iconst 0, 1) := by decide +kernel
theorem dX2_raiseWrongOnes_41 : decode cX2_raiseWrongOnes 41 = .ok (.ireturn, 1) := by decide +kernel
theorem dX2_raiseWrongOnes_42 : decode cX2_raiseWrongOnes 42 = .ok (.aload_n 0, 1) := by decide +kernel
theorem dX2_raiseWrongOnes_43 : decode cX2_raiseWrongOnes 43 = .ok (.getfield 23, 3) := by decide +kernel
theorem dX2_raiseWrongOnes_46 : decode cX2_raiseWrongOnes 46 = .ok (.iload_n 2, 1) := by decide +kernel
theorem dX2_raiseWrongOnes_47 : decode cX2_raiseWrongOnes 47 = .ok (.dup2, 1) := by decide +kernel
theorem dX2_raiseWrongOnes_48 : decode cX2_raiseWrongOnes 48 = .ok (.iaload, 1) := by decide +kernel
theorem dX2_raiseWrongOnes_49 : decode cX2_raiseWrongOnes 49 = .ok (.iconst 1, 1) := by decide +kernel
theorem dX2_raiseWrongOnes_50 : decode cX2_raiseWrongOnes 50 = .ok (.iadd, 1) := by decide +kernel
theorem dX2_raiseWrongOnes_51 : decode cX2_raiseWrongOnes 51 = .ok (.iastore, 1) := by decide +kernel
theorem dX2_raiseWrongOnes_52 : decode cX2_raiseWrongOnes 52 = .ok (.iinc 2 1, 3) := by decide +kernel
theorem dX2_raiseWrongOnes_55 : decode cX2_raiseWrongOnes 55 = .ok (.goto (-53), 3) := by decide +kernel
theorem dX2_raiseWrongOnes_58 : decode cX2_raiseWrongOnes 58 = .ok (.iconst 1, 1) := by decide +kernel
theorem dX2_raiseWrongOnes_59 : decode cX2_raiseWrongOnes 59 = .ok (.ireturn, 1) := by decide +kernel
theorem dX2_sumOfCopper_0 : decode cX2_sumOfCopper 0 = .ok (.iconst 0, 1) := by decide +kernel
theorem dX2_sumOfCopper_1 : decode cX2_sumOfCopper 1 = .ok (.istore_n 1, 1) := by decide +kernel
theorem dX2_sumOfCopper_2 : decode cX2_sumOfCopper 2 = .ok (.iconst 0, 1) := by decide +kernel
theorem dX2_sumOfCopper_3 : decode cX2_sumOfCopper 3 = .ok (.istore_n 2, 1) := by decide +kernel
theorem dX2_sumOfCopper_4 : decode cX2_sumOfCopper 4 = .ok (.iload_n 2, 1) := by decide +kernel
theorem dX2_sumOfCopper_5 : decode cX2_sumOfCopper 5 = .ok (.aload_n 0, 1) := by decide +kernel
theorem dX2_sumOfCopper_6 : decode cX2_sumOfCopper 6 = .ok (.getfield 19, 3) := by decide +kernel
theorem dX2_sumOfCopper_9 : decode cX2_sumOfCopper 9 = .ok (.getfield 36, 3) := by decide +kernel
theorem dX2_sumOfCopper_12 : decode cX2_sumOfCopper 12 = .ok (.if_icmp .ge 36, 3) := by decide +kernel
theorem dX2_sumOfCopper_15 : decode cX2_sumOfCopper 15 = .ok (.iload_n 1, 1) := by decide +kernel
theorem dX2_sumOfCopper_16 : decode cX2_sumOfCopper 16 = .ok (.aload_n 0, 1) := by decide +kernel
theorem dX2_sumOfCopper_17 : decode cX2_sumOfCopper 17 = .ok (.getfield 15, 3) := by decide +kernel
theorem dX2_sumOfCopper_20 : decode cX2_sumOfCopper 20 = .ok (.getfield 66, 3) := by decide +kernel
theorem dX2_sumOfCopper_23 : decode cX2_sumOfCopper 23 = .ok (.aload_n 0, 1) := by decide +kernel
theorem dX2_sumOfCopper_24 : decode cX2_sumOfCopper 24 = .ok (.getfield 23, 3) := by decide +kernel
theorem dX2_sumOfCopper_27 : decode cX2_sumOfCopper 27 = .ok (.iload_n 2, 1) := by decide +kernel
theorem dX2_sumOfCopper_28 : decode cX2_sumOfCopper 28 = .ok (.iaload, 1) := by decide +kernel
theorem dX2_sumOfCopper_29 : decode cX2_sumOfCopper 29 = .ok (.iaload, 1) := by decide +kernel
theorem dX2_sumOfCopper_30 : decode cX2_sumOfCopper 30 = .ok (.aload_n 0, 1) := by decide +kernel
theorem dX2_sumOfCopper_31 : decode cX2_sumOfCopper 31 = .ok (.getfield 19, 3) := by decide +kernel
theorem dX2_sumOfCopper_34 : decode cX2_sumOfCopper 34 = .ok (.getfield 103, 3) := by decide +kernel
theorem dX2_sumOfCopper_37 : decode cX2_sumOfCopper 37 = .ok (.iload_n 2, 1) := by decide +kernel
theorem dX2_sumOfCopper_38 : decode cX2_sumOfCopper 38 = .ok (.iaload, 1) := by decide +kernel
theorem dX2_sumOfCopper_39 : decode cX2_sumOfCopper 39 = .ok (.imul, 1) := by decide +kernel
theorem dX2_sumOfCopper_40 : decode cX2_sumOfCopper 40 = .ok (.iadd, 1) := by decide +kernel
theorem dX2_sumOfCopper_41 : decode cX2_sumOfCopper 41 = .ok (.istore_n 1, 1) := by decide +kernel
theorem dX2_sumOfCopper_42 : decode cX2_sumOfCopper 42 = .ok (.iinc 2 1, 3) := by decide +kernel
theorem dX2_sumOfCopper_45 : decode cX2_sumOfCopper 45 = .ok (.goto (-41), 3) := by decide +kernel
theorem dX2_sumOfCopper_48 : decode cX2_sumOfCopper 48 = .ok (.iload_n 1, 1) := by decide +kernel
theorem dX2_sumOfCopper_49 : decode cX2_sumOfCopper 49 = .ok (.ireturn, 1) := by decide +kernel
theorem dX3_add_0 : decode cX3_add 0 = .ok (.aload_n 0, 1) := by decide +kernel
theorem dX3_add_1 : decode cX3_add 1 = .ok (.getfield 9, 3) := by decide +kernel
theorem dX3_add_4 : decode cX3_add 4 = .ok (.istore 5, 2) := by decide +kernel
theorem dX3_add_6 : decode cX3_add 6 = .ok (.aload_n 0, 1) := by decide +kernel
theorem dX3_add_7 : decode cX3_add 7 = .ok (.getfield 15, 3) := by decide +kernel
theorem dX3_add_10 : decode cX3_add 10 = .ok (.iload 5, 2) := by decide +kernel
theorem dX3_add_12 : decode cX3_add 12 = .ok (.iload_n 1, 1) := by decide +kernel
theorem dX3_add_13 : decode cX3_add 13 = .ok (.iastore, 1) := by decide +kernel
theorem dX3_add_14 : decode cX3_add 14 = .ok (.aload_n 0, 1) := by decide +kernel
theorem dX3_add_15 : decode cX3_add 15 = .ok (.getfield 19, 3) := by decide +kernel
theorem dX3_add_18 : decode cX3_add 18 = .ok (.iload 5, 2) := by decide +kernel
theorem dX3_add_20 : decode cX3_add 20 = .ok (.iload_n 2, 1) := by decide +kernel
theorem dX3_add_21 : decode cX3_add 21 = .ok (.iastore, 1) := by decide +kernel
theorem dX3_add_22 : decode cX3_add 22 = .ok (.aload_n 0, 1) := by decide +kernel
theorem dX3_add_23 : decode cX3_add 23 = .ok (.getfield 22, 3) := by decide +kernel
theorem dX3_add_26 : decode cX3_add 26 = .ok (.iload 5, 2) := by decide +kernel
theorem dX3_add_28 : decode cX3_add 28 = .ok (.iload_n 3, 1) := by decide +kernel
theorem dX3_add_29 : decode cX3_add 29 = .ok (.iastore, 1) := by decide +kernel
theorem dX3_add_30 : decode cX3_add 30 = .ok (.aload_n 0, 1) := by decide +kernel
theorem dX3_add_31 : decode cX3_add 31 = .ok (.getfield 25, 3) := by decide +kernel
theorem dX3_add_34 : decode cX3_add 34 = .ok (.iload 5, 2) := by decide +kernel
theorem dX3_add_36 : decode cX3_add 36 = .ok (.iload 4, 2) := by decide +kernel
theorem dX3_add_38 : decode cX3_add 38 = .ok (.iastore, 1) := by decide +kernel
theorem dX3_add_39 : decode cX3_add 39 = .ok (.aload_n 0, 1) := by decide +kernel
theorem dX3_add_40 : decode cX3_add 40 = .ok (.iload 5, 2) := by decide +kernel
theorem dX3_add_42 : decode cX3_add 42 = .ok (.iconst 1, 1) := by decide +kernel
theorem dX3_add_43 : decode cX3_add 43 = .ok (.iadd, 1) := by decide +kernel
theorem dX3_add_44 : decode cX3_add 44 = .ok (.putfield 9, 3) := by decide +kernel
theorem dX3_add_47 : decode cX3_add 47 = .ok (.iload 5, 2) := by decide +kernel
theorem dX3_add_49 : decode cX3_add 49 = .ok (.ireturn, 1) := by decide +kernel
theorem dX0_findWay_0 : decode cX0_findWay 0 = .ok (.aload_n 2, 1) := by decide +kernel
theorem dX0_findWay_1 : decode cX0_findWay 1 = .ok (.aload_n 0, 1) := by decide +kernel
theorem dX0_findWay_2 : decode cX0_findWay 2 = .ok (.getfield 19, 3) := by decide +kernel
theorem dX0_findWay_5 : decode cX0_findWay 5 = .ok (.iload_n 1, 1) := by decide +kernel
theorem dX0_findWay_6 : decode cX0_findWay 6 = .ok (.iaload, 1) := by decide +kernel
theorem dX0_findWay_7 : decode cX0_findWay 7 = .ok (.invokevirtual 36, 3) := by decide +kernel
theorem dX0_findWay_10 : decode cX0_findWay 10 = .ok (.aload_n 0, 1) := by decide +kernel
theorem dX0_findWay_11 : decode cX0_findWay 11 = .ok (.getfield 25, 3) := by decide +kernel
theorem dX0_findWay_14 : decode cX0_findWay 14 = .ok (.iload_n 1, 1) := by decide +kernel
theorem dX0_findWay_15 : decode cX0_findWay 15 = .ok (.iconst 0, 1) := by decide +kernel
theorem dX0_findWay_16 : decode cX0_findWay 16 = .ok (.iastore, 1) := by decide +kernel
theorem dX0_findWay_17 : decode cX0_findWay 17 = .ok (.aload_n 0, 1) := by decide +kernel
theorem dX0_findWay_18 : decode cX0_findWay 18 = .ok (.getfield 28, 3) := by decide +kernel
theorem dX0_findWay_21 : decode cX0_findWay 21 = .ok (.iload_n 1, 1) := by decide +kernel
theorem dX0_findWay_22 : decode cX0_findWay 22 = .ok (.iconst 0, 1) := by decide +kernel
theorem dX0_findWay_23 : decode cX0_findWay 23 = .ok (.iastore, 1) := by decide +kernel
theorem dX0_findWay_24 : decode cX0_findWay 24 = .ok (.aload_n 2, 1) := by decide +kernel
theorem dX0_findWay_25 : decode cX0_findWay 25 = .ok (.getfield 42, 3) := by decide +kernel
theorem dX0_findWay_28 : decode cX0_findWay 28 = .ok (.aload_n 0, 1) := by decide +kernel
theorem dX0_findWay_29 : decode cX0_findWay 29 = .ok (.getfield 15, 3) := by decide +kernel
theorem dX0_findWay_32 : decode cX0_findWay 32 = .ok (.iload_n 1, 1) := by decide +kernel
theorem dX0_findWay_33 : decode cX0_findWay 33 = .ok (.iaload, 1) := by decide +kernel
theorem dX0_findWay_34 : decode cX0_findWay 34 = .ok (.iaload, 1) := by decide +kernel
theorem dX0_findWay_35 : decode cX0_findWay 35 = .ok (.ldc 45, 2) := by decide +kernel
theorem dX0_findWay_37 : decode cX0_findWay 37 = .ok (.if_icmp .lt 4, 3) := by decide +kernel
theorem dX0_findWay_40 : decode cX0_findWay 40 = .ok (.return_, 1) := by decide +kernel
theorem dX0_findWay_41 : decode cX0_findWay 41 = .ok (.aload_n 0, 1) := by decide +kernel
theorem dX0_findWay_42 : decode cX0_findWay 42 = .ok (.getfield 15, 3) := by decide +kernel
theorem dX0_findWay_45 : decode cX0_findWay 45 = .ok (.iload_n 1, 1) := by decide +kernel
theorem dX0_findWay_46 : decode cX0_findWay 46 = .ok (.iaload, 1) := by decide +kernel
theorem dX0_findWay_47 : decode cX0_findWay 47 = .ok (.istore_n 3, 1) := by decide +kernel
theorem dX0_findWay_48 : decode cX0_findWay 48 = .ok (.iconst 0, 1) := by decide +kernel
theorem dX0_findWay_49 : decode cX0_findWay 49 = .ok (.istore 4, 2) := by decide +kernel
theorem dX0_findWay_51 : decode cX0_findWay 51 = .ok (.iload_n 3, 1) := by decide +kernel
theorem dX0_findWay_52 : decode cX0_findWay 52 = .ok (.aload_n 0, 1) := by decide +kernel
theorem dX0_findWay_53 : decode cX0_findWay 53 = .ok (.getfield 19, 3) := by decide +kernel
theorem dX0_findWay_56 : decode cX0_findWay 56 = .ok (.iload_n 1, 1) := by decide +kernel
theorem dX0_findWay_57 : decode cX0_findWay 57 = .ok (.iaload, 1) := by decide +kernel
theorem dX0_findWay_58 : decode cX0_findWay 58 = .ok (.if_icmp .eq 77, 3) := by decide +kernel
theorem dX0_findWay_61 : decode cX0_findWay 61 = .ok (.iload 4, 2) := by decide +kernel
theorem dX0_findWay_63 : decode cX0_findWay 63 = .ok (.bipush 9, 2) := by decide +kernel
theorem dX0_findWay_65 : decode cX0_findWay 65 = .ok (.if_icmp .ge 70, 3) := by decide +kernel
theorem dX0_findWay_68 : decode cX0_findWay 68 = .ok (.aload_n 2, 1) := by decide +kernel
theorem dX0_findWay_69 : decode cX0_findWay 69 = .ok (.iload_n 3, 1) := by decide +kernel
theorem dX0_findWay_70 : decode cX0_findWay 70 = .ok (.invokevirtual 46, 3) := by decide +kernel
theorem dX0_findWay_73 : decode cX0_findWay 73 = .ok (.istore 5, 2) := by decide +kernel
theorem dX0_findWay_75 : decode cX0_findWay 75 = .ok (.iload 5, 2) := by decide +kernel
theorem dX0_findWay_77 : decode cX0_findWay 77 = .ok (.iconst (-1), 1) := by decide +kernel
theorem dX0_findWay_78 : decode cX0_findWay 78 = .ok (.if_icmp .ne 6, 3) := by decide +kernel
theorem dX0_findWay_81 : decode cX0_findWay 81 = .ok (.goto 54, 3) := by decide +kernel
theorem dX0_findWay_84 : decode cX0_findWay 84 = .ok (.aload_n 0, 1) := by decide +kernel
theorem dX0_findWay_85 : decode cX0_findWay 85 = .ok (.getfield 33, 3) := by decide +kernel
theorem dX0_findWay_88 : decode cX0_findWay 88 = .ok (.iload_n 1, 1) := by decide +kernel
theorem dX0_findWay_89 : decode cX0_findWay 89 = .ok (.aaload, 1) := by decide +kernel
theorem dX0_findWay_90 : decode cX0_findWay 90 = .ok (.iload 4, 2) := by decide +kernel
theorem dX0_findWay_92 : decode cX0_findWay 92 = .ok (.iload 5, 2) := by decide +kernel
theorem dX0_findWay_94 : decode cX0_findWay 94 = .ok (.iastore, 1) := by decide +kernel
theorem dX0_findWay_95 : decode cX0_findWay 95 = .ok (.aload_n 0, 1) := by decide +kernel
theorem dX0_findWay_96 : decode cX0_findWay 96 = .ok (.getfield 25, 3) := by decide +kernel
theorem dX0_findWay_99 : decode cX0_findWay 99 = .ok (.iload_n 1, 1) := by decide +kernel
theorem dX0_findWay_100 : decode cX0_findWay 100 = .ok (.iload 4, 2) := by decide +kernel
theorem dX0_findWay_102 : decode cX0_findWay 102 = .ok (.iconst 1, 1) := by decide +kernel
theorem dX0_findWay_103 : decode cX0_findWay 103 = .ok (.iadd, 1) := by decide +kernel
theorem dX0_findWay_104 : decode cX0_findWay 104 = .ok (.iastore, 1) := by decide +kernel
theorem dX0_findWay_105 : decode cX0_findWay 105 = .ok (.aload_n 0, 1) := by decide +kernel
theorem dX0_findWay_106 : decode cX0_findWay 106 = .ok (.getfield 28, 3) := by decide +kernel
theorem dX0_findWay_109 : decode cX0_findWay 109 = .ok (.iload_n 1, 1) := by decide +kernel
theorem dX0_findWay_110 : decode cX0_findWay 110 = .ok (.dup2, 1) := by decide +kernel
theorem dX0_findWay_111 : decode cX0_findWay 111 = .ok (.iaload, 1) := by decide +kernel
theorem dX0_findWay_112 : decode cX0_findWay 112 = .ok (.aload_n 2, 1) := by decide +kernel
theorem dX0_findWay_113 : decode cX0_findWay 113 = .ok (.getfield 50, 3) := by decide +kernel
theorem dX0_findWay_116 : decode cX0_findWay 116 = .ok (.iload 5, 2) := by decide +kernel
theorem dX0_findWay_118 : decode cX0_findWay 118 = .ok (.iaload, 1) := by decide +kernel
theorem dX0_findWay_119 : decode cX0_findWay 119 = .ok (.iadd, 1) := by decide +kernel
theorem dX0_findWay_120 : decode cX0_findWay 120 = .ok (.iastore, 1) := by decide +kernel
theorem dX0_findWay_121 : decode cX0_findWay 121 = .ok (.aload_n 2, 1) := by decide +kernel
theorem dX0_findWay_122 : decode cX0_findWay 122 = .ok (.iload 5, 2) := by decide +kernel
theorem dX0_findWay_124 : decode cX0_findWay 124 = .ok (.iload_n 3, 1) := by decide +kernel
theorem dX0_findWay_125 : decode cX0_findWay 125 = .ok (.invokevirtual 53, 3) := by decide +kernel
theorem dX0_findWay_128 : decode cX0_findWay 128 = .ok (.istore_n 3, 1) := by decide +kernel
theorem dX0_findWay_129 : decode cX0_findWay 129 = .ok (.iinc 4 1, 3) := by decide +kernel
theorem dX0_findWay_132 : decode cX0_findWay 132 = .ok (.goto (-81), 3) := by decide +kernel
theorem dX0_findWay_135 : decode cX0_findWay 135 = .ok (.return_, 1) := by decide +kernel
theorem dX3_measureTo_0 : decode cX3_measureTo 0 = .ok (.aload_n 0, 1) := by decide +kernel
theorem dX3_measureTo_1 : decode cX3_measureTo 1 = .ok (.getfield 28, 3) := by decide +kernel
theorem dX3_measureTo_4 : decode cX3_measureTo 4 = .ok (.ldc 31, 2) := by decide +kernel
theorem dX3_measureTo_6 : decode cX3_measureTo 6 = .ok (.invokestatic 32, 3) := by decide +kernel
theorem dX3_measureTo_9 : decode cX3_measureTo 9 = .ok (.aload_n 0, 1) := by decide +kernel
theorem dX3_measureTo_10 : decode cX3_measureTo 10 = .ok (.getfield 28, 3) := by decide +kernel
theorem dX3_measureTo_13 : decode cX3_measureTo 13 = .ok (.iload_n 1, 1) := by decide +kernel
theorem dX3_measureTo_14 : decode cX3_measureTo 14 = .ok (.iconst 0, 1) := by decide +kernel
theorem dX3_measureTo_15 : decode cX3_measureTo 15 = .ok (.iastore, 1) := by decide +kernel
theorem dX3_measureTo_16 : decode cX3_measureTo 16 = .ok (.iconst 1, 1) := by decide +kernel
theorem dX3_measureTo_17 : decode cX3_measureTo 17 = .ok (.istore_n 2, 1) := by decide +kernel
theorem dX3_measureTo_18 : decode cX3_measureTo 18 = .ok (.iconst 0, 1) := by decide +kernel
theorem dX3_measureTo_19 : decode cX3_measureTo 19 = .ok (.istore_n 3, 1) := by decide +kernel
theorem dX3_measureTo_20 : decode cX3_measureTo 20 = .ok (.iload_n 2, 1) := by decide +kernel
theorem dX3_measureTo_21 : decode cX3_measureTo 21 = .ok (.ifCond .eq 109, 3) := by decide +kernel
theorem dX3_measureTo_24 : decode cX3_measureTo 24 = .ok (.iload_n 3, 1) := by decide +kernel
theorem dX3_measureTo_25 : decode cX3_measureTo 25 = .ok (.bipush 10, 2) := by decide +kernel
theorem dX3_measureTo_27 : decode cX3_measureTo 27 = .ok (.if_icmp .ge 103, 3) := by decide +kernel
theorem dX3_measureTo_30 : decode cX3_measureTo 30 = .ok (.iconst 0, 1) := by decide +kernel
theorem dX3_measureTo_31 : decode cX3_measureTo 31 = .ok (.istore_n 2, 1) := by decide +kernel
theorem dX3_measureTo_32 : decode cX3_measureTo 32 = .ok (.iconst 0, 1) := by decide +kernel
theorem dX3_measureTo_33 : decode cX3_measureTo 33 = .ok (.istore 4, 2) := by decide +kernel
theorem dX3_measureTo_35 : decode cX3_measureTo 35 = .ok (.iload 4, 2) := by decide +kernel
theorem dX3_measureTo_37 : decode cX3_measureTo 37 = .ok (.aload_n 0, 1) := by decide +kernel
theorem dX3_measureTo_38 : decode cX3_measureTo 38 = .ok (.getfield 9, 3) := by decide +kernel
theorem dX3_measureTo_41 : decode cX3_measureTo 41 = .ok (.if_icmp .ge 83, 3) := by decide +kernel
theorem dX3_measureTo_44 : decode cX3_measureTo 44 = .ok (.aload_n 0, 1) := by decide +kernel
theorem dX3_measureTo_45 : decode cX3_measureTo 45 = .ok (.aload_n 0, 1) := by decide +kernel
theorem dX3_measureTo_46 : decode cX3_measureTo 46 = .ok (.getfield 15, 3) := by decide +kernel
theorem dX3_measureTo_49 : decode cX3_measureTo 49 = .ok (.iload 4, 2) := by decide +kernel
theorem dX3_measureTo_51 : decode cX3_measureTo 51 = .ok (.iaload, 1) := by decide +kernel
theorem dX3_measureTo_52 : decode cX3_measureTo 52 = .ok (.aload_n 0, 1) := by decide +kernel
theorem dX3_measureTo_53 : decode cX3_measureTo 53 = .ok (.getfield 19, 3) := by decide +kernel
theorem dX3_measureTo_56 : decode cX3_measureTo 56 = .ok (.iload 4, 2) := by decide +kernel
theorem dX3_measureTo_58 : decode cX3_measureTo 58 = .ok (.iaload, 1) := by decide +kernel
theorem dX3_measureTo_59 : decode cX3_measureTo 59 = .ok (.aload_n 0, 1) := by decide +kernel
theorem dX3_measureTo_60 : decode cX3_measureTo 60 = .ok (.getfield 22, 3) := by decide +kernel
theorem dX3_measureTo_63 : decode cX3_measureTo 63 = .ok (.iload 4, 2) := by decide +kernel
theorem dX3_measureTo_65 : decode cX3_measureTo 65 = .ok (.iaload, 1) := by decide +kernel
theorem dX3_measureTo_66 : decode cX3_measureTo 66 = .ok (.invokevirtual 38, 3) := by decide +kernel
theorem dX3_measureTo_69 : decode cX3_measureTo 69 = .ok (.istore 5, 2) := by decide +kernel
theorem dX3_measureTo_71 : decode cX3_measureTo 71 = .ok (.aload_n 0, 1) := by decide +kernel
theorem dX3_measureTo_72 : decode cX3_measureTo 72 = .ok (.aload_n 0, 1) := by decide +kernel
theorem dX3_measureTo_73 : decode cX3_measureTo 73 = .ok (.getfield 19, 3) := by decide +kernel
theorem dX3_measureTo_76 : decode cX3_measureTo 76 = .ok (.iload 4, 2) := by decide +kernel
theorem dX3_measureTo_78 : decode cX3_measureTo 78 = .ok (.iaload, 1) := by decide +kernel
theorem dX3_measureTo_79 : decode cX3_measureTo 79 = .ok (.aload_n 0, 1) := by decide +kernel
theorem dX3_measureTo_80 : decode cX3_measureTo 80 = .ok (.getfield 15, 3) := by decide +kernel
theorem dX3_measureTo_83 : decode cX3_measureTo 83 = .ok (.iload 4, 2) := by decide +kernel
theorem dX3_measureTo_85 : decode cX3_measureTo 85 = .ok (.iaload, 1) := by decide +kernel
theorem dX3_measureTo_86 : decode cX3_measureTo 86 = .ok (.aload_n 0, 1) := by decide +kernel
theorem dX3_measureTo_87 : decode cX3_measureTo 87 = .ok (.getfield 22, 3) := by decide +kernel
theorem dX3_measureTo_90 : decode cX3_measureTo 90 = .ok (.iload 4, 2) := by decide +kernel
theorem dX3_measureTo_92 : decode cX3_measureTo 92 = .ok (.iaload, 1) := by decide +kernel
theorem dX3_measureTo_93 : decode cX3_measureTo 93 = .ok (.invokevirtual 38, 3) := by decide +kernel
theorem dX3_measureTo_96 : decode cX3_measureTo 96 = .ok (.istore 6, 2) := by decide +kernel
theorem dX3_measureTo_98 : decode cX3_measureTo 98 = .ok (.iload_n 2, 1) := by decide +kernel
theorem dX3_measureTo_99 : decode cX3_measureTo 99 = .ok (.ifCond .ne 13, 3) := by decide +kernel
theorem dX3_measureTo_102 : decode cX3_measureTo 102 = .ok (.iload 5, 2) := by decide +kernel
theorem dX3_measureTo_104 : decode cX3_measureTo 104 = .ok (.ifCond .ne 8, 3) := by decide +kernel
theorem dX3_measureTo_107 : decode cX3_measureTo 107 = .ok (.iload 6, 2) := by decide +kernel
theorem dX3_measureTo_109 : decode cX3_measureTo 109 = .ok (.ifCond .eq 7, 3) := by decide +kernel
theorem dX3_measureTo_112 : decode cX3_measureTo 112 = .ok (.iconst 1, 1) := by decide +kernel
theorem dX3_measureTo_113 : decode cX3_measureTo 113 = .ok (.goto 4, 3) := by decide +kernel
theorem dX3_measureTo_116 : decode cX3_measureTo 116 = .ok (.iconst 0, 1) := by decide +kernel
theorem dX3_measureTo_117 : decode cX3_measureTo 117 = .ok (.istore_n 2, 1) := by decide +kernel
theorem dX3_measureTo_118 : decode cX3_measureTo 118 = .ok (.iinc 4 1, 3) := by decide +kernel
theorem dX3_measureTo_121 : decode cX3_measureTo 121 = .ok (.goto (-86), 3) := by decide +kernel
theorem dX3_measureTo_124 : decode cX3_measureTo 124 = .ok (.iinc 3 1, 3) := by decide +kernel
theorem dX3_measureTo_127 : decode cX3_measureTo 127 = .ok (.goto (-107), 3) := by decide +kernel
theorem dX3_measureTo_130 : decode cX3_measureTo 130 = .ok (.return_, 1) := by decide +kernel
theorem dX3_shorten_0 : decode cX3_shorten 0 = .ok (.aload_n 0, 1) := by decide +kernel
theorem dX3_shorten_1 : decode cX3_shorten 1 = .ok (.getfield 28, 3) := by decide +kernel
theorem dX3_shorten_4 : decode cX3_shorten 4 = .ok (.iload_n 2, 1) := by decide +kernel
theorem dX3_shorten_5 : decode cX3_shorten 5 = .ok (.iaload, 1) := by decide +kernel
theorem dX3_shorten_6 : decode cX3_shorten 6 = .ok (.iload_n 3, 1) := by decide +kernel
theorem dX3_shorten_7 : decode cX3_shorten 7 = .ok (.iadd, 1) := by decide +kernel
theorem dX3_shorten_8 : decode cX3_shorten 8 = .ok (.istore 4, 2) := by decide +kernel
theorem dX3_shorten_10 : decode cX3_shorten 10 = .ok (.iload 4, 2) := by decide +kernel
theorem dX3_shorten_12 : decode cX3_shorten 12 = .ok (.aload_n 0, 1) := by decide +kernel
theorem dX3_shorten_13 : decode cX3_shorten 13 = .ok (.getfield 28, 3) := by decide +kernel
theorem dX3_shorten_16 : decode cX3_shorten 16 = .ok (.iload_n 1, 1) := by decide +kernel
theorem dX3_shorten_17 : decode cX3_shorten 17 = .ok (.iaload, 1) := by decide +kernel
theorem dX3_shorten_18 : decode cX3_shorten 18 = .ok (.if_icmp .lt 5, 3) := by decide +kernel
theorem dX3_shorten_21 : decode cX3_shorten 21 = .ok (.iconst 0, 1) := by decide +kernel
theorem dX3_shorten_22 : decode cX3_shorten 22 = .ok (.ireturn, 1) := by decide +kernel
theorem dX3_shorten_23 : decode cX3_shorten 23 = .ok (.aload_n 0, 1) := by decide +kernel
theorem dX3_shorten_24 : decode cX3_shorten 24 = .ok (.getfield 28, 3) := by decide +kernel
theorem dX3_shorten_27 : decode cX3_shorten 27 = .ok (.iload_n 1, 1) := by decide +kernel
theorem dX3_shorten_28 : decode cX3_shorten 28 = .ok (.iload 4, 2) := by decide +kernel
theorem dX3_shorten_30 : decode cX3_shorten 30 = .ok (.iastore, 1) := by decide +kernel
theorem dX3_shorten_31 : decode cX3_shorten 31 = .ok (.iconst 1, 1) := by decide +kernel
theorem dX3_shorten_32 : decode cX3_shorten 32 = .ok (.ireturn, 1) := by decide +kernel
theorem dX3_firstTowardsTarget_0 : decode cX3_firstTowardsTarget 0 = .ok (.iconst 0, 1) := by decide +kernel
theorem dX3_firstTowardsTarget_1 : decode cX3_firstTowardsTarget 1 = .ok (.istore_n 2, 1) := by decide +kernel
theorem dX3_firstTowardsTarget_2 : decode cX3_firstTowardsTarget 2 = .ok (.iload_n 2, 1) := by decide +kernel
theorem dX3_firstTowardsTarget_3 : decode cX3_firstTowardsTarget 3 = .ok (.aload_n 0, 1) := by decide +kernel
theorem dX3_firstTowardsTarget_4 : decode cX3_firstTowardsTarget 4 = .ok (.getfield 9, 3) := by decide +kernel
theorem dX3_firstTowardsTarget_7 : decode cX3_firstTowardsTarget 7 = .ok (.if_icmp .ge 45, 3) := by decide +kernel
theorem dX3_firstTowardsTarget_10 : decode cX3_firstTowardsTarget 10 = .ok (.aload_n 0, 1) := by decide +kernel
theorem dX3_firstTowardsTarget_11 : decode cX3_firstTowardsTarget 11 = .ok (.iload_n 2, 1) := by decide +kernel
theorem dX3_firstTowardsTarget_12 : decode cX3_firstTowardsTarget 12 = .ok (.iload_n 1, 1) := by decide +kernel
theorem dX3_firstTowardsTarget_13 : decode cX3_firstTowardsTarget 13 = .ok (.invokevirtual 42, 3) := by decide +kernel
theorem dX3_firstTowardsTarget_16 : decode cX3_firstTowardsTarget 16 = .ok (.istore_n 3, 1) := by decide +kernel
theorem dX3_firstTowardsTarget_17 : decode cX3_firstTowardsTarget 17 = .ok (.iload_n 3, 1) := by decide +kernel
theorem dX3_firstTowardsTarget_18 : decode cX3_firstTowardsTarget 18 = .ok (.iconst (-1), 1) := by decide +kernel
theorem dX3_firstTowardsTarget_19 : decode cX3_firstTowardsTarget 19 = .ok (.if_icmp .eq 27, 3) := by decide +kernel
theorem dX3_firstTowardsTarget_22 : decode cX3_firstTowardsTarget 22 = .ok (.aload_n 0, 1) := by decide +kernel
theorem dX3_firstTowardsTarget_23 : decode cX3_firstTowardsTarget 23 = .ok (.getfield 28, 3) := by decide +kernel
theorem dX3_firstTowardsTarget_26 : decode cX3_firstTowardsTarget 26 = .ok (.iload_n 3, 1) := by decide +kernel
theorem dX3_firstTowardsTarget_27 : decode cX3_firstTowardsTarget 27 = .ok (.iaload, 1) := by decide +kernel
theorem dX3_firstTowardsTarget_28 : decode cX3_firstTowardsTarget 28 = .ok (.aload_n 0, 1) := by decide +kernel
theorem dX3_firstTowardsTarget_29 : decode cX3_firstTowardsTarget 29 = .ok (.getfield 22, 3) := by decide +kernel
theorem dX3_firstTowardsTarget_32 : decode cX3_firstTowardsTarget 32 = .ok (.iload_n 2, 1) := by decide +kernel
theorem dX3_firstTowardsTarget_33 : decode cX3_firstTowardsTarget 33 = .ok (.iaload, 1) := by decide +kernel
theorem dX3_firstTowardsTarget_34 : decode cX3_firstTowardsTarget 34 = .ok (.iadd, 1) := by decide +kernel
theorem dX3_firstTowardsTarget_35 : decode cX3_firstTowardsTarget 35 = .ok (.aload_n 0, 1) := by decide +kernel
theorem dX3_firstTowardsTarget_36 : decode cX3_firstTowardsTarget 36 = .ok (.getfield 28, 3) := by decide +kernel
theorem dX3_firstTowardsTarget_39 : decode cX3_firstTowardsTarget 39 = .ok (.iload_n 1, 1) := by decide +kernel
theorem dX3_firstTowardsTarget_40 : decode cX3_firstTowardsTarget 40 = .ok (.iaload, 1) := by decide +kernel
theorem dX3_firstTowardsTarget_41 : decode cX3_firstTowardsTarget 41 = .ok (.if_icmp .ne 5, 3) := by decide +kernel
theorem dX3_firstTowardsTarget_44 : decode cX3_firstTowardsTarget 44 = .ok (.iload_n 2, 1) := by decide +kernel
theorem dX3_firstTowardsTarget_45 : decode cX3_firstTowardsTarget 45 = .ok (.ireturn, 1) := by decide +kernel
theorem dX3_firstTowardsTarget_46 : decode cX3_firstTowardsTarget 46 = .ok (.iinc 2 1, 3) := by decide +kernel
theorem dX3_firstTowardsTarget_49 : decode cX3_firstTowardsTarget 49 = .ok (.goto (-47), 3) := by decide +kernel
theorem dX3_firstTowardsTarget_52 : decode cX3_firstTowardsTarget 52 = .ok (.iconst (-1), 1) := by decide +kernel
theorem dX3_firstTowardsTarget_53 : decode cX3_firstTowardsTarget 53 = .ok (.ireturn, 1) := by decide +kernel
theorem dX3_endBehind_0 : decode cX3_endBehind 0 = .ok (.aload_n 0, 1) := by decide +kernel
theorem dX3_endBehind_1 : decode cX3_endBehind 1 = .ok (.getfield 15, 3) := by decide +kernel
theorem dX3_endBehind_4 : decode cX3_endBehind 4 = .ok (.iload_n 1, 1) := by decide +kernel
theorem dX3_endBehind_5 : decode cX3_endBehind 5 = .ok (.iaload, 1) := by decide +kernel
theorem dX3_endBehind_6 : decode cX3_endBehind 6 = .ok (.iload_n 2, 1) := by decide +kernel
theorem dX3_endBehind_7 : decode cX3_endBehind 7 = .ok (.if_icmp .ne 10, 3) := by decide +kernel
theorem dX3_endBehind_10 : decode cX3_endBehind 10 = .ok (.aload_n 0, 1) := by decide +kernel
theorem dX3_endBehind_11 : decode cX3_endBehind 11 = .ok (.getfield 19, 3) := by decide +kernel
theorem dX3_endBehind_14 : decode cX3_endBehind 14 = .ok (.iload_n 1, 1) := by decide +kernel
theorem dX3_endBehind_15 : decode cX3_endBehind 15 = .ok (.iaload, 1) := by decide +kernel
theorem dX3_endBehind_16 : decode cX3_endBehind 16 = .ok (.ireturn, 1) := by decide +kernel
theorem dX3_endBehind_17 : decode cX3_endBehind 17 = .ok (.aload_n 0, 1) := by decide +kernel
theorem dX3_endBehind_18 : decode cX3_endBehind 18 = .ok (.getfield 19, 3) := by decide +kernel
theorem dX3_endBehind_21 : decode cX3_endBehind 21 = .ok (.iload_n 1, 1) := by decide +kernel
theorem dX3_endBehind_22 : decode cX3_endBehind 22 = .ok (.iaload, 1) := by decide +kernel
theorem dX3_endBehind_23 : decode cX3_endBehind 23 = .ok (.iload_n 2, 1) := by decide +kernel
theorem dX3_endBehind_24 : decode cX3_endBehind 24 = .ok (.if_icmp .ne 12, 3) := by decide +kernel
theorem dX3_endBehind_27 : decode cX3_endBehind 27 = .ok (.aload_n 0, 1) := by decide +kernel
theorem dX3_endBehind_28 : decode cX3_endBehind 28 = .ok (.getfield 15, 3) := by decide +kernel
theorem dX3_endBehind_31 : decode cX3_endBehind 31 = .ok (.iload_n 1, 1) := by decide +kernel
theorem dX3_endBehind_32 : decode cX3_endBehind 32 = .ok (.iaload, 1) := by decide +kernel
theorem dX3_endBehind_33 : decode cX3_endBehind 33 = .ok (.goto 4, 3) := by decide +kernel
theorem dX3_endBehind_36 : decode cX3_endBehind 36 = .ok (.iconst (-1), 1) := by decide +kernel
theorem dX3_endBehind_37 : decode cX3_endBehind 37 = .ok (.ireturn, 1) := by decide +kernel
theorem dX1_mayFollow_0 : decode cX1_mayFollow 0 = .ok (.aload_n 0, 1) := by decide +kernel
theorem dX1_mayFollow_1 : decode cX1_mayFollow 1 = .ok (.getfield 9, 3) := by decide +kernel
theorem dX1_mayFollow_4 : decode cX1_mayFollow 4 = .ok (.ifCond .ne 5, 3) := by decide +kernel
theorem dX1_mayFollow_7 : decode cX1_mayFollow 7 = .ok (.iconst 1, 1) := by decide +kernel
theorem dX1_mayFollow_8 : decode cX1_mayFollow 8 = .ok (.ireturn, 1) := by decide +kernel
theorem dX1_mayFollow_9 : decode cX1_mayFollow 9 = .ok (.aload_n 0, 1) := by decide +kernel
theorem dX1_mayFollow_10 : decode cX1_mayFollow 10 = .ok (.getfield 9, 3) := by decide +kernel
theorem dX1_mayFollow_13 : decode cX1_mayFollow 13 = .ok (.iconst 1, 1) := by decide +kernel
theorem dX1_mayFollow_14 : decode cX1_mayFollow 14 = .ok (.isub, 1) := by decide +kernel
theorem dX1_mayFollow_15 : decode cX1_mayFollow 15 = .ok (.istore 4, 2) := by decide +kernel
theorem dX1_mayFollow_17 : decode cX1_mayFollow 17 = .ok (.iload_n 1, 1) := by decide +kernel
theorem dX1_mayFollow_18 : decode cX1_mayFollow 18 = .ok (.aload_n 0, 1) := by decide +kernel
theorem dX1_mayFollow_19 : decode cX1_mayFollow 19 = .ok (.getfield 15, 3) := by decide +kernel
theorem dX1_mayFollow_22 : decode cX1_mayFollow 22 = .ok (.iload 4, 2) := by decide +kernel
theorem dX1_mayFollow_24 : decode cX1_mayFollow 24 = .ok (.iaload, 1) := by decide +kernel
theorem dX1_mayFollow_25 : decode cX1_mayFollow 25 = .ok (.if_icmp .le 29, 3) := by decide +kernel
theorem dX1_mayFollow_28 : decode cX1_mayFollow 28 = .ok (.iload_n 2, 1) := by decide +kernel
theorem dX1_mayFollow_29 : decode cX1_mayFollow 29 = .ok (.aload_n 0, 1) := by decide +kernel
theorem dX1_mayFollow_30 : decode cX1_mayFollow 30 = .ok (.getfield 19, 3) := by decide +kernel
theorem dX1_mayFollow_33 : decode cX1_mayFollow 33 = .ok (.iload 4, 2) := by decide +kernel
theorem dX1_mayFollow_35 : decode cX1_mayFollow 35 = .ok (.iaload, 1) := by decide +kernel
theorem dX1_mayFollow_36 : decode cX1_mayFollow 36 = .ok (.if_icmp .lt 18, 3) := by decide +kernel
theorem dX1_mayFollow_39 : decode cX1_mayFollow 39 = .ok (.iload_n 3, 1) := by decide +kernel
theorem dX1_mayFollow_40 : decode cX1_mayFollow 40 = .ok (.aload_n 0, 1) := by decide +kernel
theorem dX1_mayFollow_41 : decode cX1_mayFollow 41 = .ok (.getfield 22, 3) := by decide +kernel
theorem dX1_mayFollow_44 : decode cX1_mayFollow 44 = .ok (.iload 4, 2) := by decide +kernel
theorem dX1_mayFollow_46 : decode cX1_mayFollow 46 = .ok (.iaload, 1) := by decide +kernel
theorem dX1_mayFollow_47 : decode cX1_mayFollow 47 = .ok (.if_icmp .gt 7, 3) := by decide +kernel
theorem dX1_mayFollow_50 : decode cX1_mayFollow 50 = .ok (.iconst 1, 1) := by decide +kernel
theorem dX1_mayFollow_51 : decode cX1_mayFollow 51 = .ok (.goto 4, 3) := by decide +kernel
theorem dX1_mayFollow_54 : decode cX1_mayFollow 54 = .ok (.iconst 0, 1) := by decide +kernel
theorem dX1_mayFollow_55 : decode cX1_mayFollow 55 = .ok (.ireturn, 1) := by decide +kernel
theorem dX1_add_0 : decode cX1_add 0 = .ok (.aload_n 0, 1) := by decide +kernel
theorem dX1_add_1 : decode cX1_add 1 = .ok (.getfield 9, 3) := by decide +kernel
theorem dX1_add_4 : decode cX1_add 4 = .ok (.istore 4, 2) := by decide +kernel
theorem dX1_add_6 : decode cX1_add 6 = .ok (.aload_n 0, 1) := by decide +kernel
theorem dX1_add_7 : decode cX1_add 7 = .ok (.getfield 15, 3) := by decide +kernel
theorem dX1_add_10 : decode cX1_add 10 = .ok (.iload 4, 2) := by decide +kernel
theorem dX1_add_12 : decode cX1_add 12 = .ok (.iload_n 1, 1) := by decide +kernel
theorem dX1_add_13 : decode cX1_add 13 = .ok (.iastore, 1) := by decide +kernel
theorem dX1_add_14 : decode cX1_add 14 = .ok (.aload_n 0, 1) := by decide +kernel
theorem dX1_add_15 : decode cX1_add 15 = .ok (.getfield 19, 3) := by decide +kernel
theorem dX1_add_18 : decode cX1_add 18 = .ok (.iload 4, 2) := by decide +kernel
theorem dX1_add_20 : decode cX1_add 20 = .ok (.iload_n 2, 1) := by decide +kernel
theorem dX1_add_21 : decode cX1_add 21 = .ok (.iastore, 1) := by decide +kernel
theorem dX1_add_22 : decode cX1_add 22 = .ok (.aload_n 0, 1) := by decide +kernel
theorem dX1_add_23 : decode cX1_add 23 = .ok (.getfield 22, 3) := by decide +kernel
theorem dX1_add_26 : decode cX1_add 26 = .ok (.iload 4, 2) := by decide +kernel
theorem dX1_add_28 : decode cX1_add 28 = .ok (.iload_n 3, 1) := by decide +kernel
theorem dX1_add_29 : decode cX1_add 29 = .ok (.iastore, 1) := by decide +kernel
theorem dX1_add_30 : decode cX1_add 30 = .ok (.aload_n 0, 1) := by decide +kernel
theorem dX1_add_31 : decode cX1_add 31 = .ok (.iload 4, 2) := by decide +kernel
theorem dX1_add_33 : decode cX1_add 33 = .ok (.iconst 1, 1) := by decide +kernel
theorem dX1_add_34 : decode cX1_add 34 = .ok (.iadd, 1) := by decide +kernel
theorem dX1_add_35 : decode cX1_add 35 = .ok (.putfield 9, 3) := by decide +kernel
theorem dX1_add_38 : decode cX1_add 38 = .ok (.iload 4, 2) := by decide +kernel
theorem dX1_add_40 : decode cX1_add 40 = .ok (.ireturn, 1) := by decide +kernel
theorem dX0_add_0 : decode cX0_add 0 = .ok (.aload_n 0, 1) := by decide +kernel
theorem dX0_add_1 : decode cX0_add 1 = .ok (.getfield 9, 3) := by decide +kernel
theorem dX0_add_4 : decode cX0_add 4 = .ok (.istore 4, 2) := by decide +kernel
theorem dX0_add_6 : decode cX0_add 6 = .ok (.aload_n 0, 1) := by decide +kernel
theorem dX0_add_7 : decode cX0_add 7 = .ok (.getfield 15, 3) := by decide +kernel
theorem dX0_add_10 : decode cX0_add 10 = .ok (.iload 4, 2) := by decide +kernel
theorem dX0_add_12 : decode cX0_add 12 = .ok (.iload_n 1, 1) := by decide +kernel
theorem dX0_add_13 : decode cX0_add 13 = .ok (.iastore, 1) := by decide +kernel
theorem dX0_add_14 : decode cX0_add 14 = .ok (.aload_n 0, 1) := by decide +kernel
theorem dX0_add_15 : decode cX0_add 15 = .ok (.getfield 19, 3) := by decide +kernel
theorem dX0_add_18 : decode cX0_add 18 = .ok (.iload 4, 2) := by decide +kernel
theorem dX0_add_20 : decode cX0_add 20 = .ok (.iload_n 2, 1) := by decide +kernel
theorem dX0_add_21 : decode cX0_add 21 = .ok (.iastore, 1) := by decide +kernel
theorem dX0_add_22 : decode cX0_add 22 = .ok (.aload_n 0, 1) := by decide +kernel
theorem dX0_add_23 : decode cX0_add 23 = .ok (.getfield 22, 3) := by decide +kernel
theorem dX0_add_26 : decode cX0_add 26 = .ok (.iload 4, 2) := by decide +kernel
theorem dX0_add_28 : decode cX0_add 28 = .ok (.iload_n 3, 1) := by decide +kernel
theorem dX0_add_29 : decode cX0_add 29 = .ok (.iastore, 1) := by decide +kernel
theorem dX0_add_30 : decode cX0_add 30 = .ok (.aload_n 0, 1) := by decide +kernel
theorem dX0_add_31 : decode cX0_add 31 = .ok (.iload 4, 2) := by decide +kernel
theorem dX0_add_33 : decode cX0_add 33 = .ok (.iconst 1, 1) := by decide +kernel
theorem dX0_add_34 : decode cX0_add 34 = .ok (.iadd, 1) := by decide +kernel
theorem dX0_add_35 : decode cX0_add 35 = .ok (.putfield 9, 3) := by decide +kernel
theorem dX0_add_38 : decode cX0_add 38 = .ok (.iload 4, 2) := by decide +kernel
theorem dX0_add_40 : decode cX0_add 40 = .ok (.ireturn, 1) := by decide +kernel
theorem dX0_countThrough_0 : decode cX0_countThrough 0 = .ok (.iconst 0, 1) := by decide +kernel
theorem dX0_countThrough_1 : decode cX0_countThrough 1 = .ok (.istore_n 2, 1) := by decide +kernel
theorem dX0_countThrough_2 : decode cX0_countThrough 2 = .ok (.iconst 0, 1) := by decide +kernel
theorem dX0_countThrough_3 : decode cX0_countThrough 3 = .ok (.istore_n 3, 1) := by decide +kernel
theorem dX0_countThrough_4 : decode cX0_countThrough 4 = .ok (.iload_n 3, 1) := by decide +kernel
theorem dX0_countThrough_5 : decode cX0_countThrough 5 = .ok (.aload_n 0, 1) := by decide +kernel
theorem dX0_countThrough_6 : decode cX0_countThrough 6 = .ok (.getfield 9, 3) := by decide +kernel
theorem dX0_countThrough_9 : decode cX0_countThrough 9 = .ok (.if_icmp .ge 45, 3) := by decide +kernel
theorem dX0_countThrough_12 : decode cX0_countThrough 12 = .ok (.iconst 0, 1) := by decide +kernel
theorem dX0_countThrough_13 : decode cX0_countThrough 13 = .ok (.istore 4, 2) := by decide +kernel
theorem dX0_countThrough_15 : decode cX0_countThrough 15 = .ok (.iload 4, 2) := by decide +kernel
theorem dX0_countThrough_17 : decode cX0_countThrough 17 = .ok (.aload_n 0, 1) := by decide +kernel
theorem dX0_countThrough_18 : decode cX0_countThrough 18 = .ok (.getfield 25, 3) := by decide +kernel
theorem dX0_countThrough_21 : decode cX0_countThrough 21 = .ok (.iload_n 3, 1) := by decide +kernel
theorem dX0_countThrough_22 : decode cX0_countThrough 22 = .ok (.iaload, 1) := by decide +kernel
theorem dX0_countThrough_23 : decode cX0_countThrough 23 = .ok (.if_icmp .ge 25, 3) := by decide +kernel
theorem dX0_countThrough_26 : decode cX0_countThrough 26 = .ok (.aload_n 0, 1) := by decide +kernel
theorem dX0_countThrough_27 : decode cX0_countThrough 27 = .ok (.getfield 33, 3) := by decide +kernel
theorem dX0_countThrough_30 : decode cX0_countThrough 30 = .ok (.iload_n 3, 1) := by decide +kernel
theorem dX0_countThrough_31 : decode cX0_countThrough 31 = .ok (.aaload, 1) := by decide +kernel
theorem dX0_countThrough_32 : decode cX0_countThrough 32 = .ok (.iload 4, 2) := by decide +kernel
theorem dX0_countThrough_34 : decode cX0_countThrough 34 = .ok (.iaload, 1) := by decide +kernel
theorem dX0_countThrough_35 : decode cX0_countThrough 35 = .ok (.iload_n 1, 1) := by decide +kernel
theorem dX0_countThrough_36 : decode cX0_countThrough 36 = .ok (.if_icmp .ne 6, 3) := by decide +kernel
theorem dX0_countThrough_39 : decode cX0_countThrough 39 = .ok (.iinc 2 1, 3) := by decide +kernel
theorem dX0_countThrough_42 : decode cX0_countThrough 42 = .ok (.iinc 4 1, 3) := by decide +kernel
theorem dX0_countThrough_45 : decode cX0_countThrough 45 = .ok (.goto (-30), 3) := by decide +kernel
theorem dX0_countThrough_48 : decode cX0_countThrough 48 = .ok (.iinc 3 1, 3) := by decide +kernel
theorem dX0_countThrough_51 : decode cX0_countThrough 51 = .ok (.goto (-47), 3) := by decide +kernel
theorem dX0_countThrough_54 : decode cX0_countThrough 54 = .ok (.iload_n 2, 1) := by decide +kernel
theorem dX0_countThrough_55 : decode cX0_countThrough 55 = .ok (.ireturn, 1) := by decide +kernel
end
section
theorem dX4_init_0 : decode cX4_init 0 = .ok (.aload_n 0, 1) := by decide +kernel
theorem dX4_init_1 : decode cX4_init 1 = .ok (.invokespecial 3, 3) := by decide +kernel
theorem dX4_init_4 : decode cX4_init 4 = .ok (.aload_n 0, 1) := by decide +kernel
theorem dX4_init_5 : decode cX4_init 5 = .ok (.new 9, 3) := by decide +kernel
theorem dX4_init_8 : decode cX4_init 8 = .ok (.dup, 1) := by decide +kernel
theorem dX4_init_9 : decode cX4_init 9 = .ok (.invokespecial 11, 3) := by decide +kernel
theorem dX4_init_12 : decode cX4_init 12 = .ok (.putfield 12, 3) := by decide +kernel
theorem dX4_init_15 : decode cX4_init 15 = .ok (.aload_n 0, 1) := by decide +kernel
theorem dX4_init_16 : decode cX4_init 16 = .ok (.new 16, 3) := by decide +kernel
theorem dX4_init_19 : decode cX4_init 19 = .ok (.dup, 1) := by decide +kernel
theorem dX4_init_20 : decode cX4_init 20 = .ok (.invokespecial 18, 3) := by decide +kernel
theorem dX4_init_23 : decode cX4_init 23 = .ok (.putfield 19, 3) := by decide +kernel
theorem dX4_init_26 : decode cX4_init 26 = .ok (.aload_n 0, 1) := by decide +kernel
theorem dX4_init_27 : decode cX4_init 27 = .ok (.new 23, 3) := by decide +kernel
theorem dX4_init_30 : decode cX4_init 30 = .ok (.dup, 1) := by decide +kernel
theorem dX4_init_31 : decode cX4_init 31 = .ok (.invokespecial 25, 3) := by decide +kernel
theorem dX4_init_34 : decode cX4_init 34 = .ok (.putfield 26, 3) := by decide +kernel
theorem dX4_init_37 : decode cX4_init 37 = .ok (.aload_n 0, 1) := by decide +kernel
theorem dX4_init_38 : decode cX4_init 38 = .ok (.new 30, 3) := by decide +kernel
theorem dX4_init_41 : decode cX4_init 41 = .ok (.dup, 1) := by decide +kernel
theorem dX4_init_42 : decode cX4_init 42 = .ok (.aload_n 0, 1) := by decide +kernel
theorem dX4_init_43 : decode cX4_init 43 = .ok (.getfield 12, 3) := by decide +kernel
theorem dX4_init_46 : decode cX4_init 46 = .ok (.aload_n 0, 1) := by decide +kernel
theorem dX4_init_47 : decode cX4_init 47 = .ok (.getfield 19, 3) := by decide +kernel
theorem dX4_init_50 : decode cX4_init 50 = .ok (.aload_n 0, 1) := by decide +kernel
theorem dX4_init_51 : decode cX4_init 51 = .ok (.getfield 26, 3) := by decide +kernel
theorem dX4_init_54 : decode cX4_init 54 = .ok (.invokespecial 32, 3) := by decide +kernel
theorem dX4_init_57 : decode cX4_init 57 = .ok (.putfield 35, 3) := by decide +kernel
theorem dX4_init_60 : decode cX4_init 60 = .ok (.aload_n 0, 1) := by decide +kernel
theorem dX4_init_61 : decode cX4_init 61 = .ok (.new 30, 3) := by decide +kernel
theorem dX4_init_64 : decode cX4_init 64 = .ok (.dup, 1) := by decide +kernel
theorem dX4_init_65 : decode cX4_init 65 = .ok (.aload_n 0, 1) := by decide +kernel
theorem dX4_init_66 : decode cX4_init 66 = .ok (.getfield 12, 3) := by decide +kernel
theorem dX4_init_69 : decode cX4_init 69 = .ok (.aload_n 0, 1) := by decide +kernel
theorem dX4_init_70 : decode cX4_init 70 = .ok (.getfield 19, 3) := by decide +kernel
theorem dX4_init_73 : decode cX4_init 73 = .ok (.aload_n 0, 1) := by decide +kernel
theorem dX4_init_74 : decode cX4_init 74 = .ok (.getfield 26, 3) := by decide +kernel
theorem dX4_init_77 : decode cX4_init 77 = .ok (.invokespecial 32, 3) := by decide +kernel
theorem dX4_init_80 : decode cX4_init 80 = .ok (.putfield 39, 3) := by decide +kernel
theorem dX4_init_83 : decode cX4_init 83 = .ok (.aload_n 0, 1) := by decide +kernel
theorem dX4_init_84 : decode cX4_init 84 = .ok (.ldc 42, 2) := by decide +kernel
theorem dX4_init_86 : decode cX4_init 86 = .ok (.putfield 43, 3) := by decide +kernel
theorem dX4_init_89 : decode cX4_init 89 = .ok (.aload_n 0, 1) := by decide +kernel
theorem dX4_init_90 : decode cX4_init 90 = .ok (.iconst 0, 1) := by decide +kernel
theorem dX4_init_91 : decode cX4_init 91 = .ok (.putfield 47, 3) := by decide +kernel
theorem dX4_init_94 : decode cX4_init 94 = .ok (.aload_n 0, 1) := by decide +kernel
theorem dX4_init_95 : decode cX4_init 95 = .ok (.iconst 0, 1) := by decide +kernel
theorem dX4_init_96 : decode cX4_init 96 = .ok (.putfield 51, 3) := by decide +kernel
theorem dX4_init_99 : decode cX4_init 99 = .ok (.return_, 1) := by decide +kernel
theorem dX4_settled_0 : decode cX4_settled 0 = .ok (.aload_n 0, 1) := by decide +kernel
theorem dX4_settled_1 : decode cX4_settled 1 = .ok (.invokevirtual 126, 3) := by decide +kernel
theorem dX4_settled_4 : decode cX4_settled 4 = .ok (.aload_n 0, 1) := by decide +kernel
theorem dX4_settled_5 : decode cX4_settled 5 = .ok (.getfield 51, 3) := by decide +kernel
theorem dX4_settled_8 : decode cX4_settled 8 = .ok (.ireturn, 1) := by decide +kernel
theorem dX4_findLeast_0 : decode cX4_findLeast 0 = .ok (.aload_n 0, 1) := by decide +kernel
theorem dX4_findLeast_1 : decode cX4_findLeast 1 = .ok (.getfield 47, 3) := by decide +kernel
theorem dX4_findLeast_4 : decode cX4_findLeast 4 = .ok (.ifCond .ne 23, 3) := by decide +kernel
theorem dX4_findLeast_7 : decode cX4_findLeast 7 = .ok (.aload_n 0, 1) := by decide +kernel
theorem dX4_findLeast_8 : decode cX4_findLeast 8 = .ok (.aload_n 0, 1) := by decide +kernel
theorem dX4_findLeast_9 : decode cX4_findLeast 9 = .ok (.getfield 35, 3) := by decide +kernel
theorem dX4_findLeast_12 : decode cX4_findLeast 12 = .ok (.aload_n 0, 1) := by decide +kernel
theorem dX4_findLeast_13 : decode cX4_findLeast 13 = .ok (.getfield 43, 3) := by decide +kernel
theorem dX4_findLeast_16 : decode cX4_findLeast 16 = .ok (.invokevirtual 164, 3) := by decide +kernel
theorem dX4_findLeast_19 : decode cX4_findLeast 19 = .ok (.putfield 51, 3) := by decide +kernel
theorem dX4_findLeast_22 : decode cX4_findLeast 22 = .ok (.aload_n 0, 1) := by decide +kernel
theorem dX4_findLeast_23 : decode cX4_findLeast 23 = .ok (.iconst 1, 1) := by decide +kernel
theorem dX4_findLeast_24 : decode cX4_findLeast 24 = .ok (.putfield 47, 3) := by decide +kernel
theorem dX4_findLeast_27 : decode cX4_findLeast 27 = .ok (.return_, 1) := by decide +kernel
theorem dX4_copper_0 : decode cX4_copper 0 = .ok (.aload_n 0, 1) := by decide +kernel
theorem dX4_copper_1 : decode cX4_copper 1 = .ok (.invokevirtual 126, 3) := by decide +kernel
theorem dX4_copper_4 : decode cX4_copper 4 = .ok (.aload_n 0, 1) := by decide +kernel
theorem dX4_copper_5 : decode cX4_copper 5 = .ok (.getfield 51, 3) := by decide +kernel
theorem dX4_copper_8 : decode cX4_copper 8 = .ok (.ifCond .eq 13, 3) := by decide +kernel
theorem dX4_copper_11 : decode cX4_copper 11 = .ok (.aload_n 0, 1) := by decide +kernel
theorem dX4_copper_12 : decode cX4_copper 12 = .ok (.getfield 35, 3) := by decide +kernel
theorem dX4_copper_15 : decode cX4_copper 15 = .ok (.invokevirtual 148, 3) := by decide +kernel
theorem dX4_copper_18 : decode cX4_copper 18 = .ok (.goto 4, 3) := by decide +kernel
theorem dX4_copper_21 : decode cX4_copper 21 = .ok (.iconst (-1), 1) := by decide +kernel
theorem dX4_copper_22 : decode cX4_copper 22 = .ok (.ireturn, 1) := by decide +kernel
theorem dX4_tray_0 : decode cX4_tray 0 = .ok (.iload_n 1, 1) := by decide +kernel
theorem dX4_tray_1 : decode cX4_tray 1 = .ok (.iload_n 2, 1) := by decide +kernel
theorem dX4_tray_2 : decode cX4_tray 2 = .ok (.invokestatic 54, 3) := by decide +kernel
theorem dX4_tray_5 : decode cX4_tray 5 = .ok (.iload_n 3, 1) := by decide +kernel
theorem dX4_tray_6 : decode cX4_tray 6 = .ok (.iconst 1, 1) := by decide +kernel
theorem dX4_tray_7 : decode cX4_tray 7 = .ok (.bipush 100, 2) := by decide +kernel
theorem dX4_tray_9 : decode cX4_tray 9 = .ok (.invokestatic 58, 3) := by decide +kernel
theorem dX4_tray_12 : decode cX4_tray 12 = .ok (.iload 4, 2) := by decide +kernel
theorem dX4_tray_14 : decode cX4_tray 14 = .ok (.iconst 1, 1) := by decide +kernel
theorem dX4_tray_15 : decode cX4_tray 15 = .ok (.sipush 1000, 3) := by decide +kernel
theorem dX4_tray_18 : decode cX4_tray 18 = .ok (.invokestatic 58, 3) := by decide +kernel
theorem dX4_tray_21 : decode cX4_tray 21 = .ok (.aload_n 0, 1) := by decide +kernel
theorem dX4_tray_22 : decode cX4_tray 22 = .ok (.getfield 12, 3) := by decide +kernel
theorem dX4_tray_25 : decode cX4_tray 25 = .ok (.getfield 62, 3) := by decide +kernel
theorem dX4_tray_28 : decode cX4_tray 28 = .ok (.bipush 15, 2) := by decide +kernel
theorem dX4_tray_30 : decode cX4_tray 30 = .ok (.if_icmp .lt 13, 3) := by decide +kernel
theorem dX4_tray_33 : decode cX4_tray 33 = .ok (.new 65, 3) := by decide +kernel
theorem dX4_tray_36 : decode cX4_tray 36 = .ok (.dup, 1) := by decide +kernel
theorem dX4_tray_37 : decode cX4_tray 37 = .ok (.ldc 67, 2) := by decide +kernel
theorem dX4_tray_39 : decode cX4_tray 39 = .ok (.invokespecial 69, 3) := by decide +kernel
theorem dX4_tray_42 : decode cX4_tray 42 = .ok (.athrow, 1) := by decide +kernel
theorem dX4_tray_43 : decode cX4_tray 43 = .ok (.aload_n 0, 1) := by decide +kernel
theorem dX4_tray_44 : decode cX4_tray 44 = .ok (.getfield 12, 3) := by decide +kernel
theorem dX4_tray_47 : decode cX4_tray 47 = .ok (.iload_n 1, 1) := by decide +kernel
theorem dX4_tray_48 : decode cX4_tray 48 = .ok (.iload_n 2, 1) := by decide +kernel
theorem dX4_tray_49 : decode cX4_tray 49 = .ok (.iload_n 3, 1) := by decide +kernel
theorem dX4_tray_50 : decode cX4_tray 50 = .ok (.iload 4, 2) := by decide +kernel
theorem dX4_tray_52 : decode cX4_tray 52 = .ok (.invokevirtual 72, 3) := by decide +kernel
theorem dX4_tray_55 : decode cX4_tray 55 = .ok (.istore 5, 2) := by decide +kernel
theorem dX4_tray_57 : decode cX4_tray 57 = .ok (.iconst 0, 1) := by decide +kernel
theorem dX4_tray_58 : decode cX4_tray 58 = .ok (.istore 6, 2) := by decide +kernel
theorem dX4_tray_60 : decode cX4_tray 60 = .ok (.iload 6, 2) := by decide +kernel
theorem dX4_tray_62 : decode cX4_tray 62 = .ok (.aload_n 0, 1) := by decide +kernel
theorem dX4_tray_63 : decode cX4_tray 63 = .ok (.getfield 26, 3) := by decide +kernel
theorem dX4_tray_66 : decode cX4_tray 66 = .ok (.getfield 76, 3) := by decide +kernel
theorem dX4_tray_69 : decode cX4_tray 69 = .ok (.if_icmp .ge 22, 3) := by decide +kernel
theorem dX4_tray_72 : decode cX4_tray 72 = .ok (.aload_n 0, 1) := by decide +kernel
theorem dX4_tray_73 : decode cX4_tray 73 = .ok (.getfield 26, 3) := by decide +kernel
theorem dX4_tray_76 : decode cX4_tray 76 = .ok (.iload 6, 2) := by decide +kernel
theorem dX4_tray_78 : decode cX4_tray 78 = .ok (.aload_n 0, 1) := by decide +kernel
theorem dX4_tray_79 : decode cX4_tray 79 = .ok (.getfield 12, 3) := by decide +kernel
theorem dX4_tray_82 : decode cX4_tray 82 = .ok (.invokevirtual 77, 3) := by decide +kernel
theorem dX4_tray_85 : decode cX4_tray 85 = .ok (.iinc 6 1, 3) := by decide +kernel
theorem dX4_tray_88 : decode cX4_tray 88 = .ok (.goto (-28), 3) := by decide +kernel
theorem dX4_tray_91 : decode cX4_tray 91 = .ok (.aload_n 0, 1) := by decide +kernel
theorem dX4_tray_92 : decode cX4_tray 92 = .ok (.iconst 0, 1) := by decide +kernel
theorem dX4_tray_93 : decode cX4_tray 93 = .ok (.putfield 47, 3) := by decide +kernel
theorem dX4_tray_96 : decode cX4_tray 96 = .ok (.iload 5, 2) := by decide +kernel
theorem dX4_tray_98 : decode cX4_tray 98 = .ok (.ireturn, 1) := by decide +kernel
theorem dX4_checkNodes_0 : decode cX4_checkNodes 0 = .ok (.iload_n 0, 1) := by decide +kernel
theorem dX4_checkNodes_1 : decode cX4_checkNodes 1 = .ok (.iconst 0, 1) := by decide +kernel
theorem dX4_checkNodes_2 : decode cX4_checkNodes 2 = .ok (.bipush 9, 2) := by decide +kernel
theorem dX4_checkNodes_4 : decode cX4_checkNodes 4 = .ok (.invokestatic 58, 3) := by decide +kernel
theorem dX4_checkNodes_7 : decode cX4_checkNodes 7 = .ok (.iload_n 1, 1) := by decide +kernel
theorem dX4_checkNodes_8 : decode cX4_checkNodes 8 = .ok (.iconst 0, 1) := by decide +kernel
theorem dX4_checkNodes_9 : decode cX4_checkNodes 9 = .ok (.bipush 9, 2) := by decide +kernel
theorem dX4_checkNodes_11 : decode cX4_checkNodes 11 = .ok (.invokestatic 58, 3) := by decide +kernel
theorem dX4_checkNodes_14 : decode cX4_checkNodes 14 = .ok (.iload_n 0, 1) := by decide +kernel
theorem dX4_checkNodes_15 : decode cX4_checkNodes 15 = .ok (.iload_n 1, 1) := by decide +kernel
theorem dX4_checkNodes_16 : decode cX4_checkNodes 16 = .ok (.if_icmp .ne 13, 3) := by decide +kernel
theorem dX4_checkNodes_19 : decode cX4_checkNodes 19 = .ok (.new 114, 3) := by decide +kernel
theorem dX4_checkNodes_22 : decode cX4_checkNodes 22 = .ok (.dup, 1) := by decide +kernel
theorem dX4_checkNodes_23 : decode cX4_checkNodes 23 = .ok (.ldc 171, 2) := by decide +kernel
theorem dX4_checkNodes_25 : decode cX4_checkNodes 25 = .ok (.invokespecial 118, 3) := by decide +kernel
theorem dX4_checkNodes_28 : decode cX4_checkNodes 28 = .ok (.athrow, 1) := by decide +kernel
theorem dX4_checkNodes_29 : decode cX4_checkNodes 29 = .ok (.return_, 1) := by decide +kernel
theorem dX4_checkBounds_0 : decode cX4_checkBounds 0 = .ok (.iload_n 0, 1) := by decide +kernel
theorem dX4_checkBounds_1 : decode cX4_checkBounds 1 = .ok (.iload_n 1, 1) := by decide +kernel
theorem dX4_checkBounds_2 : decode cX4_checkBounds 2 = .ok (.if_icmp .lt 8, 3) := by decide +kernel
theorem dX4_checkBounds_5 : decode cX4_checkBounds 5 = .ok (.iload_n 0, 1) := by decide +kernel
theorem dX4_checkBounds_6 : decode cX4_checkBounds 6 = .ok (.iload_n 2, 1) := by decide +kernel
theorem dX4_checkBounds_7 : decode cX4_checkBounds 7 = .ok (.if_icmp .le 13, 3) := by decide +kernel
theorem dX4_checkBounds_10 : decode cX4_checkBounds 10 = .ok (.new 114, 3) := by decide +kernel
theorem dX4_checkBounds_13 : decode cX4_checkBounds 13 = .ok (.dup, 1) := by decide +kernel
theorem dX4_checkBounds_14 : decode cX4_checkBounds 14 = .ok (.ldc 167, 2) := by decide +kernel
theorem dX4_checkBounds_16 : decode cX4_checkBounds 16 = .ok (.invokespecial 118, 3) := by decide +kernel
theorem dX4_checkBounds_19 : decode cX4_checkBounds 19 = .ok (.athrow, 1) := by decide +kernel
theorem dX4_checkBounds_20 : decode cX4_checkBounds 20 = .ok (.return_, 1) := by decide +kernel
theorem dX4_size_0 : decode cX4_size 0 = .ok (.iload_n 1, 1) := by decide +kernel
theorem dX4_size_1 : decode cX4_size 1 = .ok (.iconst 1, 1) := by decide +kernel
theorem dX4_size_2 : decode cX4_size 2 = .ok (.bipush 100, 2) := by decide +kernel
theorem dX4_size_4 : decode cX4_size 4 = .ok (.invokestatic 58, 3) := by decide +kernel
theorem dX4_size_7 : decode cX4_size 7 = .ok (.iload_n 2, 1) := by decide +kernel
theorem dX4_size_8 : decode cX4_size 8 = .ok (.iconst 1, 1) := by decide +kernel
theorem dX4_size_9 : decode cX4_size 9 = .ok (.sipush 1000, 3) := by decide +kernel
theorem dX4_size_12 : decode cX4_size 12 = .ok (.invokestatic 58, 3) := by decide +kernel
theorem dX4_size_15 : decode cX4_size 15 = .ok (.iload_n 3, 1) := by decide +kernel
theorem dX4_size_16 : decode cX4_size 16 = .ok (.iconst 0, 1) := by decide +kernel
theorem dX4_size_17 : decode cX4_size 17 = .ok (.sipush 1000, 3) := by decide +kernel
theorem dX4_size_20 : decode cX4_size 20 = .ok (.invokestatic 58, 3) := by decide +kernel
theorem dX4_size_23 : decode cX4_size 23 = .ok (.aload_n 0, 1) := by decide +kernel
theorem dX4_size_24 : decode cX4_size 24 = .ok (.getfield 19, 3) := by decide +kernel
theorem dX4_size_27 : decode cX4_size 27 = .ok (.getfield 81, 3) := by decide +kernel
theorem dX4_size_30 : decode cX4_size 30 = .ok (.bipush 6, 2) := by decide +kernel
theorem dX4_size_32 : decode cX4_size 32 = .ok (.if_icmp .lt 13, 3) := by decide +kernel
theorem dX4_size_35 : decode cX4_size 35 = .ok (.new 65, 3) := by decide +kernel
theorem dX4_size_38 : decode cX4_size 38 = .ok (.dup, 1) := by decide +kernel
theorem dX4_size_39 : decode cX4_size 39 = .ok (.ldc 82, 2) := by decide +kernel
theorem dX4_size_41 : decode cX4_size 41 = .ok (.invokespecial 69, 3) := by decide +kernel
theorem dX4_size_44 : decode cX4_size 44 = .ok (.athrow, 1) := by decide +kernel
theorem dX4_size_45 : decode cX4_size 45 = .ok (.aload_n 0, 1) := by decide +kernel
theorem dX4_size_46 : decode cX4_size 46 = .ok (.getfield 19, 3) := by decide +kernel
theorem dX4_size_49 : decode cX4_size 49 = .ok (.iload_n 1, 1) := by decide +kernel
theorem dX4_size_50 : decode cX4_size 50 = .ok (.iload_n 2, 1) := by decide +kernel
theorem dX4_size_51 : decode cX4_size 51 = .ok (.iload_n 3, 1) := by decide +kernel
theorem dX4_size_52 : decode cX4_size 52 = .ok (.invokevirtual 84, 3) := by decide +kernel
theorem dX4_size_55 : decode cX4_size 55 = .ok (.ifCond .ne 13, 3) := by decide +kernel
theorem dX4_size_58 : decode cX4_size 58 = .ok (.new 65, 3) := by decide +kernel
theorem dX4_size_61 : decode cX4_size 61 = .ok (.dup, 1) := by decide +kernel
theorem dX4_size_62 : decode cX4_size 62 = .ok (.ldc 88, 2) := by decide +kernel
theorem dX4_size_64 : decode cX4_size 64 = .ok (.invokespecial 69, 3) := by decide +kernel
theorem dX4_size_67 : decode cX4_size 67 = .ok (.athrow, 1) := by decide +kernel
theorem dX4_size_68 : decode cX4_size 68 = .ok (.aload_n 0, 1) := by decide +kernel
theorem dX4_size_69 : decode cX4_size 69 = .ok (.iconst 0, 1) := by decide +kernel
theorem dX4_size_70 : decode cX4_size 70 = .ok (.putfield 47, 3) := by decide +kernel
theorem dX4_size_73 : decode cX4_size 73 = .ok (.aload_n 0, 1) := by decide +kernel
theorem dX4_size_74 : decode cX4_size 74 = .ok (.getfield 19, 3) := by decide +kernel
theorem dX4_size_77 : decode cX4_size 77 = .ok (.iload_n 1, 1) := by decide +kernel
theorem dX4_size_78 : decode cX4_size 78 = .ok (.iload_n 2, 1) := by decide +kernel
theorem dX4_size_79 : decode cX4_size 79 = .ok (.iload_n 3, 1) := by decide +kernel
theorem dX4_size_80 : decode cX4_size 80 = .ok (.invokevirtual 90, 3) := by decide +kernel
theorem dX4_size_83 : decode cX4_size 83 = .ok (.ireturn, 1) := by decide +kernel
theorem dX4_cable_0 : decode cX4_cable 0 = .ok (.iload_n 1, 1) := by decide +kernel
theorem dX4_cable_1 : decode cX4_cable 1 = .ok (.iload_n 2, 1) := by decide +kernel
theorem dX4_cable_2 : decode cX4_cable 2 = .ok (.invokestatic 54, 3) := by decide +kernel
theorem dX4_cable_5 : decode cX4_cable 5 = .ok (.iload_n 3, 1) := by decide +kernel
theorem dX4_cable_6 : decode cX4_cable 6 = .ok (.iconst 1, 1) := by decide +kernel
theorem dX4_cable_7 : decode cX4_cable 7 = .ok (.sipush 1000, 3) := by decide +kernel
theorem dX4_cable_10 : decode cX4_cable 10 = .ok (.invokestatic 58, 3) := by decide +kernel
theorem dX4_cable_13 : decode cX4_cable 13 = .ok (.aload_n 0, 1) := by decide +kernel
theorem dX4_cable_14 : decode cX4_cable 14 = .ok (.getfield 26, 3) := by decide +kernel
theorem dX4_cable_17 : decode cX4_cable 17 = .ok (.getfield 76, 3) := by decide +kernel
theorem dX4_cable_20 : decode cX4_cable 20 = .ok (.bipush 20, 2) := by decide +kernel
theorem dX4_cable_22 : decode cX4_cable 22 = .ok (.if_icmp .lt 13, 3) := by decide +kernel
theorem dX4_cable_25 : decode cX4_cable 25 = .ok (.new 65, 3) := by decide +kernel
theorem dX4_cable_28 : decode cX4_cable 28 = .ok (.dup, 1) := by decide +kernel
theorem dX4_cable_29 : decode cX4_cable 29 = .ok (.ldc 93, 2) := by decide +kernel
theorem dX4_cable_31 : decode cX4_cable 31 = .ok (.invokespecial 69, 3) := by decide +kernel
theorem dX4_cable_34 : decode cX4_cable 34 = .ok (.athrow, 1) := by decide +kernel
theorem dX4_cable_35 : decode cX4_cable 35 = .ok (.aload_n 0, 1) := by decide +kernel
theorem dX4_cable_36 : decode cX4_cable 36 = .ok (.getfield 26, 3) := by decide +kernel
theorem dX4_cable_39 : decode cX4_cable 39 = .ok (.iload_n 1, 1) := by decide +kernel
theorem dX4_cable_40 : decode cX4_cable 40 = .ok (.iload_n 2, 1) := by decide +kernel
theorem dX4_cable_41 : decode cX4_cable 41 = .ok (.iload_n 3, 1) := by decide +kernel
theorem dX4_cable_42 : decode cX4_cable 42 = .ok (.invokevirtual 95, 3) := by decide +kernel
theorem dX4_cable_45 : decode cX4_cable 45 = .ok (.istore 4, 2) := by decide +kernel
theorem dX4_cable_47 : decode cX4_cable 47 = .ok (.aload_n 0, 1) := by decide +kernel
theorem dX4_cable_48 : decode cX4_cable 48 = .ok (.getfield 26, 3) := by decide +kernel
theorem dX4_cable_51 : decode cX4_cable 51 = .ok (.iload 4, 2) := by decide +kernel
theorem dX4_cable_53 : decode cX4_cable 53 = .ok (.aload_n 0, 1) := by decide +kernel
theorem dX4_cable_54 : decode cX4_cable 54 = .ok (.getfield 12, 3) := by decide +kernel
theorem dX4_cable_57 : decode cX4_cable 57 = .ok (.invokevirtual 77, 3) := by decide +kernel
theorem dX4_cable_60 : decode cX4_cable 60 = .ok (.aload_n 0, 1) := by decide +kernel
theorem dX4_cable_61 : decode cX4_cable 61 = .ok (.iconst 0, 1) := by decide +kernel
theorem dX4_cable_62 : decode cX4_cable 62 = .ok (.putfield 47, 3) := by decide +kernel
theorem dX4_cable_65 : decode cX4_cable 65 = .ok (.iload 4, 2) := by decide +kernel
theorem dX4_cable_67 : decode cX4_cable 67 = .ok (.ireturn, 1) := by decide +kernel
theorem dX4_current_0 : decode cX4_current 0 = .ok (.iload_n 1, 1) := by decide +kernel
theorem dX4_current_1 : decode cX4_current 1 = .ok (.aload_n 0, 1) := by decide +kernel
theorem dX4_current_2 : decode cX4_current 2 = .ok (.getfield 26, 3) := by decide +kernel
theorem dX4_current_5 : decode cX4_current 5 = .ok (.getfield 76, 3) := by decide +kernel
theorem dX4_current_8 : decode cX4_current 8 = .ok (.invokestatic 96, 3) := by decide +kernel
theorem dX4_current_11 : decode cX4_current 11 = .ok (.iload_n 2, 1) := by decide +kernel
theorem dX4_current_12 : decode cX4_current 12 = .ok (.iconst 1, 1) := by decide +kernel
theorem dX4_current_13 : decode cX4_current 13 = .ok (.sipush 1000, 3) := by decide +kernel
theorem dX4_current_16 : decode cX4_current 16 = .ok (.invokestatic 58, 3) := by decide +kernel
theorem dX4_current_19 : decode cX4_current 19 = .ok (.aload_n 0, 1) := by decide +kernel
theorem dX4_current_20 : decode cX4_current 20 = .ok (.getfield 26, 3) := by decide +kernel
theorem dX4_current_23 : decode cX4_current 23 = .ok (.getfield 99, 3) := by decide +kernel
theorem dX4_current_26 : decode cX4_current 26 = .ok (.iload_n 1, 1) := by decide +kernel
theorem dX4_current_27 : decode cX4_current 27 = .ok (.iaload, 1) := by decide +kernel
theorem dX4_current_28 : decode cX4_current 28 = .ok (.istore_n 3, 1) := by decide +kernel
theorem dX4_current_29 : decode cX4_current 29 = .ok (.aload_n 0, 1) := by decide +kernel
theorem dX4_current_30 : decode cX4_current 30 = .ok (.getfield 26, 3) := by decide +kernel
theorem dX4_current_33 : decode cX4_current 33 = .ok (.getfield 99, 3) := by decide +kernel
theorem dX4_current_36 : decode cX4_current 36 = .ok (.iload_n 1, 1) := by decide +kernel
theorem dX4_current_37 : decode cX4_current 37 = .ok (.iload_n 2, 1) := by decide +kernel
theorem dX4_current_38 : decode cX4_current 38 = .ok (.iastore, 1) := by decide +kernel
theorem dX4_current_39 : decode cX4_current 39 = .ok (.aload_n 0, 1) := by decide +kernel
theorem dX4_current_40 : decode cX4_current 40 = .ok (.iconst 0, 1) := by decide +kernel
theorem dX4_current_41 : decode cX4_current 41 = .ok (.putfield 47, 3) := by decide +kernel
theorem dX4_current_44 : decode cX4_current 44 = .ok (.iload_n 3, 1) := by decide +kernel
theorem dX4_current_45 : decode cX4_current 45 = .ok (.ireturn, 1) := by decide +kernel
theorem dX4_checkNumber_0 : decode cX4_checkNumber 0 = .ok (.iload_n 0, 1) := by decide +kernel
theorem dX4_checkNumber_1 : decode cX4_checkNumber 1 = .ok (.ifCond .lt 8, 3) := by decide +kernel
theorem dX4_checkNumber_4 : decode cX4_checkNumber 4 = .ok (.iload_n 0, 1) := by decide +kernel
theorem dX4_checkNumber_5 : decode cX4_checkNumber 5 = .ok (.iload_n 1, 1) := by decide +kernel
theorem dX4_checkNumber_6 : decode cX4_checkNumber 6 = .ok (.if_icmp .lt 13, 3) := by decide +kernel
theorem dX4_checkNumber_9 : decode cX4_checkNumber 9 = .ok (.new 114, 3) := by decide +kernel
theorem dX4_checkNumber_12 : decode cX4_checkNumber 12 = .ok (.dup, 1) := by decide +kernel
theorem dX4_checkNumber_13 : decode cX4_checkNumber 13 = .ok (.ldc 169, 2) := by decide +kernel
theorem dX4_checkNumber_15 : decode cX4_checkNumber 15 = .ok (.invokespecial 118, 3) := by decide +kernel
theorem dX4_checkNumber_18 : decode cX4_checkNumber 18 = .ok (.athrow, 1) := by decide +kernel
theorem dX4_checkNumber_19 : decode cX4_checkNumber 19 = .ok (.return_, 1) := by decide +kernel
theorem dX4_room_0 : decode cX4_room 0 = .ok (.iload_n 1, 1) := by decide +kernel
theorem dX4_room_1 : decode cX4_room 1 = .ok (.aload_n 0, 1) := by decide +kernel
theorem dX4_room_2 : decode cX4_room 2 = .ok (.getfield 12, 3) := by decide +kernel
theorem dX4_room_5 : decode cX4_room 5 = .ok (.getfield 62, 3) := by decide +kernel
theorem dX4_room_8 : decode cX4_room 8 = .ok (.invokestatic 96, 3) := by decide +kernel
theorem dX4_room_11 : decode cX4_room 11 = .ok (.iload_n 2, 1) := by decide +kernel
theorem dX4_room_12 : decode cX4_room 12 = .ok (.iconst 1, 1) := by decide +kernel
theorem dX4_room_13 : decode cX4_room 13 = .ok (.sipush 1000, 3) := by decide +kernel
theorem dX4_room_16 : decode cX4_room 16 = .ok (.invokestatic 58, 3) := by decide +kernel
theorem dX4_room_19 : decode cX4_room 19 = .ok (.aload_n 0, 1) := by decide +kernel
theorem dX4_room_20 : decode cX4_room 20 = .ok (.getfield 12, 3) := by decide +kernel
theorem dX4_room_23 : decode cX4_room 23 = .ok (.getfield 103, 3) := by decide +kernel
theorem dX4_room_26 : decode cX4_room 26 = .ok (.iload_n 1, 1) := by decide +kernel
theorem dX4_room_27 : decode cX4_room 27 = .ok (.iaload, 1) := by decide +kernel
theorem dX4_room_28 : decode cX4_room 28 = .ok (.istore_n 3, 1) := by decide +kernel
theorem dX4_room_29 : decode cX4_room 29 = .ok (.aload_n 0, 1) := by decide +kernel
theorem dX4_room_30 : decode cX4_room 30 = .ok (.getfield 12, 3) := by decide +kernel
theorem dX4_room_33 : decode cX4_room 33 = .ok (.getfield 103, 3) := by decide +kernel
theorem dX4_room_36 : decode cX4_room 36 = .ok (.iload_n 1, 1) := by decide +kernel
theorem dX4_room_37 : decode cX4_room 37 = .ok (.iload_n 2, 1) := by decide +kernel
theorem dX4_room_38 : decode cX4_room 38 = .ok (.iastore, 1) := by decide +kernel
theorem dX4_room_39 : decode cX4_room 39 = .ok (.aload_n 0, 1) := by decide +kernel
theorem dX4_room_40 : decode cX4_room 40 = .ok (.iconst 0, 1) := by decide +kernel
theorem dX4_room_41 : decode cX4_room 41 = .ok (.putfield 47, 3) := by decide +kernel
theorem dX4_room_44 : decode cX4_room 44 = .ok (.iload_n 3, 1) := by decide +kernel
theorem dX4_room_45 : decode cX4_room 45 = .ok (.ireturn, 1) := by decide +kernel
theorem dX4_limit_0 : decode cX4_limit 0 = .ok (.iload_n 1, 1) := by decide +kernel
theorem dX4_limit_1 : decode cX4_limit 1 = .ok (.iconst 0, 1) := by decide +kernel
theorem dX4_limit_2 : decode cX4_limit 2 = .ok (.ldc 106, 2) := by decide +kernel
theorem dX4_limit_4 : decode cX4_limit 4 = .ok (.invokestatic 58, 3) := by decide +kernel
theorem dX4_limit_7 : decode cX4_limit 7 = .ok (.aload_n 0, 1) := by decide +kernel
theorem dX4_limit_8 : decode cX4_limit 8 = .ok (.getfield 43, 3) := by decide +kernel
theorem dX4_limit_11 : decode cX4_limit 11 = .ok (.istore_n 2, 1) := by decide +kernel
theorem dX4_limit_12 : decode cX4_limit 12 = .ok (.aload_n 0, 1) := by decide +kernel
theorem dX4_limit_13 : decode cX4_limit 13 = .ok (.iload_n 1, 1) := by decide +kernel
theorem dX4_limit_14 : decode cX4_limit 14 = .ok (.putfield 43, 3) := by decide +kernel
theorem dX4_limit_17 : decode cX4_limit 17 = .ok (.aload_n 0, 1) := by decide +kernel
theorem dX4_limit_18 : decode cX4_limit 18 = .ok (.iconst 0, 1) := by decide +kernel
theorem dX4_limit_19 : decode cX4_limit 19 = .ok (.putfield 47, 3) := by decide +kernel
theorem dX4_limit_22 : decode cX4_limit 22 = .ok (.iload_n 2, 1) := by decide +kernel
theorem dX4_limit_23 : decode cX4_limit 23 = .ok (.ireturn, 1) := by decide +kernel
theorem dX4_way_0 : decode cX4_way 0 = .ok (.iload_n 1, 1) := by decide +kernel
theorem dX4_way_1 : decode cX4_way 1 = .ok (.aload_n 0, 1) := by decide +kernel
theorem dX4_way_2 : decode cX4_way 2 = .ok (.getfield 26, 3) := by decide +kernel
theorem dX4_way_5 : decode cX4_way 5 = .ok (.getfield 76, 3) := by decide +kernel
theorem dX4_way_8 : decode cX4_way 8 = .ok (.invokestatic 96, 3) := by decide +kernel
theorem dX4_way_11 : decode cX4_way 11 = .ok (.aload_n 0, 1) := by decide +kernel
theorem dX4_way_12 : decode cX4_way 12 = .ok (.getfield 26, 3) := by decide +kernel
theorem dX4_way_15 : decode cX4_way 15 = .ok (.iload_n 1, 1) := by decide +kernel
theorem dX4_way_16 : decode cX4_way 16 = .ok (.invokevirtual 107, 3) := by decide +kernel
theorem dX4_way_19 : decode cX4_way 19 = .ok (.ifCond .eq 7, 3) := by decide +kernel
theorem dX4_way_22 : decode cX4_way 22 = .ok (.iconst (-1), 1) := by decide +kernel
theorem dX4_way_23 : decode cX4_way 23 = .ok (.goto 12, 3) := by decide +kernel
theorem dX4_way_26 : decode cX4_way 26 = .ok (.aload_n 0, 1) := by decide +kernel
theorem dX4_way_27 : decode cX4_way 27 = .ok (.getfield 26, 3) := by decide +kernel
theorem dX4_way_30 : decode cX4_way 30 = .ok (.getfield 111, 3) := by decide +kernel
theorem dX4_way_33 : decode cX4_way 33 = .ok (.iload_n 1, 1) := by decide +kernel
theorem dX4_way_34 : decode cX4_way 34 = .ok (.iaload, 1) := by decide +kernel
theorem dX4_way_35 : decode cX4_way 35 = .ok (.ireturn, 1) := by decide +kernel
theorem dX4_way2_0 : decode cX4_way2 0 = .ok (.iload_n 1, 1) := by decide +kernel
theorem dX4_way2_1 : decode cX4_way2 1 = .ok (.aload_n 0, 1) := by decide +kernel
theorem dX4_way2_2 : decode cX4_way2 2 = .ok (.getfield 26, 3) := by decide +kernel
theorem dX4_way2_5 : decode cX4_way2 5 = .ok (.getfield 76, 3) := by decide +kernel
theorem dX4_way2_8 : decode cX4_way2 8 = .ok (.invokestatic 96, 3) := by decide +kernel
theorem dX4_way2_11 : decode cX4_way2 11 = .ok (.iload_n 2, 1) := by decide +kernel
theorem dX4_way2_12 : decode cX4_way2 12 = .ok (.ifCond .ge 13, 3) := by decide +kernel
theorem dX4_way2_15 : decode cX4_way2 15 = .ok (.new 114, 3) := by decide +kernel
theorem dX4_way2_18 : decode cX4_way2 18 = .ok (.dup, 1) := by decide +kernel
theorem dX4_way2_19 : decode cX4_way2 19 = .ok (.ldc 116, 2) := by decide +kernel
theorem dX4_way2_21 : decode cX4_way2 21 = .ok (.invokespecial 118, 3) := by decide +kernel
theorem dX4_way2_24 : decode cX4_way2 24 = .ok (.athrow, 1) := by decide +kernel
theorem dX4_way2_25 : decode cX4_way2 25 = .ok (.iload_n 2, 1) := by decide +kernel
theorem dX4_way2_26 : decode cX4_way2 26 = .ok (.aload_n 0, 1) := by decide +kernel
theorem dX4_way2_27 : decode cX4_way2 27 = .ok (.getfield 26, 3) := by decide +kernel
theorem dX4_way2_30 : decode cX4_way2 30 = .ok (.getfield 119, 3) := by decide +kernel
theorem dX4_way2_33 : decode cX4_way2 33 = .ok (.iload_n 1, 1) := by decide +kernel
theorem dX4_way2_34 : decode cX4_way2 34 = .ok (.iaload, 1) := by decide +kernel
theorem dX4_way2_35 : decode cX4_way2 35 = .ok (.if_icmp .ge 17, 3) := by decide +kernel
theorem dX4_way2_38 : decode cX4_way2 38 = .ok (.aload_n 0, 1) := by decide +kernel
theorem dX4_way2_39 : decode cX4_way2 39 = .ok (.getfield 26, 3) := by decide +kernel
theorem dX4_way2_42 : decode cX4_way2 42 = .ok (.getfield 122, 3) := by decide +kernel
theorem dX4_way2_45 : decode cX4_way2 45 = .ok (.iload_n 1, 1) := by decide +kernel
theorem dX4_way2_46 : decode cX4_way2 46 = .ok (.aaload, 1) := by decide +kernel
theorem dX4_way2_47 : decode cX4_way2 47 = .ok (.iload_n 2, 1) := by decide +kernel
theorem dX4_way2_48 : decode cX4_way2 48 = .ok (.iaload, 1) := by decide +kernel
theorem dX4_way2_49 : decode cX4_way2 49 = .ok (.goto 4, 3) := by decide +kernel
theorem dX4_way2_52 : decode cX4_way2 52 = .ok (.iconst (-1), 1) := by decide +kernel
theorem dX4_way2_53 : decode cX4_way2 53 = .ok (.ireturn, 1) := by decide +kernel
theorem dX4_chosen_0 : decode cX4_chosen 0 = .ok (.iload_n 1, 1) := by decide +kernel
theorem dX4_chosen_1 : decode cX4_chosen 1 = .ok (.aload_n 0, 1) := by decide +kernel
theorem dX4_chosen_2 : decode cX4_chosen 2 = .ok (.getfield 26, 3) := by decide +kernel
theorem dX4_chosen_5 : decode cX4_chosen 5 = .ok (.getfield 76, 3) := by decide +kernel
theorem dX4_chosen_8 : decode cX4_chosen 8 = .ok (.invokestatic 96, 3) := by decide +kernel
theorem dX4_chosen_11 : decode cX4_chosen 11 = .ok (.aload_n 0, 1) := by decide +kernel
theorem dX4_chosen_12 : decode cX4_chosen 12 = .ok (.invokevirtual 126, 3) := by decide +kernel
theorem dX4_chosen_15 : decode cX4_chosen 15 = .ok (.aload_n 0, 1) := by decide +kernel
theorem dX4_chosen_16 : decode cX4_chosen 16 = .ok (.getfield 51, 3) := by decide +kernel
theorem dX4_chosen_19 : decode cX4_chosen 19 = .ok (.ifCond .eq 15, 3) := by decide +kernel
theorem dX4_chosen_22 : decode cX4_chosen 22 = .ok (.aload_n 0, 1) := by decide +kernel
theorem dX4_chosen_23 : decode cX4_chosen 23 = .ok (.getfield 35, 3) := by decide +kernel
theorem dX4_chosen_26 : decode cX4_chosen 26 = .ok (.getfield 129, 3) := by decide +kernel
theorem dX4_chosen_29 : decode cX4_chosen 29 = .ok (.iload_n 1, 1) := by decide +kernel
theorem dX4_chosen_30 : decode cX4_chosen 30 = .ok (.iaload, 1) := by decide +kernel
theorem dX4_chosen_31 : decode cX4_chosen 31 = .ok (.goto 4, 3) := by decide +kernel
theorem dX4_chosen_34 : decode cX4_chosen 34 = .ok (.iconst (-1), 1) := by decide +kernel
theorem dX4_chosen_35 : decode cX4_chosen 35 = .ok (.ireturn, 1) := by decide +kernel
theorem dX4_told_0 : decode cX4_told 0 = .ok (.iload_n 1, 1) := by decide +kernel
theorem dX4_told_1 : decode cX4_told 1 = .ok (.aload_n 0, 1) := by decide +kernel
theorem dX4_told_2 : decode cX4_told 2 = .ok (.getfield 12, 3) := by decide +kernel
theorem dX4_told_5 : decode cX4_told 5 = .ok (.getfield 62, 3) := by decide +kernel
theorem dX4_told_8 : decode cX4_told 8 = .ok (.invokestatic 96, 3) := by decide +kernel
theorem dX4_told_11 : decode cX4_told 11 = .ok (.iload_n 2, 1) := by decide +kernel
theorem dX4_told_12 : decode cX4_told 12 = .ok (.iconst 0, 1) := by decide +kernel
theorem dX4_told_13 : decode cX4_told 13 = .ok (.iconst 2, 1) := by decide +kernel
theorem dX4_told_14 : decode cX4_told 14 = .ok (.invokestatic 58, 3) := by decide +kernel
theorem dX4_told_17 : decode cX4_told 17 = .ok (.iload_n 2, 1) := by decide +kernel
theorem dX4_told_18 : decode cX4_told 18 = .ok (.iconst 2, 1) := by decide +kernel
theorem dX4_told_19 : decode cX4_told 19 = .ok (.if_icmp .ne 12, 3) := by decide +kernel
theorem dX4_told_22 : decode cX4_told 22 = .ok (.aload_n 0, 1) := by decide +kernel
theorem dX4_told_23 : decode cX4_told 23 = .ok (.getfield 26, 3) := by decide +kernel
theorem dX4_told_26 : decode cX4_told 26 = .ok (.iload_n 1, 1) := by decide +kernel
theorem dX4_told_27 : decode cX4_told 27 = .ok (.invokevirtual 132, 3) := by decide +kernel
theorem dX4_told_30 : decode cX4_told 30 = .ok (.ireturn, 1) := by decide +kernel
theorem dX4_told_31 : decode cX4_told 31 = .ok (.aload_n 0, 1) := by decide +kernel
theorem dX4_told_32 : decode cX4_told 32 = .ok (.invokevirtual 126, 3) := by decide +kernel
theorem dX4_told_35 : decode cX4_told 35 = .ok (.aload_n 0, 1) := by decide +kernel
theorem dX4_told_36 : decode cX4_told 36 = .ok (.getfield 51, 3) := by decide +kernel
theorem dX4_told_39 : decode cX4_told 39 = .ok (.ifCond .ne 5, 3) := by decide +kernel
theorem dX4_told_42 : decode cX4_told 42 = .ok (.iconst (-1), 1) := by decide +kernel
theorem dX4_told_43 : decode cX4_told 43 = .ok (.ireturn, 1) := by decide +kernel
theorem dX4_told_44 : decode cX4_told 44 = .ok (.iload_n 2, 1) := by decide +kernel
theorem dX4_told_45 : decode cX4_told 45 = .ok (.iconst 1, 1) := by decide +kernel
theorem dX4_told_46 : decode cX4_told 46 = .ok (.if_icmp .ne 14, 3) := by decide +kernel
theorem dX4_told_49 : decode cX4_told 49 = .ok (.aload_n 0, 1) := by decide +kernel
theorem dX4_told_50 : decode cX4_told 50 = .ok (.getfield 35, 3) := by decide +kernel
theorem dX4_told_53 : decode cX4_told 53 = .ok (.iload_n 1, 1) := by decide +kernel
theorem dX4_told_54 : decode cX4_told 54 = .ok (.invokevirtual 136, 3) := by decide +kernel
theorem dX4_told_57 : decode cX4_told 57 = .ok (.goto 12, 3) := by decide +kernel
theorem dX4_told_60 : decode cX4_told 60 = .ok (.aload_n 0, 1) := by decide +kernel
theorem dX4_told_61 : decode cX4_told 61 = .ok (.getfield 35, 3) := by decide +kernel
theorem dX4_told_64 : decode cX4_told 64 = .ok (.getfield 139, 3) := by decide +kernel
theorem dX4_told_67 : decode cX4_told 67 = .ok (.iload_n 1, 1) := by decide +kernel
theorem dX4_told_68 : decode cX4_told 68 = .ok (.iaload, 1) := by decide +kernel
theorem dX4_told_69 : decode cX4_told 69 = .ok (.ireturn, 1) := by decide +kernel
theorem dX4_cableAt_0 : decode cX4_cableAt 0 = .ok (.iload_n 1, 1) := by decide +kernel
theorem dX4_cableAt_1 : decode cX4_cableAt 1 = .ok (.aload_n 0, 1) := by decide +kernel
theorem dX4_cableAt_2 : decode cX4_cableAt 2 = .ok (.getfield 26, 3) := by decide +kernel
theorem dX4_cableAt_5 : decode cX4_cableAt 5 = .ok (.getfield 76, 3) := by decide +kernel
theorem dX4_cableAt_8 : decode cX4_cableAt 8 = .ok (.invokestatic 96, 3) := by decide +kernel
theorem dX4_cableAt_11 : decode cX4_cableAt 11 = .ok (.iload_n 2, 1) := by decide +kernel
theorem dX4_cableAt_12 : decode cX4_cableAt 12 = .ok (.iconst 0, 1) := by decide +kernel
theorem dX4_cableAt_13 : decode cX4_cableAt 13 = .ok (.iconst 1, 1) := by decide +kernel
theorem dX4_cableAt_14 : decode cX4_cableAt 14 = .ok (.invokestatic 58, 3) := by decide +kernel
theorem dX4_cableAt_17 : decode cX4_cableAt 17 = .ok (.aload_n 0, 1) := by decide +kernel
theorem dX4_cableAt_18 : decode cX4_cableAt 18 = .ok (.invokevirtual 126, 3) := by decide +kernel
theorem dX4_cableAt_21 : decode cX4_cableAt 21 = .ok (.aload_n 0, 1) := by decide +kernel
theorem dX4_cableAt_22 : decode cX4_cableAt 22 = .ok (.getfield 51, 3) := by decide +kernel
theorem dX4_cableAt_25 : decode cX4_cableAt 25 = .ok (.ifCond .ne 5, 3) := by decide +kernel
theorem dX4_cableAt_28 : decode cX4_cableAt 28 = .ok (.iconst (-1), 1) := by decide +kernel
theorem dX4_cableAt_29 : decode cX4_cableAt 29 = .ok (.ireturn, 1) := by decide +kernel
theorem dX4_cableAt_30 : decode cX4_cableAt 30 = .ok (.iload_n 2, 1) := by decide +kernel
theorem dX4_cableAt_31 : decode cX4_cableAt 31 = .ok (.ifCond .ne 14, 3) := by decide +kernel
theorem dX4_cableAt_34 : decode cX4_cableAt 34 = .ok (.aload_n 0, 1) := by decide +kernel
theorem dX4_cableAt_35 : decode cX4_cableAt 35 = .ok (.getfield 35, 3) := by decide +kernel
theorem dX4_cableAt_38 : decode cX4_cableAt 38 = .ok (.iload_n 1, 1) := by decide +kernel
theorem dX4_cableAt_39 : decode cX4_cableAt 39 = .ok (.invokevirtual 142, 3) := by decide +kernel
theorem dX4_cableAt_42 : decode cX4_cableAt 42 = .ok (.goto 11, 3) := by decide +kernel
theorem dX4_cableAt_45 : decode cX4_cableAt 45 = .ok (.aload_n 0, 1) := by decide +kernel
theorem dX4_cableAt_46 : decode cX4_cableAt 46 = .ok (.getfield 35, 3) := by decide +kernel
theorem dX4_cableAt_49 : decode cX4_cableAt 49 = .ok (.iload_n 1, 1) := by decide +kernel
theorem dX4_cableAt_50 : decode cX4_cableAt 50 = .ok (.invokevirtual 145, 3) := by decide +kernel
theorem dX4_cableAt_53 : decode cX4_cableAt 53 = .ok (.ireturn, 1) := by decide +kernel
theorem dX4_right_0 : decode cX4_right 0 = .ok (.lload_n 1, 1) := by decide +kernel
theorem dX4_right_1 : decode cX4_right 1 = .ok (.lconst 0, 1) := by decide +kernel
theorem dX4_right_2 : decode cX4_right 2 = .ok (.lcmp, 1) := by decide +kernel
theorem dX4_right_3 : decode cX4_right 3 = .ok (.ifCond .ge 13, 3) := by decide +kernel
theorem dX4_right_6 : decode cX4_right 6 = .ok (.new 114, 3) := by decide +kernel
theorem dX4_right_9 : decode cX4_right 9 = .ok (.dup, 1) := by decide +kernel
theorem dX4_right_10 : decode cX4_right 10 = .ok (.ldc 152, 2) := by decide +kernel
theorem dX4_right_12 : decode cX4_right 12 = .ok (.invokespecial 118, 3) := by decide +kernel
theorem dX4_right_15 : decode cX4_right 15 = .ok (.athrow, 1) := by decide +kernel
theorem dX4_right_16 : decode cX4_right 16 = .ok (.lload_n 1, 1) := by decide +kernel
theorem dX4_right_17 : decode cX4_right 17 = .ok (.lstore_n 3, 1) := by decide +kernel
theorem dX4_right_18 : decode cX4_right 18 = .ok (.iconst 0, 1) := by decide +kernel
theorem dX4_right_19 : decode cX4_right 19 = .ok (.istore 5, 2) := by decide +kernel
theorem dX4_right_21 : decode cX4_right 21 = .ok (.iload 5, 2) := by decide +kernel
theorem dX4_right_23 : decode cX4_right 23 = .ok (.aload_n 0, 1) := by decide +kernel
theorem dX4_right_24 : decode cX4_right 24 = .ok (.getfield 26, 3) := by decide +kernel
theorem dX4_right_27 : decode cX4_right 27 = .ok (.getfield 76, 3) := by decide +kernel
theorem dX4_right_30 : decode cX4_right 30 = .ok (.if_icmp .ge 47, 3) := by decide +kernel
theorem dX4_right_33 : decode cX4_right 33 = .ok (.lload_n 3, 1) := by decide +kernel
theorem dX4_right_34 : decode cX4_right 34 = .ok (.ldc2_w 154, 3) := by decide +kernel
theorem dX4_right_37 : decode cX4_right 37 = .ok (.lrem, 1) := by decide +kernel
theorem dX4_right_38 : decode cX4_right 38 = .ok (.l2i, 1) := by decide +kernel
theorem dX4_right_39 : decode cX4_right 39 = .ok (.istore 6, 2) := by decide +kernel
theorem dX4_right_41 : decode cX4_right 41 = .ok (.iload 6, 2) := by decide +kernel
theorem dX4_right_43 : decode cX4_right 43 = .ok (.aload_n 0, 1) := by decide +kernel
theorem dX4_right_44 : decode cX4_right 44 = .ok (.getfield 19, 3) := by decide +kernel
theorem dX4_right_47 : decode cX4_right 47 = .ok (.getfield 81, 3) := by decide +kernel
theorem dX4_right_50 : decode cX4_right 50 = .ok (.invokestatic 96, 3) := by decide +kernel
theorem dX4_right_53 : decode cX4_right 53 = .ok (.aload_n 0, 1) := by decide +kernel
theorem dX4_right_54 : decode cX4_right 54 = .ok (.getfield 39, 3) := by decide +kernel
theorem dX4_right_57 : decode cX4_right 57 = .ok (.getfield 129, 3) := by decide +kernel
theorem dX4_right_60 : decode cX4_right 60 = .ok (.iload 5, 2) := by decide +kernel
theorem dX4_right_62 : decode cX4_right 62 = .ok (.iload 6, 2) := by decide +kernel
theorem dX4_right_64 : decode cX4_right 64 = .ok (.iastore, 1) := by decide +kernel
theorem dX4_right_65 : decode cX4_right 65 = .ok (.lload_n 3, 1) := by decide +kernel
theorem dX4_right_66 : decode cX4_right 66 = .ok (.ldc2_w 154, 3) := by decide +kernel
theorem dX4_right_69 : decode cX4_right 69 = .ok (.ldiv, 1) := by decide +kernel
theorem dX4_right_70 : decode cX4_right 70 = .ok (.lstore_n 3, 1) := by decide +kernel
theorem dX4_right_71 : decode cX4_right 71 = .ok (.iinc 5 1, 3) := by decide +kernel
theorem dX4_right_74 : decode cX4_right 74 = .ok (.goto (-53), 3) := by decide +kernel
theorem dX4_right_77 : decode cX4_right 77 = .ok (.lload_n 3, 1) := by decide +kernel
theorem dX4_right_78 : decode cX4_right 78 = .ok (.lconst 0, 1) := by decide +kernel
theorem dX4_right_79 : decode cX4_right 79 = .ok (.lcmp, 1) := by decide +kernel
theorem dX4_right_80 : decode cX4_right 80 = .ok (.ifCond .eq 13, 3) := by decide +kernel
theorem dX4_right_83 : decode cX4_right 83 = .ok (.new 114, 3) := by decide +kernel
theorem dX4_right_86 : decode cX4_right 86 = .ok (.dup, 1) := by decide +kernel
theorem dX4_right_87 : decode cX4_right 87 = .ok (.ldc 156, 2) := by decide +kernel
theorem dX4_right_89 : decode cX4_right 89 = .ok (.invokespecial 118, 3) := by decide +kernel
theorem dX4_right_92 : decode cX4_right 92 = .ok (.athrow, 1) := by decide +kernel
theorem dX4_right_93 : decode cX4_right 93 = .ok (.aload_n 0, 1) := by decide +kernel
theorem dX4_right_94 : decode cX4_right 94 = .ok (.getfield 39, 3) := by decide +kernel
theorem dX4_right_97 : decode cX4_right 97 = .ok (.invokevirtual 158, 3) := by decide +kernel
theorem dX4_right_100 : decode cX4_right 100 = .ok (.aload_n 0, 1) := by decide +kernel
theorem dX4_right_101 : decode cX4_right 101 = .ok (.getfield 39, 3) := by decide +kernel
theorem dX4_right_104 : decode cX4_right 104 = .ok (.aload_n 0, 1) := by decide +kernel
theorem dX4_right_105 : decode cX4_right 105 = .ok (.getfield 43, 3) := by decide +kernel
theorem dX4_right_108 : decode cX4_right 108 = .ok (.invokevirtual 161, 3) := by decide +kernel
theorem dX4_right_111 : decode cX4_right 111 = .ok (.ireturn, 1) := by decide +kernel
end
section
theorem dX5_init_0 : decode cX5_init 0 = .ok (.aload_n 0, 1) := by decide +kernel
theorem dX5_init_1 : decode cX5_init 1 = .ok (.invokespecial 1, 3) := by decide +kernel
theorem dX5_init_4 : decode cX5_init 4 = .ok (.aload_n 0, 1) := by decide +kernel
theorem dX5_init_5 : decode cX5_init 5 = .ok (.bipush 30, 2) := by decide +kernel
theorem dX5_init_7 : decode cX5_init 7 = .ok (.newarray .int, 2) := by decide +kernel
theorem dX5_init_9 : decode cX5_init 9 = .ok (.putfield 7, 3) := by decide +kernel
theorem dX5_init_12 : decode cX5_init 12 = .ok (.aload_n 0, 1) := by decide +kernel
theorem dX5_init_13 : decode cX5_init 13 = .ok (.bipush 15, 2) := by decide +kernel
theorem dX5_init_15 : decode cX5_init 15 = .ok (.newarray .int, 2) := by decide +kernel
theorem dX5_init_17 : decode cX5_init 17 = .ok (.putfield 13, 3) := by decide +kernel
theorem dX5_init_20 : decode cX5_init 20 = .ok (.aload_n 0, 1) := by decide +kernel
theorem dX5_init_21 : decode cX5_init 21 = .ok (.bipush 15, 2) := by decide +kernel
theorem dX5_init_23 : decode cX5_init 23 = .ok (.newarray .int, 2) := by decide +kernel
theorem dX5_init_25 : decode cX5_init 25 = .ok (.putfield 16, 3) := by decide +kernel
theorem dX5_init_28 : decode cX5_init 28 = .ok (.aload_n 0, 1) := by decide +kernel
theorem dX5_init_29 : decode cX5_init 29 = .ok (.bipush 6, 2) := by decide +kernel
theorem dX5_init_31 : decode cX5_init 31 = .ok (.newarray .int, 2) := by decide +kernel
theorem dX5_init_33 : decode cX5_init 33 = .ok (.putfield 19, 3) := by decide +kernel
theorem dX5_init_36 : decode cX5_init 36 = .ok (.aload_n 0, 1) := by decide +kernel
theorem dX5_init_37 : decode cX5_init 37 = .ok (.bipush 6, 2) := by decide +kernel
theorem dX5_init_39 : decode cX5_init 39 = .ok (.newarray .int, 2) := by decide +kernel
theorem dX5_init_41 : decode cX5_init 41 = .ok (.putfield 22, 3) := by decide +kernel
theorem dX5_init_44 : decode cX5_init 44 = .ok (.aload_n 0, 1) := by decide +kernel
theorem dX5_init_45 : decode cX5_init 45 = .ok (.bipush 6, 2) := by decide +kernel
theorem dX5_init_47 : decode cX5_init 47 = .ok (.newarray .int, 2) := by decide +kernel
theorem dX5_init_49 : decode cX5_init 49 = .ok (.putfield 25, 3) := by decide +kernel
theorem dX5_init_52 : decode cX5_init 52 = .ok (.aload_n 0, 1) := by decide +kernel
theorem dX5_init_53 : decode cX5_init 53 = .ok (.bipush 20, 2) := by decide +kernel
theorem dX5_init_55 : decode cX5_init 55 = .ok (.newarray .int, 2) := by decide +kernel
theorem dX5_init_57 : decode cX5_init 57 = .ok (.putfield 28, 3) := by decide +kernel
theorem dX5_init_60 : decode cX5_init 60 = .ok (.aload_n 0, 1) := by decide +kernel
theorem dX5_init_61 : decode cX5_init 61 = .ok (.bipush 20, 2) := by decide +kernel
theorem dX5_init_63 : decode cX5_init 63 = .ok (.newarray .int, 2) := by decide +kernel
theorem dX5_init_65 : decode cX5_init 65 = .ok (.putfield 31, 3) := by decide +kernel
theorem dX5_init_68 : decode cX5_init 68 = .ok (.aload_n 0, 1) := by decide +kernel
theorem dX5_init_69 : decode cX5_init 69 = .ok (.bipush 20, 2) := by decide +kernel
theorem dX5_init_71 : decode cX5_init 71 = .ok (.newarray .int, 2) := by decide +kernel
theorem dX5_init_73 : decode cX5_init 73 = .ok (.putfield 34, 3) := by decide +kernel
theorem dX5_init_76 : decode cX5_init 76 = .ok (.aload_n 0, 1) := by decide +kernel
theorem dX5_init_77 : decode cX5_init 77 = .ok (.ldc 37, 2) := by decide +kernel
theorem dX5_init_79 : decode cX5_init 79 = .ok (.putfield 38, 3) := by decide +kernel
theorem dX5_init_82 : decode cX5_init 82 = .ok (.aload_n 0, 1) := by decide +kernel
theorem dX5_init_83 : decode cX5_init 83 = .ok (.bipush 10, 2) := by decide +kernel
theorem dX5_init_85 : decode cX5_init 85 = .ok (.newarray .int, 2) := by decide +kernel
theorem dX5_init_87 : decode cX5_init 87 = .ok (.putfield 42, 3) := by decide +kernel
theorem dX5_init_90 : decode cX5_init 90 = .ok (.aload_n 0, 1) := by decide +kernel
theorem dX5_init_91 : decode cX5_init 91 = .ok (.sipush 320, 3) := by decide +kernel
theorem dX5_init_94 : decode cX5_init 94 = .ok (.newarray .int, 2) := by decide +kernel
theorem dX5_init_96 : decode cX5_init 96 = .ok (.putfield 45, 3) := by decide +kernel
theorem dX5_init_99 : decode cX5_init 99 = .ok (.aload_n 0, 1) := by decide +kernel
theorem dX5_init_100 : decode cX5_init 100 = .ok (.bipush 20, 2) := by decide +kernel
theorem dX5_init_102 : decode cX5_init 102 = .ok (.newarray .int, 2) := by decide +kernel
theorem dX5_init_104 : decode cX5_init 104 = .ok (.putfield 48, 3) := by decide +kernel
theorem dX5_init_107 : decode cX5_init 107 = .ok (.aload_n 0, 1) := by decide +kernel
theorem dX5_init_108 : decode cX5_init 108 = .ok (.bipush 20, 2) := by decide +kernel
theorem dX5_init_110 : decode cX5_init 110 = .ok (.newarray .int, 2) := by decide +kernel
theorem dX5_init_112 : decode cX5_init 112 = .ok (.putfield 51, 3) := by decide +kernel
theorem dX5_init_115 : decode cX5_init 115 = .ok (.aload_n 0, 1) := by decide +kernel
theorem dX5_init_116 : decode cX5_init 116 = .ok (.bipush 20, 2) := by decide +kernel
theorem dX5_init_118 : decode cX5_init 118 = .ok (.newarray .boolean, 2) := by decide +kernel
theorem dX5_init_120 : decode cX5_init 120 = .ok (.putfield 54, 3) := by decide +kernel
theorem dX5_init_123 : decode cX5_init 123 = .ok (.return_, 1) := by decide +kernel
theorem dX5_thrown_0 : decode cX5_thrown 0 = .ok (.aload_n 0, 1) := by decide +kernel
theorem dX5_thrown_1 : decode cX5_thrown 1 = .ok (.getfield 58, 3) := by decide +kernel
theorem dX5_thrown_4 : decode cX5_thrown 4 = .ok (.ireturn, 1) := by decide +kernel
theorem dX5_tray_0 : decode cX5_tray 0 = .ok (.iload_n 1, 1) := by decide +kernel
theorem dX5_tray_1 : decode cX5_tray 1 = .ok (.invokestatic 61, 3) := by decide +kernel
theorem dX5_tray_4 : decode cX5_tray 4 = .ok (.ifCond .eq 44, 3) := by decide +kernel
theorem dX5_tray_7 : decode cX5_tray 7 = .ok (.iload_n 2, 1) := by decide +kernel
theorem dX5_tray_8 : decode cX5_tray 8 = .ok (.invokestatic 61, 3) := by decide +kernel
theorem dX5_tray_11 : decode cX5_tray 11 = .ok (.ifCond .eq 37, 3) := by decide +kernel
theorem dX5_tray_14 : decode cX5_tray 14 = .ok (.iload_n 1, 1) := by decide +kernel
theorem dX5_tray_15 : decode cX5_tray 15 = .ok (.iload_n 2, 1) := by decide +kernel
theorem dX5_tray_16 : decode cX5_tray 16 = .ok (.if_icmp .eq 32, 3) := by decide +kernel
theorem dX5_tray_19 : decode cX5_tray 19 = .ok (.iload_n 3, 1) := by decide +kernel
theorem dX5_tray_20 : decode cX5_tray 20 = .ok (.i2l, 1) := by decide +kernel
theorem dX5_tray_21 : decode cX5_tray 21 = .ok (.lconst 1, 1) := by decide +kernel
theorem dX5_tray_22 : decode cX5_tray 22 = .ok (.ldc2_w 65, 3) := by decide +kernel
theorem dX5_tray_25 : decode cX5_tray 25 = .ok (.invokestatic 67, 3) := by decide +kernel
theorem dX5_tray_28 : decode cX5_tray 28 = .ok (.ifCond .eq 20, 3) := by decide +kernel
theorem dX5_tray_31 : decode cX5_tray 31 = .ok (.iload 4, 2) := by decide +kernel
theorem dX5_tray_33 : decode cX5_tray 33 = .ok (.i2l, 1) := by decide +kernel
theorem dX5_tray_34 : decode cX5_tray 34 = .ok (.lconst 1, 1) := by decide +kernel
theorem dX5_tray_35 : decode cX5_tray 35 = .ok (.ldc2_w 71, 3) := by decide +kernel
theorem dX5_tray_38 : decode cX5_tray 38 = .ok (.invokestatic 67, 3) := by decide +kernel
theorem dX5_tray_41 : decode cX5_tray 41 = .ok (.ifCond .eq 7, 3) := by decide +kernel
theorem dX5_tray_44 : decode cX5_tray 44 = .ok (.iconst 1, 1) := by decide +kernel
theorem dX5_tray_45 : decode cX5_tray 45 = .ok (.goto 4, 3) := by decide +kernel
theorem dX5_tray_48 : decode cX5_tray 48 = .ok (.iconst 0, 1) := by decide +kernel
theorem dX5_tray_49 : decode cX5_tray 49 = .ok (.istore 5, 2) := by decide +kernel
theorem dX5_tray_51 : decode cX5_tray 51 = .ok (.aload_n 0, 1) := by decide +kernel
theorem dX5_tray_52 : decode cX5_tray 52 = .ok (.iload 5, 2) := by decide +kernel
theorem dX5_tray_54 : decode cX5_tray 54 = .ok (.ifCond .ne 7, 3) := by decide +kernel
theorem dX5_tray_57 : decode cX5_tray 57 = .ok (.iconst 1, 1) := by decide +kernel
theorem dX5_tray_58 : decode cX5_tray 58 = .ok (.goto 17, 3) := by decide +kernel
theorem dX5_tray_61 : decode cX5_tray 61 = .ok (.aload_n 0, 1) := by decide +kernel
theorem dX5_tray_62 : decode cX5_tray 62 = .ok (.getfield 73, 3) := by decide +kernel
theorem dX5_tray_65 : decode cX5_tray 65 = .ok (.bipush 15, 2) := by decide +kernel
theorem dX5_tray_67 : decode cX5_tray 67 = .ok (.if_icmp .ne 7, 3) := by decide +kernel
theorem dX5_tray_70 : decode cX5_tray 70 = .ok (.iconst 2, 1) := by decide +kernel
theorem dX5_tray_71 : decode cX5_tray 71 = .ok (.goto 4, 3) := by decide +kernel
theorem dX5_tray_74 : decode cX5_tray 74 = .ok (.iconst 0, 1) := by decide +kernel
theorem dX5_tray_75 : decode cX5_tray 75 = .ok (.putfield 58, 3) := by decide +kernel
theorem dX5_tray_78 : decode cX5_tray 78 = .ok (.aload_n 0, 1) := by decide +kernel
theorem dX5_tray_79 : decode cX5_tray 79 = .ok (.getfield 58, 3) := by decide +kernel
theorem dX5_tray_82 : decode cX5_tray 82 = .ok (.ifCond .le 5, 3) := by decide +kernel
theorem dX5_tray_85 : decode cX5_tray 85 = .ok (.iconst 0, 1) := by decide +kernel
theorem dX5_tray_86 : decode cX5_tray 86 = .ok (.ireturn, 1) := by decide +kernel
theorem dX5_tray_87 : decode cX5_tray 87 = .ok (.aload_n 0, 1) := by decide +kernel
theorem dX5_tray_88 : decode cX5_tray 88 = .ok (.getfield 7, 3) := by decide +kernel
theorem dX5_tray_91 : decode cX5_tray 91 = .ok (.iconst 2, 1) := by decide +kernel
theorem dX5_tray_92 : decode cX5_tray 92 = .ok (.aload_n 0, 1) := by decide +kernel
theorem dX5_tray_93 : decode cX5_tray 93 = .ok (.getfield 73, 3) := by decide +kernel
theorem dX5_tray_96 : decode cX5_tray 96 = .ok (.imul, 1) := by decide +kernel
theorem dX5_tray_97 : decode cX5_tray 97 = .ok (.iload_n 1, 1) := by decide +kernel
theorem dX5_tray_98 : decode cX5_tray 98 = .ok (.iastore, 1) := by decide +kernel
theorem dX5_tray_99 : decode cX5_tray 99 = .ok (.aload_n 0, 1) := by decide +kernel
theorem dX5_tray_100 : decode cX5_tray 100 = .ok (.getfield 7, 3) := by decide +kernel
theorem dX5_tray_103 : decode cX5_tray 103 = .ok (.iconst 2, 1) := by decide +kernel
theorem dX5_tray_104 : decode cX5_tray 104 = .ok (.aload_n 0, 1) := by decide +kernel
theorem dX5_tray_105 : decode cX5_tray 105 = .ok (.getfield 73, 3) := by decide +kernel
theorem dX5_tray_108 : decode cX5_tray 108 = .ok (.imul, 1) := by decide +kernel
theorem dX5_tray_109 : decode cX5_tray 109 = .ok (.iconst 1, 1) := by decide +kernel
theorem dX5_tray_110 : decode cX5_tray 110 = .ok (.iadd, 1) := by decide +kernel
theorem dX5_tray_111 : decode cX5_tray 111 = .ok (.iload_n 2, 1) := by decide +kernel
theorem dX5_tray_112 : decode cX5_tray 112 = .ok (.iastore, 1) := by decide +kernel
theorem dX5_tray_113 : decode cX5_tray 113 = .ok (.aload_n 0, 1) := by decide +kernel
theorem dX5_tray_114 : decode cX5_tray 114 = .ok (.getfield 13, 3) := by decide +kernel
theorem dX5_tray_117 : decode cX5_tray 117 = .ok (.aload_n 0, 1) := by decide +kernel
theorem dX5_tray_118 : decode cX5_tray 118 = .ok (.getfield 73, 3) := by decide +kernel
theorem dX5_tray_121 : decode cX5_tray 121 = .ok (.iload_n 3, 1) := by decide +kernel
theorem dX5_tray_122 : decode cX5_tray 122 = .ok (.iastore, 1) := by decide +kernel
theorem dX5_tray_123 : decode cX5_tray 123 = .ok (.aload_n 0, 1) := by decide +kernel
theorem dX5_tray_124 : decode cX5_tray 124 = .ok (.getfield 16, 3) := by decide +kernel
theorem dX5_tray_127 : decode cX5_tray 127 = .ok (.aload_n 0, 1) := by decide +kernel
theorem dX5_tray_128 : decode cX5_tray 128 = .ok (.getfield 73, 3) := by decide +kernel
theorem dX5_tray_131 : decode cX5_tray 131 = .ok (.iload 4, 2) := by decide +kernel
theorem dX5_tray_133 : decode cX5_tray 133 = .ok (.iastore, 1) := by decide +kernel
theorem dX5_tray_134 : decode cX5_tray 134 = .ok (.aload_n 0, 1) := by decide +kernel
theorem dX5_tray_135 : decode cX5_tray 135 = .ok (.dup, 1) := by decide +kernel
theorem dX5_tray_136 : decode cX5_tray 136 = .ok (.getfield 73, 3) := by decide +kernel
theorem dX5_tray_139 : decode cX5_tray 139 = .ok (.iconst 1, 1) := by decide +kernel
theorem dX5_tray_140 : decode cX5_tray 140 = .ok (.iadd, 1) := by decide +kernel
theorem dX5_tray_141 : decode cX5_tray 141 = .ok (.putfield 73, 3) := by decide +kernel
theorem dX5_tray_144 : decode cX5_tray 144 = .ok (.aload_n 0, 1) := by decide +kernel
theorem dX5_tray_145 : decode cX5_tray 145 = .ok (.getfield 73, 3) := by decide +kernel
theorem dX5_tray_148 : decode cX5_tray 148 = .ok (.iconst 1, 1) := by decide +kernel
theorem dX5_tray_149 : decode cX5_tray 149 = .ok (.isub, 1) := by decide +kernel
theorem dX5_tray_150 : decode cX5_tray 150 = .ok (.ireturn, 1) := by decide +kernel
theorem dX5_isNode_0 : decode cX5_isNode 0 = .ok (.iload_n 0, 1) := by decide +kernel
theorem dX5_isNode_1 : decode cX5_isNode 1 = .ok (.ifCond .lt 13, 3) := by decide +kernel
theorem dX5_isNode_4 : decode cX5_isNode 4 = .ok (.iload_n 0, 1) := by decide +kernel
theorem dX5_isNode_5 : decode cX5_isNode 5 = .ok (.bipush 10, 2) := by decide +kernel
theorem dX5_isNode_7 : decode cX5_isNode 7 = .ok (.if_icmp .ge 7, 3) := by decide +kernel
theorem dX5_isNode_10 : decode cX5_isNode 10 = .ok (.iconst 1, 1) := by decide +kernel
theorem dX5_isNode_11 : decode cX5_isNode 11 = .ok (.goto 4, 3) := by decide +kernel
theorem dX5_isNode_14 : decode cX5_isNode 14 = .ok (.iconst 0, 1) := by decide +kernel
theorem dX5_isNode_15 : decode cX5_isNode 15 = .ok (.ireturn, 1) := by decide +kernel
theorem dX5_isIn_0 : decode cX5_isIn 0 = .ok (.lload_n 0, 1) := by decide +kernel
theorem dX5_isIn_1 : decode cX5_isIn 1 = .ok (.lload_n 2, 1) := by decide +kernel
theorem dX5_isIn_2 : decode cX5_isIn 2 = .ok (.lcmp, 1) := by decide +kernel
theorem dX5_isIn_3 : decode cX5_isIn 3 = .ok (.ifCond .lt 14, 3) := by decide +kernel
theorem dX5_isIn_6 : decode cX5_isIn 6 = .ok (.lload_n 0, 1) := by decide +kernel
theorem dX5_isIn_7 : decode cX5_isIn 7 = .ok (.lload 4, 2) := by decide +kernel
theorem dX5_isIn_9 : decode cX5_isIn 9 = .ok (.lcmp, 1) := by decide +kernel
theorem dX5_isIn_10 : decode cX5_isIn 10 = .ok (.ifCond .gt 7, 3) := by decide +kernel
theorem dX5_isIn_13 : decode cX5_isIn 13 = .ok (.iconst 1, 1) := by decide +kernel
theorem dX5_isIn_14 : decode cX5_isIn 14 = .ok (.goto 4, 3) := by decide +kernel
theorem dX5_isIn_17 : decode cX5_isIn 17 = .ok (.iconst 0, 1) := by decide +kernel
theorem dX5_isIn_18 : decode cX5_isIn 18 = .ok (.ireturn, 1) := by decide +kernel
theorem dX5_size_0 : decode cX5_size 0 = .ok (.iload_n 1, 1) := by decide +kernel
theorem dX5_size_1 : decode cX5_size 1 = .ok (.i2l, 1) := by decide +kernel
theorem dX5_size_2 : decode cX5_size 2 = .ok (.lconst 1, 1) := by decide +kernel
theorem dX5_size_3 : decode cX5_size 3 = .ok (.ldc2_w 65, 3) := by decide +kernel
theorem dX5_size_6 : decode cX5_size 6 = .ok (.invokestatic 67, 3) := by decide +kernel
theorem dX5_size_9 : decode cX5_size 9 = .ok (.ifCond .eq 31, 3) := by decide +kernel
theorem dX5_size_12 : decode cX5_size 12 = .ok (.iload_n 2, 1) := by decide +kernel
theorem dX5_size_13 : decode cX5_size 13 = .ok (.i2l, 1) := by decide +kernel
theorem dX5_size_14 : decode cX5_size 14 = .ok (.lconst 1, 1) := by decide +kernel
theorem dX5_size_15 : decode cX5_size 15 = .ok (.ldc2_w 71, 3) := by decide +kernel
theorem dX5_size_18 : decode cX5_size 18 = .ok (.invokestatic 67, 3) := by decide +kernel
theorem dX5_size_21 : decode cX5_size 21 = .ok (.ifCond .eq 19, 3) := by decide +kernel
theorem dX5_size_24 : decode cX5_size 24 = .ok (.iload_n 3, 1) := by decide +kernel
theorem dX5_size_25 : decode cX5_size 25 = .ok (.i2l, 1) := by decide +kernel
theorem dX5_size_26 : decode cX5_size 26 = .ok (.lconst 0, 1) := by decide +kernel
theorem dX5_size_27 : decode cX5_size 27 = .ok (.ldc2_w 71, 3) := by decide +kernel
theorem dX5_size_30 : decode cX5_size 30 = .ok (.invokestatic 67, 3) := by decide +kernel
theorem dX5_size_33 : decode cX5_size 33 = .ok (.ifCond .eq 7, 3) := by decide +kernel
theorem dX5_size_36 : decode cX5_size 36 = .ok (.iconst 1, 1) := by decide +kernel
theorem dX5_size_37 : decode cX5_size 37 = .ok (.goto 4, 3) := by decide +kernel
theorem dX5_size_40 : decode cX5_size 40 = .ok (.iconst 0, 1) := by decide +kernel
theorem dX5_size_41 : decode cX5_size 41 = .ok (.istore 4, 2) := by decide +kernel
theorem dX5_size_43 : decode cX5_size 43 = .ok (.aload_n 0, 1) := by decide +kernel
theorem dX5_size_44 : decode cX5_size 44 = .ok (.getfield 76, 3) := by decide +kernel
theorem dX5_size_47 : decode cX5_size 47 = .ok (.ifCond .eq 57, 3) := by decide +kernel
theorem dX5_size_50 : decode cX5_size 50 = .ok (.aload_n 0, 1) := by decide +kernel
theorem dX5_size_51 : decode cX5_size 51 = .ok (.getfield 76, 3) := by decide +kernel
theorem dX5_size_54 : decode cX5_size 54 = .ok (.bipush 6, 2) := by decide +kernel
theorem dX5_size_56 : decode cX5_size 56 = .ok (.if_icmp .ge 52, 3) := by decide +kernel
theorem dX5_size_59 : decode cX5_size 59 = .ok (.iload_n 1, 1) := by decide +kernel
theorem dX5_size_60 : decode cX5_size 60 = .ok (.aload_n 0, 1) := by decide +kernel
theorem dX5_size_61 : decode cX5_size 61 = .ok (.getfield 19, 3) := by decide +kernel
theorem dX5_size_64 : decode cX5_size 64 = .ok (.aload_n 0, 1) := by decide +kernel
theorem dX5_size_65 : decode cX5_size 65 = .ok (.getfield 76, 3) := by decide +kernel
theorem dX5_size_68 : decode cX5_size 68 = .ok (.iconst 1, 1) := by decide +kernel
theorem dX5_size_69 : decode cX5_size 69 = .ok (.isub, 1) := by decide +kernel
theorem dX5_size_70 : decode cX5_size 70 = .ok (.iaload, 1) := by decide +kernel
theorem dX5_size_71 : decode cX5_size 71 = .ok (.if_icmp .le 37, 3) := by decide +kernel
theorem dX5_size_74 : decode cX5_size 74 = .ok (.iload_n 2, 1) := by decide +kernel
theorem dX5_size_75 : decode cX5_size 75 = .ok (.aload_n 0, 1) := by decide +kernel
theorem dX5_size_76 : decode cX5_size 76 = .ok (.getfield 22, 3) := by decide +kernel
theorem dX5_size_79 : decode cX5_size 79 = .ok (.aload_n 0, 1) := by decide +kernel
theorem dX5_size_80 : decode cX5_size 80 = .ok (.getfield 76, 3) := by decide +kernel
theorem dX5_size_83 : decode cX5_size 83 = .ok (.iconst 1, 1) := by decide +kernel
theorem dX5_size_84 : decode cX5_size 84 = .ok (.isub, 1) := by decide +kernel
theorem dX5_size_85 : decode cX5_size 85 = .ok (.iaload, 1) := by decide +kernel
theorem dX5_size_86 : decode cX5_size 86 = .ok (.if_icmp .lt 22, 3) := by decide +kernel
theorem dX5_size_89 : decode cX5_size 89 = .ok (.iload_n 3, 1) := by decide +kernel
theorem dX5_size_90 : decode cX5_size 90 = .ok (.aload_n 0, 1) := by decide +kernel
theorem dX5_size_91 : decode cX5_size 91 = .ok (.getfield 25, 3) := by decide +kernel
theorem dX5_size_94 : decode cX5_size 94 = .ok (.aload_n 0, 1) := by decide +kernel
theorem dX5_size_95 : decode cX5_size 95 = .ok (.getfield 76, 3) := by decide +kernel
theorem dX5_size_98 : decode cX5_size 98 = .ok (.iconst 1, 1) := by decide +kernel
theorem dX5_size_99 : decode cX5_size 99 = .ok (.isub, 1) := by decide +kernel
theorem dX5_size_100 : decode cX5_size 100 = .ok (.iaload, 1) := by decide +kernel
theorem dX5_size_101 : decode cX5_size 101 = .ok (.if_icmp .gt 7, 3) := by decide +kernel
theorem dX5_size_104 : decode cX5_size 104 = .ok (.iconst 1, 1) := by decide +kernel
theorem dX5_size_105 : decode cX5_size 105 = .ok (.goto 4, 3) := by decide +kernel
theorem dX5_size_108 : decode cX5_size 108 = .ok (.iconst 0, 1) := by decide +kernel
theorem dX5_size_109 : decode cX5_size 109 = .ok (.istore 5, 2) := by decide +kernel
theorem dX5_size_111 : decode cX5_size 111 = .ok (.aload_n 0, 1) := by decide +kernel
theorem dX5_size_112 : decode cX5_size 112 = .ok (.iload 4, 2) := by decide +kernel
theorem dX5_size_114 : decode cX5_size 114 = .ok (.ifCond .ne 7, 3) := by decide +kernel
theorem dX5_size_117 : decode cX5_size 117 = .ok (.iconst 1, 1) := by decide +kernel
theorem dX5_size_118 : decode cX5_size 118 = .ok (.goto 13, 3) := by decide +kernel
theorem dX5_size_121 : decode cX5_size 121 = .ok (.iload 5, 2) := by decide +kernel
theorem dX5_size_123 : decode cX5_size 123 = .ok (.ifCond .ne 7, 3) := by decide +kernel
theorem dX5_size_126 : decode cX5_size 126 = .ok (.iconst 2, 1) := by decide +kernel
theorem dX5_size_127 : decode cX5_size 127 = .ok (.goto 4, 3) := by decide +kernel
theorem dX5_size_130 : decode cX5_size 130 = .ok (.iconst 0, 1) := by decide +kernel
theorem dX5_size_131 : decode cX5_size 131 = .ok (.putfield 58, 3) := by decide +kernel
theorem dX5_size_134 : decode cX5_size 134 = .ok (.aload_n 0, 1) := by decide +kernel
theorem dX5_size_135 : decode cX5_size 135 = .ok (.getfield 58, 3) := by decide +kernel
theorem dX5_size_138 : decode cX5_size 138 = .ok (.ifCond .le 5, 3) := by decide +kernel
theorem dX5_size_141 : decode cX5_size 141 = .ok (.iconst 0, 1) := by decide +kernel
theorem dX5_size_142 : decode cX5_size 142 = .ok (.ireturn, 1) := by decide +kernel
theorem dX5_size_143 : decode cX5_size 143 = .ok (.aload_n 0, 1) := by decide +kernel
theorem dX5_size_144 : decode cX5_size 144 = .ok (.getfield 19, 3) := by decide +kernel
theorem dX5_size_147 : decode cX5_size 147 = .ok (.aload_n 0, 1) := by decide +kernel
theorem dX5_size_148 : decode cX5_size 148 = .ok (.getfield 76, 3) := by decide +kernel
theorem dX5_size_151 : decode cX5_size 151 = .ok (.iload_n 1, 1) := by decide +kernel
theorem dX5_size_152 : decode cX5_size 152 = .ok (.iastore, 1) := by decide +kernel
theorem dX5_size_153 : decode cX5_size 153 = .ok (.aload_n 0, 1) := by decide +kernel
theorem dX5_size_154 : decode cX5_size 154 = .ok (.getfield 22, 3) := by decide +kernel
theorem dX5_size_157 : decode cX5_size 157 = .ok (.aload_n 0, 1) := by decide +kernel
theorem dX5_size_158 : decode cX5_size 158 = .ok (.getfield 76, 3) := by decide +kernel
theorem dX5_size_161 : decode cX5_size 161 = .ok (.iload_n 2, 1) := by decide +kernel
theorem dX5_size_162 : decode cX5_size 162 = .ok (.iastore, 1) := by decide +kernel
theorem dX5_size_163 : decode cX5_size 163 = .ok (.aload_n 0, 1) := by decide +kernel
theorem dX5_size_164 : decode cX5_size 164 = .ok (.getfield 25, 3) := by decide +kernel
theorem dX5_size_167 : decode cX5_size 167 = .ok (.aload_n 0, 1) := by decide +kernel
theorem dX5_size_168 : decode cX5_size 168 = .ok (.getfield 76, 3) := by decide +kernel
theorem dX5_size_171 : decode cX5_size 171 = .ok (.iload_n 3, 1) := by decide +kernel
theorem dX5_size_172 : decode cX5_size 172 = .ok (.iastore, 1) := by decide +kernel
theorem dX5_size_173 : decode cX5_size 173 = .ok (.aload_n 0, 1) := by decide +kernel
theorem dX5_size_174 : decode cX5_size 174 = .ok (.dup, 1) := by decide +kernel
theorem dX5_size_175 : decode cX5_size 175 = .ok (.getfield 76, 3) := by decide +kernel
theorem dX5_size_178 : decode cX5_size 178 = .ok (.iconst 1, 1) := by decide +kernel
theorem dX5_size_179 : decode cX5_size 179 = .ok (.iadd, 1) := by decide +kernel
theorem dX5_size_180 : decode cX5_size 180 = .ok (.putfield 76, 3) := by decide +kernel
theorem dX5_size_183 : decode cX5_size 183 = .ok (.aload_n 0, 1) := by decide +kernel
theorem dX5_size_184 : decode cX5_size 184 = .ok (.getfield 76, 3) := by decide +kernel
theorem dX5_size_187 : decode cX5_size 187 = .ok (.iconst 1, 1) := by decide +kernel
theorem dX5_size_188 : decode cX5_size 188 = .ok (.isub, 1) := by decide +kernel
theorem dX5_size_189 : decode cX5_size 189 = .ok (.ireturn, 1) := by decide +kernel
theorem dX5_cable_0 : decode cX5_cable 0 = .ok (.iload_n 1, 1) := by decide +kernel
theorem dX5_cable_1 : decode cX5_cable 1 = .ok (.invokestatic 61, 3) := by decide +kernel
theorem dX5_cable_4 : decode cX5_cable 4 = .ok (.ifCond .eq 31, 3) := by decide +kernel
theorem dX5_cable_7 : decode cX5_cable 7 = .ok (.iload_n 2, 1) := by decide +kernel
theorem dX5_cable_8 : decode cX5_cable 8 = .ok (.invokestatic 61, 3) := by decide +kernel
theorem dX5_cable_11 : decode cX5_cable 11 = .ok (.ifCond .eq 24, 3) := by decide +kernel
theorem dX5_cable_14 : decode cX5_cable 14 = .ok (.iload_n 1, 1) := by decide +kernel
theorem dX5_cable_15 : decode cX5_cable 15 = .ok (.iload_n 2, 1) := by decide +kernel
theorem dX5_cable_16 : decode cX5_cable 16 = .ok (.if_icmp .eq 19, 3) := by decide +kernel
theorem dX5_cable_19 : decode cX5_cable 19 = .ok (.iload_n 3, 1) := by decide +kernel
theorem dX5_cable_20 : decode cX5_cable 20 = .ok (.i2l, 1) := by decide +kernel
theorem dX5_cable_21 : decode cX5_cable 21 = .ok (.lconst 1, 1) := by decide +kernel
theorem dX5_cable_22 : decode cX5_cable 22 = .ok (.ldc2_w 71, 3) := by decide +kernel
theorem dX5_cable_25 : decode cX5_cable 25 = .ok (.invokestatic 67, 3) := by decide +kernel
theorem dX5_cable_28 : decode cX5_cable 28 = .ok (.ifCond .eq 7, 3) := by decide +kernel
theorem dX5_cable_31 : decode cX5_cable 31 = .ok (.iconst 1, 1) := by decide +kernel
theorem dX5_cable_32 : decode cX5_cable 32 = .ok (.goto 4, 3) := by decide +kernel
theorem dX5_cable_35 : decode cX5_cable 35 = .ok (.iconst 0, 1) := by decide +kernel
theorem dX5_cable_36 : decode cX5_cable 36 = .ok (.istore 4, 2) := by decide +kernel
theorem dX5_cable_38 : decode cX5_cable 38 = .ok (.aload_n 0, 1) := by decide +kernel
theorem dX5_cable_39 : decode cX5_cable 39 = .ok (.iload 4, 2) := by decide +kernel
theorem dX5_cable_41 : decode cX5_cable 41 = .ok (.ifCond .ne 7, 3) := by decide +kernel
theorem dX5_cable_44 : decode cX5_cable 44 = .ok (.iconst 1, 1) := by decide +kernel
theorem dX5_cable_45 : decode cX5_cable 45 = .ok (.goto 17, 3) := by decide +kernel
theorem dX5_cable_48 : decode cX5_cable 48 = .ok (.aload_n 0, 1) := by decide +kernel
theorem dX5_cable_49 : decode cX5_cable 49 = .ok (.getfield 79, 3) := by decide +kernel
theorem dX5_cable_52 : decode cX5_cable 52 = .ok (.bipush 20, 2) := by decide +kernel
theorem dX5_cable_54 : decode cX5_cable 54 = .ok (.if_icmp .ne 7, 3) := by decide +kernel
theorem dX5_cable_57 : decode cX5_cable 57 = .ok (.iconst 2, 1) := by decide +kernel
theorem dX5_cable_58 : decode cX5_cable 58 = .ok (.goto 4, 3) := by decide +kernel
theorem dX5_cable_61 : decode cX5_cable 61 = .ok (.iconst 0, 1) := by decide +kernel
theorem dX5_cable_62 : decode cX5_cable 62 = .ok (.putfield 58, 3) := by decide +kernel
theorem dX5_cable_65 : decode cX5_cable 65 = .ok (.aload_n 0, 1) := by decide +kernel
theorem dX5_cable_66 : decode cX5_cable 66 = .ok (.getfield 58, 3) := by decide +kernel
theorem dX5_cable_69 : decode cX5_cable 69 = .ok (.ifCond .le 5, 3) := by decide +kernel
theorem dX5_cable_72 : decode cX5_cable 72 = .ok (.iconst 0, 1) := by decide +kernel
theorem dX5_cable_73 : decode cX5_cable 73 = .ok (.ireturn, 1) := by decide +kernel
theorem dX5_cable_74 : decode cX5_cable 74 = .ok (.aload_n 0, 1) := by decide +kernel
theorem dX5_cable_75 : decode cX5_cable 75 = .ok (.getfield 28, 3) := by decide +kernel
theorem dX5_cable_78 : decode cX5_cable 78 = .ok (.aload_n 0, 1) := by decide +kernel
theorem dX5_cable_79 : decode cX5_cable 79 = .ok (.getfield 79, 3) := by decide +kernel
theorem dX5_cable_82 : decode cX5_cable 82 = .ok (.iload_n 1, 1) := by decide +kernel
theorem dX5_cable_83 : decode cX5_cable 83 = .ok (.iastore, 1) := by decide +kernel
theorem dX5_cable_84 : decode cX5_cable 84 = .ok (.aload_n 0, 1) := by decide +kernel
theorem dX5_cable_85 : decode cX5_cable 85 = .ok (.getfield 31, 3) := by decide +kernel
theorem dX5_cable_88 : decode cX5_cable 88 = .ok (.aload_n 0, 1) := by decide +kernel
theorem dX5_cable_89 : decode cX5_cable 89 = .ok (.getfield 79, 3) := by decide +kernel
theorem dX5_cable_92 : decode cX5_cable 92 = .ok (.iload_n 2, 1) := by decide +kernel
theorem dX5_cable_93 : decode cX5_cable 93 = .ok (.iastore, 1) := by decide +kernel
theorem dX5_cable_94 : decode cX5_cable 94 = .ok (.aload_n 0, 1) := by decide +kernel
theorem dX5_cable_95 : decode cX5_cable 95 = .ok (.getfield 34, 3) := by decide +kernel
theorem dX5_cable_98 : decode cX5_cable 98 = .ok (.aload_n 0, 1) := by decide +kernel
theorem dX5_cable_99 : decode cX5_cable 99 = .ok (.getfield 79, 3) := by decide +kernel
theorem dX5_cable_102 : decode cX5_cable 102 = .ok (.iload_n 3, 1) := by decide +kernel
theorem dX5_cable_103 : decode cX5_cable 103 = .ok (.iastore, 1) := by decide +kernel
theorem dX5_cable_104 : decode cX5_cable 104 = .ok (.aload_n 0, 1) := by decide +kernel
theorem dX5_cable_105 : decode cX5_cable 105 = .ok (.dup, 1) := by decide +kernel
theorem dX5_cable_106 : decode cX5_cable 106 = .ok (.getfield 79, 3) := by decide +kernel
theorem dX5_cable_109 : decode cX5_cable 109 = .ok (.iconst 1, 1) := by decide +kernel
theorem dX5_cable_110 : decode cX5_cable 110 = .ok (.iadd, 1) := by decide +kernel
theorem dX5_cable_111 : decode cX5_cable 111 = .ok (.putfield 79, 3) := by decide +kernel
theorem dX5_cable_114 : decode cX5_cable 114 = .ok (.aload_n 0, 1) := by decide +kernel
theorem dX5_cable_115 : decode cX5_cable 115 = .ok (.getfield 79, 3) := by decide +kernel
theorem dX5_cable_118 : decode cX5_cable 118 = .ok (.iconst 1, 1) := by decide +kernel
theorem dX5_cable_119 : decode cX5_cable 119 = .ok (.isub, 1) := by decide +kernel
theorem dX5_cable_120 : decode cX5_cable 120 = .ok (.ireturn, 1) := by decide +kernel
theorem dX5_current_0 : decode cX5_current 0 = .ok (.aload_n 0, 1) := by decide +kernel
theorem dX5_current_1 : decode cX5_current 1 = .ok (.aload_n 0, 1) := by decide +kernel
theorem dX5_current_2 : decode cX5_current 2 = .ok (.iload_n 1, 1) := by decide +kernel
theorem dX5_current_3 : decode cX5_current 3 = .ok (.invokevirtual 82, 3) := by decide +kernel
theorem dX5_current_6 : decode cX5_current 6 = .ok (.ifCond .ne 15, 3) := by decide +kernel
theorem dX5_current_9 : decode cX5_current 9 = .ok (.iload_n 2, 1) := by decide +kernel
theorem dX5_current_10 : decode cX5_current 10 = .ok (.i2l, 1) := by decide +kernel
theorem dX5_current_11 : decode cX5_current 11 = .ok (.lconst 1, 1) := by decide +kernel
theorem dX5_current_12 : decode cX5_current 12 = .ok (.ldc2_w 71, 3) := by decide +kernel
theorem dX5_current_15 : decode cX5_current 15 = .ok (.invokestatic 67, 3) := by decide +kernel
theorem dX5_current_18 : decode cX5_current 18 = .ok (.ifCond .ne 7, 3) := by decide +kernel
theorem dX5_current_21 : decode cX5_current 21 = .ok (.iconst 1, 1) := by decide +kernel
theorem dX5_current_22 : decode cX5_current 22 = .ok (.goto 4, 3) := by decide +kernel
theorem dX5_current_25 : decode cX5_current 25 = .ok (.iconst 0, 1) := by decide +kernel
theorem dX5_current_26 : decode cX5_current 26 = .ok (.putfield 58, 3) := by decide +kernel
theorem dX5_current_29 : decode cX5_current 29 = .ok (.aload_n 0, 1) := by decide +kernel
theorem dX5_current_30 : decode cX5_current 30 = .ok (.getfield 58, 3) := by decide +kernel
theorem dX5_current_33 : decode cX5_current 33 = .ok (.ifCond .le 5, 3) := by decide +kernel
theorem dX5_current_36 : decode cX5_current 36 = .ok (.iconst 0, 1) := by decide +kernel
theorem dX5_current_37 : decode cX5_current 37 = .ok (.ireturn, 1) := by decide +kernel
theorem dX5_current_38 : decode cX5_current 38 = .ok (.aload_n 0, 1) := by decide +kernel
theorem dX5_current_39 : decode cX5_current 39 = .ok (.getfield 34, 3) := by decide +kernel
theorem dX5_current_42 : decode cX5_current 42 = .ok (.iload_n 1, 1) := by decide +kernel
theorem dX5_current_43 : decode cX5_current 43 = .ok (.iaload, 1) := by decide +kernel
theorem dX5_current_44 : decode cX5_current 44 = .ok (.istore_n 3, 1) := by decide +kernel
theorem dX5_current_45 : decode cX5_current 45 = .ok (.aload_n 0, 1) := by decide +kernel
theorem dX5_current_46 : decode cX5_current 46 = .ok (.getfield 34, 3) := by decide +kernel
theorem dX5_current_49 : decode cX5_current 49 = .ok (.iload_n 1, 1) := by decide +kernel
theorem dX5_current_50 : decode cX5_current 50 = .ok (.iload_n 2, 1) := by decide +kernel
theorem dX5_current_51 : decode cX5_current 51 = .ok (.iastore, 1) := by decide +kernel
theorem dX5_current_52 : decode cX5_current 52 = .ok (.iload_n 3, 1) := by decide +kernel
theorem dX5_current_53 : decode cX5_current 53 = .ok (.ireturn, 1) := by decide +kernel
theorem dX5_noCable_0 : decode cX5_noCable 0 = .ok (.iload_n 1, 1) := by decide +kernel
theorem dX5_noCable_1 : decode cX5_noCable 1 = .ok (.ifCond .lt 11, 3) := by decide +kernel
theorem dX5_noCable_4 : decode cX5_noCable 4 = .ok (.iload_n 1, 1) := by decide +kernel
theorem dX5_noCable_5 : decode cX5_noCable 5 = .ok (.aload_n 0, 1) := by decide +kernel
theorem dX5_noCable_6 : decode cX5_noCable 6 = .ok (.getfield 79, 3) := by decide +kernel
theorem dX5_noCable_9 : decode cX5_noCable 9 = .ok (.if_icmp .lt 7, 3) := by decide +kernel
theorem dX5_noCable_12 : decode cX5_noCable 12 = .ok (.iconst 1, 1) := by decide +kernel
theorem dX5_noCable_13 : decode cX5_noCable 13 = .ok (.goto 4, 3) := by decide +kernel
theorem dX5_noCable_16 : decode cX5_noCable 16 = .ok (.iconst 0, 1) := by decide +kernel
theorem dX5_noCable_17 : decode cX5_noCable 17 = .ok (.ireturn, 1) := by decide +kernel
theorem dX5_room_0 : decode cX5_room 0 = .ok (.aload_n 0, 1) := by decide +kernel
theorem dX5_room_1 : decode cX5_room 1 = .ok (.aload_n 0, 1) := by decide +kernel
theorem dX5_room_2 : decode cX5_room 2 = .ok (.iload_n 1, 1) := by decide +kernel
theorem dX5_room_3 : decode cX5_room 3 = .ok (.invokevirtual 85, 3) := by decide +kernel
theorem dX5_room_6 : decode cX5_room 6 = .ok (.ifCond .ne 15, 3) := by decide +kernel
theorem dX5_room_9 : decode cX5_room 9 = .ok (.iload_n 2, 1) := by decide +kernel
theorem dX5_room_10 : decode cX5_room 10 = .ok (.i2l, 1) := by decide +kernel
theorem dX5_room_11 : decode cX5_room 11 = .ok (.lconst 1, 1) := by decide +kernel
theorem dX5_room_12 : decode cX5_room 12 = .ok (.ldc2_w 71, 3) := by decide +kernel
theorem dX5_room_15 : decode cX5_room 15 = .ok (.invokestatic 67, 3) := by decide +kernel
theorem dX5_room_18 : decode cX5_room 18 = .ok (.ifCond .ne 7, 3) := by decide +kernel
theorem dX5_room_21 : decode cX5_room 21 = .ok (.iconst 1, 1) := by decide +kernel
theorem dX5_room_22 : decode cX5_room 22 = .ok (.goto 4, 3) := by decide +kernel
theorem dX5_room_25 : decode cX5_room 25 = .ok (.iconst 0, 1) := by decide +kernel
theorem dX5_room_26 : decode cX5_room 26 = .ok (.putfield 58, 3) := by decide +kernel
theorem dX5_room_29 : decode cX5_room 29 = .ok (.aload_n 0, 1) := by decide +kernel
theorem dX5_room_30 : decode cX5_room 30 = .ok (.getfield 58, 3) := by decide +kernel
theorem dX5_room_33 : decode cX5_room 33 = .ok (.ifCond .le 5, 3) := by decide +kernel
theorem dX5_room_36 : decode cX5_room 36 = .ok (.iconst 0, 1) := by decide +kernel
theorem dX5_room_37 : decode cX5_room 37 = .ok (.ireturn, 1) := by decide +kernel
theorem dX5_room_38 : decode cX5_room 38 = .ok (.aload_n 0, 1) := by decide +kernel
theorem dX5_room_39 : decode cX5_room 39 = .ok (.getfield 16, 3) := by decide +kernel
theorem dX5_room_42 : decode cX5_room 42 = .ok (.iload_n 1, 1) := by decide +kernel
theorem dX5_room_43 : decode cX5_room 43 = .ok (.iaload, 1) := by decide +kernel
theorem dX5_room_44 : decode cX5_room 44 = .ok (.istore_n 3, 1) := by decide +kernel
theorem dX5_room_45 : decode cX5_room 45 = .ok (.aload_n 0, 1) := by decide +kernel
theorem dX5_room_46 : decode cX5_room 46 = .ok (.getfield 16, 3) := by decide +kernel
theorem dX5_room_49 : decode cX5_room 49 = .ok (.iload_n 1, 1) := by decide +kernel
theorem dX5_room_50 : decode cX5_room 50 = .ok (.iload_n 2, 1) := by decide +kernel
theorem dX5_room_51 : decode cX5_room 51 = .ok (.iastore, 1) := by decide +kernel
theorem dX5_room_52 : decode cX5_room 52 = .ok (.iload_n 3, 1) := by decide +kernel
theorem dX5_room_53 : decode cX5_room 53 = .ok (.ireturn, 1) := by decide +kernel
theorem dX5_noTray_0 : decode cX5_noTray 0 = .ok (.iload_n 1, 1) := by decide +kernel
theorem dX5_noTray_1 : decode cX5_noTray 1 = .ok (.ifCond .lt 11, 3) := by decide +kernel
theorem dX5_noTray_4 : decode cX5_noTray 4 = .ok (.iload_n 1, 1) := by decide +kernel
theorem dX5_noTray_5 : decode cX5_noTray 5 = .ok (.aload_n 0, 1) := by decide +kernel
theorem dX5_noTray_6 : decode cX5_noTray 6 = .ok (.getfield 73, 3) := by decide +kernel
theorem dX5_noTray_9 : decode cX5_noTray 9 = .ok (.if_icmp .lt 7, 3) := by decide +kernel
theorem dX5_noTray_12 : decode cX5_noTray 12 = .ok (.iconst 1, 1) := by decide +kernel
theorem dX5_noTray_13 : decode cX5_noTray 13 = .ok (.goto 4, 3) := by decide +kernel
theorem dX5_noTray_16 : decode cX5_noTray 16 = .ok (.iconst 0, 1) := by decide +kernel
theorem dX5_noTray_17 : decode cX5_noTray 17 = .ok (.ireturn, 1) := by decide +kernel
theorem dX5_limit_0 : decode cX5_limit 0 = .ok (.aload_n 0, 1) := by decide +kernel
theorem dX5_limit_1 : decode cX5_limit 1 = .ok (.iload_n 1, 1) := by decide +kernel
theorem dX5_limit_2 : decode cX5_limit 2 = .ok (.i2l, 1) := by decide +kernel
theorem dX5_limit_3 : decode cX5_limit 3 = .ok (.lconst 0, 1) := by decide +kernel
theorem dX5_limit_4 : decode cX5_limit 4 = .ok (.ldc2_w 88, 3) := by decide +kernel
theorem dX5_limit_7 : decode cX5_limit 7 = .ok (.invokestatic 67, 3) := by decide +kernel
theorem dX5_limit_10 : decode cX5_limit 10 = .ok (.ifCond .eq 7, 3) := by decide +kernel
theorem dX5_limit_13 : decode cX5_limit 13 = .ok (.iconst 0, 1) := by decide +kernel
theorem dX5_limit_14 : decode cX5_limit 14 = .ok (.goto 4, 3) := by decide +kernel
theorem dX5_limit_17 : decode cX5_limit 17 = .ok (.iconst 1, 1) := by decide +kernel
theorem dX5_limit_18 : decode cX5_limit 18 = .ok (.putfield 58, 3) := by decide +kernel
theorem dX5_limit_21 : decode cX5_limit 21 = .ok (.aload_n 0, 1) := by decide +kernel
theorem dX5_limit_22 : decode cX5_limit 22 = .ok (.getfield 58, 3) := by decide +kernel
theorem dX5_limit_25 : decode cX5_limit 25 = .ok (.ifCond .le 5, 3) := by decide +kernel
theorem dX5_limit_28 : decode cX5_limit 28 = .ok (.iconst 0, 1) := by decide +kernel
theorem dX5_limit_29 : decode cX5_limit 29 = .ok (.ireturn, 1) := by decide +kernel
theorem dX5_limit_30 : decode cX5_limit 30 = .ok (.aload_n 0, 1) := by decide +kernel
theorem dX5_limit_31 : decode cX5_limit 31 = .ok (.getfield 38, 3) := by decide +kernel
theorem dX5_limit_34 : decode cX5_limit 34 = .ok (.istore_n 2, 1) := by decide +kernel
theorem dX5_limit_35 : decode cX5_limit 35 = .ok (.aload_n 0, 1) := by decide +kernel
theorem dX5_limit_36 : decode cX5_limit 36 = .ok (.iload_n 1, 1) := by decide +kernel
theorem dX5_limit_37 : decode cX5_limit 37 = .ok (.putfield 38, 3) := by decide +kernel
theorem dX5_limit_40 : decode cX5_limit 40 = .ok (.iload_n 2, 1) := by decide +kernel
theorem dX5_limit_41 : decode cX5_limit 41 = .ok (.ireturn, 1) := by decide +kernel
theorem dX5_way_0 : decode cX5_way 0 = .ok (.aload_n 0, 1) := by decide +kernel
theorem dX5_way_1 : decode cX5_way 1 = .ok (.aload_n 0, 1) := by decide +kernel
theorem dX5_way_2 : decode cX5_way 2 = .ok (.iload_n 1, 1) := by decide +kernel
theorem dX5_way_3 : decode cX5_way 3 = .ok (.invokevirtual 82, 3) := by decide +kernel
theorem dX5_way_6 : decode cX5_way 6 = .ok (.ifCond .eq 7, 3) := by decide +kernel
theorem dX5_way_9 : decode cX5_way 9 = .ok (.iconst 1, 1) := by decide +kernel
theorem dX5_way_10 : decode cX5_way 10 = .ok (.goto 4, 3) := by decide +kernel
theorem dX5_way_13 : decode cX5_way 13 = .ok (.iconst 0, 1) := by decide +kernel
theorem dX5_way_14 : decode cX5_way 14 = .ok (.putfield 58, 3) := by decide +kernel
theorem dX5_way_17 : decode cX5_way 17 = .ok (.aload_n 0, 1) := by decide +kernel
theorem dX5_way_18 : decode cX5_way 18 = .ok (.getfield 58, 3) := by decide +kernel
theorem dX5_way_21 : decode cX5_way 21 = .ok (.ifCond .le 5, 3) := by decide +kernel
theorem dX5_way_24 : decode cX5_way 24 = .ok (.iconst 0, 1) := by decide +kernel
theorem dX5_way_25 : decode cX5_way 25 = .ok (.ireturn, 1) := by decide +kernel
theorem dX5_way_26 : decode cX5_way 26 = .ok (.aload_n 0, 1) := by decide +kernel
theorem dX5_way_27 : decode cX5_way 27 = .ok (.invokevirtual 99, 3) := by decide +kernel
theorem dX5_way_30 : decode cX5_way 30 = .ok (.aload_n 0, 1) := by decide +kernel
theorem dX5_way_31 : decode cX5_way 31 = .ok (.getfield 48, 3) := by decide +kernel
theorem dX5_way_34 : decode cX5_way 34 = .ok (.iload_n 1, 1) := by decide +kernel
theorem dX5_way_35 : decode cX5_way 35 = .ok (.iaload, 1) := by decide +kernel
theorem dX5_way_36 : decode cX5_way 36 = .ok (.ireturn, 1) := by decide +kernel
theorem dX5_goAll_0 : decode cX5_goAll 0 = .ok (.iconst 0, 1) := by decide +kernel
theorem dX5_goAll_1 : decode cX5_goAll 1 = .ok (.istore_n 1, 1) := by decide +kernel
theorem dX5_goAll_2 : decode cX5_goAll 2 = .ok (.iload_n 1, 1) := by decide +kernel
theorem dX5_goAll_3 : decode cX5_goAll 3 = .ok (.aload_n 0, 1) := by decide +kernel
theorem dX5_goAll_4 : decode cX5_goAll 4 = .ok (.getfield 79, 3) := by decide +kernel
theorem dX5_goAll_7 : decode cX5_goAll 7 = .ok (.if_icmp .ge 163, 3) := by decide +kernel
theorem dX5_goAll_10 : decode cX5_goAll 10 = .ok (.aload_n 0, 1) := by decide +kernel
theorem dX5_goAll_11 : decode cX5_goAll 11 = .ok (.aload_n 0, 1) := by decide +kernel
theorem dX5_goAll_12 : decode cX5_goAll 12 = .ok (.getfield 31, 3) := by decide +kernel
theorem dX5_goAll_15 : decode cX5_goAll 15 = .ok (.iload_n 1, 1) := by decide +kernel
theorem dX5_goAll_16 : decode cX5_goAll 16 = .ok (.iaload, 1) := by decide +kernel
theorem dX5_goAll_17 : decode cX5_goAll 17 = .ok (.invokevirtual 91, 3) := by decide +kernel
theorem dX5_goAll_20 : decode cX5_goAll 20 = .ok (.aload_n 0, 1) := by decide +kernel
theorem dX5_goAll_21 : decode cX5_goAll 21 = .ok (.getfield 28, 3) := by decide +kernel
theorem dX5_goAll_24 : decode cX5_goAll 24 = .ok (.iload_n 1, 1) := by decide +kernel
theorem dX5_goAll_25 : decode cX5_goAll 25 = .ok (.iaload, 1) := by decide +kernel
theorem dX5_goAll_26 : decode cX5_goAll 26 = .ok (.istore_n 2, 1) := by decide +kernel
theorem dX5_goAll_27 : decode cX5_goAll 27 = .ok (.aload_n 0, 1) := by decide +kernel
theorem dX5_goAll_28 : decode cX5_goAll 28 = .ok (.getfield 48, 3) := by decide +kernel
theorem dX5_goAll_31 : decode cX5_goAll 31 = .ok (.iload_n 1, 1) := by decide +kernel
theorem dX5_goAll_32 : decode cX5_goAll 32 = .ok (.aload_n 0, 1) := by decide +kernel
theorem dX5_goAll_33 : decode cX5_goAll 33 = .ok (.getfield 42, 3) := by decide +kernel
theorem dX5_goAll_36 : decode cX5_goAll 36 = .ok (.iload_n 2, 1) := by decide +kernel
theorem dX5_goAll_37 : decode cX5_goAll 37 = .ok (.iaload, 1) := by decide +kernel
theorem dX5_goAll_38 : decode cX5_goAll 38 = .ok (.ldc 90, 2) := by decide +kernel
theorem dX5_goAll_40 : decode cX5_goAll 40 = .ok (.if_icmp .lt 7, 3) := by decide +kernel
theorem dX5_goAll_43 : decode cX5_goAll 43 = .ok (.iconst (-1), 1) := by decide +kernel
theorem dX5_goAll_44 : decode cX5_goAll 44 = .ok (.goto 9, 3) := by decide +kernel
theorem dX5_goAll_47 : decode cX5_goAll 47 = .ok (.aload_n 0, 1) := by decide +kernel
theorem dX5_goAll_48 : decode cX5_goAll 48 = .ok (.getfield 42, 3) := by decide +kernel
theorem dX5_goAll_51 : decode cX5_goAll 51 = .ok (.iload_n 2, 1) := by decide +kernel
theorem dX5_goAll_52 : decode cX5_goAll 52 = .ok (.iaload, 1) := by decide +kernel
theorem dX5_goAll_53 : decode cX5_goAll 53 = .ok (.iastore, 1) := by decide +kernel
theorem dX5_goAll_54 : decode cX5_goAll 54 = .ok (.iconst 0, 1) := by decide +kernel
theorem dX5_goAll_55 : decode cX5_goAll 55 = .ok (.istore_n 3, 1) := by decide +kernel
theorem dX5_goAll_56 : decode cX5_goAll 56 = .ok (.aload_n 0, 1) := by decide +kernel
theorem dX5_goAll_57 : decode cX5_goAll 57 = .ok (.getfield 48, 3) := by decide +kernel
theorem dX5_goAll_60 : decode cX5_goAll 60 = .ok (.iload_n 1, 1) := by decide +kernel
theorem dX5_goAll_61 : decode cX5_goAll 61 = .ok (.iaload, 1) := by decide +kernel
theorem dX5_goAll_62 : decode cX5_goAll 62 = .ok (.iconst (-1), 1) := by decide +kernel
theorem dX5_goAll_63 : decode cX5_goAll 63 = .ok (.if_icmp .eq 89, 3) := by decide +kernel
theorem dX5_goAll_66 : decode cX5_goAll 66 = .ok (.iload_n 2, 1) := by decide +kernel
theorem dX5_goAll_67 : decode cX5_goAll 67 = .ok (.aload_n 0, 1) := by decide +kernel
theorem dX5_goAll_68 : decode cX5_goAll 68 = .ok (.getfield 31, 3) := by decide +kernel
theorem dX5_goAll_71 : decode cX5_goAll 71 = .ok (.iload_n 1, 1) := by decide +kernel
theorem dX5_goAll_72 : decode cX5_goAll 72 = .ok (.iaload, 1) := by decide +kernel
theorem dX5_goAll_73 : decode cX5_goAll 73 = .ok (.if_icmp .eq 79, 3) := by decide +kernel
theorem dX5_goAll_76 : decode cX5_goAll 76 = .ok (.iconst 0, 1) := by decide +kernel
theorem dX5_goAll_77 : decode cX5_goAll 77 = .ok (.istore 4, 2) := by decide +kernel
theorem dX5_goAll_79 : decode cX5_goAll 79 = .ok (.aload_n 0, 1) := by decide +kernel
theorem dX5_goAll_80 : decode cX5_goAll 80 = .ok (.iload 4, 2) := by decide +kernel
theorem dX5_goAll_82 : decode cX5_goAll 82 = .ok (.iload_n 2, 1) := by decide +kernel
theorem dX5_goAll_83 : decode cX5_goAll 83 = .ok (.invokevirtual 95, 3) := by decide +kernel
theorem dX5_goAll_86 : decode cX5_goAll 86 = .ok (.iconst (-1), 1) := by decide +kernel
theorem dX5_goAll_87 : decode cX5_goAll 87 = .ok (.if_icmp .eq 32, 3) := by decide +kernel
theorem dX5_goAll_90 : decode cX5_goAll 90 = .ok (.aload_n 0, 1) := by decide +kernel
theorem dX5_goAll_91 : decode cX5_goAll 91 = .ok (.getfield 42, 3) := by decide +kernel
theorem dX5_goAll_94 : decode cX5_goAll 94 = .ok (.aload_n 0, 1) := by decide +kernel
theorem dX5_goAll_95 : decode cX5_goAll 95 = .ok (.iload 4, 2) := by decide +kernel
theorem dX5_goAll_97 : decode cX5_goAll 97 = .ok (.iload_n 2, 1) := by decide +kernel
theorem dX5_goAll_98 : decode cX5_goAll 98 = .ok (.invokevirtual 95, 3) := by decide +kernel
theorem dX5_goAll_101 : decode cX5_goAll 101 = .ok (.iaload, 1) := by decide +kernel
theorem dX5_goAll_102 : decode cX5_goAll 102 = .ok (.aload_n 0, 1) := by decide +kernel
theorem dX5_goAll_103 : decode cX5_goAll 103 = .ok (.getfield 13, 3) := by decide +kernel
theorem dX5_goAll_106 : decode cX5_goAll 106 = .ok (.iload 4, 2) := by decide +kernel
theorem dX5_goAll_108 : decode cX5_goAll 108 = .ok (.iaload, 1) := by decide +kernel
theorem dX5_goAll_109 : decode cX5_goAll 109 = .ok (.iadd, 1) := by decide +kernel
theorem dX5_goAll_110 : decode cX5_goAll 110 = .ok (.aload_n 0, 1) := by decide +kernel
theorem dX5_goAll_111 : decode cX5_goAll 111 = .ok (.getfield 42, 3) := by decide +kernel
theorem dX5_goAll_114 : decode cX5_goAll 114 = .ok (.iload_n 2, 1) := by decide +kernel
theorem dX5_goAll_115 : decode cX5_goAll 115 = .ok (.iaload, 1) := by decide +kernel
theorem dX5_goAll_116 : decode cX5_goAll 116 = .ok (.if_icmp .eq 9, 3) := by decide +kernel
theorem dX5_goAll_119 : decode cX5_goAll 119 = .ok (.iinc 4 1, 3) := by decide +kernel
theorem dX5_goAll_122 : decode cX5_goAll 122 = .ok (.goto (-43), 3) := by decide +kernel
theorem dX5_goAll_125 : decode cX5_goAll 125 = .ok (.aload_n 0, 1) := by decide +kernel
theorem dX5_goAll_126 : decode cX5_goAll 126 = .ok (.getfield 45, 3) := by decide +kernel
theorem dX5_goAll_129 : decode cX5_goAll 129 = .ok (.bipush 16, 2) := by decide +kernel
theorem dX5_goAll_131 : decode cX5_goAll 131 = .ok (.iload_n 1, 1) := by decide +kernel
theorem dX5_goAll_132 : decode cX5_goAll 132 = .ok (.imul, 1) := by decide +kernel
theorem dX5_goAll_133 : decode cX5_goAll 133 = .ok (.iload_n 3, 1) := by decide +kernel
theorem dX5_goAll_134 : decode cX5_goAll 134 = .ok (.iadd, 1) := by decide +kernel
theorem dX5_goAll_135 : decode cX5_goAll 135 = .ok (.iload 4, 2) := by decide +kernel
theorem dX5_goAll_137 : decode cX5_goAll 137 = .ok (.iastore, 1) := by decide +kernel
theorem dX5_goAll_138 : decode cX5_goAll 138 = .ok (.iinc 3 1, 3) := by decide +kernel
theorem dX5_goAll_141 : decode cX5_goAll 141 = .ok (.aload_n 0, 1) := by decide +kernel
theorem dX5_goAll_142 : decode cX5_goAll 142 = .ok (.iload 4, 2) := by decide +kernel
theorem dX5_goAll_144 : decode cX5_goAll 144 = .ok (.iload_n 2, 1) := by decide +kernel
theorem dX5_goAll_145 : decode cX5_goAll 145 = .ok (.invokevirtual 95, 3) := by decide +kernel
theorem dX5_goAll_148 : decode cX5_goAll 148 = .ok (.istore_n 2, 1) := by decide +kernel
theorem dX5_goAll_149 : decode cX5_goAll 149 = .ok (.goto (-93), 3) := by decide +kernel
theorem dX5_goAll_152 : decode cX5_goAll 152 = .ok (.aload_n 0, 1) := by decide +kernel
theorem dX5_goAll_153 : decode cX5_goAll 153 = .ok (.getfield 45, 3) := by decide +kernel
theorem dX5_goAll_156 : decode cX5_goAll 156 = .ok (.bipush 16, 2) := by decide +kernel
theorem dX5_goAll_158 : decode cX5_goAll 158 = .ok (.iload_n 1, 1) := by decide +kernel
theorem dX5_goAll_159 : decode cX5_goAll 159 = .ok (.imul, 1) := by decide +kernel
theorem dX5_goAll_160 : decode cX5_goAll 160 = .ok (.iload_n 3, 1) := by decide +kernel
theorem dX5_goAll_161 : decode cX5_goAll 161 = .ok (.iadd, 1) := by decide +kernel
theorem dX5_goAll_162 : decode cX5_goAll 162 = .ok (.iconst (-1), 1) := by decide +kernel
theorem dX5_goAll_163 : decode cX5_goAll 163 = .ok (.iastore, 1) := by decide +kernel
theorem dX5_goAll_164 : decode cX5_goAll 164 = .ok (.iinc 1 1, 3) := by decide +kernel
theorem dX5_goAll_167 : decode cX5_goAll 167 = .ok (.goto (-165), 3) := by decide +kernel
theorem dX5_goAll_170 : decode cX5_goAll 170 = .ok (.return_, 1) := by decide +kernel
theorem dX5_measure_0 : decode cX5_measure 0 = .ok (.iconst 0, 1) := by decide +kernel
theorem dX5_measure_1 : decode cX5_measure 1 = .ok (.istore_n 2, 1) := by decide +kernel
theorem dX5_measure_2 : decode cX5_measure 2 = .ok (.iload_n 2, 1) := by decide +kernel
theorem dX5_measure_3 : decode cX5_measure 3 = .ok (.bipush 10, 2) := by decide +kernel
theorem dX5_measure_5 : decode cX5_measure 5 = .ok (.if_icmp .ge 26, 3) := by decide +kernel
theorem dX5_measure_8 : decode cX5_measure 8 = .ok (.aload_n 0, 1) := by decide +kernel
theorem dX5_measure_9 : decode cX5_measure 9 = .ok (.getfield 42, 3) := by decide +kernel
theorem dX5_measure_12 : decode cX5_measure 12 = .ok (.iload_n 2, 1) := by decide +kernel
theorem dX5_measure_13 : decode cX5_measure 13 = .ok (.iload_n 2, 1) := by decide +kernel
theorem dX5_measure_14 : decode cX5_measure 14 = .ok (.iload_n 1, 1) := by decide +kernel
theorem dX5_measure_15 : decode cX5_measure 15 = .ok (.if_icmp .ne 7, 3) := by decide +kernel
theorem dX5_measure_18 : decode cX5_measure 18 = .ok (.iconst 0, 1) := by decide +kernel
theorem dX5_measure_19 : decode cX5_measure 19 = .ok (.goto 5, 3) := by decide +kernel
theorem dX5_measure_22 : decode cX5_measure 22 = .ok (.ldc 90, 2) := by decide +kernel
theorem dX5_measure_24 : decode cX5_measure 24 = .ok (.iastore, 1) := by decide +kernel
theorem dX5_measure_25 : decode cX5_measure 25 = .ok (.iinc 2 1, 3) := by decide +kernel
theorem dX5_measure_28 : decode cX5_measure 28 = .ok (.goto (-26), 3) := by decide +kernel
theorem dX5_measure_31 : decode cX5_measure 31 = .ok (.iconst 0, 1) := by decide +kernel
theorem dX5_measure_32 : decode cX5_measure 32 = .ok (.istore_n 2, 1) := by decide +kernel
theorem dX5_measure_33 : decode cX5_measure 33 = .ok (.iload_n 2, 1) := by decide +kernel
theorem dX5_measure_34 : decode cX5_measure 34 = .ok (.bipush 10, 2) := by decide +kernel
theorem dX5_measure_36 : decode cX5_measure 36 = .ok (.if_icmp .ge 157, 3) := by decide +kernel
theorem dX5_measure_39 : decode cX5_measure 39 = .ok (.iconst 0, 1) := by decide +kernel
theorem dX5_measure_40 : decode cX5_measure 40 = .ok (.istore_n 3, 1) := by decide +kernel
theorem dX5_measure_41 : decode cX5_measure 41 = .ok (.iload_n 3, 1) := by decide +kernel
theorem dX5_measure_42 : decode cX5_measure 42 = .ok (.aload_n 0, 1) := by decide +kernel
theorem dX5_measure_43 : decode cX5_measure 43 = .ok (.getfield 73, 3) := by decide +kernel
theorem dX5_measure_46 : decode cX5_measure 46 = .ok (.if_icmp .ge 141, 3) := by decide +kernel
theorem dX5_measure_49 : decode cX5_measure 49 = .ok (.aload_n 0, 1) := by decide +kernel
theorem dX5_measure_50 : decode cX5_measure 50 = .ok (.getfield 7, 3) := by decide +kernel
theorem dX5_measure_53 : decode cX5_measure 53 = .ok (.iconst 2, 1) := by decide +kernel
theorem dX5_measure_54 : decode cX5_measure 54 = .ok (.iload_n 3, 1) := by decide +kernel
theorem dX5_measure_55 : decode cX5_measure 55 = .ok (.imul, 1) := by decide +kernel
theorem dX5_measure_56 : decode cX5_measure 56 = .ok (.iaload, 1) := by decide +kernel
theorem dX5_measure_57 : decode cX5_measure 57 = .ok (.istore 4, 2) := by decide +kernel
theorem dX5_measure_59 : decode cX5_measure 59 = .ok (.aload_n 0, 1) := by decide +kernel
theorem dX5_measure_60 : decode cX5_measure 60 = .ok (.getfield 7, 3) := by decide +kernel
theorem dX5_measure_63 : decode cX5_measure 63 = .ok (.iconst 2, 1) := by decide +kernel
theorem dX5_measure_64 : decode cX5_measure 64 = .ok (.iload_n 3, 1) := by decide +kernel
theorem dX5_measure_65 : decode cX5_measure 65 = .ok (.imul, 1) := by decide +kernel
theorem dX5_measure_66 : decode cX5_measure 66 = .ok (.iconst 1, 1) := by decide +kernel
theorem dX5_measure_67 : decode cX5_measure 67 = .ok (.iadd, 1) := by decide +kernel
theorem dX5_measure_68 : decode cX5_measure 68 = .ok (.iaload, 1) := by decide +kernel
theorem dX5_measure_69 : decode cX5_measure 69 = .ok (.istore 5, 2) := by decide +kernel
theorem dX5_measure_71 : decode cX5_measure 71 = .ok (.aload_n 0, 1) := by decide +kernel
theorem dX5_measure_72 : decode cX5_measure 72 = .ok (.getfield 42, 3) := by decide +kernel
theorem dX5_measure_75 : decode cX5_measure 75 = .ok (.iload 4, 2) := by decide +kernel
theorem dX5_measure_77 : decode cX5_measure 77 = .ok (.aload_n 0, 1) := by decide +kernel
theorem dX5_measure_78 : decode cX5_measure 78 = .ok (.getfield 42, 3) := by decide +kernel
theorem dX5_measure_81 : decode cX5_measure 81 = .ok (.iload 5, 2) := by decide +kernel
theorem dX5_measure_83 : decode cX5_measure 83 = .ok (.iaload, 1) := by decide +kernel
theorem dX5_measure_84 : decode cX5_measure 84 = .ok (.aload_n 0, 1) := by decide +kernel
theorem dX5_measure_85 : decode cX5_measure 85 = .ok (.getfield 13, 3) := by decide +kernel
theorem dX5_measure_88 : decode cX5_measure 88 = .ok (.iload_n 3, 1) := by decide +kernel
theorem dX5_measure_89 : decode cX5_measure 89 = .ok (.iaload, 1) := by decide +kernel
theorem dX5_measure_90 : decode cX5_measure 90 = .ok (.iadd, 1) := by decide +kernel
theorem dX5_measure_91 : decode cX5_measure 91 = .ok (.aload_n 0, 1) := by decide +kernel
theorem dX5_measure_92 : decode cX5_measure 92 = .ok (.getfield 42, 3) := by decide +kernel
theorem dX5_measure_95 : decode cX5_measure 95 = .ok (.iload 4, 2) := by decide +kernel
theorem dX5_measure_97 : decode cX5_measure 97 = .ok (.iaload, 1) := by decide +kernel
theorem dX5_measure_98 : decode cX5_measure 98 = .ok (.if_icmp .ge 20, 3) := by decide +kernel
theorem dX5_measure_101 : decode cX5_measure 101 = .ok (.aload_n 0, 1) := by decide +kernel
theorem dX5_measure_102 : decode cX5_measure 102 = .ok (.getfield 42, 3) := by decide +kernel
theorem dX5_measure_105 : decode cX5_measure 105 = .ok (.iload 5, 2) := by decide +kernel
theorem dX5_measure_107 : decode cX5_measure 107 = .ok (.iaload, 1) := by decide +kernel
theorem dX5_measure_108 : decode cX5_measure 108 = .ok (.aload_n 0, 1) := by decide +kernel
theorem dX5_measure_109 : decode cX5_measure 109 = .ok (.getfield 13, 3) := by decide +kernel
theorem dX5_measure_112 : decode cX5_measure 112 = .ok (.iload_n 3, 1) := by decide +kernel
theorem dX5_measure_113 : decode cX5_measure 113 = .ok (.iaload, 1) := by decide +kernel
theorem dX5_measure_114 : decode cX5_measure 114 = .ok (.iadd, 1) := by decide +kernel
theorem dX5_measure_115 : decode cX5_measure 115 = .ok (.goto 10, 3) := by decide +kernel
theorem dX5_measure_118 : decode cX5_measure 118 = .ok (.aload_n 0, 1) := by decide +kernel
theorem dX5_measure_119 : decode cX5_measure 119 = .ok (.getfield 42, 3) := by decide +kernel
theorem dX5_measure_122 : decode cX5_measure 122 = .ok (.iload 4, 2) := by decide +kernel
theorem dX5_measure_124 : decode cX5_measure 124 = .ok (.iaload, 1) := by decide +kernel
theorem dX5_measure_125 : decode cX5_measure 125 = .ok (.iastore, 1) := by decide +kernel
theorem dX5_measure_126 : decode cX5_measure 126 = .ok (.aload_n 0, 1) := by decide +kernel
theorem dX5_measure_127 : decode cX5_measure 127 = .ok (.getfield 42, 3) := by decide +kernel
theorem dX5_measure_130 : decode cX5_measure 130 = .ok (.iload 5, 2) := by decide +kernel
theorem dX5_measure_132 : decode cX5_measure 132 = .ok (.aload_n 0, 1) := by decide +kernel
theorem dX5_measure_133 : decode cX5_measure 133 = .ok (.getfield 42, 3) := by decide +kernel
theorem dX5_measure_136 : decode cX5_measure 136 = .ok (.iload 4, 2) := by decide +kernel
theorem dX5_measure_138 : decode cX5_measure 138 = .ok (.iaload, 1) := by decide +kernel
theorem dX5_measure_139 : decode cX5_measure 139 = .ok (.aload_n 0, 1) := by decide +kernel
theorem dX5_measure_140 : decode cX5_measure 140 = .ok (.getfield 13, 3) := by decide +kernel
theorem dX5_measure_143 : decode cX5_measure 143 = .ok (.iload_n 3, 1) := by decide +kernel
theorem dX5_measure_144 : decode cX5_measure 144 = .ok (.iaload, 1) := by decide +kernel
theorem dX5_measure_145 : decode cX5_measure 145 = .ok (.iadd, 1) := by decide +kernel
theorem dX5_measure_146 : decode cX5_measure 146 = .ok (.aload_n 0, 1) := by decide +kernel
theorem dX5_measure_147 : decode cX5_measure 147 = .ok (.getfield 42, 3) := by decide +kernel
theorem dX5_measure_150 : decode cX5_measure 150 = .ok (.iload 5, 2) := by decide +kernel
theorem dX5_measure_152 : decode cX5_measure 152 = .ok (.iaload, 1) := by decide +kernel
theorem dX5_measure_153 : decode cX5_measure 153 = .ok (.if_icmp .ge 20, 3) := by decide +kernel
theorem dX5_measure_156 : decode cX5_measure 156 = .ok (.aload_n 0, 1) := by decide +kernel
theorem dX5_measure_157 : decode cX5_measure 157 = .ok (.getfield 42, 3) := by decide +kernel
theorem dX5_measure_160 : decode cX5_measure 160 = .ok (.iload 4, 2) := by decide +kernel
theorem dX5_measure_162 : decode cX5_measure 162 = .ok (.iaload, 1) := by decide +kernel
theorem dX5_measure_163 : decode cX5_measure 163 = .ok (.aload_n 0, 1) := by decide +kernel
theorem dX5_measure_164 : decode cX5_measure 164 = .ok (.getfield 13, 3) := by decide +kernel
theorem dX5_measure_167 : decode cX5_measure 167 = .ok (.iload_n 3, 1) := by decide +kernel
theorem dX5_measure_168 : decode cX5_measure 168 = .ok (.iaload, 1) := by decide +kernel
theorem dX5_measure_169 : decode cX5_measure 169 = .ok (.iadd, 1) := by decide +kernel
theorem dX5_measure_170 : decode cX5_measure 170 = .ok (.goto 10, 3) := by decide +kernel
theorem dX5_measure_173 : decode cX5_measure 173 = .ok (.aload_n 0, 1) := by decide +kernel
theorem dX5_measure_174 : decode cX5_measure 174 = .ok (.getfield 42, 3) := by decide +kernel
theorem dX5_measure_177 : decode cX5_measure 177 = .ok (.iload 5, 2) := by decide +kernel
theorem dX5_measure_179 : decode cX5_measure 179 = .ok (.iaload, 1) := by decide +kernel
theorem dX5_measure_180 : decode cX5_measure 180 = .ok (.iastore, 1) := by decide +kernel
theorem dX5_measure_181 : decode cX5_measure 181 = .ok (.iinc 3 1, 3) := by decide +kernel
theorem dX5_measure_184 : decode cX5_measure 184 = .ok (.goto (-143), 3) := by decide +kernel
theorem dX5_measure_187 : decode cX5_measure 187 = .ok (.iinc 2 1, 3) := by decide +kernel
theorem dX5_measure_190 : decode cX5_measure 190 = .ok (.goto (-157), 3) := by decide +kernel
theorem dX5_measure_193 : decode cX5_measure 193 = .ok (.return_, 1) := by decide +kernel
theorem dX5_behind_0 : decode cX5_behind 0 = .ok (.aload_n 0, 1) := by decide +kernel
theorem dX5_behind_1 : decode cX5_behind 1 = .ok (.getfield 7, 3) := by decide +kernel
theorem dX5_behind_4 : decode cX5_behind 4 = .ok (.iconst 2, 1) := by decide +kernel
theorem dX5_behind_5 : decode cX5_behind 5 = .ok (.iload_n 1, 1) := by decide +kernel
theorem dX5_behind_6 : decode cX5_behind 6 = .ok (.imul, 1) := by decide +kernel
theorem dX5_behind_7 : decode cX5_behind 7 = .ok (.iaload, 1) := by decide +kernel
theorem dX5_behind_8 : decode cX5_behind 8 = .ok (.iload_n 2, 1) := by decide +kernel
theorem dX5_behind_9 : decode cX5_behind 9 = .ok (.if_icmp .ne 16, 3) := by decide +kernel
theorem dX5_behind_12 : decode cX5_behind 12 = .ok (.aload_n 0, 1) := by decide +kernel
theorem dX5_behind_13 : decode cX5_behind 13 = .ok (.getfield 7, 3) := by decide +kernel
theorem dX5_behind_16 : decode cX5_behind 16 = .ok (.iconst 2, 1) := by decide +kernel
theorem dX5_behind_17 : decode cX5_behind 17 = .ok (.iload_n 1, 1) := by decide +kernel
theorem dX5_behind_18 : decode cX5_behind 18 = .ok (.imul, 1) := by decide +kernel
theorem dX5_behind_19 : decode cX5_behind 19 = .ok (.iconst 1, 1) := by decide +kernel
theorem dX5_behind_20 : decode cX5_behind 20 = .ok (.iadd, 1) := by decide +kernel
theorem dX5_behind_21 : decode cX5_behind 21 = .ok (.iaload, 1) := by decide +kernel
theorem dX5_behind_22 : decode cX5_behind 22 = .ok (.goto 29, 3) := by decide +kernel
theorem dX5_behind_25 : decode cX5_behind 25 = .ok (.aload_n 0, 1) := by decide +kernel
theorem dX5_behind_26 : decode cX5_behind 26 = .ok (.getfield 7, 3) := by decide +kernel
theorem dX5_behind_29 : decode cX5_behind 29 = .ok (.iconst 2, 1) := by decide +kernel
theorem dX5_behind_30 : decode cX5_behind 30 = .ok (.iload_n 1, 1) := by decide +kernel
theorem dX5_behind_31 : decode cX5_behind 31 = .ok (.imul, 1) := by decide +kernel
theorem dX5_behind_32 : decode cX5_behind 32 = .ok (.iconst 1, 1) := by decide +kernel
theorem dX5_behind_33 : decode cX5_behind 33 = .ok (.iadd, 1) := by decide +kernel
theorem dX5_behind_34 : decode cX5_behind 34 = .ok (.iaload, 1) := by decide +kernel
theorem dX5_behind_35 : decode cX5_behind 35 = .ok (.iload_n 2, 1) := by decide +kernel
theorem dX5_behind_36 : decode cX5_behind 36 = .ok (.if_icmp .ne 14, 3) := by decide +kernel
theorem dX5_behind_39 : decode cX5_behind 39 = .ok (.aload_n 0, 1) := by decide +kernel
theorem dX5_behind_40 : decode cX5_behind 40 = .ok (.getfield 7, 3) := by decide +kernel
theorem dX5_behind_43 : decode cX5_behind 43 = .ok (.iconst 2, 1) := by decide +kernel
theorem dX5_behind_44 : decode cX5_behind 44 = .ok (.iload_n 1, 1) := by decide +kernel
theorem dX5_behind_45 : decode cX5_behind 45 = .ok (.imul, 1) := by decide +kernel
theorem dX5_behind_46 : decode cX5_behind 46 = .ok (.iaload, 1) := by decide +kernel
theorem dX5_behind_47 : decode cX5_behind 47 = .ok (.goto 4, 3) := by decide +kernel
theorem dX5_behind_50 : decode cX5_behind 50 = .ok (.iconst (-1), 1) := by decide +kernel
theorem dX5_behind_51 : decode cX5_behind 51 = .ok (.ireturn, 1) := by decide +kernel
theorem dX5_way2_0 : decode cX5_way2 0 = .ok (.aload_n 0, 1) := by decide +kernel
theorem dX5_way2_1 : decode cX5_way2 1 = .ok (.aload_n 0, 1) := by decide +kernel
theorem dX5_way2_2 : decode cX5_way2 2 = .ok (.iload_n 1, 1) := by decide +kernel
theorem dX5_way2_3 : decode cX5_way2 3 = .ok (.invokevirtual 82, 3) := by decide +kernel
theorem dX5_way2_6 : decode cX5_way2 6 = .ok (.ifCond .ne 7, 3) := by decide +kernel
theorem dX5_way2_9 : decode cX5_way2 9 = .ok (.iload_n 2, 1) := by decide +kernel
theorem dX5_way2_10 : decode cX5_way2 10 = .ok (.ifCond .ge 7, 3) := by decide +kernel
theorem dX5_way2_13 : decode cX5_way2 13 = .ok (.iconst 1, 1) := by decide +kernel
theorem dX5_way2_14 : decode cX5_way2 14 = .ok (.goto 4, 3) := by decide +kernel
theorem dX5_way2_17 : decode cX5_way2 17 = .ok (.iconst 0, 1) := by decide +kernel
theorem dX5_way2_18 : decode cX5_way2 18 = .ok (.putfield 58, 3) := by decide +kernel
theorem dX5_way2_21 : decode cX5_way2 21 = .ok (.aload_n 0, 1) := by decide +kernel
theorem dX5_way2_22 : decode cX5_way2 22 = .ok (.getfield 58, 3) := by decide +kernel
theorem dX5_way2_25 : decode cX5_way2 25 = .ok (.ifCond .le 5, 3) := by decide +kernel
theorem dX5_way2_28 : decode cX5_way2 28 = .ok (.iconst 0, 1) := by decide +kernel
theorem dX5_way2_29 : decode cX5_way2 29 = .ok (.ireturn, 1) := by decide +kernel
theorem dX5_way2_30 : decode cX5_way2 30 = .ok (.aload_n 0, 1) := by decide +kernel
theorem dX5_way2_31 : decode cX5_way2 31 = .ok (.invokevirtual 99, 3) := by decide +kernel
theorem dX5_way2_34 : decode cX5_way2 34 = .ok (.iconst 0, 1) := by decide +kernel
theorem dX5_way2_35 : decode cX5_way2 35 = .ok (.istore_n 3, 1) := by decide +kernel
theorem dX5_way2_36 : decode cX5_way2 36 = .ok (.aload_n 0, 1) := by decide +kernel
theorem dX5_way2_37 : decode cX5_way2 37 = .ok (.getfield 45, 3) := by decide +kernel
theorem dX5_way2_40 : decode cX5_way2 40 = .ok (.bipush 16, 2) := by decide +kernel
theorem dX5_way2_42 : decode cX5_way2 42 = .ok (.iload_n 1, 1) := by decide +kernel
theorem dX5_way2_43 : decode cX5_way2 43 = .ok (.imul, 1) := by decide +kernel
theorem dX5_way2_44 : decode cX5_way2 44 = .ok (.iload_n 3, 1) := by decide +kernel
theorem dX5_way2_45 : decode cX5_way2 45 = .ok (.iadd, 1) := by decide +kernel
theorem dX5_way2_46 : decode cX5_way2 46 = .ok (.iaload, 1) := by decide +kernel
theorem dX5_way2_47 : decode cX5_way2 47 = .ok (.iconst (-1), 1) := by decide +kernel
theorem dX5_way2_48 : decode cX5_way2 48 = .ok (.if_icmp .eq 14, 3) := by decide +kernel
theorem dX5_way2_51 : decode cX5_way2 51 = .ok (.iload_n 3, 1) := by decide +kernel
theorem dX5_way2_52 : decode cX5_way2 52 = .ok (.iload_n 2, 1) := by decide +kernel
theorem dX5_way2_53 : decode cX5_way2 53 = .ok (.if_icmp .ge 9, 3) := by decide +kernel
theorem dX5_way2_56 : decode cX5_way2 56 = .ok (.iinc 3 1, 3) := by decide +kernel
theorem dX5_way2_59 : decode cX5_way2 59 = .ok (.goto (-23), 3) := by decide +kernel
theorem dX5_way2_62 : decode cX5_way2 62 = .ok (.aload_n 0, 1) := by decide +kernel
theorem dX5_way2_63 : decode cX5_way2 63 = .ok (.getfield 45, 3) := by decide +kernel
theorem dX5_way2_66 : decode cX5_way2 66 = .ok (.bipush 16, 2) := by decide +kernel
theorem dX5_way2_68 : decode cX5_way2 68 = .ok (.iload_n 1, 1) := by decide +kernel
theorem dX5_way2_69 : decode cX5_way2 69 = .ok (.imul, 1) := by decide +kernel
theorem dX5_way2_70 : decode cX5_way2 70 = .ok (.iload_n 3, 1) := by decide +kernel
theorem dX5_way2_71 : decode cX5_way2 71 = .ok (.iadd, 1) := by decide +kernel
theorem dX5_way2_72 : decode cX5_way2 72 = .ok (.iaload, 1) := by decide +kernel
theorem dX5_way2_73 : decode cX5_way2 73 = .ok (.ireturn, 1) := by decide +kernel
theorem dX5_settled_0 : decode cX5_settled 0 = .ok (.aload_n 0, 1) := by decide +kernel
theorem dX5_settled_1 : decode cX5_settled 1 = .ok (.iconst 0, 1) := by decide +kernel
theorem dX5_settled_2 : decode cX5_settled 2 = .ok (.putfield 58, 3) := by decide +kernel
theorem dX5_settled_5 : decode cX5_settled 5 = .ok (.aload_n 0, 1) := by decide +kernel
theorem dX5_settled_6 : decode cX5_settled 6 = .ok (.invokevirtual 122, 3) := by decide +kernel
theorem dX5_settled_9 : decode cX5_settled 9 = .ok (.ireturn, 1) := by decide +kernel
theorem dX5_choose_0 : decode cX5_choose 0 = .ok (.aload_n 0, 1) := by decide +kernel
theorem dX5_choose_1 : decode cX5_choose 1 = .ok (.invokevirtual 99, 3) := by decide +kernel
theorem dX5_choose_4 : decode cX5_choose 4 = .ok (.aload_n 0, 1) := by decide +kernel
theorem dX5_choose_5 : decode cX5_choose 5 = .ok (.getfield 76, 3) := by decide +kernel
theorem dX5_choose_8 : decode cX5_choose 8 = .ok (.ifCond .ne 16, 3) := by decide +kernel
theorem dX5_choose_11 : decode cX5_choose 11 = .ok (.aload_n 0, 1) := by decide +kernel
theorem dX5_choose_12 : decode cX5_choose 12 = .ok (.getfield 79, 3) := by decide +kernel
theorem dX5_choose_15 : decode cX5_choose 15 = .ok (.ifCond .ne 7, 3) := by decide +kernel
theorem dX5_choose_18 : decode cX5_choose 18 = .ok (.iconst 1, 1) := by decide +kernel
theorem dX5_choose_19 : decode cX5_choose 19 = .ok (.goto 4, 3) := by decide +kernel
theorem dX5_choose_22 : decode cX5_choose 22 = .ok (.iconst 0, 1) := by decide +kernel
theorem dX5_choose_23 : decode cX5_choose 23 = .ok (.ireturn, 1) := by decide +kernel
theorem dX5_choose_24 : decode cX5_choose 24 = .ok (.iconst 0, 1) := by decide +kernel
theorem dX5_choose_25 : decode cX5_choose 25 = .ok (.istore_n 1, 1) := by decide +kernel
theorem dX5_choose_26 : decode cX5_choose 26 = .ok (.iload_n 1, 1) := by decide +kernel
theorem dX5_choose_27 : decode cX5_choose 27 = .ok (.aload_n 0, 1) := by decide +kernel
theorem dX5_choose_28 : decode cX5_choose 28 = .ok (.getfield 79, 3) := by decide +kernel
theorem dX5_choose_31 : decode cX5_choose 31 = .ok (.if_icmp .ge 16, 3) := by decide +kernel
theorem dX5_choose_34 : decode cX5_choose 34 = .ok (.aload_n 0, 1) := by decide +kernel
theorem dX5_choose_35 : decode cX5_choose 35 = .ok (.getfield 51, 3) := by decide +kernel
theorem dX5_choose_38 : decode cX5_choose 38 = .ok (.iload_n 1, 1) := by decide +kernel
theorem dX5_choose_39 : decode cX5_choose 39 = .ok (.iconst 0, 1) := by decide +kernel
theorem dX5_choose_40 : decode cX5_choose 40 = .ok (.iastore, 1) := by decide +kernel
theorem dX5_choose_41 : decode cX5_choose 41 = .ok (.iinc 1 1, 3) := by decide +kernel
theorem dX5_choose_44 : decode cX5_choose 44 = .ok (.goto (-18), 3) := by decide +kernel
theorem dX5_choose_47 : decode cX5_choose 47 = .ok (.iconst 1, 1) := by decide +kernel
theorem dX5_choose_48 : decode cX5_choose 48 = .ok (.istore_n 1, 1) := by decide +kernel
theorem dX5_choose_49 : decode cX5_choose 49 = .ok (.iload_n 1, 1) := by decide +kernel
theorem dX5_choose_50 : decode cX5_choose 50 = .ok (.ifCond .eq 136, 3) := by decide +kernel
theorem dX5_choose_53 : decode cX5_choose 53 = .ok (.iconst 0, 1) := by decide +kernel
theorem dX5_choose_54 : decode cX5_choose 54 = .ok (.istore_n 1, 1) := by decide +kernel
theorem dX5_choose_55 : decode cX5_choose 55 = .ok (.iconst 0, 1) := by decide +kernel
theorem dX5_choose_56 : decode cX5_choose 56 = .ok (.istore_n 2, 1) := by decide +kernel
theorem dX5_choose_57 : decode cX5_choose 57 = .ok (.iload_n 2, 1) := by decide +kernel
theorem dX5_choose_58 : decode cX5_choose 58 = .ok (.aload_n 0, 1) := by decide +kernel
theorem dX5_choose_59 : decode cX5_choose 59 = .ok (.getfield 79, 3) := by decide +kernel
theorem dX5_choose_62 : decode cX5_choose 62 = .ok (.if_icmp .ge 47, 3) := by decide +kernel
theorem dX5_choose_65 : decode cX5_choose 65 = .ok (.aload_n 0, 1) := by decide +kernel
theorem dX5_choose_66 : decode cX5_choose 66 = .ok (.getfield 54, 3) := by decide +kernel
theorem dX5_choose_69 : decode cX5_choose 69 = .ok (.iload_n 2, 1) := by decide +kernel
theorem dX5_choose_70 : decode cX5_choose 70 = .ok (.aload_n 0, 1) := by decide +kernel
theorem dX5_choose_71 : decode cX5_choose 71 = .ok (.iload_n 2, 1) := by decide +kernel
theorem dX5_choose_72 : decode cX5_choose 72 = .ok (.invokevirtual 119, 3) := by decide +kernel
theorem dX5_choose_75 : decode cX5_choose 75 = .ok (.ifCond .ne 7, 3) := by decide +kernel
theorem dX5_choose_78 : decode cX5_choose 78 = .ok (.iconst 1, 1) := by decide +kernel
theorem dX5_choose_79 : decode cX5_choose 79 = .ok (.goto 4, 3) := by decide +kernel
theorem dX5_choose_82 : decode cX5_choose 82 = .ok (.iconst 0, 1) := by decide +kernel
theorem dX5_choose_83 : decode cX5_choose 83 = .ok (.bastore, 1) := by decide +kernel
theorem dX5_choose_84 : decode cX5_choose 84 = .ok (.iload_n 1, 1) := by decide +kernel
theorem dX5_choose_85 : decode cX5_choose 85 = .ok (.ifCond .ne 12, 3) := by decide +kernel
theorem dX5_choose_88 : decode cX5_choose 88 = .ok (.aload_n 0, 1) := by decide +kernel
theorem dX5_choose_89 : decode cX5_choose 89 = .ok (.getfield 54, 3) := by decide +kernel
theorem dX5_choose_92 : decode cX5_choose 92 = .ok (.iload_n 2, 1) := by decide +kernel
theorem dX5_choose_93 : decode cX5_choose 93 = .ok (.baload, 1) := by decide +kernel
theorem dX5_choose_94 : decode cX5_choose 94 = .ok (.ifCond .eq 7, 3) := by decide +kernel
theorem dX5_choose_97 : decode cX5_choose 97 = .ok (.iconst 1, 1) := by decide +kernel
theorem dX5_choose_98 : decode cX5_choose 98 = .ok (.goto 4, 3) := by decide +kernel
theorem dX5_choose_101 : decode cX5_choose 101 = .ok (.iconst 0, 1) := by decide +kernel
theorem dX5_choose_102 : decode cX5_choose 102 = .ok (.istore_n 1, 1) := by decide +kernel
theorem dX5_choose_103 : decode cX5_choose 103 = .ok (.iinc 2 1, 3) := by decide +kernel
theorem dX5_choose_106 : decode cX5_choose 106 = .ok (.goto (-49), 3) := by decide +kernel
theorem dX5_choose_109 : decode cX5_choose 109 = .ok (.iconst 0, 1) := by decide +kernel
theorem dX5_choose_110 : decode cX5_choose 110 = .ok (.istore_n 2, 1) := by decide +kernel
theorem dX5_choose_111 : decode cX5_choose 111 = .ok (.iload_n 2, 1) := by decide +kernel
theorem dX5_choose_112 : decode cX5_choose 112 = .ok (.aload_n 0, 1) := by decide +kernel
theorem dX5_choose_113 : decode cX5_choose 113 = .ok (.getfield 79, 3) := by decide +kernel
theorem dX5_choose_116 : decode cX5_choose 116 = .ok (.if_icmp .ge 67, 3) := by decide +kernel
theorem dX5_choose_119 : decode cX5_choose 119 = .ok (.aload_n 0, 1) := by decide +kernel
theorem dX5_choose_120 : decode cX5_choose 120 = .ok (.getfield 54, 3) := by decide +kernel
theorem dX5_choose_123 : decode cX5_choose 123 = .ok (.iload_n 2, 1) := by decide +kernel
theorem dX5_choose_124 : decode cX5_choose 124 = .ok (.baload, 1) := by decide +kernel
theorem dX5_choose_125 : decode cX5_choose 125 = .ok (.ifCond .eq 20, 3) := by decide +kernel
theorem dX5_choose_128 : decode cX5_choose 128 = .ok (.aload_n 0, 1) := by decide +kernel
theorem dX5_choose_129 : decode cX5_choose 129 = .ok (.getfield 51, 3) := by decide +kernel
theorem dX5_choose_132 : decode cX5_choose 132 = .ok (.iload_n 2, 1) := by decide +kernel
theorem dX5_choose_133 : decode cX5_choose 133 = .ok (.iaload, 1) := by decide +kernel
theorem dX5_choose_134 : decode cX5_choose 134 = .ok (.aload_n 0, 1) := by decide +kernel
theorem dX5_choose_135 : decode cX5_choose 135 = .ok (.getfield 76, 3) := by decide +kernel
theorem dX5_choose_138 : decode cX5_choose 138 = .ok (.iconst 1, 1) := by decide +kernel
theorem dX5_choose_139 : decode cX5_choose 139 = .ok (.isub, 1) := by decide +kernel
theorem dX5_choose_140 : decode cX5_choose 140 = .ok (.if_icmp .ne 5, 3) := by decide +kernel
theorem dX5_choose_143 : decode cX5_choose 143 = .ok (.iconst 0, 1) := by decide +kernel
theorem dX5_choose_144 : decode cX5_choose 144 = .ok (.ireturn, 1) := by decide +kernel
theorem dX5_choose_145 : decode cX5_choose 145 = .ok (.aload_n 0, 1) := by decide +kernel
theorem dX5_choose_146 : decode cX5_choose 146 = .ok (.getfield 51, 3) := by decide +kernel
theorem dX5_choose_149 : decode cX5_choose 149 = .ok (.iload_n 2, 1) := by decide +kernel
theorem dX5_choose_150 : decode cX5_choose 150 = .ok (.aload_n 0, 1) := by decide +kernel
theorem dX5_choose_151 : decode cX5_choose 151 = .ok (.getfield 54, 3) := by decide +kernel
theorem dX5_choose_154 : decode cX5_choose 154 = .ok (.iload_n 2, 1) := by decide +kernel
theorem dX5_choose_155 : decode cX5_choose 155 = .ok (.baload, 1) := by decide +kernel
theorem dX5_choose_156 : decode cX5_choose 156 = .ok (.ifCond .eq 14, 3) := by decide +kernel
theorem dX5_choose_159 : decode cX5_choose 159 = .ok (.aload_n 0, 1) := by decide +kernel
theorem dX5_choose_160 : decode cX5_choose 160 = .ok (.getfield 51, 3) := by decide +kernel
theorem dX5_choose_163 : decode cX5_choose 163 = .ok (.iload_n 2, 1) := by decide +kernel
theorem dX5_choose_164 : decode cX5_choose 164 = .ok (.iaload, 1) := by decide +kernel
theorem dX5_choose_165 : decode cX5_choose 165 = .ok (.iconst 1, 1) := by decide +kernel
theorem dX5_choose_166 : decode cX5_choose 166 = .ok (.iadd, 1) := by decide +kernel
theorem dX5_choose_167 : decode cX5_choose 167 = .ok (.goto 9, 3) := by decide +kernel
theorem dX5_choose_170 : decode cX5_choose 170 = .ok (.aload_n 0, 1) := by decide +kernel
theorem dX5_choose_171 : decode cX5_choose 171 = .ok (.getfield 51, 3) := by decide +kernel
theorem dX5_choose_174 : decode cX5_choose 174 = .ok (.iload_n 2, 1) := by decide +kernel
theorem dX5_choose_175 : decode cX5_choose 175 = .ok (.iaload, 1) := by decide +kernel
theorem dX5_choose_176 : decode cX5_choose 176 = .ok (.iastore, 1) := by decide +kernel
theorem dX5_choose_177 : decode cX5_choose 177 = .ok (.iinc 2 1, 3) := by decide +kernel
theorem dX5_choose_180 : decode cX5_choose 180 = .ok (.goto (-69), 3) := by decide +kernel
theorem dX5_choose_183 : decode cX5_choose 183 = .ok (.goto (-134), 3) := by decide +kernel
theorem dX5_choose_186 : decode cX5_choose 186 = .ok (.iconst 1, 1) := by decide +kernel
theorem dX5_choose_187 : decode cX5_choose 187 = .ok (.ireturn, 1) := by decide +kernel
theorem dX5_isRight_0 : decode cX5_isRight 0 = .ok (.aload_n 0, 1) := by decide +kernel
theorem dX5_isRight_1 : decode cX5_isRight 1 = .ok (.getfield 48, 3) := by decide +kernel
theorem dX5_isRight_4 : decode cX5_isRight 4 = .ok (.iload_n 1, 1) := by decide +kernel
theorem dX5_isRight_5 : decode cX5_isRight 5 = .ok (.iaload, 1) := by decide +kernel
theorem dX5_isRight_6 : decode cX5_isRight 6 = .ok (.iconst (-1), 1) := by decide +kernel
theorem dX5_isRight_7 : decode cX5_isRight 7 = .ok (.if_icmp .eq 29, 3) := by decide +kernel
theorem dX5_isRight_10 : decode cX5_isRight 10 = .ok (.aload_n 0, 1) := by decide +kernel
theorem dX5_isRight_11 : decode cX5_isRight 11 = .ok (.iload_n 1, 1) := by decide +kernel
theorem dX5_isRight_12 : decode cX5_isRight 12 = .ok (.invokevirtual 113, 3) := by decide +kernel
theorem dX5_isRight_15 : decode cX5_isRight 15 = .ok (.aload_n 0, 1) := by decide +kernel
theorem dX5_isRight_16 : decode cX5_isRight 16 = .ok (.getfield 34, 3) := by decide +kernel
theorem dX5_isRight_19 : decode cX5_isRight 19 = .ok (.iload_n 1, 1) := by decide +kernel
theorem dX5_isRight_20 : decode cX5_isRight 20 = .ok (.iaload, 1) := by decide +kernel
theorem dX5_isRight_21 : decode cX5_isRight 21 = .ok (.if_icmp .lt 19, 3) := by decide +kernel
theorem dX5_isRight_24 : decode cX5_isRight 24 = .ok (.aload_n 0, 1) := by decide +kernel
theorem dX5_isRight_25 : decode cX5_isRight 25 = .ok (.iload_n 1, 1) := by decide +kernel
theorem dX5_isRight_26 : decode cX5_isRight 26 = .ok (.invokevirtual 116, 3) := by decide +kernel
theorem dX5_isRight_29 : decode cX5_isRight 29 = .ok (.aload_n 0, 1) := by decide +kernel
theorem dX5_isRight_30 : decode cX5_isRight 30 = .ok (.getfield 38, 3) := by decide +kernel
theorem dX5_isRight_33 : decode cX5_isRight 33 = .ok (.if_icmp .gt 7, 3) := by decide +kernel
theorem dX5_isRight_36 : decode cX5_isRight 36 = .ok (.iconst 1, 1) := by decide +kernel
theorem dX5_isRight_37 : decode cX5_isRight 37 = .ok (.goto 4, 3) := by decide +kernel
theorem dX5_isRight_40 : decode cX5_isRight 40 = .ok (.iconst 0, 1) := by decide +kernel
theorem dX5_isRight_41 : decode cX5_isRight 41 = .ok (.ireturn, 1) := by decide +kernel
theorem dX5_carries_0 : decode cX5_carries 0 = .ok (.sipush 1000, 3) := by decide +kernel
theorem dX5_carries_3 : decode cX5_carries 3 = .ok (.istore_n 2, 1) := by decide +kernel
theorem dX5_carries_4 : decode cX5_carries 4 = .ok (.iconst 0, 1) := by decide +kernel
theorem dX5_carries_5 : decode cX5_carries 5 = .ok (.istore_n 3, 1) := by decide +kernel
theorem dX5_carries_6 : decode cX5_carries 6 = .ok (.aload_n 0, 1) := by decide +kernel
theorem dX5_carries_7 : decode cX5_carries 7 = .ok (.getfield 45, 3) := by decide +kernel
theorem dX5_carries_10 : decode cX5_carries 10 = .ok (.bipush 16, 2) := by decide +kernel
theorem dX5_carries_12 : decode cX5_carries 12 = .ok (.iload_n 1, 1) := by decide +kernel
theorem dX5_carries_13 : decode cX5_carries 13 = .ok (.imul, 1) := by decide +kernel
theorem dX5_carries_14 : decode cX5_carries 14 = .ok (.iload_n 3, 1) := by decide +kernel
theorem dX5_carries_15 : decode cX5_carries 15 = .ok (.iadd, 1) := by decide +kernel
theorem dX5_carries_16 : decode cX5_carries 16 = .ok (.iaload, 1) := by decide +kernel
theorem dX5_carries_17 : decode cX5_carries 17 = .ok (.iconst (-1), 1) := by decide +kernel
theorem dX5_carries_18 : decode cX5_carries 18 = .ok (.if_icmp .eq 39, 3) := by decide +kernel
theorem dX5_carries_21 : decode cX5_carries 21 = .ok (.aload_n 0, 1) := by decide +kernel
theorem dX5_carries_22 : decode cX5_carries 22 = .ok (.aload_n 0, 1) := by decide +kernel
theorem dX5_carries_23 : decode cX5_carries 23 = .ok (.getfield 45, 3) := by decide +kernel
theorem dX5_carries_26 : decode cX5_carries 26 = .ok (.bipush 16, 2) := by decide +kernel
theorem dX5_carries_28 : decode cX5_carries 28 = .ok (.iload_n 1, 1) := by decide +kernel
theorem dX5_carries_29 : decode cX5_carries 29 = .ok (.imul, 1) := by decide +kernel
theorem dX5_carries_30 : decode cX5_carries 30 = .ok (.iload_n 3, 1) := by decide +kernel
theorem dX5_carries_31 : decode cX5_carries 31 = .ok (.iadd, 1) := by decide +kernel
theorem dX5_carries_32 : decode cX5_carries 32 = .ok (.iaload, 1) := by decide +kernel
theorem dX5_carries_33 : decode cX5_carries 33 = .ok (.invokevirtual 110, 3) := by decide +kernel
theorem dX5_carries_36 : decode cX5_carries 36 = .ok (.istore 4, 2) := by decide +kernel
theorem dX5_carries_38 : decode cX5_carries 38 = .ok (.iload 4, 2) := by decide +kernel
theorem dX5_carries_40 : decode cX5_carries 40 = .ok (.iload_n 2, 1) := by decide +kernel
theorem dX5_carries_41 : decode cX5_carries 41 = .ok (.if_icmp .ge 8, 3) := by decide +kernel
theorem dX5_carries_44 : decode cX5_carries 44 = .ok (.iload 4, 2) := by decide +kernel
theorem dX5_carries_46 : decode cX5_carries 46 = .ok (.goto 4, 3) := by decide +kernel
theorem dX5_carries_49 : decode cX5_carries 49 = .ok (.iload_n 2, 1) := by decide +kernel
theorem dX5_carries_50 : decode cX5_carries 50 = .ok (.istore_n 2, 1) := by decide +kernel
theorem dX5_carries_51 : decode cX5_carries 51 = .ok (.iinc 3 1, 3) := by decide +kernel
theorem dX5_carries_54 : decode cX5_carries 54 = .ok (.goto (-48), 3) := by decide +kernel
theorem dX5_carries_57 : decode cX5_carries 57 = .ok (.aload_n 0, 1) := by decide +kernel
theorem dX5_carries_58 : decode cX5_carries 58 = .ok (.getfield 22, 3) := by decide +kernel
theorem dX5_carries_61 : decode cX5_carries 61 = .ok (.aload_n 0, 1) := by decide +kernel
theorem dX5_carries_62 : decode cX5_carries 62 = .ok (.getfield 51, 3) := by decide +kernel
theorem dX5_carries_65 : decode cX5_carries 65 = .ok (.iload_n 1, 1) := by decide +kernel
theorem dX5_carries_66 : decode cX5_carries 66 = .ok (.iaload, 1) := by decide +kernel
theorem dX5_carries_67 : decode cX5_carries 67 = .ok (.iaload, 1) := by decide +kernel
theorem dX5_carries_68 : decode cX5_carries 68 = .ok (.iload_n 2, 1) := by decide +kernel
theorem dX5_carries_69 : decode cX5_carries 69 = .ok (.imul, 1) := by decide +kernel
theorem dX5_carries_70 : decode cX5_carries 70 = .ok (.sipush 1000, 3) := by decide +kernel
theorem dX5_carries_73 : decode cX5_carries 73 = .ok (.idiv, 1) := by decide +kernel
theorem dX5_carries_74 : decode cX5_carries 74 = .ok (.ireturn, 1) := by decide +kernel
theorem dX5_factor_0 : decode cX5_factor 0 = .ok (.aload_n 0, 1) := by decide +kernel
theorem dX5_factor_1 : decode cX5_factor 1 = .ok (.iload_n 1, 1) := by decide +kernel
theorem dX5_factor_2 : decode cX5_factor 2 = .ok (.invokevirtual 106, 3) := by decide +kernel
theorem dX5_factor_5 : decode cX5_factor 5 = .ok (.istore_n 2, 1) := by decide +kernel
theorem dX5_factor_6 : decode cX5_factor 6 = .ok (.iload_n 2, 1) := by decide +kernel
theorem dX5_factor_7 : decode cX5_factor 7 = .ok (.sipush 200, 3) := by decide +kernel
theorem dX5_factor_10 : decode cX5_factor 10 = .ok (.if_icmp .gt 9, 3) := by decide +kernel
theorem dX5_factor_13 : decode cX5_factor 13 = .ok (.sipush 1000, 3) := by decide +kernel
theorem dX5_factor_16 : decode cX5_factor 16 = .ok (.goto 56, 3) := by decide +kernel
theorem dX5_factor_19 : decode cX5_factor 19 = .ok (.iload_n 2, 1) := by decide +kernel
theorem dX5_factor_20 : decode cX5_factor 20 = .ok (.sipush 400, 3) := by decide +kernel
theorem dX5_factor_23 : decode cX5_factor 23 = .ok (.if_icmp .gt 9, 3) := by decide +kernel
theorem dX5_factor_26 : decode cX5_factor 26 = .ok (.sipush 800, 3) := by decide +kernel
theorem dX5_factor_29 : decode cX5_factor 29 = .ok (.goto 43, 3) := by decide +kernel
theorem dX5_factor_32 : decode cX5_factor 32 = .ok (.iload_n 2, 1) := by decide +kernel
theorem dX5_factor_33 : decode cX5_factor 33 = .ok (.sipush 600, 3) := by decide +kernel
theorem dX5_factor_36 : decode cX5_factor 36 = .ok (.if_icmp .gt 9, 3) := by decide +kernel
theorem dX5_factor_39 : decode cX5_factor 39 = .ok (.sipush 650, 3) := by decide +kernel
theorem dX5_factor_42 : decode cX5_factor 42 = .ok (.goto 30, 3) := by decide +kernel
theorem dX5_factor_45 : decode cX5_factor 45 = .ok (.iload_n 2, 1) := by decide +kernel
theorem dX5_factor_46 : decode cX5_factor 46 = .ok (.sipush 800, 3) := by decide +kernel
theorem dX5_factor_49 : decode cX5_factor 49 = .ok (.if_icmp .gt 9, 3) := by decide +kernel
theorem dX5_factor_52 : decode cX5_factor 52 = .ok (.sipush 550, 3) := by decide +kernel
theorem dX5_factor_55 : decode cX5_factor 55 = .ok (.goto 17, 3) := by decide +kernel
theorem dX5_factor_58 : decode cX5_factor 58 = .ok (.iload_n 2, 1) := by decide +kernel
theorem dX5_factor_59 : decode cX5_factor 59 = .ok (.sipush 1000, 3) := by decide +kernel
theorem dX5_factor_62 : decode cX5_factor 62 = .ok (.if_icmp .gt 9, 3) := by decide +kernel
theorem dX5_factor_65 : decode cX5_factor 65 = .ok (.sipush 500, 3) := by decide +kernel
theorem dX5_factor_68 : decode cX5_factor 68 = .ok (.goto 4, 3) := by decide +kernel
theorem dX5_factor_71 : decode cX5_factor 71 = .ok (.iconst 0, 1) := by decide +kernel
theorem dX5_factor_72 : decode cX5_factor 72 = .ok (.ireturn, 1) := by decide +kernel
theorem dX5_fill_0 : decode cX5_fill 0 = .ok (.iconst 0, 1) := by decide +kernel
theorem dX5_fill_1 : decode cX5_fill 1 = .ok (.istore_n 2, 1) := by decide +kernel
theorem dX5_fill_2 : decode cX5_fill 2 = .ok (.iconst 0, 1) := by decide +kernel
theorem dX5_fill_3 : decode cX5_fill 3 = .ok (.istore_n 3, 1) := by decide +kernel
theorem dX5_fill_4 : decode cX5_fill 4 = .ok (.iload_n 3, 1) := by decide +kernel
theorem dX5_fill_5 : decode cX5_fill 5 = .ok (.aload_n 0, 1) := by decide +kernel
theorem dX5_fill_6 : decode cX5_fill 6 = .ok (.getfield 79, 3) := by decide +kernel
theorem dX5_fill_9 : decode cX5_fill 9 = .ok (.if_icmp .ge 36, 3) := by decide +kernel
theorem dX5_fill_12 : decode cX5_fill 12 = .ok (.aload_n 0, 1) := by decide +kernel
theorem dX5_fill_13 : decode cX5_fill 13 = .ok (.iload_n 3, 1) := by decide +kernel
theorem dX5_fill_14 : decode cX5_fill 14 = .ok (.iload_n 1, 1) := by decide +kernel
theorem dX5_fill_15 : decode cX5_fill 15 = .ok (.invokevirtual 102, 3) := by decide +kernel
theorem dX5_fill_18 : decode cX5_fill 18 = .ok (.ifCond .eq 19, 3) := by decide +kernel
theorem dX5_fill_21 : decode cX5_fill 21 = .ok (.iload_n 2, 1) := by decide +kernel
theorem dX5_fill_22 : decode cX5_fill 22 = .ok (.aload_n 0, 1) := by decide +kernel
theorem dX5_fill_23 : decode cX5_fill 23 = .ok (.getfield 19, 3) := by decide +kernel
theorem dX5_fill_26 : decode cX5_fill 26 = .ok (.aload_n 0, 1) := by decide +kernel
theorem dX5_fill_27 : decode cX5_fill 27 = .ok (.getfield 51, 3) := by decide +kernel
theorem dX5_fill_30 : decode cX5_fill 30 = .ok (.iload_n 3, 1) := by decide +kernel
theorem dX5_fill_31 : decode cX5_fill 31 = .ok (.iaload, 1) := by decide +kernel
theorem dX5_fill_32 : decode cX5_fill 32 = .ok (.iaload, 1) := by decide +kernel
theorem dX5_fill_33 : decode cX5_fill 33 = .ok (.iadd, 1) := by decide +kernel
theorem dX5_fill_34 : decode cX5_fill 34 = .ok (.goto 4, 3) := by decide +kernel
theorem dX5_fill_37 : decode cX5_fill 37 = .ok (.iload_n 2, 1) := by decide +kernel
theorem dX5_fill_38 : decode cX5_fill 38 = .ok (.istore_n 2, 1) := by decide +kernel
theorem dX5_fill_39 : decode cX5_fill 39 = .ok (.iinc 3 1, 3) := by decide +kernel
theorem dX5_fill_42 : decode cX5_fill 42 = .ok (.goto (-38), 3) := by decide +kernel
theorem dX5_fill_45 : decode cX5_fill 45 = .ok (.sipush 1000, 3) := by decide +kernel
theorem dX5_fill_48 : decode cX5_fill 48 = .ok (.iload_n 2, 1) := by decide +kernel
theorem dX5_fill_49 : decode cX5_fill 49 = .ok (.imul, 1) := by decide +kernel
theorem dX5_fill_50 : decode cX5_fill 50 = .ok (.aload_n 0, 1) := by decide +kernel
theorem dX5_fill_51 : decode cX5_fill 51 = .ok (.getfield 16, 3) := by decide +kernel
theorem dX5_fill_54 : decode cX5_fill 54 = .ok (.iload_n 1, 1) := by decide +kernel
theorem dX5_fill_55 : decode cX5_fill 55 = .ok (.iaload, 1) := by decide +kernel
theorem dX5_fill_56 : decode cX5_fill 56 = .ok (.idiv, 1) := by decide +kernel
theorem dX5_fill_57 : decode cX5_fill 57 = .ok (.ireturn, 1) := by decide +kernel
theorem dX5_isOn_0 : decode cX5_isOn 0 = .ok (.iconst 0, 1) := by decide +kernel
theorem dX5_isOn_1 : decode cX5_isOn 1 = .ok (.istore_n 3, 1) := by decide +kernel
theorem dX5_isOn_2 : decode cX5_isOn 2 = .ok (.aload_n 0, 1) := by decide +kernel
theorem dX5_isOn_3 : decode cX5_isOn 3 = .ok (.getfield 45, 3) := by decide +kernel
theorem dX5_isOn_6 : decode cX5_isOn 6 = .ok (.bipush 16, 2) := by decide +kernel
theorem dX5_isOn_8 : decode cX5_isOn 8 = .ok (.iload_n 1, 1) := by decide +kernel
theorem dX5_isOn_9 : decode cX5_isOn 9 = .ok (.imul, 1) := by decide +kernel
theorem dX5_isOn_10 : decode cX5_isOn 10 = .ok (.iload_n 3, 1) := by decide +kernel
theorem dX5_isOn_11 : decode cX5_isOn 11 = .ok (.iadd, 1) := by decide +kernel
theorem dX5_isOn_12 : decode cX5_isOn 12 = .ok (.iaload, 1) := by decide +kernel
theorem dX5_isOn_13 : decode cX5_isOn 13 = .ok (.iconst (-1), 1) := by decide +kernel
theorem dX5_isOn_14 : decode cX5_isOn 14 = .ok (.if_icmp .eq 26, 3) := by decide +kernel
theorem dX5_isOn_17 : decode cX5_isOn 17 = .ok (.aload_n 0, 1) := by decide +kernel
theorem dX5_isOn_18 : decode cX5_isOn 18 = .ok (.getfield 45, 3) := by decide +kernel
theorem dX5_isOn_21 : decode cX5_isOn 21 = .ok (.bipush 16, 2) := by decide +kernel
theorem dX5_isOn_23 : decode cX5_isOn 23 = .ok (.iload_n 1, 1) := by decide +kernel
theorem dX5_isOn_24 : decode cX5_isOn 24 = .ok (.imul, 1) := by decide +kernel
theorem dX5_isOn_25 : decode cX5_isOn 25 = .ok (.iload_n 3, 1) := by decide +kernel
theorem dX5_isOn_26 : decode cX5_isOn 26 = .ok (.iadd, 1) := by decide +kernel
theorem dX5_isOn_27 : decode cX5_isOn 27 = .ok (.iaload, 1) := by decide +kernel
theorem dX5_isOn_28 : decode cX5_isOn 28 = .ok (.iload_n 2, 1) := by decide +kernel
theorem dX5_isOn_29 : decode cX5_isOn 29 = .ok (.if_icmp .ne 5, 3) := by decide +kernel
theorem dX5_isOn_32 : decode cX5_isOn 32 = .ok (.iconst 1, 1) := by decide +kernel
theorem dX5_isOn_33 : decode cX5_isOn 33 = .ok (.ireturn, 1) := by decide +kernel
theorem dX5_isOn_34 : decode cX5_isOn 34 = .ok (.iinc 3 1, 3) := by decide +kernel
theorem dX5_isOn_37 : decode cX5_isOn 37 = .ok (.goto (-35), 3) := by decide +kernel
theorem dX5_isOn_40 : decode cX5_isOn 40 = .ok (.iconst 0, 1) := by decide +kernel
theorem dX5_isOn_41 : decode cX5_isOn 41 = .ok (.ireturn, 1) := by decide +kernel
theorem dX5_drop_0 : decode cX5_drop 0 = .ok (.aload_n 0, 1) := by decide +kernel
theorem dX5_drop_1 : decode cX5_drop 1 = .ok (.getfield 48, 3) := by decide +kernel
theorem dX5_drop_4 : decode cX5_drop 4 = .ok (.iload_n 1, 1) := by decide +kernel
theorem dX5_drop_5 : decode cX5_drop 5 = .ok (.iaload, 1) := by decide +kernel
theorem dX5_drop_6 : decode cX5_drop 6 = .ok (.iconst (-1), 1) := by decide +kernel
theorem dX5_drop_7 : decode cX5_drop 7 = .ok (.if_icmp .ne 7, 3) := by decide +kernel
theorem dX5_drop_10 : decode cX5_drop 10 = .ok (.iconst 0, 1) := by decide +kernel
theorem dX5_drop_11 : decode cX5_drop 11 = .ok (.goto 36, 3) := by decide +kernel
theorem dX5_drop_14 : decode cX5_drop 14 = .ok (.aload_n 0, 1) := by decide +kernel
theorem dX5_drop_15 : decode cX5_drop 15 = .ok (.getfield 34, 3) := by decide +kernel
theorem dX5_drop_18 : decode cX5_drop 18 = .ok (.iload_n 1, 1) := by decide +kernel
theorem dX5_drop_19 : decode cX5_drop 19 = .ok (.iaload, 1) := by decide +kernel
theorem dX5_drop_20 : decode cX5_drop 20 = .ok (.i2l, 1) := by decide +kernel
theorem dX5_drop_21 : decode cX5_drop 21 = .ok (.aload_n 0, 1) := by decide +kernel
theorem dX5_drop_22 : decode cX5_drop 22 = .ok (.getfield 25, 3) := by decide +kernel
theorem dX5_drop_25 : decode cX5_drop 25 = .ok (.aload_n 0, 1) := by decide +kernel
theorem dX5_drop_26 : decode cX5_drop 26 = .ok (.getfield 51, 3) := by decide +kernel
theorem dX5_drop_29 : decode cX5_drop 29 = .ok (.iload_n 1, 1) := by decide +kernel
theorem dX5_drop_30 : decode cX5_drop 30 = .ok (.iaload, 1) := by decide +kernel
theorem dX5_drop_31 : decode cX5_drop 31 = .ok (.iaload, 1) := by decide +kernel
theorem dX5_drop_32 : decode cX5_drop 32 = .ok (.i2l, 1) := by decide +kernel
theorem dX5_drop_33 : decode cX5_drop 33 = .ok (.lmul, 1) := by decide +kernel
theorem dX5_drop_34 : decode cX5_drop 34 = .ok (.aload_n 0, 1) := by decide +kernel
theorem dX5_drop_35 : decode cX5_drop 35 = .ok (.getfield 48, 3) := by decide +kernel
theorem dX5_drop_38 : decode cX5_drop 38 = .ok (.iload_n 1, 1) := by decide +kernel
theorem dX5_drop_39 : decode cX5_drop 39 = .ok (.iaload, 1) := by decide +kernel
theorem dX5_drop_40 : decode cX5_drop 40 = .ok (.i2l, 1) := by decide +kernel
theorem dX5_drop_41 : decode cX5_drop 41 = .ok (.lmul, 1) := by decide +kernel
theorem dX5_drop_42 : decode cX5_drop 42 = .ok (.ldc2_w 71, 3) := by decide +kernel
theorem dX5_drop_45 : decode cX5_drop 45 = .ok (.ldiv, 1) := by decide +kernel
theorem dX5_drop_46 : decode cX5_drop 46 = .ok (.l2i, 1) := by decide +kernel
theorem dX5_drop_47 : decode cX5_drop 47 = .ok (.ireturn, 1) := by decide +kernel
theorem dX5_chosen_0 : decode cX5_chosen 0 = .ok (.aload_n 0, 1) := by decide +kernel
theorem dX5_chosen_1 : decode cX5_chosen 1 = .ok (.aload_n 0, 1) := by decide +kernel
theorem dX5_chosen_2 : decode cX5_chosen 2 = .ok (.iload_n 1, 1) := by decide +kernel
theorem dX5_chosen_3 : decode cX5_chosen 3 = .ok (.invokevirtual 82, 3) := by decide +kernel
theorem dX5_chosen_6 : decode cX5_chosen 6 = .ok (.ifCond .eq 7, 3) := by decide +kernel
theorem dX5_chosen_9 : decode cX5_chosen 9 = .ok (.iconst 1, 1) := by decide +kernel
theorem dX5_chosen_10 : decode cX5_chosen 10 = .ok (.goto 4, 3) := by decide +kernel
theorem dX5_chosen_13 : decode cX5_chosen 13 = .ok (.iconst 0, 1) := by decide +kernel
theorem dX5_chosen_14 : decode cX5_chosen 14 = .ok (.putfield 58, 3) := by decide +kernel
theorem dX5_chosen_17 : decode cX5_chosen 17 = .ok (.aload_n 0, 1) := by decide +kernel
theorem dX5_chosen_18 : decode cX5_chosen 18 = .ok (.getfield 58, 3) := by decide +kernel
theorem dX5_chosen_21 : decode cX5_chosen 21 = .ok (.ifCond .le 7, 3) := by decide +kernel
theorem dX5_chosen_24 : decode cX5_chosen 24 = .ok (.iconst 0, 1) := by decide +kernel
theorem dX5_chosen_25 : decode cX5_chosen 25 = .ok (.goto 20, 3) := by decide +kernel
theorem dX5_chosen_28 : decode cX5_chosen 28 = .ok (.aload_n 0, 1) := by decide +kernel
theorem dX5_chosen_29 : decode cX5_chosen 29 = .ok (.invokevirtual 122, 3) := by decide +kernel
theorem dX5_chosen_32 : decode cX5_chosen 32 = .ok (.ifCond .eq 12, 3) := by decide +kernel
theorem dX5_chosen_35 : decode cX5_chosen 35 = .ok (.aload_n 0, 1) := by decide +kernel
theorem dX5_chosen_36 : decode cX5_chosen 36 = .ok (.getfield 51, 3) := by decide +kernel
theorem dX5_chosen_39 : decode cX5_chosen 39 = .ok (.iload_n 1, 1) := by decide +kernel
theorem dX5_chosen_40 : decode cX5_chosen 40 = .ok (.iaload, 1) := by decide +kernel
theorem dX5_chosen_41 : decode cX5_chosen 41 = .ok (.goto 4, 3) := by decide +kernel
theorem dX5_chosen_44 : decode cX5_chosen 44 = .ok (.iconst (-1), 1) := by decide +kernel
theorem dX5_chosen_45 : decode cX5_chosen 45 = .ok (.ireturn, 1) := by decide +kernel
theorem dX5_told_0 : decode cX5_told 0 = .ok (.aload_n 0, 1) := by decide +kernel
theorem dX5_told_1 : decode cX5_told 1 = .ok (.aload_n 0, 1) := by decide +kernel
theorem dX5_told_2 : decode cX5_told 2 = .ok (.iload_n 1, 1) := by decide +kernel
theorem dX5_told_3 : decode cX5_told 3 = .ok (.invokevirtual 85, 3) := by decide +kernel
theorem dX5_told_6 : decode cX5_told 6 = .ok (.ifCond .ne 15, 3) := by decide +kernel
theorem dX5_told_9 : decode cX5_told 9 = .ok (.iload_n 2, 1) := by decide +kernel
theorem dX5_told_10 : decode cX5_told 10 = .ok (.i2l, 1) := by decide +kernel
theorem dX5_told_11 : decode cX5_told 11 = .ok (.lconst 0, 1) := by decide +kernel
theorem dX5_told_12 : decode cX5_told 12 = .ok (.ldc2_w 126, 3) := by decide +kernel
theorem dX5_told_15 : decode cX5_told 15 = .ok (.invokestatic 67, 3) := by decide +kernel
theorem dX5_told_18 : decode cX5_told 18 = .ok (.ifCond .ne 7, 3) := by decide +kernel
theorem dX5_told_21 : decode cX5_told 21 = .ok (.iconst 1, 1) := by decide +kernel
theorem dX5_told_22 : decode cX5_told 22 = .ok (.goto 4, 3) := by decide +kernel
theorem dX5_told_25 : decode cX5_told 25 = .ok (.iconst 0, 1) := by decide +kernel
theorem dX5_told_26 : decode cX5_told 26 = .ok (.putfield 58, 3) := by decide +kernel
theorem dX5_told_29 : decode cX5_told 29 = .ok (.aload_n 0, 1) := by decide +kernel
theorem dX5_told_30 : decode cX5_told 30 = .ok (.getfield 58, 3) := by decide +kernel
theorem dX5_told_33 : decode cX5_told 33 = .ok (.ifCond .le 5, 3) := by decide +kernel
theorem dX5_told_36 : decode cX5_told 36 = .ok (.iconst 0, 1) := by decide +kernel
theorem dX5_told_37 : decode cX5_told 37 = .ok (.ireturn, 1) := by decide +kernel
theorem dX5_told_38 : decode cX5_told 38 = .ok (.aload_n 0, 1) := by decide +kernel
theorem dX5_told_39 : decode cX5_told 39 = .ok (.invokevirtual 122, 3) := by decide +kernel
theorem dX5_told_42 : decode cX5_told 42 = .ok (.istore_n 3, 1) := by decide +kernel
theorem dX5_told_43 : decode cX5_told 43 = .ok (.iload_n 2, 1) := by decide +kernel
theorem dX5_told_44 : decode cX5_told 44 = .ok (.iconst 2, 1) := by decide +kernel
theorem dX5_told_45 : decode cX5_told 45 = .ok (.if_icmp .ne 48, 3) := by decide +kernel
theorem dX5_told_48 : decode cX5_told 48 = .ok (.iconst 0, 1) := by decide +kernel
theorem dX5_told_49 : decode cX5_told 49 = .ok (.istore 4, 2) := by decide +kernel
theorem dX5_told_51 : decode cX5_told 51 = .ok (.iconst 0, 1) := by decide +kernel
theorem dX5_told_52 : decode cX5_told 52 = .ok (.istore 5, 2) := by decide +kernel
theorem dX5_told_54 : decode cX5_told 54 = .ok (.iload 5, 2) := by decide +kernel
theorem dX5_told_56 : decode cX5_told 56 = .ok (.aload_n 0, 1) := by decide +kernel
theorem dX5_told_57 : decode cX5_told 57 = .ok (.getfield 79, 3) := by decide +kernel
theorem dX5_told_60 : decode cX5_told 60 = .ok (.if_icmp .ge 30, 3) := by decide +kernel
theorem dX5_told_63 : decode cX5_told 63 = .ok (.aload_n 0, 1) := by decide +kernel
theorem dX5_told_64 : decode cX5_told 64 = .ok (.iload 5, 2) := by decide +kernel
theorem dX5_told_66 : decode cX5_told 66 = .ok (.iload_n 1, 1) := by decide +kernel
theorem dX5_told_67 : decode cX5_told 67 = .ok (.invokevirtual 102, 3) := by decide +kernel
theorem dX5_told_70 : decode cX5_told 70 = .ok (.ifCond .eq 10, 3) := by decide +kernel
theorem dX5_told_73 : decode cX5_told 73 = .ok (.iload 4, 2) := by decide +kernel
theorem dX5_told_75 : decode cX5_told 75 = .ok (.iconst 1, 1) := by decide +kernel
theorem dX5_told_76 : decode cX5_told 76 = .ok (.iadd, 1) := by decide +kernel
theorem dX5_told_77 : decode cX5_told 77 = .ok (.goto 5, 3) := by decide +kernel
theorem dX5_told_80 : decode cX5_told 80 = .ok (.iload 4, 2) := by decide +kernel
theorem dX5_told_82 : decode cX5_told 82 = .ok (.istore 4, 2) := by decide +kernel
theorem dX5_told_84 : decode cX5_told 84 = .ok (.iinc 5 1, 3) := by decide +kernel
theorem dX5_told_87 : decode cX5_told 87 = .ok (.goto (-33), 3) := by decide +kernel
theorem dX5_told_90 : decode cX5_told 90 = .ok (.iload 4, 2) := by decide +kernel
theorem dX5_told_92 : decode cX5_told 92 = .ok (.ireturn, 1) := by decide +kernel
theorem dX5_told_93 : decode cX5_told 93 = .ok (.iload_n 3, 1) := by decide +kernel
theorem dX5_told_94 : decode cX5_told 94 = .ok (.ifCond .ne 7, 3) := by decide +kernel
theorem dX5_told_97 : decode cX5_told 97 = .ok (.iconst (-1), 1) := by decide +kernel
theorem dX5_told_98 : decode cX5_told 98 = .ok (.goto 20, 3) := by decide +kernel
theorem dX5_told_101 : decode cX5_told 101 = .ok (.iload_n 2, 1) := by decide +kernel
theorem dX5_told_102 : decode cX5_told 102 = .ok (.ifCond .ne 11, 3) := by decide +kernel
theorem dX5_told_105 : decode cX5_told 105 = .ok (.aload_n 0, 1) := by decide +kernel
theorem dX5_told_106 : decode cX5_told 106 = .ok (.iload_n 1, 1) := by decide +kernel
theorem dX5_told_107 : decode cX5_told 107 = .ok (.invokevirtual 106, 3) := by decide +kernel
theorem dX5_told_110 : decode cX5_told 110 = .ok (.goto 8, 3) := by decide +kernel
theorem dX5_told_113 : decode cX5_told 113 = .ok (.aload_n 0, 1) := by decide +kernel
theorem dX5_told_114 : decode cX5_told 114 = .ok (.iload_n 1, 1) := by decide +kernel
theorem dX5_told_115 : decode cX5_told 115 = .ok (.invokevirtual 110, 3) := by decide +kernel
theorem dX5_told_118 : decode cX5_told 118 = .ok (.ireturn, 1) := by decide +kernel
theorem dX5_cableAt_0 : decode cX5_cableAt 0 = .ok (.aload_n 0, 1) := by decide +kernel
theorem dX5_cableAt_1 : decode cX5_cableAt 1 = .ok (.aload_n 0, 1) := by decide +kernel
theorem dX5_cableAt_2 : decode cX5_cableAt 2 = .ok (.iload_n 1, 1) := by decide +kernel
theorem dX5_cableAt_3 : decode cX5_cableAt 3 = .ok (.invokevirtual 82, 3) := by decide +kernel
theorem dX5_cableAt_6 : decode cX5_cableAt 6 = .ok (.ifCond .ne 13, 3) := by decide +kernel
theorem dX5_cableAt_9 : decode cX5_cableAt 9 = .ok (.iload_n 2, 1) := by decide +kernel
theorem dX5_cableAt_10 : decode cX5_cableAt 10 = .ok (.i2l, 1) := by decide +kernel
theorem dX5_cableAt_11 : decode cX5_cableAt 11 = .ok (.lconst 0, 1) := by decide +kernel
theorem dX5_cableAt_12 : decode cX5_cableAt 12 = .ok (.lconst 1, 1) := by decide +kernel
theorem dX5_cableAt_13 : decode cX5_cableAt 13 = .ok (.invokestatic 67, 3) := by decide +kernel
theorem dX5_cableAt_16 : decode cX5_cableAt 16 = .ok (.ifCond .ne 7, 3) := by decide +kernel
theorem dX5_cableAt_19 : decode cX5_cableAt 19 = .ok (.iconst 1, 1) := by decide +kernel
theorem dX5_cableAt_20 : decode cX5_cableAt 20 = .ok (.goto 4, 3) := by decide +kernel
theorem dX5_cableAt_23 : decode cX5_cableAt 23 = .ok (.iconst 0, 1) := by decide +kernel
theorem dX5_cableAt_24 : decode cX5_cableAt 24 = .ok (.putfield 58, 3) := by decide +kernel
theorem dX5_cableAt_27 : decode cX5_cableAt 27 = .ok (.aload_n 0, 1) := by decide +kernel
theorem dX5_cableAt_28 : decode cX5_cableAt 28 = .ok (.getfield 58, 3) := by decide +kernel
theorem dX5_cableAt_31 : decode cX5_cableAt 31 = .ok (.ifCond .le 5, 3) := by decide +kernel
theorem dX5_cableAt_34 : decode cX5_cableAt 34 = .ok (.iconst 0, 1) := by decide +kernel
theorem dX5_cableAt_35 : decode cX5_cableAt 35 = .ok (.ireturn, 1) := by decide +kernel
theorem dX5_cableAt_36 : decode cX5_cableAt 36 = .ok (.aload_n 0, 1) := by decide +kernel
theorem dX5_cableAt_37 : decode cX5_cableAt 37 = .ok (.invokevirtual 122, 3) := by decide +kernel
theorem dX5_cableAt_40 : decode cX5_cableAt 40 = .ok (.ifCond .ne 7, 3) := by decide +kernel
theorem dX5_cableAt_43 : decode cX5_cableAt 43 = .ok (.iconst (-1), 1) := by decide +kernel
theorem dX5_cableAt_44 : decode cX5_cableAt 44 = .ok (.goto 20, 3) := by decide +kernel
theorem dX5_cableAt_47 : decode cX5_cableAt 47 = .ok (.iload_n 2, 1) := by decide +kernel
theorem dX5_cableAt_48 : decode cX5_cableAt 48 = .ok (.ifCond .ne 11, 3) := by decide +kernel
theorem dX5_cableAt_51 : decode cX5_cableAt 51 = .ok (.aload_n 0, 1) := by decide +kernel
theorem dX5_cableAt_52 : decode cX5_cableAt 52 = .ok (.iload_n 1, 1) := by decide +kernel
theorem dX5_cableAt_53 : decode cX5_cableAt 53 = .ok (.invokevirtual 116, 3) := by decide +kernel
theorem dX5_cableAt_56 : decode cX5_cableAt 56 = .ok (.goto 8, 3) := by decide +kernel
theorem dX5_cableAt_59 : decode cX5_cableAt 59 = .ok (.aload_n 0, 1) := by decide +kernel
theorem dX5_cableAt_60 : decode cX5_cableAt 60 = .ok (.iload_n 1, 1) := by decide +kernel
theorem dX5_cableAt_61 : decode cX5_cableAt 61 = .ok (.invokevirtual 113, 3) := by decide +kernel
theorem dX5_cableAt_64 : decode cX5_cableAt 64 = .ok (.ireturn, 1) := by decide +kernel
theorem dX5_copper_0 : decode cX5_copper 0 = .ok (.aload_n 0, 1) := by decide +kernel
theorem dX5_copper_1 : decode cX5_copper 1 = .ok (.iconst 0, 1) := by decide +kernel
theorem dX5_copper_2 : decode cX5_copper 2 = .ok (.putfield 58, 3) := by decide +kernel
theorem dX5_copper_5 : decode cX5_copper 5 = .ok (.aload_n 0, 1) := by decide +kernel
theorem dX5_copper_6 : decode cX5_copper 6 = .ok (.invokevirtual 122, 3) := by decide +kernel
theorem dX5_copper_9 : decode cX5_copper 9 = .ok (.ifCond .ne 5, 3) := by decide +kernel
theorem dX5_copper_12 : decode cX5_copper 12 = .ok (.iconst (-1), 1) := by decide +kernel
theorem dX5_copper_13 : decode cX5_copper 13 = .ok (.ireturn, 1) := by decide +kernel
theorem dX5_copper_14 : decode cX5_copper 14 = .ok (.iconst 0, 1) := by decide +kernel
theorem dX5_copper_15 : decode cX5_copper 15 = .ok (.istore_n 1, 1) := by decide +kernel
theorem dX5_copper_16 : decode cX5_copper 16 = .ok (.iconst 0, 1) := by decide +kernel
theorem dX5_copper_17 : decode cX5_copper 17 = .ok (.istore_n 2, 1) := by decide +kernel
theorem dX5_copper_18 : decode cX5_copper 18 = .ok (.iload_n 2, 1) := by decide +kernel
theorem dX5_copper_19 : decode cX5_copper 19 = .ok (.aload_n 0, 1) := by decide +kernel
theorem dX5_copper_20 : decode cX5_copper 20 = .ok (.getfield 79, 3) := by decide +kernel
theorem dX5_copper_23 : decode cX5_copper 23 = .ok (.if_icmp .ge 44, 3) := by decide +kernel
theorem dX5_copper_26 : decode cX5_copper 26 = .ok (.aload_n 0, 1) := by decide +kernel
theorem dX5_copper_27 : decode cX5_copper 27 = .ok (.getfield 48, 3) := by decide +kernel
theorem dX5_copper_30 : decode cX5_copper 30 = .ok (.iload_n 2, 1) := by decide +kernel
theorem dX5_copper_31 : decode cX5_copper 31 = .ok (.iaload, 1) := by decide +kernel
theorem dX5_copper_32 : decode cX5_copper 32 = .ok (.iconst (-1), 1) := by decide +kernel
theorem dX5_copper_33 : decode cX5_copper 33 = .ok (.if_icmp .ne 7, 3) := by decide +kernel
theorem dX5_copper_36 : decode cX5_copper 36 = .ok (.iload_n 1, 1) := by decide +kernel
theorem dX5_copper_37 : decode cX5_copper 37 = .ok (.goto 23, 3) := by decide +kernel
theorem dX5_copper_40 : decode cX5_copper 40 = .ok (.iload_n 1, 1) := by decide +kernel
theorem dX5_copper_41 : decode cX5_copper 41 = .ok (.aload_n 0, 1) := by decide +kernel
theorem dX5_copper_42 : decode cX5_copper 42 = .ok (.getfield 19, 3) := by decide +kernel
theorem dX5_copper_45 : decode cX5_copper 45 = .ok (.aload_n 0, 1) := by decide +kernel
theorem dX5_copper_46 : decode cX5_copper 46 = .ok (.getfield 51, 3) := by decide +kernel
theorem dX5_copper_49 : decode cX5_copper 49 = .ok (.iload_n 2, 1) := by decide +kernel
theorem dX5_copper_50 : decode cX5_copper 50 = .ok (.iaload, 1) := by decide +kernel
theorem dX5_copper_51 : decode cX5_copper 51 = .ok (.iaload, 1) := by decide +kernel
theorem dX5_copper_52 : decode cX5_copper 52 = .ok (.aload_n 0, 1) := by decide +kernel
theorem dX5_copper_53 : decode cX5_copper 53 = .ok (.getfield 48, 3) := by decide +kernel
theorem dX5_copper_56 : decode cX5_copper 56 = .ok (.iload_n 2, 1) := by decide +kernel
theorem dX5_copper_57 : decode cX5_copper 57 = .ok (.iaload, 1) := by decide +kernel
theorem dX5_copper_58 : decode cX5_copper 58 = .ok (.imul, 1) := by decide +kernel
theorem dX5_copper_59 : decode cX5_copper 59 = .ok (.iadd, 1) := by decide +kernel
theorem dX5_copper_60 : decode cX5_copper 60 = .ok (.istore_n 1, 1) := by decide +kernel
theorem dX5_copper_61 : decode cX5_copper 61 = .ok (.iinc 2 1, 3) := by decide +kernel
theorem dX5_copper_64 : decode cX5_copper 64 = .ok (.goto (-46), 3) := by decide +kernel
theorem dX5_copper_67 : decode cX5_copper 67 = .ok (.iload_n 1, 1) := by decide +kernel
theorem dX5_copper_68 : decode cX5_copper 68 = .ok (.ireturn, 1) := by decide +kernel
theorem dX5_right_0 : decode cX5_right 0 = .ok (.aload_n 0, 1) := by decide +kernel
theorem dX5_right_1 : decode cX5_right 1 = .ok (.invokevirtual 99, 3) := by decide +kernel
theorem dX5_right_4 : decode cX5_right 4 = .ok (.lload_n 1, 1) := by decide +kernel
theorem dX5_right_5 : decode cX5_right 5 = .ok (.lstore_n 3, 1) := by decide +kernel
theorem dX5_right_6 : decode cX5_right 6 = .ok (.lload_n 1, 1) := by decide +kernel
theorem dX5_right_7 : decode cX5_right 7 = .ok (.lconst 0, 1) := by decide +kernel
theorem dX5_right_8 : decode cX5_right 8 = .ok (.lcmp, 1) := by decide +kernel
theorem dX5_right_9 : decode cX5_right 9 = .ok (.ifCond .lt 7, 3) := by decide +kernel
theorem dX5_right_12 : decode cX5_right 12 = .ok (.iconst 1, 1) := by decide +kernel
theorem dX5_right_13 : decode cX5_right 13 = .ok (.goto 4, 3) := by decide +kernel
theorem dX5_right_16 : decode cX5_right 16 = .ok (.iconst 0, 1) := by decide +kernel
theorem dX5_right_17 : decode cX5_right 17 = .ok (.istore 5, 2) := by decide +kernel
theorem dX5_right_19 : decode cX5_right 19 = .ok (.iconst 0, 1) := by decide +kernel
theorem dX5_right_20 : decode cX5_right 20 = .ok (.istore 6, 2) := by decide +kernel
theorem dX5_right_22 : decode cX5_right 22 = .ok (.iload 6, 2) := by decide +kernel
theorem dX5_right_24 : decode cX5_right 24 = .ok (.aload_n 0, 1) := by decide +kernel
theorem dX5_right_25 : decode cX5_right 25 = .ok (.getfield 79, 3) := by decide +kernel
theorem dX5_right_28 : decode cX5_right 28 = .ok (.if_icmp .ge 54, 3) := by decide +kernel
theorem dX5_right_31 : decode cX5_right 31 = .ok (.iload 5, 2) := by decide +kernel
theorem dX5_right_33 : decode cX5_right 33 = .ok (.ifCond .eq 49, 3) := by decide +kernel
theorem dX5_right_36 : decode cX5_right 36 = .ok (.aload_n 0, 1) := by decide +kernel
theorem dX5_right_37 : decode cX5_right 37 = .ok (.getfield 51, 3) := by decide +kernel
theorem dX5_right_40 : decode cX5_right 40 = .ok (.iload 6, 2) := by decide +kernel
theorem dX5_right_42 : decode cX5_right 42 = .ok (.lload_n 3, 1) := by decide +kernel
theorem dX5_right_43 : decode cX5_right 43 = .ok (.ldc2_w 128, 3) := by decide +kernel
theorem dX5_right_46 : decode cX5_right 46 = .ok (.lrem, 1) := by decide +kernel
theorem dX5_right_47 : decode cX5_right 47 = .ok (.l2i, 1) := by decide +kernel
theorem dX5_right_48 : decode cX5_right 48 = .ok (.iastore, 1) := by decide +kernel
theorem dX5_right_49 : decode cX5_right 49 = .ok (.aload_n 0, 1) := by decide +kernel
theorem dX5_right_50 : decode cX5_right 50 = .ok (.getfield 51, 3) := by decide +kernel
theorem dX5_right_53 : decode cX5_right 53 = .ok (.iload 6, 2) := by decide +kernel
theorem dX5_right_55 : decode cX5_right 55 = .ok (.iaload, 1) := by decide +kernel
theorem dX5_right_56 : decode cX5_right 56 = .ok (.aload_n 0, 1) := by decide +kernel
theorem dX5_right_57 : decode cX5_right 57 = .ok (.getfield 76, 3) := by decide +kernel
theorem dX5_right_60 : decode cX5_right 60 = .ok (.if_icmp .ge 7, 3) := by decide +kernel
theorem dX5_right_63 : decode cX5_right 63 = .ok (.iconst 1, 1) := by decide +kernel
theorem dX5_right_64 : decode cX5_right 64 = .ok (.goto 4, 3) := by decide +kernel
theorem dX5_right_67 : decode cX5_right 67 = .ok (.iconst 0, 1) := by decide +kernel
theorem dX5_right_68 : decode cX5_right 68 = .ok (.istore 5, 2) := by decide +kernel
theorem dX5_right_70 : decode cX5_right 70 = .ok (.lload_n 3, 1) := by decide +kernel
theorem dX5_right_71 : decode cX5_right 71 = .ok (.ldc2_w 128, 3) := by decide +kernel
theorem dX5_right_74 : decode cX5_right 74 = .ok (.ldiv, 1) := by decide +kernel
theorem dX5_right_75 : decode cX5_right 75 = .ok (.lstore_n 3, 1) := by decide +kernel
theorem dX5_right_76 : decode cX5_right 76 = .ok (.iinc 6 1, 3) := by decide +kernel
theorem dX5_right_79 : decode cX5_right 79 = .ok (.goto (-57), 3) := by decide +kernel
theorem dX5_right_82 : decode cX5_right 82 = .ok (.aload_n 0, 1) := by decide +kernel
theorem dX5_right_83 : decode cX5_right 83 = .ok (.iload 5, 2) := by decide +kernel
theorem dX5_right_85 : decode cX5_right 85 = .ok (.ifCond .eq 13, 3) := by decide +kernel
theorem dX5_right_88 : decode cX5_right 88 = .ok (.lload_n 3, 1) := by decide +kernel
theorem dX5_right_89 : decode cX5_right 89 = .ok (.lconst 0, 1) := by decide +kernel
theorem dX5_right_90 : decode cX5_right 90 = .ok (.lcmp, 1) := by decide +kernel
theorem dX5_right_91 : decode cX5_right 91 = .ok (.ifCond .ne 7, 3) := by decide +kernel
theorem dX5_right_94 : decode cX5_right 94 = .ok (.iconst 0, 1) := by decide +kernel
theorem dX5_right_95 : decode cX5_right 95 = .ok (.goto 4, 3) := by decide +kernel
theorem dX5_right_98 : decode cX5_right 98 = .ok (.iconst 1, 1) := by decide +kernel
theorem dX5_right_99 : decode cX5_right 99 = .ok (.putfield 58, 3) := by decide +kernel
theorem dX5_right_102 : decode cX5_right 102 = .ok (.aload_n 0, 1) := by decide +kernel
theorem dX5_right_103 : decode cX5_right 103 = .ok (.getfield 58, 3) := by decide +kernel
theorem dX5_right_106 : decode cX5_right 106 = .ok (.ifCond .ne 7, 3) := by decide +kernel
theorem dX5_right_109 : decode cX5_right 109 = .ok (.iconst 1, 1) := by decide +kernel
theorem dX5_right_110 : decode cX5_right 110 = .ok (.goto 4, 3) := by decide +kernel
theorem dX5_right_113 : decode cX5_right 113 = .ok (.iconst 0, 1) := by decide +kernel
theorem dX5_right_114 : decode cX5_right 114 = .ok (.istore 6, 2) := by decide +kernel
theorem dX5_right_116 : decode cX5_right 116 = .ok (.iconst 0, 1) := by decide +kernel
theorem dX5_right_117 : decode cX5_right 117 = .ok (.istore 7, 2) := by decide +kernel
theorem dX5_right_119 : decode cX5_right 119 = .ok (.iload 7, 2) := by decide +kernel
theorem dX5_right_121 : decode cX5_right 121 = .ok (.aload_n 0, 1) := by decide +kernel
theorem dX5_right_122 : decode cX5_right 122 = .ok (.getfield 79, 3) := by decide +kernel
theorem dX5_right_125 : decode cX5_right 125 = .ok (.if_icmp .ge 22, 3) := by decide +kernel
theorem dX5_right_128 : decode cX5_right 128 = .ok (.iload 6, 2) := by decide +kernel
theorem dX5_right_130 : decode cX5_right 130 = .ok (.ifCond .eq 17, 3) := by decide +kernel
theorem dX5_right_133 : decode cX5_right 133 = .ok (.aload_n 0, 1) := by decide +kernel
theorem dX5_right_134 : decode cX5_right 134 = .ok (.iload 7, 2) := by decide +kernel
theorem dX5_right_136 : decode cX5_right 136 = .ok (.invokevirtual 119, 3) := by decide +kernel
theorem dX5_right_139 : decode cX5_right 139 = .ok (.istore 6, 2) := by decide +kernel
theorem dX5_right_141 : decode cX5_right 141 = .ok (.iinc 7 1, 3) := by decide +kernel
theorem dX5_right_144 : decode cX5_right 144 = .ok (.goto (-25), 3) := by decide +kernel
theorem dX5_right_147 : decode cX5_right 147 = .ok (.iload 6, 2) := by decide +kernel
theorem dX5_right_149 : decode cX5_right 149 = .ok (.ireturn, 1) := by decide +kernel
end
section
theorem dL_tray_0 : decode cL_tray 0 = .ok (.aload 5, 2) := by decide +kernel
theorem dL_tray_2 : decode cL_tray 2 = .ok (.iconst 0, 1) := by decide +kernel
theorem dL_tray_3 : decode cL_tray 3 = .ok (.aload_n 0, 1) := by decide +kernel
theorem dL_tray_4 : decode cL_tray 4 = .ok (.iload_n 1, 1) := by decide +kernel
theorem dL_tray_5 : decode cL_tray 5 = .ok (.iload_n 2, 1) := by decide +kernel
theorem dL_tray_6 : decode cL_tray 6 = .ok (.iload_n 3, 1) := by decide +kernel
theorem dL_tray_7 : decode cL_tray 7 = .ok (.iload 4, 2) := by decide +kernel
theorem dL_tray_9 : decode cL_tray 9 = .ok (.invokevirtual 7, 3) := by decide +kernel
theorem dL_tray_12 : decode cL_tray 12 = .ok (.i2l, 1) := by decide +kernel
theorem dL_tray_13 : decode cL_tray 13 = .ok (.lastore, 1) := by decide +kernel
theorem dL_tray_14 : decode cL_tray 14 = .ok (.goto 11, 3) := by decide +kernel
theorem dL_tray_17 : decode cL_tray 17 = .ok (.astore 6, 2) := by decide +kernel
theorem dL_tray_19 : decode cL_tray 19 = .ok (.iconst 1, 1) := by decide +kernel
theorem dL_tray_20 : decode cL_tray 20 = .ok (.ireturn, 1) := by decide +kernel
theorem dL_tray_21 : decode cL_tray 21 = .ok (.astore 6, 2) := by decide +kernel
theorem dL_tray_23 : decode cL_tray 23 = .ok (.iconst 2, 1) := by decide +kernel
theorem dL_tray_24 : decode cL_tray 24 = .ok (.ireturn, 1) := by decide +kernel
theorem dL_tray_25 : decode cL_tray 25 = .ok (.iconst 0, 1) := by decide +kernel
theorem dL_tray_26 : decode cL_tray 26 = .ok (.ireturn, 1) := by decide +kernel
theorem dL_size_0 : decode cL_size 0 = .ok (.aload 4, 2) := by decide +kernel
theorem dL_size_2 : decode cL_size 2 = .ok (.iconst 0, 1) := by decide +kernel
theorem dL_size_3 : decode cL_size 3 = .ok (.aload_n 0, 1) := by decide +kernel
theorem dL_size_4 : decode cL_size 4 = .ok (.iload_n 1, 1) := by decide +kernel
theorem dL_size_5 : decode cL_size 5 = .ok (.iload_n 2, 1) := by decide +kernel
theorem dL_size_6 : decode cL_size 6 = .ok (.iload_n 3, 1) := by decide +kernel
theorem dL_size_7 : decode cL_size 7 = .ok (.invokevirtual 17, 3) := by decide +kernel
theorem dL_size_10 : decode cL_size 10 = .ok (.i2l, 1) := by decide +kernel
theorem dL_size_11 : decode cL_size 11 = .ok (.lastore, 1) := by decide +kernel
theorem dL_size_12 : decode cL_size 12 = .ok (.goto 11, 3) := by decide +kernel
theorem dL_size_15 : decode cL_size 15 = .ok (.astore 5, 2) := by decide +kernel
theorem dL_size_17 : decode cL_size 17 = .ok (.iconst 1, 1) := by decide +kernel
theorem dL_size_18 : decode cL_size 18 = .ok (.ireturn, 1) := by decide +kernel
theorem dL_size_19 : decode cL_size 19 = .ok (.astore 5, 2) := by decide +kernel
theorem dL_size_21 : decode cL_size 21 = .ok (.iconst 2, 1) := by decide +kernel
theorem dL_size_22 : decode cL_size 22 = .ok (.ireturn, 1) := by decide +kernel
theorem dL_size_23 : decode cL_size 23 = .ok (.iconst 0, 1) := by decide +kernel
theorem dL_size_24 : decode cL_size 24 = .ok (.ireturn, 1) := by decide +kernel
theorem dL_cable_0 : decode cL_cable 0 = .ok (.aload 4, 2) := by decide +kernel
theorem dL_cable_2 : decode cL_cable 2 = .ok (.iconst 0, 1) := by decide +kernel
theorem dL_cable_3 : decode cL_cable 3 = .ok (.aload_n 0, 1) := by decide +kernel
theorem dL_cable_4 : decode cL_cable 4 = .ok (.iload_n 1, 1) := by decide +kernel
theorem dL_cable_5 : decode cL_cable 5 = .ok (.iload_n 2, 1) := by decide +kernel
theorem dL_cable_6 : decode cL_cable 6 = .ok (.iload_n 3, 1) := by decide +kernel
theorem dL_cable_7 : decode cL_cable 7 = .ok (.invokevirtual 21, 3) := by decide +kernel
theorem dL_cable_10 : decode cL_cable 10 = .ok (.i2l, 1) := by decide +kernel
theorem dL_cable_11 : decode cL_cable 11 = .ok (.lastore, 1) := by decide +kernel
theorem dL_cable_12 : decode cL_cable 12 = .ok (.goto 11, 3) := by decide +kernel
theorem dL_cable_15 : decode cL_cable 15 = .ok (.astore 5, 2) := by decide +kernel
theorem dL_cable_17 : decode cL_cable 17 = .ok (.iconst 1, 1) := by decide +kernel
theorem dL_cable_18 : decode cL_cable 18 = .ok (.ireturn, 1) := by decide +kernel
theorem dL_cable_19 : decode cL_cable 19 = .ok (.astore 5, 2) := by decide +kernel
theorem dL_cable_21 : decode cL_cable 21 = .ok (.iconst 2, 1) := by decide +kernel
theorem dL_cable_22 : decode cL_cable 22 = .ok (.ireturn, 1) := by decide +kernel
theorem dL_cable_23 : decode cL_cable 23 = .ok (.iconst 0, 1) := by decide +kernel
theorem dL_cable_24 : decode cL_cable 24 = .ok (.ireturn, 1) := by decide +kernel
theorem dL_current_0 : decode cL_current 0 = .ok (.aload_n 3, 1) := by decide +kernel
theorem dL_current_1 : decode cL_current 1 = .ok (.iconst 0, 1) := by decide +kernel
theorem dL_current_2 : decode cL_current 2 = .ok (.aload_n 0, 1) := by decide +kernel
theorem dL_current_3 : decode cL_current 3 = .ok (.iload_n 1, 1) := by decide +kernel
theorem dL_current_4 : decode cL_current 4 = .ok (.iload_n 2, 1) := by decide +kernel
theorem dL_current_5 : decode cL_current 5 = .ok (.invokevirtual 24, 3) := by decide +kernel
theorem dL_current_8 : decode cL_current 8 = .ok (.i2l, 1) := by decide +kernel
theorem dL_current_9 : decode cL_current 9 = .ok (.lastore, 1) := by decide +kernel
theorem dL_current_10 : decode cL_current 10 = .ok (.goto 7, 3) := by decide +kernel
theorem dL_current_13 : decode cL_current 13 = .ok (.astore 4, 2) := by decide +kernel
theorem dL_current_15 : decode cL_current 15 = .ok (.iconst 1, 1) := by decide +kernel
theorem dL_current_16 : decode cL_current 16 = .ok (.ireturn, 1) := by decide +kernel
theorem dL_current_17 : decode cL_current 17 = .ok (.iconst 0, 1) := by decide +kernel
theorem dL_current_18 : decode cL_current 18 = .ok (.ireturn, 1) := by decide +kernel
theorem dL_room_0 : decode cL_room 0 = .ok (.aload_n 3, 1) := by decide +kernel
theorem dL_room_1 : decode cL_room 1 = .ok (.iconst 0, 1) := by decide +kernel
theorem dL_room_2 : decode cL_room 2 = .ok (.aload_n 0, 1) := by decide +kernel
theorem dL_room_3 : decode cL_room 3 = .ok (.iload_n 1, 1) := by decide +kernel
theorem dL_room_4 : decode cL_room 4 = .ok (.iload_n 2, 1) := by decide +kernel
theorem dL_room_5 : decode cL_room 5 = .ok (.invokevirtual 28, 3) := by decide +kernel
theorem dL_room_8 : decode cL_room 8 = .ok (.i2l, 1) := by decide +kernel
theorem dL_room_9 : decode cL_room 9 = .ok (.lastore, 1) := by decide +kernel
theorem dL_room_10 : decode cL_room 10 = .ok (.goto 7, 3) := by decide +kernel
theorem dL_room_13 : decode cL_room 13 = .ok (.astore 4, 2) := by decide +kernel
theorem dL_room_15 : decode cL_room 15 = .ok (.iconst 1, 1) := by decide +kernel
theorem dL_room_16 : decode cL_room 16 = .ok (.ireturn, 1) := by decide +kernel
theorem dL_room_17 : decode cL_room 17 = .ok (.iconst 0, 1) := by decide +kernel
theorem dL_room_18 : decode cL_room 18 = .ok (.ireturn, 1) := by decide +kernel
theorem dL_limit_0 : decode cL_limit 0 = .ok (.aload_n 2, 1) := by decide +kernel
theorem dL_limit_1 : decode cL_limit 1 = .ok (.iconst 0, 1) := by decide +kernel
theorem dL_limit_2 : decode cL_limit 2 = .ok (.aload_n 0, 1) := by decide +kernel
theorem dL_limit_3 : decode cL_limit 3 = .ok (.iload_n 1, 1) := by decide +kernel
theorem dL_limit_4 : decode cL_limit 4 = .ok (.invokevirtual 31, 3) := by decide +kernel
theorem dL_limit_7 : decode cL_limit 7 = .ok (.i2l, 1) := by decide +kernel
theorem dL_limit_8 : decode cL_limit 8 = .ok (.lastore, 1) := by decide +kernel
theorem dL_limit_9 : decode cL_limit 9 = .ok (.goto 6, 3) := by decide +kernel
theorem dL_limit_12 : decode cL_limit 12 = .ok (.astore_n 3, 1) := by decide +kernel
theorem dL_limit_13 : decode cL_limit 13 = .ok (.iconst 1, 1) := by decide +kernel
theorem dL_limit_14 : decode cL_limit 14 = .ok (.ireturn, 1) := by decide +kernel
theorem dL_limit_15 : decode cL_limit 15 = .ok (.iconst 0, 1) := by decide +kernel
theorem dL_limit_16 : decode cL_limit 16 = .ok (.ireturn, 1) := by decide +kernel
theorem dL_way_0 : decode cL_way 0 = .ok (.aload_n 2, 1) := by decide +kernel
theorem dL_way_1 : decode cL_way 1 = .ok (.iconst 0, 1) := by decide +kernel
theorem dL_way_2 : decode cL_way 2 = .ok (.aload_n 0, 1) := by decide +kernel
theorem dL_way_3 : decode cL_way 3 = .ok (.iload_n 1, 1) := by decide +kernel
theorem dL_way_4 : decode cL_way 4 = .ok (.invokevirtual 35, 3) := by decide +kernel
theorem dL_way_7 : decode cL_way 7 = .ok (.i2l, 1) := by decide +kernel
theorem dL_way_8 : decode cL_way 8 = .ok (.lastore, 1) := by decide +kernel
theorem dL_way_9 : decode cL_way 9 = .ok (.goto 6, 3) := by decide +kernel
theorem dL_way_12 : decode cL_way 12 = .ok (.astore_n 3, 1) := by decide +kernel
theorem dL_way_13 : decode cL_way 13 = .ok (.iconst 1, 1) := by decide +kernel
theorem dL_way_14 : decode cL_way 14 = .ok (.ireturn, 1) := by decide +kernel
theorem dL_way_15 : decode cL_way 15 = .ok (.iconst 0, 1) := by decide +kernel
theorem dL_way_16 : decode cL_way 16 = .ok (.ireturn, 1) := by decide +kernel
theorem dL_way2_0 : decode cL_way2 0 = .ok (.aload_n 3, 1) := by decide +kernel
theorem dL_way2_1 : decode cL_way2 1 = .ok (.iconst 0, 1) := by decide +kernel
theorem dL_way2_2 : decode cL_way2 2 = .ok (.aload_n 0, 1) := by decide +kernel
theorem dL_way2_3 : decode cL_way2 3 = .ok (.iload_n 1, 1) := by decide +kernel
theorem dL_way2_4 : decode cL_way2 4 = .ok (.iload_n 2, 1) := by decide +kernel
theorem dL_way2_5 : decode cL_way2 5 = .ok (.invokevirtual 38, 3) := by decide +kernel
theorem dL_way2_8 : decode cL_way2 8 = .ok (.i2l, 1) := by decide +kernel
theorem dL_way2_9 : decode cL_way2 9 = .ok (.lastore, 1) := by decide +kernel
theorem dL_way2_10 : decode cL_way2 10 = .ok (.goto 7, 3) := by decide +kernel
theorem dL_way2_13 : decode cL_way2 13 = .ok (.astore 4, 2) := by decide +kernel
theorem dL_way2_15 : decode cL_way2 15 = .ok (.iconst 1, 1) := by decide +kernel
theorem dL_way2_16 : decode cL_way2 16 = .ok (.ireturn, 1) := by decide +kernel
theorem dL_way2_17 : decode cL_way2 17 = .ok (.iconst 0, 1) := by decide +kernel
theorem dL_way2_18 : decode cL_way2 18 = .ok (.ireturn, 1) := by decide +kernel
theorem dL_chosen_0 : decode cL_chosen 0 = .ok (.aload_n 2, 1) := by decide +kernel
theorem dL_chosen_1 : decode cL_chosen 1 = .ok (.iconst 0, 1) := by decide +kernel
theorem dL_chosen_2 : decode cL_chosen 2 = .ok (.aload_n 0, 1) := by decide +kernel
theorem dL_chosen_3 : decode cL_chosen 3 = .ok (.iload_n 1, 1) := by decide +kernel
theorem dL_chosen_4 : decode cL_chosen 4 = .ok (.invokevirtual 40, 3) := by decide +kernel
theorem dL_chosen_7 : decode cL_chosen 7 = .ok (.i2l, 1) := by decide +kernel
theorem dL_chosen_8 : decode cL_chosen 8 = .ok (.lastore, 1) := by decide +kernel
theorem dL_chosen_9 : decode cL_chosen 9 = .ok (.goto 6, 3) := by decide +kernel
theorem dL_chosen_12 : decode cL_chosen 12 = .ok (.astore_n 3, 1) := by decide +kernel
theorem dL_chosen_13 : decode cL_chosen 13 = .ok (.iconst 1, 1) := by decide +kernel
theorem dL_chosen_14 : decode cL_chosen 14 = .ok (.ireturn, 1) := by decide +kernel
theorem dL_chosen_15 : decode cL_chosen 15 = .ok (.iconst 0, 1) := by decide +kernel
theorem dL_chosen_16 : decode cL_chosen 16 = .ok (.ireturn, 1) := by decide +kernel
theorem dL_told_0 : decode cL_told 0 = .ok (.aload_n 3, 1) := by decide +kernel
theorem dL_told_1 : decode cL_told 1 = .ok (.iconst 0, 1) := by decide +kernel
theorem dL_told_2 : decode cL_told 2 = .ok (.aload_n 0, 1) := by decide +kernel
theorem dL_told_3 : decode cL_told 3 = .ok (.iload_n 1, 1) := by decide +kernel
theorem dL_told_4 : decode cL_told 4 = .ok (.iload_n 2, 1) := by decide +kernel
theorem dL_told_5 : decode cL_told 5 = .ok (.invokevirtual 43, 3) := by decide +kernel
theorem dL_told_8 : decode cL_told 8 = .ok (.i2l, 1) := by decide +kernel
theorem dL_told_9 : decode cL_told 9 = .ok (.lastore, 1) := by decide +kernel
theorem dL_told_10 : decode cL_told 10 = .ok (.goto 7, 3) := by decide +kernel
theorem dL_told_13 : decode cL_told 13 = .ok (.astore 4, 2) := by decide +kernel
theorem dL_told_15 : decode cL_told 15 = .ok (.iconst 1, 1) := by decide +kernel
theorem dL_told_16 : decode cL_told 16 = .ok (.ireturn, 1) := by decide +kernel
theorem dL_told_17 : decode cL_told 17 = .ok (.iconst 0, 1) := by decide +kernel
theorem dL_told_18 : decode cL_told 18 = .ok (.ireturn, 1) := by decide +kernel
theorem dL_cableAt_0 : decode cL_cableAt 0 = .ok (.aload_n 3, 1) := by decide +kernel
theorem dL_cableAt_1 : decode cL_cableAt 1 = .ok (.iconst 0, 1) := by decide +kernel
theorem dL_cableAt_2 : decode cL_cableAt 2 = .ok (.aload_n 0, 1) := by decide +kernel
theorem dL_cableAt_3 : decode cL_cableAt 3 = .ok (.iload_n 1, 1) := by decide +kernel
theorem dL_cableAt_4 : decode cL_cableAt 4 = .ok (.iload_n 2, 1) := by decide +kernel
theorem dL_cableAt_5 : decode cL_cableAt 5 = .ok (.invokevirtual 46, 3) := by decide +kernel
theorem dL_cableAt_8 : decode cL_cableAt 8 = .ok (.i2l, 1) := by decide +kernel
theorem dL_cableAt_9 : decode cL_cableAt 9 = .ok (.lastore, 1) := by decide +kernel
theorem dL_cableAt_10 : decode cL_cableAt 10 = .ok (.goto 7, 3) := by decide +kernel
theorem dL_cableAt_13 : decode cL_cableAt 13 = .ok (.astore 4, 2) := by decide +kernel
theorem dL_cableAt_15 : decode cL_cableAt 15 = .ok (.iconst 1, 1) := by decide +kernel
theorem dL_cableAt_16 : decode cL_cableAt 16 = .ok (.ireturn, 1) := by decide +kernel
theorem dL_cableAt_17 : decode cL_cableAt 17 = .ok (.iconst 0, 1) := by decide +kernel
theorem dL_cableAt_18 : decode cL_cableAt 18 = .ok (.ireturn, 1) := by decide +kernel
theorem dL_right_0 : decode cL_right 0 = .ok (.aload_n 3, 1) := by decide +kernel
theorem dL_right_1 : decode cL_right 1 = .ok (.iconst 0, 1) := by decide +kernel
theorem dL_right_2 : decode cL_right 2 = .ok (.aload_n 0, 1) := by decide +kernel
theorem dL_right_3 : decode cL_right 3 = .ok (.lload_n 1, 1) := by decide +kernel
theorem dL_right_4 : decode cL_right 4 = .ok (.invokevirtual 49, 3) := by decide +kernel
theorem dL_right_7 : decode cL_right 7 = .ok (.ifCond .eq 7, 3) := by decide +kernel
theorem dL_right_10 : decode cL_right 10 = .ok (.lconst 1, 1) := by decide +kernel
theorem dL_right_11 : decode cL_right 11 = .ok (.goto 4, 3) := by decide +kernel
theorem dL_right_14 : decode cL_right 14 = .ok (.lconst 0, 1) := by decide +kernel
theorem dL_right_15 : decode cL_right 15 = .ok (.lastore, 1) := by decide +kernel
theorem dL_right_16 : decode cL_right 16 = .ok (.goto 7, 3) := by decide +kernel
theorem dL_right_19 : decode cL_right 19 = .ok (.astore 4, 2) := by decide +kernel
theorem dL_right_21 : decode cL_right 21 = .ok (.iconst 1, 1) := by decide +kernel
theorem dL_right_22 : decode cL_right 22 = .ok (.ireturn, 1) := by decide +kernel
theorem dL_right_23 : decode cL_right 23 = .ok (.iconst 0, 1) := by decide +kernel
theorem dL_right_24 : decode cL_right 24 = .ok (.ireturn, 1) := by decide +kernel
theorem dL_law_0 : decode cL_law 0 = .ok (.new 8, 3) := by decide +kernel
theorem dL_law_3 : decode cL_law 3 = .ok (.dup, 1) := by decide +kernel
theorem dL_law_4 : decode cL_law 4 = .ok (.invokespecial 53, 3) := by decide +kernel
theorem dL_law_7 : decode cL_law 7 = .ok (.astore_n 1, 1) := by decide +kernel
theorem dL_law_8 : decode cL_law 8 = .ok (.new 54, 3) := by decide +kernel
theorem dL_law_11 : decode cL_law 11 = .ok (.dup, 1) := by decide +kernel
theorem dL_law_12 : decode cL_law 12 = .ok (.invokespecial 56, 3) := by decide +kernel
theorem dL_law_15 : decode cL_law 15 = .ok (.astore_n 2, 1) := by decide +kernel
theorem dL_law_16 : decode cL_law 16 = .ok (.iconst 1, 1) := by decide +kernel
theorem dL_law_17 : decode cL_law 17 = .ok (.newarray .long, 2) := by decide +kernel
theorem dL_law_19 : decode cL_law 19 = .ok (.astore_n 3, 1) := by decide +kernel
theorem dL_law_20 : decode cL_law 20 = .ok (.iconst 0, 1) := by decide +kernel
theorem dL_law_21 : decode cL_law 21 = .ok (.istore 4, 2) := by decide +kernel
theorem dL_law_23 : decode cL_law 23 = .ok (.iload 4, 2) := by decide +kernel
theorem dL_law_25 : decode cL_law 25 = .ok (.aload_n 0, 1) := by decide +kernel
theorem dL_law_26 : decode cL_law 26 = .ok (.arraylength, 1) := by decide +kernel
theorem dL_law_27 : decode cL_law 27 = .ok (.iconst 5, 1) := by decide +kernel
theorem dL_law_28 : decode cL_law 28 = .ok (.isub, 1) := by decide +kernel
theorem dL_law_29 : decode cL_law 29 = .ok (.if_icmp .gt 966, 3) := by decide +kernel
theorem dL_law_32 : decode cL_law 32 = .ok (.aload_n 0, 1) := by decide +kernel
theorem dL_law_33 : decode cL_law 33 = .ok (.iload 4, 2) := by decide +kernel
theorem dL_law_35 : decode cL_law 35 = .ok (.iaload, 1) := by decide +kernel
theorem dL_law_36 : decode cL_law 36 = .ok (.bipush 15, 2) := by decide +kernel
theorem dL_law_38 : decode cL_law 38 = .ok (.iand, 1) := by decide +kernel
theorem dL_law_39 : decode cL_law 39 = .ok (.tableswitch 950 0 13 #[69, 161, 241, 321, 389, 457, 513, 569, 637, 650, 706, 774, 842, 855], 69) := by decide +kernel
theorem dL_law_108 : decode cL_law 108 = .ok (.aload_n 1, 1) := by decide +kernel
theorem dL_law_109 : decode cL_law 109 = .ok (.aload_n 0, 1) := by decide +kernel
theorem dL_law_110 : decode cL_law 110 = .ok (.iload 4, 2) := by decide +kernel
theorem dL_law_112 : decode cL_law 112 = .ok (.iconst 1, 1) := by decide +kernel
theorem dL_law_113 : decode cL_law 113 = .ok (.iadd, 1) := by decide +kernel
theorem dL_law_114 : decode cL_law 114 = .ok (.iaload, 1) := by decide +kernel
theorem dL_law_115 : decode cL_law 115 = .ok (.aload_n 0, 1) := by decide +kernel
theorem dL_law_116 : decode cL_law 116 = .ok (.iload 4, 2) := by decide +kernel
theorem dL_law_118 : decode cL_law 118 = .ok (.iconst 2, 1) := by decide +kernel
theorem dL_law_119 : decode cL_law 119 = .ok (.iadd, 1) := by decide +kernel
theorem dL_law_120 : decode cL_law 120 = .ok (.iaload, 1) := by decide +kernel
theorem dL_law_121 : decode cL_law 121 = .ok (.aload_n 0, 1) := by decide +kernel
theorem dL_law_122 : decode cL_law 122 = .ok (.iload 4, 2) := by decide +kernel
theorem dL_law_124 : decode cL_law 124 = .ok (.iconst 3, 1) := by decide +kernel
theorem dL_law_125 : decode cL_law 125 = .ok (.iadd, 1) := by decide +kernel
theorem dL_law_126 : decode cL_law 126 = .ok (.iaload, 1) := by decide +kernel
theorem dL_law_127 : decode cL_law 127 = .ok (.aload_n 0, 1) := by decide +kernel
theorem dL_law_128 : decode cL_law 128 = .ok (.iload 4, 2) := by decide +kernel
theorem dL_law_130 : decode cL_law 130 = .ok (.iconst 4, 1) := by decide +kernel
theorem dL_law_131 : decode cL_law 131 = .ok (.iadd, 1) := by decide +kernel
theorem dL_law_132 : decode cL_law 132 = .ok (.iaload, 1) := by decide +kernel
theorem dL_law_133 : decode cL_law 133 = .ok (.aload_n 3, 1) := by decide +kernel
theorem dL_law_134 : decode cL_law 134 = .ok (.invokestatic 57, 3) := by decide +kernel
theorem dL_law_137 : decode cL_law 137 = .ok (.istore 5, 2) := by decide +kernel
theorem dL_law_139 : decode cL_law 139 = .ok (.aload_n 2, 1) := by decide +kernel
theorem dL_law_140 : decode cL_law 140 = .ok (.aload_n 0, 1) := by decide +kernel
theorem dL_law_141 : decode cL_law 141 = .ok (.iload 4, 2) := by decide +kernel
theorem dL_law_143 : decode cL_law 143 = .ok (.iconst 1, 1) := by decide +kernel
theorem dL_law_144 : decode cL_law 144 = .ok (.iadd, 1) := by decide +kernel
theorem dL_law_145 : decode cL_law 145 = .ok (.iaload, 1) := by decide +kernel
theorem dL_law_146 : decode cL_law 146 = .ok (.aload_n 0, 1) := by decide +kernel
theorem dL_law_147 : decode cL_law 147 = .ok (.iload 4, 2) := by decide +kernel
theorem dL_law_149 : decode cL_law 149 = .ok (.iconst 2, 1) := by decide +kernel
theorem dL_law_150 : decode cL_law 150 = .ok (.iadd, 1) := by decide +kernel
theorem dL_law_151 : decode cL_law 151 = .ok (.iaload, 1) := by decide +kernel
theorem dL_law_152 : decode cL_law 152 = .ok (.aload_n 0, 1) := by decide +kernel
theorem dL_law_153 : decode cL_law 153 = .ok (.iload 4, 2) := by decide +kernel
theorem dL_law_155 : decode cL_law 155 = .ok (.iconst 3, 1) := by decide +kernel
theorem dL_law_156 : decode cL_law 156 = .ok (.iadd, 1) := by decide +kernel
theorem dL_law_157 : decode cL_law 157 = .ok (.iaload, 1) := by decide +kernel
theorem dL_law_158 : decode cL_law 158 = .ok (.aload_n 0, 1) := by decide +kernel
theorem dL_law_159 : decode cL_law 159 = .ok (.iload 4, 2) := by decide +kernel
theorem dL_law_161 : decode cL_law 161 = .ok (.iconst 4, 1) := by decide +kernel
theorem dL_law_162 : decode cL_law 162 = .ok (.iadd, 1) := by decide +kernel
theorem dL_law_163 : decode cL_law 163 = .ok (.iaload, 1) := by decide +kernel
theorem dL_law_164 : decode cL_law 164 = .ok (.invokevirtual 62, 3) := by decide +kernel
theorem dL_law_167 : decode cL_law 167 = .ok (.istore 6, 2) := by decide +kernel
theorem dL_law_169 : decode cL_law 169 = .ok (.aload_n 2, 1) := by decide +kernel
theorem dL_law_170 : decode cL_law 170 = .ok (.invokevirtual 63, 3) := by decide +kernel
theorem dL_law_173 : decode cL_law 173 = .ok (.iload 5, 2) := by decide +kernel
theorem dL_law_175 : decode cL_law 175 = .ok (.if_icmp .eq 5, 3) := by decide +kernel
theorem dL_law_178 : decode cL_law 178 = .ok (.iconst 0, 1) := by decide +kernel
theorem dL_law_179 : decode cL_law 179 = .ok (.ireturn, 1) := by decide +kernel
theorem dL_law_180 : decode cL_law 180 = .ok (.iload 5, 2) := by decide +kernel
theorem dL_law_182 : decode cL_law 182 = .ok (.ifCond .ne 15, 3) := by decide +kernel
theorem dL_law_185 : decode cL_law 185 = .ok (.aload_n 3, 1) := by decide +kernel
theorem dL_law_186 : decode cL_law 186 = .ok (.iconst 0, 1) := by decide +kernel
theorem dL_law_187 : decode cL_law 187 = .ok (.laload, 1) := by decide +kernel
theorem dL_law_188 : decode cL_law 188 = .ok (.iload 6, 2) := by decide +kernel
theorem dL_law_190 : decode cL_law 190 = .ok (.i2l, 1) := by decide +kernel
theorem dL_law_191 : decode cL_law 191 = .ok (.lcmp, 1) := by decide +kernel
theorem dL_law_192 : decode cL_law 192 = .ok (.ifCond .eq 5, 3) := by decide +kernel
theorem dL_law_195 : decode cL_law 195 = .ok (.iconst 0, 1) := by decide +kernel
theorem dL_law_196 : decode cL_law 196 = .ok (.ireturn, 1) := by decide +kernel
theorem dL_law_197 : decode cL_law 197 = .ok (.goto 792, 3) := by decide +kernel
theorem dL_law_200 : decode cL_law 200 = .ok (.aload_n 1, 1) := by decide +kernel
theorem dL_law_201 : decode cL_law 201 = .ok (.aload_n 0, 1) := by decide +kernel
theorem dL_law_202 : decode cL_law 202 = .ok (.iload 4, 2) := by decide +kernel
theorem dL_law_204 : decode cL_law 204 = .ok (.iconst 1, 1) := by decide +kernel
theorem dL_law_205 : decode cL_law 205 = .ok (.iadd, 1) := by decide +kernel
theorem dL_law_206 : decode cL_law 206 = .ok (.iaload, 1) := by decide +kernel
theorem dL_law_207 : decode cL_law 207 = .ok (.aload_n 0, 1) := by decide +kernel
theorem dL_law_208 : decode cL_law 208 = .ok (.iload 4, 2) := by decide +kernel
theorem dL_law_210 : decode cL_law 210 = .ok (.iconst 2, 1) := by decide +kernel
theorem dL_law_211 : decode cL_law 211 = .ok (.iadd, 1) := by decide +kernel
theorem dL_law_212 : decode cL_law 212 = .ok (.iaload, 1) := by decide +kernel
theorem dL_law_213 : decode cL_law 213 = .ok (.aload_n 0, 1) := by decide +kernel
theorem dL_law_214 : decode cL_law 214 = .ok (.iload 4, 2) := by decide +kernel
theorem dL_law_216 : decode cL_law 216 = .ok (.iconst 3, 1) := by decide +kernel
theorem dL_law_217 : decode cL_law 217 = .ok (.iadd, 1) := by decide +kernel
theorem dL_law_218 : decode cL_law 218 = .ok (.iaload, 1) := by decide +kernel
theorem dL_law_219 : decode cL_law 219 = .ok (.aload_n 3, 1) := by decide +kernel
theorem dL_law_220 : decode cL_law 220 = .ok (.invokestatic 67, 3) := by decide +kernel
theorem dL_law_223 : decode cL_law 223 = .ok (.istore 5, 2) := by decide +kernel
theorem dL_law_225 : decode cL_law 225 = .ok (.aload_n 2, 1) := by decide +kernel
theorem dL_law_226 : decode cL_law 226 = .ok (.aload_n 0, 1) := by decide +kernel
theorem dL_law_227 : decode cL_law 227 = .ok (.iload 4, 2) := by decide +kernel
theorem dL_law_229 : decode cL_law 229 = .ok (.iconst 1, 1) := by decide +kernel
theorem dL_law_230 : decode cL_law 230 = .ok (.iadd, 1) := by decide +kernel
theorem dL_law_231 : decode cL_law 231 = .ok (.iaload, 1) := by decide +kernel
theorem dL_law_232 : decode cL_law 232 = .ok (.aload_n 0, 1) := by decide +kernel
theorem dL_law_233 : decode cL_law 233 = .ok (.iload 4, 2) := by decide +kernel
theorem dL_law_235 : decode cL_law 235 = .ok (.iconst 2, 1) := by decide +kernel
theorem dL_law_236 : decode cL_law 236 = .ok (.iadd, 1) := by decide +kernel
theorem dL_law_237 : decode cL_law 237 = .ok (.iaload, 1) := by decide +kernel
theorem dL_law_238 : decode cL_law 238 = .ok (.aload_n 0, 1) := by decide +kernel
theorem dL_law_239 : decode cL_law 239 = .ok (.iload 4, 2) := by decide +kernel
theorem dL_law_241 : decode cL_law 241 = .ok (.iconst 3, 1) := by decide +kernel
theorem dL_law_242 : decode cL_law 242 = .ok (.iadd, 1) := by decide +kernel
theorem dL_law_243 : decode cL_law 243 = .ok (.iaload, 1) := by decide +kernel
theorem dL_law_244 : decode cL_law 244 = .ok (.invokevirtual 70, 3) := by decide +kernel
theorem dL_law_247 : decode cL_law 247 = .ok (.istore 6, 2) := by decide +kernel
theorem dL_law_249 : decode cL_law 249 = .ok (.aload_n 2, 1) := by decide +kernel
theorem dL_law_250 : decode cL_law 250 = .ok (.invokevirtual 63, 3) := by decide +kernel
theorem dL_law_253 : decode cL_law 253 = .ok (.iload 5, 2) := by decide +kernel
theorem dL_law_255 : decode cL_law 255 = .ok (.if_icmp .eq 5, 3) := by decide +kernel
theorem dL_law_258 : decode cL_law 258 = .ok (.iconst 0, 1) := by decide +kernel
theorem dL_law_259 : decode cL_law 259 = .ok (.ireturn, 1) := by decide +kernel
theorem dL_law_260 : decode cL_law 260 = .ok (.iload 5, 2) := by decide +kernel
theorem dL_law_262 : decode cL_law 262 = .ok (.ifCond .ne 15, 3) := by decide +kernel
theorem dL_law_265 : decode cL_law 265 = .ok (.aload_n 3, 1) := by decide +kernel
theorem dL_law_266 : decode cL_law 266 = .ok (.iconst 0, 1) := by decide +kernel
theorem dL_law_267 : decode cL_law 267 = .ok (.laload, 1) := by decide +kernel
theorem dL_law_268 : decode cL_law 268 = .ok (.iload 6, 2) := by decide +kernel
theorem dL_law_270 : decode cL_law 270 = .ok (.i2l, 1) := by decide +kernel
theorem dL_law_271 : decode cL_law 271 = .ok (.lcmp, 1) := by decide +kernel
theorem dL_law_272 : decode cL_law 272 = .ok (.ifCond .eq 5, 3) := by decide +kernel
theorem dL_law_275 : decode cL_law 275 = .ok (.iconst 0, 1) := by decide +kernel
theorem dL_law_276 : decode cL_law 276 = .ok (.ireturn, 1) := by decide +kernel
theorem dL_law_277 : decode cL_law 277 = .ok (.goto 712, 3) := by decide +kernel
theorem dL_law_280 : decode cL_law 280 = .ok (.aload_n 1, 1) := by decide +kernel
theorem dL_law_281 : decode cL_law 281 = .ok (.aload_n 0, 1) := by decide +kernel
theorem dL_law_282 : decode cL_law 282 = .ok (.iload 4, 2) := by decide +kernel
theorem dL_law_284 : decode cL_law 284 = .ok (.iconst 1, 1) := by decide +kernel
theorem dL_law_285 : decode cL_law 285 = .ok (.iadd, 1) := by decide +kernel
theorem dL_law_286 : decode cL_law 286 = .ok (.iaload, 1) := by decide +kernel
theorem dL_law_287 : decode cL_law 287 = .ok (.aload_n 0, 1) := by decide +kernel
theorem dL_law_288 : decode cL_law 288 = .ok (.iload 4, 2) := by decide +kernel
theorem dL_law_290 : decode cL_law 290 = .ok (.iconst 2, 1) := by decide +kernel
theorem dL_law_291 : decode cL_law 291 = .ok (.iadd, 1) := by decide +kernel
theorem dL_law_292 : decode cL_law 292 = .ok (.iaload, 1) := by decide +kernel
theorem dL_law_293 : decode cL_law 293 = .ok (.aload_n 0, 1) := by decide +kernel
theorem dL_law_294 : decode cL_law 294 = .ok (.iload 4, 2) := by decide +kernel
theorem dL_law_296 : decode cL_law 296 = .ok (.iconst 3, 1) := by decide +kernel
theorem dL_law_297 : decode cL_law 297 = .ok (.iadd, 1) := by decide +kernel
theorem dL_law_298 : decode cL_law 298 = .ok (.iaload, 1) := by decide +kernel
theorem dL_law_299 : decode cL_law 299 = .ok (.aload_n 3, 1) := by decide +kernel
theorem dL_law_300 : decode cL_law 300 = .ok (.invokestatic 71, 3) := by decide +kernel
theorem dL_law_303 : decode cL_law 303 = .ok (.istore 5, 2) := by decide +kernel
theorem dL_law_305 : decode cL_law 305 = .ok (.aload_n 2, 1) := by decide +kernel
theorem dL_law_306 : decode cL_law 306 = .ok (.aload_n 0, 1) := by decide +kernel
theorem dL_law_307 : decode cL_law 307 = .ok (.iload 4, 2) := by decide +kernel
theorem dL_law_309 : decode cL_law 309 = .ok (.iconst 1, 1) := by decide +kernel
theorem dL_law_310 : decode cL_law 310 = .ok (.iadd, 1) := by decide +kernel
theorem dL_law_311 : decode cL_law 311 = .ok (.iaload, 1) := by decide +kernel
theorem dL_law_312 : decode cL_law 312 = .ok (.aload_n 0, 1) := by decide +kernel
theorem dL_law_313 : decode cL_law 313 = .ok (.iload 4, 2) := by decide +kernel
theorem dL_law_315 : decode cL_law 315 = .ok (.iconst 2, 1) := by decide +kernel
theorem dL_law_316 : decode cL_law 316 = .ok (.iadd, 1) := by decide +kernel
theorem dL_law_317 : decode cL_law 317 = .ok (.iaload, 1) := by decide +kernel
theorem dL_law_318 : decode cL_law 318 = .ok (.aload_n 0, 1) := by decide +kernel
theorem dL_law_319 : decode cL_law 319 = .ok (.iload 4, 2) := by decide +kernel
theorem dL_law_321 : decode cL_law 321 = .ok (.iconst 3, 1) := by decide +kernel
theorem dL_law_322 : decode cL_law 322 = .ok (.iadd, 1) := by decide +kernel
theorem dL_law_323 : decode cL_law 323 = .ok (.iaload, 1) := by decide +kernel
theorem dL_law_324 : decode cL_law 324 = .ok (.invokevirtual 73, 3) := by decide +kernel
theorem dL_law_327 : decode cL_law 327 = .ok (.istore 6, 2) := by decide +kernel
theorem dL_law_329 : decode cL_law 329 = .ok (.aload_n 2, 1) := by decide +kernel
theorem dL_law_330 : decode cL_law 330 = .ok (.invokevirtual 63, 3) := by decide +kernel
theorem dL_law_333 : decode cL_law 333 = .ok (.iload 5, 2) := by decide +kernel
theorem dL_law_335 : decode cL_law 335 = .ok (.if_icmp .eq 5, 3) := by decide +kernel
theorem dL_law_338 : decode cL_law 338 = .ok (.iconst 0, 1) := by decide +kernel
theorem dL_law_339 : decode cL_law 339 = .ok (.ireturn, 1) := by decide +kernel
theorem dL_law_340 : decode cL_law 340 = .ok (.iload 5, 2) := by decide +kernel
theorem dL_law_342 : decode cL_law 342 = .ok (.ifCond .ne 15, 3) := by decide +kernel
theorem dL_law_345 : decode cL_law 345 = .ok (.aload_n 3, 1) := by decide +kernel
theorem dL_law_346 : decode cL_law 346 = .ok (.iconst 0, 1) := by decide +kernel
theorem dL_law_347 : decode cL_law 347 = .ok (.laload, 1) := by decide +kernel
theorem dL_law_348 : decode cL_law 348 = .ok (.iload 6, 2) := by decide +kernel
theorem dL_law_350 : decode cL_law 350 = .ok (.i2l, 1) := by decide +kernel
theorem dL_law_351 : decode cL_law 351 = .ok (.lcmp, 1) := by decide +kernel
theorem dL_law_352 : decode cL_law 352 = .ok (.ifCond .eq 5, 3) := by decide +kernel
theorem dL_law_355 : decode cL_law 355 = .ok (.iconst 0, 1) := by decide +kernel
theorem dL_law_356 : decode cL_law 356 = .ok (.ireturn, 1) := by decide +kernel
theorem dL_law_357 : decode cL_law 357 = .ok (.goto 632, 3) := by decide +kernel
theorem dL_law_360 : decode cL_law 360 = .ok (.aload_n 1, 1) := by decide +kernel
theorem dL_law_361 : decode cL_law 361 = .ok (.aload_n 0, 1) := by decide +kernel
theorem dL_law_362 : decode cL_law 362 = .ok (.iload 4, 2) := by decide +kernel
theorem dL_law_364 : decode cL_law 364 = .ok (.iconst 1, 1) := by decide +kernel
theorem dL_law_365 : decode cL_law 365 = .ok (.iadd, 1) := by decide +kernel
theorem dL_law_366 : decode cL_law 366 = .ok (.iaload, 1) := by decide +kernel
theorem dL_law_367 : decode cL_law 367 = .ok (.aload_n 0, 1) := by decide +kernel
theorem dL_law_368 : decode cL_law 368 = .ok (.iload 4, 2) := by decide +kernel
theorem dL_law_370 : decode cL_law 370 = .ok (.iconst 2, 1) := by decide +kernel
theorem dL_law_371 : decode cL_law 371 = .ok (.iadd, 1) := by decide +kernel
theorem dL_law_372 : decode cL_law 372 = .ok (.iaload, 1) := by decide +kernel
theorem dL_law_373 : decode cL_law 373 = .ok (.aload_n 3, 1) := by decide +kernel
theorem dL_law_374 : decode cL_law 374 = .ok (.invokestatic 74, 3) := by decide +kernel
theorem dL_law_377 : decode cL_law 377 = .ok (.istore 5, 2) := by decide +kernel
theorem dL_law_379 : decode cL_law 379 = .ok (.aload_n 2, 1) := by decide +kernel
theorem dL_law_380 : decode cL_law 380 = .ok (.aload_n 0, 1) := by decide +kernel
theorem dL_law_381 : decode cL_law 381 = .ok (.iload 4, 2) := by decide +kernel
theorem dL_law_383 : decode cL_law 383 = .ok (.iconst 1, 1) := by decide +kernel
theorem dL_law_384 : decode cL_law 384 = .ok (.iadd, 1) := by decide +kernel
theorem dL_law_385 : decode cL_law 385 = .ok (.iaload, 1) := by decide +kernel
theorem dL_law_386 : decode cL_law 386 = .ok (.aload_n 0, 1) := by decide +kernel
theorem dL_law_387 : decode cL_law 387 = .ok (.iload 4, 2) := by decide +kernel
theorem dL_law_389 : decode cL_law 389 = .ok (.iconst 2, 1) := by decide +kernel
theorem dL_law_390 : decode cL_law 390 = .ok (.iadd, 1) := by decide +kernel
theorem dL_law_391 : decode cL_law 391 = .ok (.iaload, 1) := by decide +kernel
theorem dL_law_392 : decode cL_law 392 = .ok (.invokevirtual 77, 3) := by decide +kernel
theorem dL_law_395 : decode cL_law 395 = .ok (.istore 6, 2) := by decide +kernel
theorem dL_law_397 : decode cL_law 397 = .ok (.aload_n 2, 1) := by decide +kernel
theorem dL_law_398 : decode cL_law 398 = .ok (.invokevirtual 63, 3) := by decide +kernel
theorem dL_law_401 : decode cL_law 401 = .ok (.iload 5, 2) := by decide +kernel
theorem dL_law_403 : decode cL_law 403 = .ok (.if_icmp .eq 5, 3) := by decide +kernel
theorem dL_law_406 : decode cL_law 406 = .ok (.iconst 0, 1) := by decide +kernel
theorem dL_law_407 : decode cL_law 407 = .ok (.ireturn, 1) := by decide +kernel
theorem dL_law_408 : decode cL_law 408 = .ok (.iload 5, 2) := by decide +kernel
theorem dL_law_410 : decode cL_law 410 = .ok (.ifCond .ne 15, 3) := by decide +kernel
theorem dL_law_413 : decode cL_law 413 = .ok (.aload_n 3, 1) := by decide +kernel
theorem dL_law_414 : decode cL_law 414 = .ok (.iconst 0, 1) := by decide +kernel
theorem dL_law_415 : decode cL_law 415 = .ok (.laload, 1) := by decide +kernel
theorem dL_law_416 : decode cL_law 416 = .ok (.iload 6, 2) := by decide +kernel
theorem dL_law_418 : decode cL_law 418 = .ok (.i2l, 1) := by decide +kernel
theorem dL_law_419 : decode cL_law 419 = .ok (.lcmp, 1) := by decide +kernel
theorem dL_law_420 : decode cL_law 420 = .ok (.ifCond .eq 5, 3) := by decide +kernel
theorem dL_law_423 : decode cL_law 423 = .ok (.iconst 0, 1) := by decide +kernel
theorem dL_law_424 : decode cL_law 424 = .ok (.ireturn, 1) := by decide +kernel
theorem dL_law_425 : decode cL_law 425 = .ok (.goto 564, 3) := by decide +kernel
theorem dL_law_428 : decode cL_law 428 = .ok (.aload_n 1, 1) := by decide +kernel
theorem dL_law_429 : decode cL_law 429 = .ok (.aload_n 0, 1) := by decide +kernel
theorem dL_law_430 : decode cL_law 430 = .ok (.iload 4, 2) := by decide +kernel
theorem dL_law_432 : decode cL_law 432 = .ok (.iconst 1, 1) := by decide +kernel
theorem dL_law_433 : decode cL_law 433 = .ok (.iadd, 1) := by decide +kernel
theorem dL_law_434 : decode cL_law 434 = .ok (.iaload, 1) := by decide +kernel
theorem dL_law_435 : decode cL_law 435 = .ok (.aload_n 0, 1) := by decide +kernel
theorem dL_law_436 : decode cL_law 436 = .ok (.iload 4, 2) := by decide +kernel
theorem dL_law_438 : decode cL_law 438 = .ok (.iconst 2, 1) := by decide +kernel
theorem dL_law_439 : decode cL_law 439 = .ok (.iadd, 1) := by decide +kernel
theorem dL_law_440 : decode cL_law 440 = .ok (.iaload, 1) := by decide +kernel
theorem dL_law_441 : decode cL_law 441 = .ok (.aload_n 3, 1) := by decide +kernel
theorem dL_law_442 : decode cL_law 442 = .ok (.invokestatic 78, 3) := by decide +kernel
theorem dL_law_445 : decode cL_law 445 = .ok (.istore 5, 2) := by decide +kernel
theorem dL_law_447 : decode cL_law 447 = .ok (.aload_n 2, 1) := by decide +kernel
theorem dL_law_448 : decode cL_law 448 = .ok (.aload_n 0, 1) := by decide +kernel
theorem dL_law_449 : decode cL_law 449 = .ok (.iload 4, 2) := by decide +kernel
theorem dL_law_451 : decode cL_law 451 = .ok (.iconst 1, 1) := by decide +kernel
theorem dL_law_452 : decode cL_law 452 = .ok (.iadd, 1) := by decide +kernel
theorem dL_law_453 : decode cL_law 453 = .ok (.iaload, 1) := by decide +kernel
theorem dL_law_454 : decode cL_law 454 = .ok (.aload_n 0, 1) := by decide +kernel
theorem dL_law_455 : decode cL_law 455 = .ok (.iload 4, 2) := by decide +kernel
theorem dL_law_457 : decode cL_law 457 = .ok (.iconst 2, 1) := by decide +kernel
theorem dL_law_458 : decode cL_law 458 = .ok (.iadd, 1) := by decide +kernel
theorem dL_law_459 : decode cL_law 459 = .ok (.iaload, 1) := by decide +kernel
theorem dL_law_460 : decode cL_law 460 = .ok (.invokevirtual 80, 3) := by decide +kernel
theorem dL_law_463 : decode cL_law 463 = .ok (.istore 6, 2) := by decide +kernel
theorem dL_law_465 : decode cL_law 465 = .ok (.aload_n 2, 1) := by decide +kernel
theorem dL_law_466 : decode cL_law 466 = .ok (.invokevirtual 63, 3) := by decide +kernel
theorem dL_law_469 : decode cL_law 469 = .ok (.iload 5, 2) := by decide +kernel
theorem dL_law_471 : decode cL_law 471 = .ok (.if_icmp .eq 5, 3) := by decide +kernel
theorem dL_law_474 : decode cL_law 474 = .ok (.iconst 0, 1) := by decide +kernel
theorem dL_law_475 : decode cL_law 475 = .ok (.ireturn, 1) := by decide +kernel
theorem dL_law_476 : decode cL_law 476 = .ok (.iload 5, 2) := by decide +kernel
theorem dL_law_478 : decode cL_law 478 = .ok (.ifCond .ne 15, 3) := by decide +kernel
theorem dL_law_481 : decode cL_law 481 = .ok (.aload_n 3, 1) := by decide +kernel
theorem dL_law_482 : decode cL_law 482 = .ok (.iconst 0, 1) := by decide +kernel
theorem dL_law_483 : decode cL_law 483 = .ok (.laload, 1) := by decide +kernel
theorem dL_law_484 : decode cL_law 484 = .ok (.iload 6, 2) := by decide +kernel
theorem dL_law_486 : decode cL_law 486 = .ok (.i2l, 1) := by decide +kernel
theorem dL_law_487 : decode cL_law 487 = .ok (.lcmp, 1) := by decide +kernel
theorem dL_law_488 : decode cL_law 488 = .ok (.ifCond .eq 5, 3) := by decide +kernel
theorem dL_law_491 : decode cL_law 491 = .ok (.iconst 0, 1) := by decide +kernel
theorem dL_law_492 : decode cL_law 492 = .ok (.ireturn, 1) := by decide +kernel
theorem dL_law_493 : decode cL_law 493 = .ok (.goto 496, 3) := by decide +kernel
theorem dL_law_496 : decode cL_law 496 = .ok (.aload_n 1, 1) := by decide +kernel
theorem dL_law_497 : decode cL_law 497 = .ok (.aload_n 0, 1) := by decide +kernel
theorem dL_law_498 : decode cL_law 498 = .ok (.iload 4, 2) := by decide +kernel
theorem dL_law_500 : decode cL_law 500 = .ok (.iconst 1, 1) := by decide +kernel
theorem dL_law_501 : decode cL_law 501 = .ok (.iadd, 1) := by decide +kernel
theorem dL_law_502 : decode cL_law 502 = .ok (.iaload, 1) := by decide +kernel
theorem dL_law_503 : decode cL_law 503 = .ok (.aload_n 3, 1) := by decide +kernel
theorem dL_law_504 : decode cL_law 504 = .ok (.invokestatic 81, 3) := by decide +kernel
theorem dL_law_507 : decode cL_law 507 = .ok (.istore 5, 2) := by decide +kernel
theorem dL_law_509 : decode cL_law 509 = .ok (.aload_n 2, 1) := by decide +kernel
theorem dL_law_510 : decode cL_law 510 = .ok (.aload_n 0, 1) := by decide +kernel
theorem dL_law_511 : decode cL_law 511 = .ok (.iload 4, 2) := by decide +kernel
theorem dL_law_513 : decode cL_law 513 = .ok (.iconst 1, 1) := by decide +kernel
theorem dL_law_514 : decode cL_law 514 = .ok (.iadd, 1) := by decide +kernel
theorem dL_law_515 : decode cL_law 515 = .ok (.iaload, 1) := by decide +kernel
theorem dL_law_516 : decode cL_law 516 = .ok (.invokevirtual 84, 3) := by decide +kernel
theorem dL_law_519 : decode cL_law 519 = .ok (.istore 6, 2) := by decide +kernel
theorem dL_law_521 : decode cL_law 521 = .ok (.aload_n 2, 1) := by decide +kernel
theorem dL_law_522 : decode cL_law 522 = .ok (.invokevirtual 63, 3) := by decide +kernel
theorem dL_law_525 : decode cL_law 525 = .ok (.iload 5, 2) := by decide +kernel
theorem dL_law_527 : decode cL_law 527 = .ok (.if_icmp .eq 5, 3) := by decide +kernel
theorem dL_law_530 : decode cL_law 530 = .ok (.iconst 0, 1) := by decide +kernel
theorem dL_law_531 : decode cL_law 531 = .ok (.ireturn, 1) := by decide +kernel
theorem dL_law_532 : decode cL_law 532 = .ok (.iload 5, 2) := by decide +kernel
theorem dL_law_534 : decode cL_law 534 = .ok (.ifCond .ne 15, 3) := by decide +kernel
theorem dL_law_537 : decode cL_law 537 = .ok (.aload_n 3, 1) := by decide +kernel
theorem dL_law_538 : decode cL_law 538 = .ok (.iconst 0, 1) := by decide +kernel
theorem dL_law_539 : decode cL_law 539 = .ok (.laload, 1) := by decide +kernel
theorem dL_law_540 : decode cL_law 540 = .ok (.iload 6, 2) := by decide +kernel
theorem dL_law_542 : decode cL_law 542 = .ok (.i2l, 1) := by decide +kernel
theorem dL_law_543 : decode cL_law 543 = .ok (.lcmp, 1) := by decide +kernel
theorem dL_law_544 : decode cL_law 544 = .ok (.ifCond .eq 5, 3) := by decide +kernel
theorem dL_law_547 : decode cL_law 547 = .ok (.iconst 0, 1) := by decide +kernel
theorem dL_law_548 : decode cL_law 548 = .ok (.ireturn, 1) := by decide +kernel
theorem dL_law_549 : decode cL_law 549 = .ok (.goto 440, 3) := by decide +kernel
theorem dL_law_552 : decode cL_law 552 = .ok (.aload_n 1, 1) := by decide +kernel
theorem dL_law_553 : decode cL_law 553 = .ok (.aload_n 0, 1) := by decide +kernel
theorem dL_law_554 : decode cL_law 554 = .ok (.iload 4, 2) := by decide +kernel
theorem dL_law_556 : decode cL_law 556 = .ok (.iconst 1, 1) := by decide +kernel
theorem dL_law_557 : decode cL_law 557 = .ok (.iadd, 1) := by decide +kernel
theorem dL_law_558 : decode cL_law 558 = .ok (.iaload, 1) := by decide +kernel
theorem dL_law_559 : decode cL_law 559 = .ok (.aload_n 3, 1) := by decide +kernel
theorem dL_law_560 : decode cL_law 560 = .ok (.invokestatic 85, 3) := by decide +kernel
theorem dL_law_563 : decode cL_law 563 = .ok (.istore 5, 2) := by decide +kernel
theorem dL_law_565 : decode cL_law 565 = .ok (.aload_n 2, 1) := by decide +kernel
theorem dL_law_566 : decode cL_law 566 = .ok (.aload_n 0, 1) := by decide +kernel
theorem dL_law_567 : decode cL_law 567 = .ok (.iload 4, 2) := by decide +kernel
theorem dL_law_569 : decode cL_law 569 = .ok (.iconst 1, 1) := by decide +kernel
theorem dL_law_570 : decode cL_law 570 = .ok (.iadd, 1) := by decide +kernel
theorem dL_law_571 : decode cL_law 571 = .ok (.iaload, 1) := by decide +kernel
theorem dL_law_572 : decode cL_law 572 = .ok (.invokevirtual 87, 3) := by decide +kernel
theorem dL_law_575 : decode cL_law 575 = .ok (.istore 6, 2) := by decide +kernel
theorem dL_law_577 : decode cL_law 577 = .ok (.aload_n 2, 1) := by decide +kernel
theorem dL_law_578 : decode cL_law 578 = .ok (.invokevirtual 63, 3) := by decide +kernel
theorem dL_law_581 : decode cL_law 581 = .ok (.iload 5, 2) := by decide +kernel
theorem dL_law_583 : decode cL_law 583 = .ok (.if_icmp .eq 5, 3) := by decide +kernel
theorem dL_law_586 : decode cL_law 586 = .ok (.iconst 0, 1) := by decide +kernel
theorem dL_law_587 : decode cL_law 587 = .ok (.ireturn, 1) := by decide +kernel
theorem dL_law_588 : decode cL_law 588 = .ok (.iload 5, 2) := by decide +kernel
theorem dL_law_590 : decode cL_law 590 = .ok (.ifCond .ne 15, 3) := by decide +kernel
theorem dL_law_593 : decode cL_law 593 = .ok (.aload_n 3, 1) := by decide +kernel
theorem dL_law_594 : decode cL_law 594 = .ok (.iconst 0, 1) := by decide +kernel
theorem dL_law_595 : decode cL_law 595 = .ok (.laload, 1) := by decide +kernel
theorem dL_law_596 : decode cL_law 596 = .ok (.iload 6, 2) := by decide +kernel
theorem dL_law_598 : decode cL_law 598 = .ok (.i2l, 1) := by decide +kernel
theorem dL_law_599 : decode cL_law 599 = .ok (.lcmp, 1) := by decide +kernel
theorem dL_law_600 : decode cL_law 600 = .ok (.ifCond .eq 5, 3) := by decide +kernel
theorem dL_law_603 : decode cL_law 603 = .ok (.iconst 0, 1) := by decide +kernel
theorem dL_law_604 : decode cL_law 604 = .ok (.ireturn, 1) := by decide +kernel
theorem dL_law_605 : decode cL_law 605 = .ok (.goto 384, 3) := by decide +kernel
theorem dL_law_608 : decode cL_law 608 = .ok (.aload_n 1, 1) := by decide +kernel
theorem dL_law_609 : decode cL_law 609 = .ok (.aload_n 0, 1) := by decide +kernel
theorem dL_law_610 : decode cL_law 610 = .ok (.iload 4, 2) := by decide +kernel
theorem dL_law_612 : decode cL_law 612 = .ok (.iconst 1, 1) := by decide +kernel
theorem dL_law_613 : decode cL_law 613 = .ok (.iadd, 1) := by decide +kernel
theorem dL_law_614 : decode cL_law 614 = .ok (.iaload, 1) := by decide +kernel
theorem dL_law_615 : decode cL_law 615 = .ok (.aload_n 0, 1) := by decide +kernel
theorem dL_law_616 : decode cL_law 616 = .ok (.iload 4, 2) := by decide +kernel
theorem dL_law_618 : decode cL_law 618 = .ok (.iconst 2, 1) := by decide +kernel
theorem dL_law_619 : decode cL_law 619 = .ok (.iadd, 1) := by decide +kernel
theorem dL_law_620 : decode cL_law 620 = .ok (.iaload, 1) := by decide +kernel
theorem dL_law_621 : decode cL_law 621 = .ok (.aload_n 3, 1) := by decide +kernel
theorem dL_law_622 : decode cL_law 622 = .ok (.invokestatic 88, 3) := by decide +kernel
theorem dL_law_625 : decode cL_law 625 = .ok (.istore 5, 2) := by decide +kernel
theorem dL_law_627 : decode cL_law 627 = .ok (.aload_n 2, 1) := by decide +kernel
theorem dL_law_628 : decode cL_law 628 = .ok (.aload_n 0, 1) := by decide +kernel
theorem dL_law_629 : decode cL_law 629 = .ok (.iload 4, 2) := by decide +kernel
theorem dL_law_631 : decode cL_law 631 = .ok (.iconst 1, 1) := by decide +kernel
theorem dL_law_632 : decode cL_law 632 = .ok (.iadd, 1) := by decide +kernel
theorem dL_law_633 : decode cL_law 633 = .ok (.iaload, 1) := by decide +kernel
theorem dL_law_634 : decode cL_law 634 = .ok (.aload_n 0, 1) := by decide +kernel
theorem dL_law_635 : decode cL_law 635 = .ok (.iload 4, 2) := by decide +kernel
theorem dL_law_637 : decode cL_law 637 = .ok (.iconst 2, 1) := by decide +kernel
theorem dL_law_638 : decode cL_law 638 = .ok (.iadd, 1) := by decide +kernel
theorem dL_law_639 : decode cL_law 639 = .ok (.iaload, 1) := by decide +kernel
theorem dL_law_640 : decode cL_law 640 = .ok (.invokevirtual 90, 3) := by decide +kernel
theorem dL_law_643 : decode cL_law 643 = .ok (.istore 6, 2) := by decide +kernel
theorem dL_law_645 : decode cL_law 645 = .ok (.aload_n 2, 1) := by decide +kernel
theorem dL_law_646 : decode cL_law 646 = .ok (.invokevirtual 63, 3) := by decide +kernel
theorem dL_law_649 : decode cL_law 649 = .ok (.iload 5, 2) := by decide +kernel
theorem dL_law_651 : decode cL_law 651 = .ok (.if_icmp .eq 5, 3) := by decide +kernel
theorem dL_law_654 : decode cL_law 654 = .ok (.iconst 0, 1) := by decide +kernel
theorem dL_law_655 : decode cL_law 655 = .ok (.ireturn, 1) := by decide +kernel
theorem dL_law_656 : decode cL_law 656 = .ok (.iload 5, 2) := by decide +kernel
theorem dL_law_658 : decode cL_law 658 = .ok (.ifCond .ne 15, 3) := by decide +kernel
theorem dL_law_661 : decode cL_law 661 = .ok (.aload_n 3, 1) := by decide +kernel
theorem dL_law_662 : decode cL_law 662 = .ok (.iconst 0, 1) := by decide +kernel
theorem dL_law_663 : decode cL_law 663 = .ok (.laload, 1) := by decide +kernel
theorem dL_law_664 : decode cL_law 664 = .ok (.iload 6, 2) := by decide +kernel
theorem dL_law_666 : decode cL_law 666 = .ok (.i2l, 1) := by decide +kernel
theorem dL_law_667 : decode cL_law 667 = .ok (.lcmp, 1) := by decide +kernel
theorem dL_law_668 : decode cL_law 668 = .ok (.ifCond .eq 5, 3) := by decide +kernel
theorem dL_law_671 : decode cL_law 671 = .ok (.iconst 0, 1) := by decide +kernel
theorem dL_law_672 : decode cL_law 672 = .ok (.ireturn, 1) := by decide +kernel
theorem dL_law_673 : decode cL_law 673 = .ok (.goto 316, 3) := by decide +kernel
theorem dL_law_676 : decode cL_law 676 = .ok (.aload_n 1, 1) := by decide +kernel
theorem dL_law_677 : decode cL_law 677 = .ok (.invokevirtual 91, 3) := by decide +kernel
theorem dL_law_680 : decode cL_law 680 = .ok (.aload_n 2, 1) := by decide +kernel
theorem dL_law_681 : decode cL_law 681 = .ok (.invokevirtual 95, 3) := by decide +kernel
theorem dL_law_684 : decode cL_law 684 = .ok (.if_icmp .eq 305, 3) := by decide +kernel
theorem dL_law_687 : decode cL_law 687 = .ok (.iconst 0, 1) := by decide +kernel
theorem dL_law_688 : decode cL_law 688 = .ok (.ireturn, 1) := by decide +kernel
theorem dL_law_689 : decode cL_law 689 = .ok (.aload_n 1, 1) := by decide +kernel
theorem dL_law_690 : decode cL_law 690 = .ok (.aload_n 0, 1) := by decide +kernel
theorem dL_law_691 : decode cL_law 691 = .ok (.iload 4, 2) := by decide +kernel
theorem dL_law_693 : decode cL_law 693 = .ok (.iconst 1, 1) := by decide +kernel
theorem dL_law_694 : decode cL_law 694 = .ok (.iadd, 1) := by decide +kernel
theorem dL_law_695 : decode cL_law 695 = .ok (.iaload, 1) := by decide +kernel
theorem dL_law_696 : decode cL_law 696 = .ok (.aload_n 3, 1) := by decide +kernel
theorem dL_law_697 : decode cL_law 697 = .ok (.invokestatic 96, 3) := by decide +kernel
theorem dL_law_700 : decode cL_law 700 = .ok (.istore 5, 2) := by decide +kernel
theorem dL_law_702 : decode cL_law 702 = .ok (.aload_n 2, 1) := by decide +kernel
theorem dL_law_703 : decode cL_law 703 = .ok (.aload_n 0, 1) := by decide +kernel
theorem dL_law_704 : decode cL_law 704 = .ok (.iload 4, 2) := by decide +kernel
theorem dL_law_706 : decode cL_law 706 = .ok (.iconst 1, 1) := by decide +kernel
theorem dL_law_707 : decode cL_law 707 = .ok (.iadd, 1) := by decide +kernel
theorem dL_law_708 : decode cL_law 708 = .ok (.iaload, 1) := by decide +kernel
theorem dL_law_709 : decode cL_law 709 = .ok (.invokevirtual 98, 3) := by decide +kernel
theorem dL_law_712 : decode cL_law 712 = .ok (.istore 6, 2) := by decide +kernel
theorem dL_law_714 : decode cL_law 714 = .ok (.aload_n 2, 1) := by decide +kernel
theorem dL_law_715 : decode cL_law 715 = .ok (.invokevirtual 63, 3) := by decide +kernel
theorem dL_law_718 : decode cL_law 718 = .ok (.iload 5, 2) := by decide +kernel
theorem dL_law_720 : decode cL_law 720 = .ok (.if_icmp .eq 5, 3) := by decide +kernel
theorem dL_law_723 : decode cL_law 723 = .ok (.iconst 0, 1) := by decide +kernel
theorem dL_law_724 : decode cL_law 724 = .ok (.ireturn, 1) := by decide +kernel
theorem dL_law_725 : decode cL_law 725 = .ok (.iload 5, 2) := by decide +kernel
theorem dL_law_727 : decode cL_law 727 = .ok (.ifCond .ne 15, 3) := by decide +kernel
theorem dL_law_730 : decode cL_law 730 = .ok (.aload_n 3, 1) := by decide +kernel
theorem dL_law_731 : decode cL_law 731 = .ok (.iconst 0, 1) := by decide +kernel
theorem dL_law_732 : decode cL_law 732 = .ok (.laload, 1) := by decide +kernel
theorem dL_law_733 : decode cL_law 733 = .ok (.iload 6, 2) := by decide +kernel
theorem dL_law_735 : decode cL_law 735 = .ok (.i2l, 1) := by decide +kernel
theorem dL_law_736 : decode cL_law 736 = .ok (.lcmp, 1) := by decide +kernel
theorem dL_law_737 : decode cL_law 737 = .ok (.ifCond .eq 5, 3) := by decide +kernel
theorem dL_law_740 : decode cL_law 740 = .ok (.iconst 0, 1) := by decide +kernel
theorem dL_law_741 : decode cL_law 741 = .ok (.ireturn, 1) := by decide +kernel
theorem dL_law_742 : decode cL_law 742 = .ok (.goto 247, 3) := by decide +kernel
theorem dL_law_745 : decode cL_law 745 = .ok (.aload_n 1, 1) := by decide +kernel
theorem dL_law_746 : decode cL_law 746 = .ok (.aload_n 0, 1) := by decide +kernel
theorem dL_law_747 : decode cL_law 747 = .ok (.iload 4, 2) := by decide +kernel
theorem dL_law_749 : decode cL_law 749 = .ok (.iconst 1, 1) := by decide +kernel
theorem dL_law_750 : decode cL_law 750 = .ok (.iadd, 1) := by decide +kernel
theorem dL_law_751 : decode cL_law 751 = .ok (.iaload, 1) := by decide +kernel
theorem dL_law_752 : decode cL_law 752 = .ok (.aload_n 0, 1) := by decide +kernel
theorem dL_law_753 : decode cL_law 753 = .ok (.iload 4, 2) := by decide +kernel
theorem dL_law_755 : decode cL_law 755 = .ok (.iconst 2, 1) := by decide +kernel
theorem dL_law_756 : decode cL_law 756 = .ok (.iadd, 1) := by decide +kernel
theorem dL_law_757 : decode cL_law 757 = .ok (.iaload, 1) := by decide +kernel
theorem dL_law_758 : decode cL_law 758 = .ok (.aload_n 3, 1) := by decide +kernel
theorem dL_law_759 : decode cL_law 759 = .ok (.invokestatic 99, 3) := by decide +kernel
theorem dL_law_762 : decode cL_law 762 = .ok (.istore 5, 2) := by decide +kernel
theorem dL_law_764 : decode cL_law 764 = .ok (.aload_n 2, 1) := by decide +kernel
theorem dL_law_765 : decode cL_law 765 = .ok (.aload_n 0, 1) := by decide +kernel
theorem dL_law_766 : decode cL_law 766 = .ok (.iload 4, 2) := by decide +kernel
theorem dL_law_768 : decode cL_law 768 = .ok (.iconst 1, 1) := by decide +kernel
theorem dL_law_769 : decode cL_law 769 = .ok (.iadd, 1) := by decide +kernel
theorem dL_law_770 : decode cL_law 770 = .ok (.iaload, 1) := by decide +kernel
theorem dL_law_771 : decode cL_law 771 = .ok (.aload_n 0, 1) := by decide +kernel
theorem dL_law_772 : decode cL_law 772 = .ok (.iload 4, 2) := by decide +kernel
theorem dL_law_774 : decode cL_law 774 = .ok (.iconst 2, 1) := by decide +kernel
theorem dL_law_775 : decode cL_law 775 = .ok (.iadd, 1) := by decide +kernel
theorem dL_law_776 : decode cL_law 776 = .ok (.iaload, 1) := by decide +kernel
theorem dL_law_777 : decode cL_law 777 = .ok (.invokevirtual 101, 3) := by decide +kernel
theorem dL_law_780 : decode cL_law 780 = .ok (.istore 6, 2) := by decide +kernel
theorem dL_law_782 : decode cL_law 782 = .ok (.aload_n 2, 1) := by decide +kernel
theorem dL_law_783 : decode cL_law 783 = .ok (.invokevirtual 63, 3) := by decide +kernel
theorem dL_law_786 : decode cL_law 786 = .ok (.iload 5, 2) := by decide +kernel
theorem dL_law_788 : decode cL_law 788 = .ok (.if_icmp .eq 5, 3) := by decide +kernel
theorem dL_law_791 : decode cL_law 791 = .ok (.iconst 0, 1) := by decide +kernel
theorem dL_law_792 : decode cL_law 792 = .ok (.ireturn, 1) := by decide +kernel
theorem dL_law_793 : decode cL_law 793 = .ok (.iload 5, 2) := by decide +kernel
theorem dL_law_795 : decode cL_law 795 = .ok (.ifCond .ne 15, 3) := by decide +kernel
theorem dL_law_798 : decode cL_law 798 = .ok (.aload_n 3, 1) := by decide +kernel
theorem dL_law_799 : decode cL_law 799 = .ok (.iconst 0, 1) := by decide +kernel
theorem dL_law_800 : decode cL_law 800 = .ok (.laload, 1) := by decide +kernel
theorem dL_law_801 : decode cL_law 801 = .ok (.iload 6, 2) := by decide +kernel
theorem dL_law_803 : decode cL_law 803 = .ok (.i2l, 1) := by decide +kernel
theorem dL_law_804 : decode cL_law 804 = .ok (.lcmp, 1) := by decide +kernel
theorem dL_law_805 : decode cL_law 805 = .ok (.ifCond .eq 5, 3) := by decide +kernel
theorem dL_law_808 : decode cL_law 808 = .ok (.iconst 0, 1) := by decide +kernel
theorem dL_law_809 : decode cL_law 809 = .ok (.ireturn, 1) := by decide +kernel
theorem dL_law_810 : decode cL_law 810 = .ok (.goto 179, 3) := by decide +kernel
theorem dL_law_813 : decode cL_law 813 = .ok (.aload_n 1, 1) := by decide +kernel
theorem dL_law_814 : decode cL_law 814 = .ok (.aload_n 0, 1) := by decide +kernel
theorem dL_law_815 : decode cL_law 815 = .ok (.iload 4, 2) := by decide +kernel
theorem dL_law_817 : decode cL_law 817 = .ok (.iconst 1, 1) := by decide +kernel
theorem dL_law_818 : decode cL_law 818 = .ok (.iadd, 1) := by decide +kernel
theorem dL_law_819 : decode cL_law 819 = .ok (.iaload, 1) := by decide +kernel
theorem dL_law_820 : decode cL_law 820 = .ok (.aload_n 0, 1) := by decide +kernel
theorem dL_law_821 : decode cL_law 821 = .ok (.iload 4, 2) := by decide +kernel
theorem dL_law_823 : decode cL_law 823 = .ok (.iconst 2, 1) := by decide +kernel
theorem dL_law_824 : decode cL_law 824 = .ok (.iadd, 1) := by decide +kernel
theorem dL_law_825 : decode cL_law 825 = .ok (.iaload, 1) := by decide +kernel
theorem dL_law_826 : decode cL_law 826 = .ok (.aload_n 3, 1) := by decide +kernel
theorem dL_law_827 : decode cL_law 827 = .ok (.invokestatic 102, 3) := by decide +kernel
theorem dL_law_830 : decode cL_law 830 = .ok (.istore 5, 2) := by decide +kernel
theorem dL_law_832 : decode cL_law 832 = .ok (.aload_n 2, 1) := by decide +kernel
theorem dL_law_833 : decode cL_law 833 = .ok (.aload_n 0, 1) := by decide +kernel
theorem dL_law_834 : decode cL_law 834 = .ok (.iload 4, 2) := by decide +kernel
theorem dL_law_836 : decode cL_law 836 = .ok (.iconst 1, 1) := by decide +kernel
theorem dL_law_837 : decode cL_law 837 = .ok (.iadd, 1) := by decide +kernel
theorem dL_law_838 : decode cL_law 838 = .ok (.iaload, 1) := by decide +kernel
theorem dL_law_839 : decode cL_law 839 = .ok (.aload_n 0, 1) := by decide +kernel
theorem dL_law_840 : decode cL_law 840 = .ok (.iload 4, 2) := by decide +kernel
theorem dL_law_842 : decode cL_law 842 = .ok (.iconst 2, 1) := by decide +kernel
theorem dL_law_843 : decode cL_law 843 = .ok (.iadd, 1) := by decide +kernel
theorem dL_law_844 : decode cL_law 844 = .ok (.iaload, 1) := by decide +kernel
theorem dL_law_845 : decode cL_law 845 = .ok (.invokevirtual 104, 3) := by decide +kernel
theorem dL_law_848 : decode cL_law 848 = .ok (.istore 6, 2) := by decide +kernel
theorem dL_law_850 : decode cL_law 850 = .ok (.aload_n 2, 1) := by decide +kernel
theorem dL_law_851 : decode cL_law 851 = .ok (.invokevirtual 63, 3) := by decide +kernel
theorem dL_law_854 : decode cL_law 854 = .ok (.iload 5, 2) := by decide +kernel
theorem dL_law_856 : decode cL_law 856 = .ok (.if_icmp .eq 5, 3) := by decide +kernel
theorem dL_law_859 : decode cL_law 859 = .ok (.iconst 0, 1) := by decide +kernel
theorem dL_law_860 : decode cL_law 860 = .ok (.ireturn, 1) := by decide +kernel
theorem dL_law_861 : decode cL_law 861 = .ok (.iload 5, 2) := by decide +kernel
theorem dL_law_863 : decode cL_law 863 = .ok (.ifCond .ne 15, 3) := by decide +kernel
theorem dL_law_866 : decode cL_law 866 = .ok (.aload_n 3, 1) := by decide +kernel
theorem dL_law_867 : decode cL_law 867 = .ok (.iconst 0, 1) := by decide +kernel
theorem dL_law_868 : decode cL_law 868 = .ok (.laload, 1) := by decide +kernel
theorem dL_law_869 : decode cL_law 869 = .ok (.iload 6, 2) := by decide +kernel
theorem dL_law_871 : decode cL_law 871 = .ok (.i2l, 1) := by decide +kernel
theorem dL_law_872 : decode cL_law 872 = .ok (.lcmp, 1) := by decide +kernel
theorem dL_law_873 : decode cL_law 873 = .ok (.ifCond .eq 5, 3) := by decide +kernel
theorem dL_law_876 : decode cL_law 876 = .ok (.iconst 0, 1) := by decide +kernel
theorem dL_law_877 : decode cL_law 877 = .ok (.ireturn, 1) := by decide +kernel
theorem dL_law_878 : decode cL_law 878 = .ok (.goto 111, 3) := by decide +kernel
theorem dL_law_881 : decode cL_law 881 = .ok (.aload_n 1, 1) := by decide +kernel
theorem dL_law_882 : decode cL_law 882 = .ok (.invokevirtual 105, 3) := by decide +kernel
theorem dL_law_885 : decode cL_law 885 = .ok (.aload_n 2, 1) := by decide +kernel
theorem dL_law_886 : decode cL_law 886 = .ok (.invokevirtual 108, 3) := by decide +kernel
theorem dL_law_889 : decode cL_law 889 = .ok (.if_icmp .eq 100, 3) := by decide +kernel
theorem dL_law_892 : decode cL_law 892 = .ok (.iconst 0, 1) := by decide +kernel
theorem dL_law_893 : decode cL_law 893 = .ok (.ireturn, 1) := by decide +kernel
theorem dL_law_894 : decode cL_law 894 = .ok (.aload_n 1, 1) := by decide +kernel
theorem dL_law_895 : decode cL_law 895 = .ok (.aload_n 0, 1) := by decide +kernel
theorem dL_law_896 : decode cL_law 896 = .ok (.iload 4, 2) := by decide +kernel
theorem dL_law_898 : decode cL_law 898 = .ok (.iconst 1, 1) := by decide +kernel
theorem dL_law_899 : decode cL_law 899 = .ok (.iadd, 1) := by decide +kernel
theorem dL_law_900 : decode cL_law 900 = .ok (.iaload, 1) := by decide +kernel
theorem dL_law_901 : decode cL_law 901 = .ok (.i2l, 1) := by decide +kernel
theorem dL_law_902 : decode cL_law 902 = .ok (.bipush 32, 2) := by decide +kernel
theorem dL_law_904 : decode cL_law 904 = .ok (.lshl, 1) := by decide +kernel
theorem dL_law_905 : decode cL_law 905 = .ok (.aload_n 0, 1) := by decide +kernel
theorem dL_law_906 : decode cL_law 906 = .ok (.iload 4, 2) := by decide +kernel
theorem dL_law_908 : decode cL_law 908 = .ok (.iconst 2, 1) := by decide +kernel
theorem dL_law_909 : decode cL_law 909 = .ok (.iadd, 1) := by decide +kernel
theorem dL_law_910 : decode cL_law 910 = .ok (.iaload, 1) := by decide +kernel
theorem dL_law_911 : decode cL_law 911 = .ok (.i2l, 1) := by decide +kernel
theorem dL_law_912 : decode cL_law 912 = .ok (.ldc2_w 109, 3) := by decide +kernel
theorem dL_law_915 : decode cL_law 915 = .ok (.land, 1) := by decide +kernel
theorem dL_law_916 : decode cL_law 916 = .ok (.lor, 1) := by decide +kernel
theorem dL_law_917 : decode cL_law 917 = .ok (.aload_n 3, 1) := by decide +kernel
theorem dL_law_918 : decode cL_law 918 = .ok (.invokestatic 111, 3) := by decide +kernel
theorem dL_law_921 : decode cL_law 921 = .ok (.istore 5, 2) := by decide +kernel
theorem dL_law_923 : decode cL_law 923 = .ok (.aload_n 2, 1) := by decide +kernel
theorem dL_law_924 : decode cL_law 924 = .ok (.aload_n 0, 1) := by decide +kernel
theorem dL_law_925 : decode cL_law 925 = .ok (.iload 4, 2) := by decide +kernel
theorem dL_law_927 : decode cL_law 927 = .ok (.iconst 1, 1) := by decide +kernel
theorem dL_law_928 : decode cL_law 928 = .ok (.iadd, 1) := by decide +kernel
theorem dL_law_929 : decode cL_law 929 = .ok (.iaload, 1) := by decide +kernel
theorem dL_law_930 : decode cL_law 930 = .ok (.i2l, 1) := by decide +kernel
theorem dL_law_931 : decode cL_law 931 = .ok (.bipush 32, 2) := by decide +kernel
theorem dL_law_933 : decode cL_law 933 = .ok (.lshl, 1) := by decide +kernel
theorem dL_law_934 : decode cL_law 934 = .ok (.aload_n 0, 1) := by decide +kernel
theorem dL_law_935 : decode cL_law 935 = .ok (.iload 4, 2) := by decide +kernel
theorem dL_law_937 : decode cL_law 937 = .ok (.iconst 2, 1) := by decide +kernel
theorem dL_law_938 : decode cL_law 938 = .ok (.iadd, 1) := by decide +kernel
theorem dL_law_939 : decode cL_law 939 = .ok (.iaload, 1) := by decide +kernel
theorem dL_law_940 : decode cL_law 940 = .ok (.i2l, 1) := by decide +kernel
theorem dL_law_941 : decode cL_law 941 = .ok (.ldc2_w 109, 3) := by decide +kernel
theorem dL_law_944 : decode cL_law 944 = .ok (.land, 1) := by decide +kernel
theorem dL_law_945 : decode cL_law 945 = .ok (.lor, 1) := by decide +kernel
theorem dL_law_946 : decode cL_law 946 = .ok (.invokevirtual 114, 3) := by decide +kernel
theorem dL_law_949 : decode cL_law 949 = .ok (.istore 6, 2) := by decide +kernel
theorem dL_law_951 : decode cL_law 951 = .ok (.aload_n 2, 1) := by decide +kernel
theorem dL_law_952 : decode cL_law 952 = .ok (.invokevirtual 63, 3) := by decide +kernel
theorem dL_law_955 : decode cL_law 955 = .ok (.iload 5, 2) := by decide +kernel
theorem dL_law_957 : decode cL_law 957 = .ok (.if_icmp .eq 5, 3) := by decide +kernel
theorem dL_law_960 : decode cL_law 960 = .ok (.iconst 0, 1) := by decide +kernel
theorem dL_law_961 : decode cL_law 961 = .ok (.ireturn, 1) := by decide +kernel
theorem dL_law_962 : decode cL_law 962 = .ok (.iload 5, 2) := by decide +kernel
theorem dL_law_964 : decode cL_law 964 = .ok (.ifCond .ne 22, 3) := by decide +kernel
theorem dL_law_967 : decode cL_law 967 = .ok (.aload_n 3, 1) := by decide +kernel
theorem dL_law_968 : decode cL_law 968 = .ok (.iconst 0, 1) := by decide +kernel
theorem dL_law_969 : decode cL_law 969 = .ok (.laload, 1) := by decide +kernel
theorem dL_law_970 : decode cL_law 970 = .ok (.iload 6, 2) := by decide +kernel
theorem dL_law_972 : decode cL_law 972 = .ok (.ifCond .eq 7, 3) := by decide +kernel
theorem dL_law_975 : decode cL_law 975 = .ok (.lconst 1, 1) := by decide +kernel
theorem dL_law_976 : decode cL_law 976 = .ok (.goto 4, 3) := by decide +kernel
theorem dL_law_979 : decode cL_law 979 = .ok (.lconst 0, 1) := by decide +kernel
theorem dL_law_980 : decode cL_law 980 = .ok (.lcmp, 1) := by decide +kernel
theorem dL_law_981 : decode cL_law 981 = .ok (.ifCond .eq 5, 3) := by decide +kernel
theorem dL_law_984 : decode cL_law 984 = .ok (.iconst 0, 1) := by decide +kernel
theorem dL_law_985 : decode cL_law 985 = .ok (.ireturn, 1) := by decide +kernel
theorem dL_law_986 : decode cL_law 986 = .ok (.goto 3, 3) := by decide +kernel
theorem dL_law_989 : decode cL_law 989 = .ok (.iinc 4 5, 3) := by decide +kernel
theorem dL_law_992 : decode cL_law 992 = .ok (.goto (-969), 3) := by decide +kernel
theorem dL_law_995 : decode cL_law 995 = .ok (.iconst 1, 1) := by decide +kernel
theorem dL_law_996 : decode cL_law 996 = .ok (.ireturn, 1) := by decide +kernel
end
section
/-! rows for numbers that are natural: an int on the stack is 'nI k' -/
section NR
variable {p : Program} {l : Launch} {e : Env} {R : Room} {s : State} {m : MethodId} {args : Array Value} {below : List Frame} {meth : Method} {c : Code} {H : Heap} {locs : List Loc} {cells slots : Nat} {Q : State → Prop}
variable {cc : ByteArray} {pc : Nat} {ls : Array Slot} {rest : List Value} {D : va_G} {cl : List vw_C} {A : Nat → Prop} {a : Nat} {tys : List (ClassId × FieldType)} {ws : va_W} {H0 : Heap}
theorem nr_iadd (hx : p.tables.exec = Jvm.exec) (hb : c.code = cc) {x y : Nat} (hd : decode cc pc = .ok (.iadd, 1))
    (k : W p l e R s m args below meth c H locs cells slots Q (F0 m (pc + 1) ls (.int (nI (x + y)) :: rest))) : W p l e R s m args below meth c H locs cells slots Q (F0 m pc ls (.int (nI y) :: .int (nI x) :: rest)) := by
  refine lv_iadd hx hb hd ?_
  rw [nI_add]
  exact k
theorem nr_imul (hx : p.tables.exec = Jvm.exec) (hb : c.code = cc) {x y : Nat} (hd : decode cc pc = .ok (.imul, 1))
    (k : W p l e R s m args below meth c H locs cells slots Q (F0 m (pc + 1) ls (.int (nI (x * y)) :: rest))) : W p l e R s m args below meth c H locs cells slots Q (F0 m pc ls (.int (nI y) :: .int (nI x) :: rest)) := by
  refine lv_imul hx hb hd ?_
  rw [pk_mul]
  exact k
theorem nr_isub (hx : p.tables.exec = Jvm.exec) (hb : c.code = cc) {x y : Nat} (h : y ≤ x) (hd : decode cc pc = .ok (.isub, 1))
    (k : W p l e R s m args below meth c H locs cells slots Q (F0 m (pc + 1) ls (.int (nI (x - y)) :: rest))) : W p l e R s m args below meth c H locs cells slots Q (F0 m pc ls (.int (nI y) :: .int (nI x) :: rest)) := by
  refine lv_isub hx hb hd ?_
  rw [pk_sub h]
  exact k
theorem nr_idiv (hx : p.tables.exec = Jvm.exec) (hb : c.code = cc) {x y : Nat} (h0 : 0 < y) (hy : y < 2 ^ 31) (hxx : x < 2 ^ 31) (hd : decode cc pc = .ok (.idiv, 1))
    (k : W p l e R s m args below meth c H locs cells slots Q (F0 m (pc + 1) ls (.int (nI (x / y)) :: rest))) : W p l e R s m args below meth c H locs cells slots Q (F0 m pc ls (.int (nI y) :: .int (nI x) :: rest)) := by
  refine lv_idiv hx hb hd (nI_ne0 h0 hy) ?_
  rw [pk_div hxx h0 hy]
  exact k
theorem nr_iald (hx : p.tables.exec = Jvm.exec) (hb : c.code = cc) (hK : va_K D cl tys s) (hP : va_P D cl ws H) (q0 t0 : Nat) {cA : ClassId} {n : Nat} {g : Nat → Nat} (ha : ws[q0]? = some (a, .inl (cA, n, .inl (fun j => nI (g j))))) (ht : tys[t0]? = some (cA, .int)) {k : Nat} (hk : k < n) (hn : n < 2 ^ 31) (hd : decode cc pc = .ok (.iaload, 1))
    (kk : W p l e R s m args below meth c H locs cells slots Q (F0 m (pc + 1) ls (.int (nI (g k)) :: rest))) : W p l e R s m args below meth c H locs cells slots Q (F0 m pc ls (.int (nI k) :: .ref a :: rest)) := by
  refine va_iald hx hb hK hP q0 t0 ha ht (vp_in_nI hk hn) hd ?_
  rw [nI_clamp (by omega)]
  exact kk
def nr_up (g : Nat → Nat) (k v : Nat) : Nat → Nat := fun j => if j = k then v else g j
theorem nr_up_eq (g : Nat → Nat) (k v : Nat) : upd (fun j => nI (g j)) k (nI v) = fun j => nI (nr_up g k v j) := by
  funext j
  unfold nr_up
  by_cases h : j = k
  · subst h; rw [pk_us, if_pos rfl]
  · rw [pk_un h, if_neg h]
theorem nr_up_s (g : Nat → Nat) (k v : Nat) : nr_up g k v k = v := if_pos rfl
theorem nr_up_n (g : Nat → Nat) {k j : Nat} (v : Nat) (h : j ≠ k) : nr_up g k v j = g j := if_neg h
theorem nr_iast (hx : p.tables.exec = Jvm.exec) (hb : c.code = cc) (hK : va_K D cl tys s) (hP : va_P D cl ws H) (hD : va_D A ws) (hS : va_S A H0 H locs) (q0 t0 : Nat) {cA : ClassId} {n : Nat} {g : Nat → Nat} (ha : ws[q0]? = some (a, .inl (cA, n, .inl (fun j => nI (g j))))) (ht : tys[t0]? = some (cA, .int)) {k v : Nat} (hk : k < n) (hn : n < 2 ^ 31) (hd : decode cc pc = .ok (.iastore, 1))
    (kk : ∀ (H : Heap) (locs : List Loc), va_P D cl (ws.set q0 (a, .inl (cA, n, .inl (fun j => nI (nr_up g k v j))))) H → va_D A (ws.set q0 (a, .inl (cA, n, .inl (fun j => nI (nr_up g k v j))))) → va_S A H0 H locs → W p l e R s m args below meth c H locs cells slots Q (F0 m (pc + 1) ls rest)) : W p l e R s m args below meth c H locs cells slots Q (F0 m pc ls (.int (nI v) :: .int (nI k) :: .ref a :: rest)) := by
  refine va_iast hx hb hK hP hD hS q0 t0 ha ht (vp_in_nI hk hn) hd (fun H1 locs1 h1 h2 h3 => ?_)
  rw [nI_clamp (by omega), nr_up_eq] at h1 h2
  exact kk H1 locs1 h1 h2 h3
theorem nr_icmp_ge (hx : p.tables.exec = Jvm.exec) (hb : c.code = cc) {x y : Nat} (h1 : x < 2 ^ 31) (h2 : y < 2 ^ 31) {off : Int} {tgt : Nat} (hd : decode cc pc = .ok (.if_icmp .ge off, 3)) (ht : (pc : Int) + off = (tgt : Int))
    (kt : y ≤ x → W p l e R s m args below meth c H locs cells slots Q (F0 m tgt ls rest)) (kf : x < y → W p l e R s m args below meth c H locs cells slots Q (F0 m (pc + 3) ls rest)) : W p l e R s m args below meth c H locs cells slots Q (F0 m pc ls (.int (nI y) :: .int (nI x) :: rest)) :=
  lv_icmp_ge hx hb hd ht (fun h => kt ((nI_leI h2 h1).mp h)) (fun h => kf (Nat.lt_of_not_le (fun q => h ((nI_leI h2 h1).mpr q))))
theorem nr_icmp_lt (hx : p.tables.exec = Jvm.exec) (hb : c.code = cc) {x y : Nat} (h1 : x < 2 ^ 31) (h2 : y < 2 ^ 31) {off : Int} {tgt : Nat} (hd : decode cc pc = .ok (.if_icmp .lt off, 3)) (ht : (pc : Int) + off = (tgt : Int))
    (kt : x < y → W p l e R s m args below meth c H locs cells slots Q (F0 m tgt ls rest)) (kf : y ≤ x → W p l e R s m args below meth c H locs cells slots Q (F0 m (pc + 3) ls rest)) : W p l e R s m args below meth c H locs cells slots Q (F0 m pc ls (.int (nI y) :: .int (nI x) :: rest)) :=
  lv_icmp_lt hx hb hd ht (fun h => kt ((nI_ltI h1 h2).mp h)) (fun h => kf (Nat.le_of_not_lt (fun q => h ((nI_ltI h1 h2).mpr q))))
theorem nr_icmp_gt (hx : p.tables.exec = Jvm.exec) (hb : c.code = cc) {x y : Nat} (h1 : x < 2 ^ 31) (h2 : y < 2 ^ 31) {off : Int} {tgt : Nat} (hd : decode cc pc = .ok (.if_icmp .gt off, 3)) (ht : (pc : Int) + off = (tgt : Int))
    (kt : y < x → W p l e R s m args below meth c H locs cells slots Q (F0 m tgt ls rest)) (kf : x ≤ y → W p l e R s m args below meth c H locs cells slots Q (F0 m (pc + 3) ls rest)) : W p l e R s m args below meth c H locs cells slots Q (F0 m pc ls (.int (nI y) :: .int (nI x) :: rest)) :=
  lv_icmp_gt hx hb hd ht (fun h => kt ((nI_ltI h2 h1).mp h)) (fun h => kf (Nat.le_of_not_lt (fun q => h ((nI_ltI h2 h1).mpr q))))
theorem nr_icmp_le (hx : p.tables.exec = Jvm.exec) (hb : c.code = cc) {x y : Nat} (h1 : x < 2 ^ 31) (h2 : y < 2 ^ 31) {off : Int} {tgt : Nat} (hd : decode cc pc = .ok (.if_icmp .le off, 3)) (ht : (pc : Int) + off = (tgt : Int))
    (kt : x ≤ y → W p l e R s m args below meth c H locs cells slots Q (F0 m tgt ls rest)) (kf : y < x → W p l e R s m args below meth c H locs cells slots Q (F0 m (pc + 3) ls rest)) : W p l e R s m args below meth c H locs cells slots Q (F0 m pc ls (.int (nI y) :: .int (nI x) :: rest)) :=
  lv_icmp_le hx hb hd ht (fun h => kt ((nI_leI h1 h2).mp h)) (fun h => kf (Nat.lt_of_not_le (fun q => h ((nI_leI h1 h2).mpr q))))
theorem nr_icmp_eq (hx : p.tables.exec = Jvm.exec) (hb : c.code = cc) {x y : Nat} (h1 : x < 2 ^ 31) (h2 : y < 2 ^ 31) {off : Int} {tgt : Nat} (hd : decode cc pc = .ok (.if_icmp .eq off, 3)) (ht : (pc : Int) + off = (tgt : Int))
    (kt : x = y → W p l e R s m args below meth c H locs cells slots Q (F0 m tgt ls rest)) (kf : x ≠ y → W p l e R s m args below meth c H locs cells slots Q (F0 m (pc + 3) ls rest)) : W p l e R s m args below meth c H locs cells slots Q (F0 m pc ls (.int (nI y) :: .int (nI x) :: rest)) :=
  lv_icmp_eq hx hb hd ht (fun h => kt ((nI_eq h1 h2).mp h)) (fun h => kf (fun q => h ((nI_eq h1 h2).mpr q)))
theorem nr_icmp_ne (hx : p.tables.exec = Jvm.exec) (hb : c.code = cc) {x y : Nat} (h1 : x < 2 ^ 31) (h2 : y < 2 ^ 31) {off : Int} {tgt : Nat} (hd : decode cc pc = .ok (.if_icmp .ne off, 3)) (ht : (pc : Int) + off = (tgt : Int))
    (kt : x ≠ y → W p l e R s m args below meth c H locs cells slots Q (F0 m tgt ls rest)) (kf : x = y → W p l e R s m args below meth c H locs cells slots Q (F0 m (pc + 3) ls rest)) : W p l e R s m args below meth c H locs cells slots Q (F0 m pc ls (.int (nI y) :: .int (nI x) :: rest)) :=
  lv_icmp_ne hx hb hd ht (fun h => kt (fun q => h ((nI_eq h1 h2).mpr q))) (fun h => kf ((nI_eq h1 h2).mp h))
theorem nr_if_eq (hx : p.tables.exec = Jvm.exec) (hb : c.code = cc) {x : Nat} (h1 : x < 2 ^ 31) {off : Int} {tgt : Nat} (hd : decode cc pc = .ok (.ifCond .eq off, 3)) (ht : (pc : Int) + off = (tgt : Int))
    (kt : x = 0 → W p l e R s m args below meth c H locs cells slots Q (F0 m tgt ls rest)) (kf : 0 < x → W p l e R s m args below meth c H locs cells slots Q (F0 m (pc + 3) ls rest)) : W p l e R s m args below meth c H locs cells slots Q (F0 m pc ls (.int (nI x) :: rest)) :=
  lv_if_eq hx hb hd ht (fun h => kt (by rcases Nat.eq_zero_or_pos x with q | q; exact q; exact absurd h (nI_ne0 q h1))) (fun h => kf (by rcases Nat.eq_zero_or_pos x with q | q; exact absurd (by rw [q]; exact nI_0) h; exact q))
theorem nr_if_ne (hx : p.tables.exec = Jvm.exec) (hb : c.code = cc) {x : Nat} (h1 : x < 2 ^ 31) {off : Int} {tgt : Nat} (hd : decode cc pc = .ok (.ifCond .ne off, 3)) (ht : (pc : Int) + off = (tgt : Int))
    (kt : 0 < x → W p l e R s m args below meth c H locs cells slots Q (F0 m tgt ls rest)) (kf : x = 0 → W p l e R s m args below meth c H locs cells slots Q (F0 m (pc + 3) ls rest)) : W p l e R s m args below meth c H locs cells slots Q (F0 m pc ls (.int (nI x) :: rest)) :=
  lv_if_ne hx hb hd ht (fun h => kt (by rcases Nat.eq_zero_or_pos x with q | q; exact absurd (by rw [q]; exact nI_0) h; exact q)) (fun h => kf (by rcases Nat.eq_zero_or_pos x with q | q; exact q; exact absurd h (nI_ne0 q h1)))
end NR
end
section
/-! contracts whose worlds are lists of cells, and their calls -/
theorem ct_at {ws w : va_W} {is : List Nat} (hs : is.map (fun i => ws[i]?) = w.map some) (k : Nat) (q : Nat × va_E) (hq : w[k]? = some q) : ∃ i, is[k]? = some i ∧ ws[i]? = some q := by
  have h1 : (is.map (fun i => ws[i]?))[k]? = some (some q) := by rw [hs, List.getElem?_map, hq]; rfl
  rw [List.getElem?_map] at h1
  cases hi : is[k]? with
  | none => rw [hi] at h1; cases h1
  | some i => rw [hi] at h1; exact ⟨i, rfl, Option.some.inj h1⟩
theorem ct_subP {D : va_G} {cl : List vw_C} {ws w : va_W} {H : Heap} (h : va_P D cl ws H) {is : List Nat} (hs : is.map (fun i => ws[i]?) = w.map some) : va_P D cl w H := by
  intro k q hq
  obtain ⟨i, -, h2⟩ := ct_at hs k q hq
  exact h i q h2
def ct_S (EN : State → Prop) (D : va_G) (cl : List vw_C) (ws : va_W) (As : List Value) (sz : Nat) : Array Value → State → Prop := va_Pc As (fun U => U.heap.size = sz ∧ va_P D cl ws U.heap ∧ EN U ∧ va_D (fun _ => True) ws)
def ct_B (D : va_G) (cl : List vw_C) (ws : va_W) (sz : Nat) : va_W → State → Prop := fun w t => va_P D cl w t.heap ∧ va_D (va_A ws sz) w
/-- an int (or boolean) comes back -/
def ct_i (l : Launch) (y : MethodName) (wy : List Cond) (rm : Room) (EN : State → Prop) (D : va_G) (cl : List vw_C) (ws : va_W) (As : List Value) (post : Int32 → va_W → Prop) (mc ms : Nat) : Prop :=
  ∀ sz : Nat, Met l y wy rm (ct_S EN D cl ws As sz) (va_Qi post (ct_B D cl ws sz) (va_A ws sz)) mc ms (va_A ws sz)
/-- nothing comes back -/
def ct_v (l : Launch) (y : MethodName) (wy : List Cond) (rm : Room) (EN : State → Prop) (D : va_G) (cl : List vw_C) (ws : va_W) (As : List Value) (post : va_W → Prop) (mc ms : Nat) : Prop :=
  ∀ sz : Nat, Met l y wy rm (ct_S EN D cl ws As sz) (va_Qv post (ct_B D cl ws sz) (va_A ws sz)) mc ms (va_A ws sz)
/-- what is told of all states: it moves with the tables -/
def ct_E (EN : State → Prop) : Prop := (∀ s U : State, s.WarmedH U.vm → EN s → EN U) ∧ ∀ u U : State, u.vm = U.vm → EN u → EN U
theorem ct_blind {EN : State → Prop} (hE : ct_E EN) {D : va_G} {cl : List vw_C} {ws : va_W} {As : List Value} {sz : Nat} : FrameBlind (ct_S EN D cl ws As sz) := by
  intro a U g mk q
  obtain ⟨q0, q1, qP, qK, qD⟩ := q
  exact ⟨q0, q1, qP, hE.2 U _ rfl qK, qD⟩
theorem ct_pre {EN : State → Prop} (hE : ct_E EN) {D : va_G} {cl : List vw_C} {ws wc : va_W} {As : List Value} {H : Heap} {s : State} {A : Nat → Prop} (hEN : EN s) (hP : va_P D cl ws H) (hD : va_D A ws) {isC : List Nat} (hC : isC.map (fun i => ws[i]?) = wc.map some) (hn : va_nd isC = true) : ∀ U : State, U.heap = H → s.WarmedH U.vm → ct_S EN D cl wc As H.size As.toArray U :=
  fun U hU hW => ⟨rfl, by rw [hU], by rw [hU]; exact ct_subP hP hC, hE.1 s U hW hEN, (hD.sub isC hn hC).weaken (fun _ _ _ _ => trivial)⟩
section CT
variable {p : Program} {l : Launch} {e : Env} {R : Room} {s : State} {m : MethodId} {args : Array Value} {below : List Frame} {meth : Method} {c : Code} {H : Heap} {locs : List Loc} {cells slots : Nat} {Q : State → Prop}
variable {cc : ByteArray} {pc : Nat} {ls : Array Slot} {rest st0 : List Value} {D : va_G} {cl : List vw_C} {A : Nat → Prop} {tys : List (ClassId × FieldType)} {ws wc wr : va_W} {H0 : Heap} {mc ms : Nat} {isC isR : List Nat}
theorem ct_backi {post : Int32 → va_W → Prop} {a : Array Value} (hr : va_Run p l e R s m args below meth c H locs cells slots mc ms (F0 m pc ls st0) rest (va_Qi post (ct_B D cl wc H.size) (va_A wc H.size) a) (va_A wc H.size)) (hP : va_P D cl ws H) (hD : va_D A ws) (hS : va_S A H0 H locs) (hA : ∀ q, H0.size ≤ q → A q)
    (hC : isC.map (fun i => ws[i]?) = wc.map some) (hR : isR.map (fun i => ws[i]?) = wr.map some) (hn : va_nd isR = true) (hdis : ∀ i ∈ isR, i ∉ isC)
    (kk : ∀ (r : Int32) (w1 : va_W) (H : Heap) (locs : List Loc), post r w1 → va_P D cl (wr ++ w1) H → va_D A (wr ++ w1) → va_S A H0 H locs → W p l e R s m args below meth c H locs (cells + mc) (slots + ms) Q (F0 m (pc + 3) ls (.int r :: rest))) : W p l e R s m args below meth c H locs cells slots Q (F0 m pc ls st0) := by
  have hFc := va_free (wc := wc) hD hS hA isC hC
  refine va_calli hr hS (fun q _ h => hFc q h) hFc (fun r u t H1 locs1 ht hvm hw hB hz1 hk1 hS1 => ?_)
  obtain ⟨hP1, hD1⟩ := hB
  rw [ht] at hP1
  obtain ⟨hP2, hD2⟩ := va_join hP hD isC isR hC hR hn hdis hk1 hFc hP1 hD1
  exact kk r u H1 locs1 hw hP2 hD2 hS1
theorem ct_backv {post : va_W → Prop} {a : Array Value} (hr : va_Run p l e R s m args below meth c H locs cells slots mc ms (F0 m pc ls st0) rest (va_Qv post (ct_B D cl wc H.size) (va_A wc H.size) a) (va_A wc H.size)) (hP : va_P D cl ws H) (hD : va_D A ws) (hS : va_S A H0 H locs) (hA : ∀ q, H0.size ≤ q → A q)
    (hC : isC.map (fun i => ws[i]?) = wc.map some) (hR : isR.map (fun i => ws[i]?) = wr.map some) (hn : va_nd isR = true) (hdis : ∀ i ∈ isR, i ∉ isC)
    (kk : ∀ (w1 : va_W) (H : Heap) (locs : List Loc), post w1 → va_P D cl (wr ++ w1) H → va_D A (wr ++ w1) → va_S A H0 H locs → W p l e R s m args below meth c H locs (cells + mc) (slots + ms) Q (F0 m (pc + 3) ls rest)) : W p l e R s m args below meth c H locs cells slots Q (F0 m pc ls st0) := by
  have hFc := va_free (wc := wc) hD hS hA isC hC
  refine va_callv hr hS (fun q _ h => hFc q h) hFc (fun u t H1 locs1 ht hvm hw hB hz1 hk1 hS1 => ?_)
  obtain ⟨hP1, hD1⟩ := hB
  rw [ht] at hP1
  obtain ⟨hP2, hD2⟩ := va_join hP hD isC isR hC hR hn hdis hk1 hFc hP1 hD1
  exact kk u H1 locs1 hw hP2 hD2 hS1
variable {EN : State → Prop} {y : MethodName} {bytes : ByteArray} {maxL nL n index : Nat} {ret : Option FieldType} {wy Ts : List Cond} {rm : Room} {own C host : String} {b : Addr} {As : List Value}
theorem ct_Vi {post : Int32 → va_W → Prop} (S : CallFix p m c cc nL s args Ts own) (hE : ct_E EN) (hEN : EN s) (hM : ct_i l y wy rm EN D cl wc (.ref b :: As) post mc ms) (cw : CallW R s args own C index y bytes maxL ret wy rm mc ms n) (hrec : ∃ cellB : Cell, H[b]? = some cellB ∧ cellB.vm.isStatics = false ∧ s.vm.findClass C = some cellB.cls)
    (hP : va_P D cl ws H) (hD : va_D A ws) (hS : va_S A H0 H locs) (hA : ∀ q, H0.size ≤ q → A q) (isC isR : List Nat) (hC : isC.map (fun i => ws[i]?) = wc.map some) (hR : isR.map (fun i => ws[i]?) = wr.map some) (hnC : va_nd isC = true) (hn : va_nd isR = true) (hdis : ∀ i ∈ isR, i ∉ isC)
    (hl : As.length = n) (hsz : ls.size = nL) (hst : st0 = As.reverse ++ .ref b :: rest) (hW : (rest.map fun v => v.category).sum ≤ 8) (hdg : decode cc pc = .ok (.invokevirtual index, 3)) (hf : cells + mc ≤ R.cells ∧ slots + ms ≤ R.slots)
    (kk : ∀ (r : Int32) (w1 : va_W) (H : Heap) (locs : List Loc), post r w1 → va_P D cl (wr ++ w1) H → va_D A (wr ++ w1) → va_S A H0 H locs → W p l e R s m args below meth c H locs (cells + mc) (slots + ms) Q (F0 m (pc + 3) ls (.int r :: rest))) : W p l e R s m args below meth c H locs cells slots Q (F0 m pc ls st0) :=
  ct_backi (va_runV S (hM H.size) cw ⟨ct_blind hE, hrec, ct_pre hE hEN hP hD hC hnC⟩ rfl hl hsz hst (lv_room hW) hdg hf) hP hD hS hA hC hR hn hdis kk
theorem ct_Vv {post : va_W → Prop} (S : CallFix p m c cc nL s args Ts own) (hE : ct_E EN) (hEN : EN s) (hM : ct_v l y wy rm EN D cl wc (.ref b :: As) post mc ms) (cw : CallW R s args own C index y bytes maxL ret wy rm mc ms n) (hrec : ∃ cellB : Cell, H[b]? = some cellB ∧ cellB.vm.isStatics = false ∧ s.vm.findClass C = some cellB.cls)
    (hP : va_P D cl ws H) (hD : va_D A ws) (hS : va_S A H0 H locs) (hA : ∀ q, H0.size ≤ q → A q) (isC isR : List Nat) (hC : isC.map (fun i => ws[i]?) = wc.map some) (hR : isR.map (fun i => ws[i]?) = wr.map some) (hnC : va_nd isC = true) (hn : va_nd isR = true) (hdis : ∀ i ∈ isR, i ∉ isC)
    (hl : As.length = n) (hsz : ls.size = nL) (hst : st0 = As.reverse ++ .ref b :: rest) (hW : (rest.map fun v => v.category).sum ≤ 8) (hdg : decode cc pc = .ok (.invokevirtual index, 3)) (hf : cells + mc ≤ R.cells ∧ slots + ms ≤ R.slots)
    (kk : ∀ (w1 : va_W) (H : Heap) (locs : List Loc), post w1 → va_P D cl (wr ++ w1) H → va_D A (wr ++ w1) → va_S A H0 H locs → W p l e R s m args below meth c H locs (cells + mc) (slots + ms) Q (F0 m (pc + 3) ls rest)) : W p l e R s m args below meth c H locs cells slots Q (F0 m pc ls st0) :=
  ct_backv (va_runV S (hM H.size) cw ⟨ct_blind hE, hrec, ct_pre hE hEN hP hD hC hnC⟩ rfl hl hsz hst (lv_room hW) hdg hf) hP hD hS hA hC hR hn hdis kk
theorem ct_Si {post : Int32 → va_W → Prop} (S : CallFix p m c cc nL s args Ts own) (hE : ct_E EN) (hEN : EN s) (hM : ct_i l y wy rm EN D cl wc As post mc ms) (cw : CallB R s args own index y bytes maxL ret wy rm mc ms n ∧ (Cond.static y).before args s = true)
    (hP : va_P D cl ws H) (hD : va_D A ws) (hS : va_S A H0 H locs) (hA : ∀ q, H0.size ≤ q → A q) (isC isR : List Nat) (hC : isC.map (fun i => ws[i]?) = wc.map some) (hR : isR.map (fun i => ws[i]?) = wr.map some) (hnC : va_nd isC = true) (hn : va_nd isR = true) (hdis : ∀ i ∈ isR, i ∉ isC)
    (hl : As.length = n) (hsz : ls.size = nL) (hst : st0 = As.reverse ++ rest) (hW : (rest.map fun v => v.category).sum ≤ 8) (hdg : decode cc pc = .ok (.invokestatic index, 3)) (hf : cells + mc ≤ R.cells ∧ slots + ms ≤ R.slots)
    (kk : ∀ (r : Int32) (w1 : va_W) (H : Heap) (locs : List Loc), post r w1 → va_P D cl (wr ++ w1) H → va_D A (wr ++ w1) → va_S A H0 H locs → W p l e R s m args below meth c H locs (cells + mc) (slots + ms) Q (F0 m (pc + 3) ls (.int r :: rest))) : W p l e R s m args below meth c H locs cells slots Q (F0 m pc ls st0) :=
  ct_backi (va_runS S (hM H.size) cw ⟨ct_blind hE, ct_pre hE hEN hP hD hC hnC⟩ rfl hl hsz hst (lv_room hW) hdg hf) hP hD hS hA hC hR hn hdis kk
theorem ct_Sv {post : va_W → Prop} (S : CallFix p m c cc nL s args Ts own) (hE : ct_E EN) (hEN : EN s) (hM : ct_v l y wy rm EN D cl wc As post mc ms) (cw : CallB R s args own index y bytes maxL ret wy rm mc ms n ∧ (Cond.static y).before args s = true)
    (hP : va_P D cl ws H) (hD : va_D A ws) (hS : va_S A H0 H locs) (hA : ∀ q, H0.size ≤ q → A q) (isC isR : List Nat) (hC : isC.map (fun i => ws[i]?) = wc.map some) (hR : isR.map (fun i => ws[i]?) = wr.map some) (hnC : va_nd isC = true) (hn : va_nd isR = true) (hdis : ∀ i ∈ isR, i ∉ isC)
    (hl : As.length = n) (hsz : ls.size = nL) (hst : st0 = As.reverse ++ rest) (hW : (rest.map fun v => v.category).sum ≤ 8) (hdg : decode cc pc = .ok (.invokestatic index, 3)) (hf : cells + mc ≤ R.cells ∧ slots + ms ≤ R.slots)
    (kk : ∀ (w1 : va_W) (H : Heap) (locs : List Loc), post w1 → va_P D cl (wr ++ w1) H → va_D A (wr ++ w1) → va_S A H0 H locs → W p l e R s m args below meth c H locs (cells + mc) (slots + ms) Q (F0 m (pc + 3) ls rest)) : W p l e R s m args below meth c H locs cells slots Q (F0 m pc ls st0) :=
  ct_backv (va_runS S (hM H.size) cw ⟨ct_blind hE, ct_pre hE hEN hP hD hC hnC⟩ rfl hl hsz hst (lv_room hW) hdg hf) hP hD hS hA hC hR hn hdis kk
end CT
end
section
/-! Walks over trays: pure rows, no machine. T trays, tray t lies between the nodes a t and b t and is ln t long. -/
/-- the node behind tray t, seen from u -/
def cw_nx (a b : Nat → Nat) (t u : Nat) : Option Nat := if a t = u then some (b t) else if b t = u then some (a t) else none
/-- the trays p lead from u to v -/
def cw_wk (T : Nat) (a b : Nat → Nat) : List Nat → Nat → Nat → Prop
  | [], u, v => u = v
  | t :: p, u, v => t < T ∧ ∃ w, cw_nx a b t u = some w ∧ cw_wk T a b p w v
def cw_ln (ln : Nat → Nat) : List Nat → Nat
  | [] => 0
  | t :: p => ln t + cw_ln ln p
/-- tray by tray, the lower number first -/
def cw_le : List Nat → List Nat → Prop
  | [], _ => True
  | _ :: _, [] => False
  | t :: p, s :: q => t < s ∨ (t = s ∧ cw_le p q)
/-- what the document calls a way -/
def cw_way (T : Nat) (a b ln : Nat → Nat) (u v : Nat) (p : List Nat) : Prop :=
  cw_wk T a b p u v ∧ ∀ q, cw_wk T a b q u v → cw_ln ln p ≤ cw_ln ln q ∧ (cw_ln ln q = cw_ln ln p → cw_le p q)
theorem cw_le_anti : ∀ (p q : List Nat), cw_le p q → cw_le q p → p = q
  | [], [], _, _ => rfl
  | [], _ :: _, _, h => absurd h (fun h => h)
  | _ :: _, [], h, _ => absurd h (fun h => h)
  | t :: p, s :: q, h1, h2 => by
    have h1 : t < s ∨ (t = s ∧ cw_le p q) := h1
    have h2 : s < t ∨ (s = t ∧ cw_le q p) := h2
    rcases h1 with h1 | ⟨e, h1⟩
    · rcases h2 with h2 | ⟨e2, -⟩ <;> omega
    · rcases h2 with h2 | ⟨-, h2⟩
      · omega
      · rw [e, cw_le_anti p q h1 h2]
theorem cw_way_uniq {T : Nat} {a b ln : Nat → Nat} {u v : Nat} {p q : List Nat} (hp : cw_way T a b ln u v p) (hq : cw_way T a b ln u v q) : p = q := by
  have h1 := hp.2 q hq.1
  have h2 := hq.2 p hp.1
  have e : cw_ln ln q = cw_ln ln p := by omega
  exact cw_le_anti p q (h1.2 e) (h2.2 e.symm)
/-- n + 1 numbers below n: two are the same -/
theorem cw_pigeon : ∀ (n : Nat) (f : Nat → Nat), (∀ i, i ≤ n → f i < n) → ∃ i j, i < j ∧ j ≤ n ∧ f i = f j
  | 0, f, h => absurd (h 0 (Nat.le_refl 0)) (Nat.not_lt_zero _)
  | n + 1, f, h => by
    by_cases hc : ∃ i, i ≤ n ∧ f i = f (n + 1)
    · obtain ⟨i, hi, e⟩ := hc
      exact ⟨i, n + 1, by omega, Nat.le_refl _, e⟩
    · have hne : ∀ i, i ≤ n → f i ≠ f (n + 1) := fun i hi e => hc ⟨i, hi, e⟩
      obtain ⟨i, j, h1, h2, h3⟩ := cw_pigeon n (fun i => if f i = n then f (n + 1) else f i) (fun i hi => by
        have h4 := h i (by omega)
        have h5 := h (n + 1) (Nat.le_refl _)
        have h6 := hne i hi
        show (if f i = n then f (n + 1) else f i) < n
        split <;> omega)
      refine ⟨i, j, h1, by omega, ?_⟩
      have h3 : (if f i = n then f (n + 1) else f i) = (if f j = n then f (n + 1) else f j) := h3
      have h6 := hne i (by omega)
      have h7 := hne j h2
      split at h3 <;> split at h3 <;> omega
theorem cw_wk_app {T : Nat} {a b : Nat → Nat} : ∀ {p q : List Nat} {u w v : Nat}, cw_wk T a b p u w → cw_wk T a b q w v → cw_wk T a b (p ++ q) u v
  | [], q, u, w, v, h1, h2 => by
    have h1 : u = w := h1
    rw [h1]; exact h2
  | t :: p, q, u, w, v, h1, h2 => by
    obtain ⟨ht, x, hx, h⟩ := h1
    exact ⟨ht, x, hx, cw_wk_app h h2⟩
theorem cw_wk_split {T : Nat} {a b : Nat → Nat} : ∀ {p q : List Nat} {u v : Nat}, cw_wk T a b (p ++ q) u v → ∃ w, cw_wk T a b p u w ∧ cw_wk T a b q w v
  | [], q, u, v, h => ⟨u, rfl, h⟩
  | t :: p, q, u, v, h => by
    obtain ⟨ht, x, hx, h⟩ := h
    obtain ⟨w, h1, h2⟩ := cw_wk_split h
    exact ⟨w, ⟨ht, x, hx, h1⟩, h2⟩
theorem cw_wk_det {T : Nat} {a b : Nat → Nat} : ∀ {p : List Nat} {u v w : Nat}, cw_wk T a b p u v → cw_wk T a b p u w → v = w
  | [], u, v, w, h1, h2 => Eq.trans (Eq.symm (show u = v from h1)) (show u = w from h2)
  | t :: p, u, v, w, h1, h2 => by
    obtain ⟨-, x, hx, h1⟩ := h1
    obtain ⟨-, y, hy, h2⟩ := h2
    rw [hx] at hy
    cases hy
    exact cw_wk_det h1 h2
theorem cw_ln_app (ln : Nat → Nat) : ∀ (p q : List Nat), cw_ln ln (p ++ q) = cw_ln ln p + cw_ln ln q
  | [], q => by show cw_ln ln q = 0 + cw_ln ln q; omega
  | t :: p, q => by
    show ln t + cw_ln ln (p ++ q) = ln t + cw_ln ln p + cw_ln ln q
    rw [cw_ln_app ln p q]; omega
/-- every tray below T lies between two nodes below 10, and is at least 1 long -/
def cw_ok (T : Nat) (a b ln : Nat → Nat) : Prop := ∀ t, t < T → a t < 10 ∧ b t < 10 ∧ a t ≠ b t ∧ 1 ≤ ln t
theorem cw_nx_lt {T : Nat} {a b ln : Nat → Nat} (ok : cw_ok T a b ln) {t u w : Nat} (ht : t < T) (h : cw_nx a b t u = some w) : u < 10 ∧ w < 10 ∧ u ≠ w := by
  obtain ⟨h1, h2, h3, -⟩ := ok t ht
  unfold cw_nx at h
  split at h
  · cases h; omega
  · split at h
    · cases h; omega
    · cases h
theorem cw_ln_pos {T : Nat} {a b ln : Nat → Nat} (ok : cw_ok T a b ln) : ∀ {p : List Nat} {u v : Nat}, cw_wk T a b p u v → p.length ≤ cw_ln ln p
  | [], _, _, _ => Nat.le_refl 0
  | t :: p, u, v, h => by
    obtain ⟨ht, x, hx, h⟩ := h
    have h1 := cw_ln_pos ok h
    have h2 := (ok t ht).2.2.2
    show p.length + 1 ≤ ln t + cw_ln ln p
    omega
/-- a walk of ten trays or more is not of the least length -/
theorem cw_long {T : Nat} {a b ln : Nat → Nat} (ok : cw_ok T a b ln) {p : List Nat} {u v : Nat} (h : cw_wk T a b p u v) (hl : 10 ≤ p.length) (hv : v < 10) : ∃ q, cw_wk T a b q u v ∧ cw_ln ln q < cw_ln ln p := by
  have key : ∀ i : Nat, ∃ w, cw_wk T a b (p.take i) u w ∧ cw_wk T a b (p.drop i) w v := fun i => by
    have h1 : cw_wk T a b (p.take i ++ p.drop i) u v := by rw [List.take_append_drop]; exact h
    exact cw_wk_split h1
  have small : ∀ i w, cw_wk T a b (p.drop i) w v → w < 10 := by
    intro i w hw
    cases hd : p.drop i with
    | nil => rw [hd] at hw; have hw : w = v := hw; omega
    | cons t q =>
      rw [hd] at hw
      obtain ⟨ht, x, hx, -⟩ := hw
      exact (cw_nx_lt ok ht hx).1
  obtain ⟨i, j, hij, hj, e⟩ := cw_pigeon 10 (fun i => (key i).choose) (fun i _ => small i _ (key i).choose_spec.2)
  have e : (key i).choose = (key j).choose := e
  have h1 := (key i).choose_spec.1
  have h2 := (key j).choose_spec.2
  have h3 := (key i).choose_spec.2
  rw [← e] at h2
  generalize (key i).choose = wi at h1 h2 h3
  have hd : p.drop i = (p.drop i).take (j - i) ++ p.drop j := by
    have e1 : p.drop j = (p.drop i).drop (j - i) := by rw [List.drop_drop]; congr 1; omega
    rw [e1, List.take_append_drop]
  refine ⟨p.take i ++ p.drop j, cw_wk_app h1 h2, ?_⟩
  have e2 : cw_ln ln p = cw_ln ln (p.take i) + cw_ln ln (p.drop i) := by rw [← cw_ln_app, List.take_append_drop]
  have e3 : cw_ln ln (p.drop i) = cw_ln ln ((p.drop i).take (j - i)) + cw_ln ln (p.drop j) := by rw [← cw_ln_app, ← hd]
  rw [hd] at h3
  obtain ⟨w, h4, -⟩ := cw_wk_split h3
  have h5 := cw_ln_pos ok h4
  have h6 : ((p.drop i).take (j - i)).length = j - i := by
    rw [List.length_take, List.length_drop]; omega
  rw [cw_ln_app, e2, e3]
  omega
end
section
/-! Distances to the node v: what relaxing tray by tray comes to; the greedy way. F: farther than every way. -/
/-- what is told of d is the length of some walk -/
def cw_sd (T : Nat) (a b ln : Nat → Nat) (v F : Nat) (d : Nat → Nat) : Prop :=
  (∀ u, d u ≤ F) ∧ ∀ u, d u < F → ∃ p, cw_wk T a b p u v ∧ cw_ln ln p = d u
/-- no walk of at most k trays is shorter -/
def cw_hp (T : Nat) (a b ln : Nat → Nat) (v k : Nat) (d : Nat → Nat) : Prop := ∀ p u, p.length ≤ k → cw_wk T a b p u v → d u ≤ cw_ln ln p
/-- d is the distance to v, or F -/
def cw_ds (T : Nat) (a b ln : Nat → Nat) (v F : Nat) (d : Nat → Nat) : Prop :=
  cw_sd T a b ln v F d ∧ ∀ p u, cw_wk T a b p u v → d u ≤ cw_ln ln p
/-- inside a round, trays below t done: g says whether d is as it was at the round's start -/
def cw_in (T : Nat) (a b ln : Nat → Nat) (v F k t : Nat) (g : Bool) (d : Nat → Nat) : Prop :=
  cw_sd T a b ln v F d ∧ d v = 0 ∧ cw_hp T a b ln v k d ∧
  (∀ t', t' < t → ∀ u w, cw_nx a b t' u = some w → ∀ p, p.length ≤ k → cw_wk T a b p w v → d u ≤ ln t' + cw_ln ln p) ∧
  (g = false → ∀ t', t' < t → ∀ u w, cw_nx a b t' u = some w → d u ≤ d w + ln t')
/-- between two rounds -/
def cw_rd (T : Nat) (a b ln : Nat → Nat) (v F k : Nat) (g : Bool) (d : Nat → Nat) : Prop :=
  cw_sd T a b ln v F d ∧ d v = 0 ∧ cw_hp T a b ln v k d ∧ (g = false → ∀ t', t' < T → ∀ u w, cw_nx a b t' u = some w → d u ≤ d w + ln t')
theorem cw_rd_0 {T : Nat} {a b ln : Nat → Nat} {v F : Nat} (hF : 0 < F) : cw_rd T a b ln v F 0 true (nr_up (fun _ => F) v 0) := by
  refine ⟨⟨fun u => ?_, fun u h => ?_⟩, ?_, ?_, fun h => by cases h⟩
  · unfold nr_up; dsimp only; split <;> omega
  · unfold nr_up at h ⊢
    dsimp only at h ⊢
    split at h
    · rename_i e
      refine ⟨[], e, ?_⟩
      rw [if_pos e]; rfl
    · omega
  · unfold nr_up; rw [if_pos rfl]
  · intro p u hp hw
    cases p with
    | nil =>
      have hw : u = v := hw
      unfold nr_up; rw [if_pos hw]; exact Nat.zero_le _
    | cons t p => exact absurd hp (by simp)
theorem cw_in_0 {T : Nat} {a b ln : Nat → Nat} {v F k : Nat} {g : Bool} {d : Nat → Nat} (h : cw_rd T a b ln v F k g d) : cw_in T a b ln v F k 0 false d :=
  ⟨h.1, h.2.1, h.2.2.1, fun t' ht => absurd ht (Nat.not_lt_zero _), fun _ t' ht => absurd ht (Nat.not_lt_zero _)⟩
theorem cw_in_end {T : Nat} {a b ln : Nat → Nat} {v F k : Nat} {g : Bool} {d : Nat → Nat} (h : cw_in T a b ln v F k T g d) : cw_rd T a b ln v F (k + 1) g d := by
  refine ⟨h.1, h.2.1, ?_, h.2.2.2.2⟩
  intro p u hp hw
  cases p with
  | nil =>
    have hw : u = v := hw
    rw [hw, h.2.1]; exact Nat.zero_le _
  | cons t p =>
    obtain ⟨ht, w, hx, hw⟩ := hw
    exact h.2.2.2.1 t ht u w hx p (by simp at hp; omega) hw
/-- the number that a tray of length x from u to w offers, taken where it is less -/
def cw_sh (d : Nat → Nat) (u w x : Nat) : Nat → Nat := if d w + x < d u then nr_up d u (d w + x) else d
theorem cw_sh_le (d : Nat → Nat) (u w x y : Nat) : cw_sh d u w x y ≤ d y := by
  unfold cw_sh
  split
  · unfold nr_up
    split
    · rename_i e; rw [e]; omega
    · exact Nat.le_refl _
  · exact Nat.le_refl _
theorem cw_sh_at (d : Nat → Nat) (u w x : Nat) : cw_sh d u w x u ≤ d w + x := by
  unfold cw_sh
  split
  · unfold nr_up; rw [if_pos rfl]; exact Nat.le_refl _
  · omega
theorem cw_sd_sh {T : Nat} {a b ln : Nat → Nat} {v F t u w : Nat} {d : Nat → Nat} (h : cw_sd T a b ln v F d) (ht : t < T) (hx : cw_nx a b t u = some w) : cw_sd T a b ln v F (cw_sh d u w (ln t)) := by
  unfold cw_sh
  split
  · rename_i hlt
    have h1 := h.1 u
    obtain ⟨p, hp, e⟩ := h.2 w (by omega)
    refine ⟨fun y => ?_, fun y hy => ?_⟩
    · unfold nr_up
      split
      · omega
      · exact h.1 y
    · unfold nr_up at hy ⊢
      split at hy
      · rename_i e2
        rw [if_pos e2, e2]
        refine ⟨t :: p, ⟨ht, w, hx, hp⟩, ?_⟩
        show ln t + cw_ln ln p = d w + ln t
        omega
      · rename_i e2
        rw [if_neg e2]
        exact h.2 y hy
  · exact h
theorem cw_hp_sh {T : Nat} {a b ln : Nat → Nat} {v k u w x : Nat} {d : Nat → Nat} (h : cw_hp T a b ln v k d) : cw_hp T a b ln v k (cw_sh d u w x) :=
  fun p y hp hw => Nat.le_trans (cw_sh_le d u w x y) (h p y hp hw)
theorem cw_nx_a {a b : Nat → Nat} (t : Nat) : cw_nx a b t (a t) = some (b t) := by unfold cw_nx; rw [if_pos rfl]
theorem cw_nx_b {a b : Nat → Nat} {t : Nat} (h : a t ≠ b t) : cw_nx a b t (b t) = some (a t) := by unfold cw_nx; rw [if_neg h, if_pos rfl]
theorem cw_nx_cases {a b : Nat → Nat} {t u w : Nat} (h : cw_nx a b t u = some w) : (u = a t ∧ w = b t) ∨ (u = b t ∧ w = a t) := by
  unfold cw_nx at h
  split at h
  · rename_i e; cases h; exact Or.inl ⟨e.symm, rfl⟩
  · split at h
    · rename_i e; cases h; exact Or.inr ⟨e.symm, rfl⟩
    · cases h
/-- whether the offer was taken -/
def cw_tk (d : Nat → Nat) (u w x : Nat) : Bool := decide (d w + x < d u)
theorem cw_sh_no {d : Nat → Nat} {u w x : Nat} (h : cw_tk d u w x = false) : cw_sh d u w x = d ∧ d u ≤ d w + x := by
  unfold cw_tk at h
  have h : ¬ d w + x < d u := of_decide_eq_false h
  unfold cw_sh
  rw [if_neg h]
  exact ⟨rfl, by omega⟩
/-- one tray, both ways -/
theorem cw_in_s {T : Nat} {a b ln : Nat → Nat} (ok : cw_ok T a b ln) {v F k t : Nat} {g : Bool} {d : Nat → Nat} (ht : t < T) (h : cw_in T a b ln v F k t g d) :
    cw_in T a b ln v F k (t + 1) (g || cw_tk d (a t) (b t) (ln t) || cw_tk (cw_sh d (a t) (b t) (ln t)) (b t) (a t) (ln t)) (cw_sh (cw_sh d (a t) (b t) (ln t)) (b t) (a t) (ln t)) := by
  obtain ⟨h1, h2, h3, h4, h5⟩ := h
  have hne := (ok t ht).2.2.1
  have le1 := cw_sh_le d (a t) (b t) (ln t)
  have le2 := cw_sh_le (cw_sh d (a t) (b t) (ln t)) (b t) (a t) (ln t)
  have s1 := cw_sd_sh h1 ht (cw_nx_a t)
  have s2 := cw_sd_sh s1 ht (cw_nx_b hne)
  refine ⟨s2, ?_, cw_hp_sh (cw_hp_sh h3), ?_, ?_⟩
  · have q1 := le1 v
    have q2 := le2 v
    omega
  · intro t' ht' u w hx p hp hw
    by_cases e : t' = t
    · subst e
      have q3 := h3 p w hp hw
      rcases cw_nx_cases hx with ⟨e1, e2⟩ | ⟨e1, e2⟩
      · subst e1; subst e2
        have q1 := cw_sh_at d (a t') (b t') (ln t')
        have q2 := le2 (a t')
        omega
      · subst e1; subst e2
        have q1 := cw_sh_at (cw_sh d (a t') (b t') (ln t')) (b t') (a t') (ln t')
        have q2 := le1 (a t')
        omega
    · have q := h4 t' (by omega) u w hx p hp hw
      have q1 := le1 u
      have q2 := le2 u
      omega
  · intro hg
    have hg1 : g = false := by
      cases g with
      | false => rfl
      | true => simp at hg
    have hg2 : cw_tk d (a t) (b t) (ln t) = false := by
      cases hq : cw_tk d (a t) (b t) (ln t) with
      | false => rfl
      | true => rw [hq] at hg; simp at hg
    have hg3 : cw_tk (cw_sh d (a t) (b t) (ln t)) (b t) (a t) (ln t) = false := by
      cases hq : cw_tk (cw_sh d (a t) (b t) (ln t)) (b t) (a t) (ln t) with
      | false => rfl
      | true => rw [hq] at hg; simp at hg
    obtain ⟨e1, q1⟩ := cw_sh_no hg2
    obtain ⟨e2, q2⟩ := cw_sh_no hg3
    rw [e2, e1]
    rw [e1] at q2
    intro t' ht' u w hx
    by_cases e : t' = t
    · subst e
      rcases cw_nx_cases hx with ⟨e1, e2⟩ | ⟨e1, e2⟩
      · subst e1; subst e2; exact q1
      · subst e1; subst e2; exact q2
    · exact h5 hg1 t' (by omega) u w hx
theorem cw_rd_calm {T : Nat} {a b ln : Nat → Nat} {v F k : Nat} {d : Nat → Nat} (h : cw_rd T a b ln v F k false d) : cw_ds T a b ln v F d := by
  refine ⟨h.1, ?_⟩
  intro p
  induction p with
  | nil =>
    intro u hw
    have hw : u = v := hw
    rw [hw, h.2.1]; exact Nat.zero_le _
  | cons t p ih =>
    intro u hw
    obtain ⟨ht, w, hx, hw⟩ := hw
    have q1 := ih w hw
    have q2 := h.2.2.2 rfl t ht u w hx
    show d u ≤ ln t + cw_ln ln p
    omega
/-- a least walk has at most nine trays -/
theorem cw_short {T : Nat} {a b ln : Nat → Nat} (ok : cw_ok T a b ln) {v : Nat} (hv : v < 10) : ∀ (n : Nat) (p : List Nat) (u : Nat), cw_ln ln p ≤ n → cw_wk T a b p u v → ∃ q, q.length ≤ 9 ∧ cw_wk T a b q u v ∧ cw_ln ln q ≤ cw_ln ln p := by
  intro n
  induction n with
  | zero =>
    intro p u hn hw
    have h1 := cw_ln_pos ok hw
    exact ⟨p, by omega, hw, Nat.le_refl _⟩
  | succ n ih =>
    intro p u hn hw
    by_cases hl : p.length ≤ 9
    · exact ⟨p, hl, hw, Nat.le_refl _⟩
    · obtain ⟨q, h1, h2⟩ := cw_long ok hw (by omega) hv
      obtain ⟨r, h3, h4, h5⟩ := ih q u (by omega) h1
      exact ⟨r, h3, h4, by omega⟩
theorem cw_rd_10 {T : Nat} {a b ln : Nat → Nat} (ok : cw_ok T a b ln) {v F k : Nat} {g : Bool} {d : Nat → Nat} (hv : v < 10) (hk : 9 ≤ k) (h : cw_rd T a b ln v F k g d) : cw_ds T a b ln v F d := by
  refine ⟨h.1, fun p u hw => ?_⟩
  obtain ⟨q, h1, h2, h3⟩ := cw_short ok hv (cw_ln ln p) p u (Nat.le_refl _) hw
  exact Nat.le_trans (h.2.2.1 q u (by omega) h2) h3
/-! the greedy way -/
/-- tray t leads from u nearer to v by its whole length -/
def cw_gd (a b ln d : Nat → Nat) (u t : Nat) : Prop := ∃ w, cw_nx a b t u = some w ∧ d w + ln t = d u
/-- a shortest walk goes on by such a tray -/
theorem cw_head {T : Nat} {a b ln : Nat → Nat} {v F : Nat} {d : Nat → Nat} (h : cw_ds T a b ln v F d) {t : Nat} {p : List Nat} {u : Nat} (hw : cw_wk T a b (t :: p) u v) (e : cw_ln ln (t :: p) = d u) : t < T ∧ ∃ w, cw_nx a b t u = some w ∧ d w + ln t = d u ∧ cw_wk T a b p w v ∧ cw_ln ln p = d w := by
  have e : ln t + cw_ln ln p = d u := e
  obtain ⟨ht, w, hx, hw⟩ := hw
  have q1 := h.2 p w hw
  refine ⟨ht, w, hx, ?_⟩
  by_cases hF : d w < F
  · obtain ⟨r, hr, er⟩ := h.1.2 w hF
    have q2 := h.2 (t :: r) u ⟨ht, w, hx, hr⟩
    have q2 : d u ≤ ln t + cw_ln ln r := q2
    exact ⟨by omega, hw, by omega⟩
  · have q3 := h.1.1 w
    have q4 := h.1.1 u
    have q5 : d u ≤ F := q4
    by_cases hz : ln t = 0
    · exact ⟨by omega, hw, by omega⟩
    · omega
/-- always the lowest such tray, from u to n -/
def cw_gr (T : Nat) (a b ln d : Nat → Nat) : List Nat → Nat → Nat → Prop
  | [], u, n => u = n
  | t :: p, u, n => t < T ∧ (∃ w, cw_nx a b t u = some w ∧ d w + ln t = d u ∧ cw_gr T a b ln d p w n) ∧ ∀ t', t' < t → ¬ cw_gd a b ln d u t'
theorem cw_gr_wk {T : Nat} {a b ln d : Nat → Nat} : ∀ {p : List Nat} {u n : Nat}, cw_gr T a b ln d p u n → cw_wk T a b p u n ∧ cw_ln ln p + d n = d u
  | [], u, n, h => by
    have h : u = n := h
    exact ⟨h, by show 0 + d n = d u; rw [h]; omega⟩
  | t :: p, u, n, h => by
    obtain ⟨ht, ⟨w, hx, e, h⟩, -⟩ := h
    obtain ⟨h1, h2⟩ := cw_gr_wk h
    exact ⟨⟨ht, w, hx, h1⟩, by show ln t + cw_ln ln p + d n = d u; omega⟩
theorem cw_gr_app {T : Nat} {a b ln d : Nat → Nat} {t w : Nat} : ∀ {p : List Nat} {u n : Nat}, cw_gr T a b ln d p u n → t < T → cw_nx a b t n = some w → d w + ln t = d n → (∀ t', t' < t → ¬ cw_gd a b ln d n t') → cw_gr T a b ln d (p ++ [t]) u w
  | [], u, n, h, ht, hx, e, hl => by
    have h : u = n := h
    subst h
    exact ⟨ht, ⟨w, hx, e, rfl⟩, hl⟩
  | s :: p, u, n, h, ht, hx, e, hl => by
    obtain ⟨hs, ⟨y, hy, e1, h⟩, h2⟩ := h
    exact ⟨hs, ⟨y, hy, e1, cw_gr_app h ht hx e hl⟩, h2⟩
theorem cw_gr_first {T : Nat} {a b ln : Nat → Nat} (ok : cw_ok T a b ln) {v F : Nat} {d : Nat → Nat} (hd : cw_ds T a b ln v F d) : ∀ {p q : List Nat} {u : Nat}, cw_gr T a b ln d p u v → cw_wk T a b q u v → cw_ln ln q = d u → cw_le p q
  | [], _, _, _, _, _ => trivial
  | t :: p, [], u, h, hq, e => by
    obtain ⟨ht, ⟨w, hx, e1, h⟩, -⟩ := h
    have e : 0 = d u := e
    have := (ok t ht).2.2.2
    omega
  | t :: p, s :: q, u, h, hq, e => by
    obtain ⟨ht, ⟨w, hx, e1, h⟩, hl⟩ := h
    obtain ⟨hs, w2, hx2, e2, hq2, e3⟩ := cw_head hd hq e
    by_cases hts : t < s
    · exact Or.inl hts
    · by_cases hst : s < t
      · exact absurd ⟨w2, hx2, e2⟩ (hl s hst)
      · have e4 : t = s := by omega
        subst e4
        rw [hx] at hx2
        cases hx2
        exact Or.inr ⟨rfl, cw_gr_first ok hd h hq2 e3⟩
theorem cw_ds_v {T : Nat} {a b ln : Nat → Nat} {v F : Nat} {d : Nat → Nat} (hd : cw_ds T a b ln v F d) : d v = 0 := by
  have h := hd.2 [] v rfl
  have h : d v ≤ 0 := h
  omega
theorem cw_gr_way {T : Nat} {a b ln : Nat → Nat} (ok : cw_ok T a b ln) {v F : Nat} {d : Nat → Nat} (hd : cw_ds T a b ln v F d) {p : List Nat} {u : Nat} (h : cw_gr T a b ln d p u v) : cw_way T a b ln u v p := by
  obtain ⟨h1, h2⟩ := cw_gr_wk h
  have h3 := cw_ds_v hd
  refine ⟨h1, fun q hq => ⟨?_, fun e => cw_gr_first ok hd h hq (by omega)⟩⟩
  have := hd.2 q u hq
  omega
/-- where the greedy walk isn't at v yet it has at most eight trays, and goes on -/
theorem cw_gr_go {T : Nat} {a b ln : Nat → Nat} (ok : cw_ok T a b ln) {v F : Nat} (hv : v < 10) {d : Nat → Nat} (hd : cw_ds T a b ln v F d) {p : List Nat} {u n : Nat} (h : cw_gr T a b ln d p u n) (hu : d u < F) (hn : n ≠ v) : p.length ≤ 8 ∧ ∃ t, t < T ∧ cw_gd a b ln d n t := by
  obtain ⟨h1, h2⟩ := cw_gr_wk h
  obtain ⟨r, hr, er⟩ := hd.1.2 n (by omega)
  cases r with
  | nil => exact absurd (show n = v from hr) hn
  | cons t r =>
    obtain ⟨ht, w, hx, e, -, -⟩ := cw_head hd hr er
    refine ⟨?_, t, ht, w, hx, e⟩
    have h3 := cw_wk_app h1 hr
    have h4 : cw_ln ln (p ++ t :: r) = d u := by rw [cw_ln_app, er]; omega
    by_cases hl : 10 ≤ (p ++ t :: r).length
    · obtain ⟨q, hq, hlt⟩ := cw_long ok h3 hl hv
      have := hd.2 q u hq
      omega
    · rw [List.length_append, List.length_cons] at hl
      omega
theorem cw_loose {T : Nat} {a b ln : Nat → Nat} (ok : cw_ok T a b ln) {v F M : Nat} (hv : v < 10) (hM : ∀ t, t < T → ln t ≤ M) (hF : 9 * M < F) {d : Nat → Nat} (hd : cw_ds T a b ln v F d) {u : Nat} (h : F ≤ d u) : ¬ ∃ p, cw_wk T a b p u v := by
  rintro ⟨p, hp⟩
  obtain ⟨q, h1, h2, -⟩ := cw_short ok hv (cw_ln ln p) p u (Nat.le_refl _) hp
  have h3 := hd.2 q u h2
  have key : ∀ (q : List Nat) (x y : Nat), cw_wk T a b q x y → cw_ln ln q ≤ q.length * M := by
    intro q
    induction q with
    | nil => intro x y _; exact Nat.zero_le _
    | cons t q ih =>
      intro x y hq
      obtain ⟨ht, w, -, hq⟩ := hq
      have q1 := ih w y hq
      have q2 := hM t ht
      show ln t + cw_ln ln q ≤ (q.length + 1) * M
      rw [Nat.add_mul, Nat.one_mul]; omega
  have h4 := key q u v h2
  have h5 : q.length * M ≤ 9 * M := Nat.mul_le_mul_right M h1
  omega
end
section
/-! The least sizes: pure rows, no machine. C cables; wc c: how many trays cable c's way has, wt c i: its i-th tray, wl c: its length; p: a size for each cable -/
def cz_sum (f : Nat → Nat) : Nat → Nat
  | 0 => 0
  | n + 1 => cz_sum f n + f n
theorem cz_sum_le {f g : Nat → Nat} : ∀ {n : Nat}, (∀ i, i < n → f i ≤ g i) → cz_sum f n ≤ cz_sum g n
  | 0, _ => Nat.le_refl 0
  | n + 1, h => Nat.add_le_add (cz_sum_le (fun i hi => h i (Nat.lt_succ_of_lt hi))) (h n (Nat.lt_succ_self n))
theorem cz_sum_eq {f g : Nat → Nat} : ∀ {n : Nat}, (∀ i, i < n → f i = g i) → cz_sum f n = cz_sum g n
  | 0, _ => rfl
  | n + 1, h => by
    show cz_sum f n + f n = cz_sum g n + g n
    rw [cz_sum_eq (fun i hi => h i (Nat.lt_succ_of_lt hi)), h n (Nat.lt_succ_self n)]
theorem cz_sum_bd {f : Nat → Nat} {M : Nat} : ∀ {n : Nat}, (∀ i, i < n → f i ≤ M) → cz_sum f n ≤ n * M
  | 0, _ => Nat.zero_le _
  | n + 1, h => by
    have h1 := cz_sum_bd (n := n) (fun i hi => h i (Nat.lt_succ_of_lt hi))
    have h2 := h n (Nat.lt_succ_self n)
    show cz_sum f n + f n ≤ (n + 1) * M
    rw [Nat.add_mul, Nat.one_mul]; omega
/-- the factor of a fill -/
def cz_fac (x : Nat) : Nat := if x ≤ 200 then 1000 else if x ≤ 400 then 800 else if x ≤ 600 then 650 else if x ≤ 800 then 550 else if x ≤ 1000 then 500 else 0
theorem cz_fac_anti {x y : Nat} (h : x ≤ y) : cz_fac y ≤ cz_fac x := by
  unfold cz_fac
  repeat' split
  all_goals omega
theorem cz_fac_le (x : Nat) : cz_fac x ≤ 1000 := by
  unfold cz_fac
  repeat' split
  all_goals omega
section cz
variable (C S : Nat) (ar rt oh cu wc wl rm : Nat → Nat) (wt : Nat → Nat → Nat) (lim : Nat)
/-- how often cable c's way has tray t -/
def cz_occ (c t : Nat) : Nat := cz_sum (fun i => if wt c i = t then 1 else 0) (wc c)
/-- the areas in tray t -/
def cz_load (p : Nat → Nat) (t : Nat) : Nat := cz_sum (fun c => cz_occ wc wt c t * ar (p c)) C
def cz_fill (p : Nat → Nat) (t : Nat) : Nat := cz_load C ar wc wt p t * 1000 / rm t
/-- the least factor on the first k trays of cable c's way -/
def cz_mf (p : Nat → Nat) (c : Nat) : Nat → Nat
  | 0 => 1000
  | k + 1 => min (cz_mf p c k) (cz_fac (cz_fill C ar wc rm wt p (wt c k)))
def cz_carry (p : Nat → Nat) (c : Nat) : Nat := rt (p c) * cz_mf C ar wc rm wt p c (wc c) / 1000
def cz_drop (p : Nat → Nat) (c : Nat) : Nat := cu c * oh (p c) * wl c / 1000
def cz_right (p : Nat → Nat) (c : Nat) : Prop := wc c = 0 ∨ (cu c ≤ cz_carry C ar rt wc rm wt p c ∧ cz_drop oh cu wl p c ≤ lim)
/-- sizes with which all are right -/
def cz_all (p : Nat → Nat) : Prop := ∀ c, c < C → p c < S ∧ cz_right C ar rt oh cu wc wl rm wt lim p c
def cz_least (p : Nat → Nat) : Prop := cz_all C S ar rt oh cu wc wl rm wt lim p ∧ ∀ q, cz_all C S ar rt oh cu wc wl rm wt lim q → ∀ c, c < C → p c ≤ q c
/-- later sizes have the greater area and a rating not less -/
def cz_ord : Prop := ∀ i j, i ≤ j → j < S → ar i ≤ ar j ∧ rt i ≤ rt j
end cz
section czt
variable {C S : Nat} {ar rt oh cu wc wl rm : Nat → Nat} {wt : Nat → Nat → Nat} {lim : Nat}
theorem cz_load_mono (ho : cz_ord S ar rt) {p q : Nat → Nat} (h : ∀ c, c < C → p c ≤ q c ∧ q c < S) (t : Nat) : cz_load C ar wc wt p t ≤ cz_load C ar wc wt q t :=
  cz_sum_le (fun c hc => Nat.mul_le_mul_left _ (ho (p c) (q c) (h c hc).1 (h c hc).2).1)
theorem cz_fill_mono (ho : cz_ord S ar rt) {p q : Nat → Nat} (h : ∀ c, c < C → p c ≤ q c ∧ q c < S) (t : Nat) : cz_fill C ar wc rm wt p t ≤ cz_fill C ar wc rm wt q t :=
  Nat.div_le_div_right (Nat.mul_le_mul_right 1000 (cz_load_mono ho h t))
theorem cz_mf_anti (ho : cz_ord S ar rt) {p q : Nat → Nat} (h : ∀ c, c < C → p c ≤ q c ∧ q c < S) (c : Nat) : ∀ k, cz_mf C ar wc rm wt q c k ≤ cz_mf C ar wc rm wt p c k
  | 0 => Nat.le_refl _
  | k + 1 => by
    have h1 := cz_mf_anti ho h c k
    have h2 := cz_fac_anti (cz_fill_mono (wc := wc) (rm := rm) (wt := wt) ho h (wt c k))
    show min _ _ ≤ min _ _
    omega
/-- a cable that is wrong with p is wrong with the same size in greater sizes of all -/
theorem cz_wrong_up (ho : cz_ord S ar rt) {p q : Nat → Nat} (h : ∀ c, c < C → p c ≤ q c ∧ q c < S) {c : Nat} (hc : c < C) (hp : ¬ cz_right C ar rt oh cu wc wl rm wt lim p c) (hq : cz_right C ar rt oh cu wc wl rm wt lim q c) : p c < q c := by
  by_cases hlt : p c < q c
  · exact hlt
  · have e : q c = p c := by have := (h c hc).1; omega
    refine absurd ?_ hp
    rcases hq with hq | ⟨h1, h2⟩
    · exact Or.inl hq
    · refine Or.inr ⟨Nat.le_trans h1 ?_, ?_⟩
      · unfold cz_carry
        rw [e]
        exact Nat.div_le_div_right (Nat.mul_le_mul_left _ (cz_mf_anti ho h c (wc c)))
      · unfold cz_drop at h2 ⊢
        rw [e] at h2
        exact h2
/-- what holds of p at a round's start: it is below all sizes with which all are right -/
def cz_low (C S : Nat) (ar rt oh cu wc wl rm : Nat → Nat) (wt : Nat → Nat → Nat) (lim : Nat) (p : Nat → Nat) : Prop := (∀ c, c < C → p c < S) ∧ ∀ q, cz_all C S ar rt oh cu wc wl rm wt lim q → ∀ c, c < C → p c ≤ q c
theorem cz_low_0 (hS : C = 0 ∨ 0 < S) : cz_low C S ar rt oh cu wc wl rm wt lim (fun _ => 0) :=
  ⟨fun c hc => by rcases hS with h | h <;> omega, fun q _ c _ => Nat.zero_le _⟩
theorem cz_low_least {p : Nat → Nat} (h : cz_low C S ar rt oh cu wc wl rm wt lim p) (hr : ∀ c, c < C → cz_right C ar rt oh cu wc wl rm wt lim p c) : cz_least C S ar rt oh cu wc wl rm wt lim p :=
  ⟨fun c hc => ⟨h.1 c hc, hr c hc⟩, h.2⟩
/-- inside a raising, cables below k done: p0 at the round's start -/
def cz_rs (C S : Nat) (ar rt oh cu wc wl rm : Nat → Nat) (wt : Nat → Nat → Nat) (lim : Nat) (p0 : Nat → Nat) (k : Nat) (p : Nat → Nat) : Prop :=
  cz_low C S ar rt oh cu wc wl rm wt lim p ∧ (∀ c, k ≤ c → p c = p0 c) ∧ (∀ c, c < k → p0 c ≤ p c ∧ (¬ cz_right C ar rt oh cu wc wl rm wt lim p0 c → p0 c < p c))
theorem cz_rs_0 {p0 : Nat → Nat} (h : cz_low C S ar rt oh cu wc wl rm wt lim p0) : cz_rs C S ar rt oh cu wc wl rm wt lim p0 0 p0 :=
  ⟨h, fun _ _ => rfl, fun c hc => absurd hc (Nat.not_lt_zero _)⟩
theorem cz_rs_right {p0 p : Nat → Nat} {k : Nat} (h : cz_rs C S ar rt oh cu wc wl rm wt lim p0 k p) (hr : cz_right C ar rt oh cu wc wl rm wt lim p0 k) : cz_rs C S ar rt oh cu wc wl rm wt lim p0 (k + 1) p := by
  refine ⟨h.1, fun c hc => h.2.1 c (by omega), fun c hc => ?_⟩
  by_cases e : c = k
  · subst e
    have := h.2.1 c (Nat.le_refl _)
    exact ⟨by omega, fun hn => absurd hr hn⟩
  · exact h.2.2 c (by omega)
theorem cz_rs_next (ho : cz_ord S ar rt) {p0 p : Nat → Nat} {k : Nat} (h0 : cz_low C S ar rt oh cu wc wl rm wt lim p0) (h : cz_rs C S ar rt oh cu wc wl rm wt lim p0 k p) (hk : k < C) (hw : ¬ cz_right C ar rt oh cu wc wl rm wt lim p0 k) :
    (S ≤ p k + 1 → ¬ ∃ q, cz_all C S ar rt oh cu wc wl rm wt lim q) ∧ (p k + 1 < S → cz_rs C S ar rt oh cu wc wl rm wt lim p0 (k + 1) (fun j => if j = k then p k + 1 else p j)) := by
  have e : p k = p0 k := h.2.1 k (Nat.le_refl _)
  have up : ∀ q, cz_all C S ar rt oh cu wc wl rm wt lim q → p0 k < q k := fun q hq =>
    cz_wrong_up ho (fun c hc => ⟨h0.2 q hq c hc, (hq c hc).1⟩) hk hw (hq k hk).2
  refine ⟨fun hS => ?_, fun hS => ⟨⟨fun c hc => ?_, fun q hq c hc => ?_⟩, fun c hc => ?_, fun c hc => ?_⟩⟩
  · rintro ⟨q, hq⟩
    have h1 := up q hq
    have h2 := (hq k hk).1
    omega
  · show (if c = k then p k + 1 else p c) < S
    split
    · exact hS
    · exact h.1.1 c hc
  · show (if c = k then p k + 1 else p c) ≤ q c
    split
    · rename_i e2
      subst e2
      have := up q hq
      omega
    · exact h.1.2 q hq c hc
  · show (if c = k then p k + 1 else p c) = p0 c
    rw [if_neg (by omega)]
    exact h.2.1 c (by omega)
  · show p0 c ≤ (if c = k then p k + 1 else p c) ∧ (_ → p0 c < (if c = k then p k + 1 else p c))
    split
    · rename_i e2
      subst e2
      exact ⟨by omega, fun _ => by omega⟩
    · exact h.2.2 c (by omega)
/-- a raising that comes to its end, where one was wrong: the sum has grown -/
theorem cz_rs_sum {p0 p : Nat → Nat} : ∀ {k : Nat}, (∀ c, c < k → p0 c ≤ p c) → (∃ c, c < k ∧ p0 c < p c) → cz_sum p0 k < cz_sum p k
  | 0, _, ⟨c, hc, _⟩ => absurd hc (Nat.not_lt_zero _)
  | k + 1, h, ⟨c, hc, hlt⟩ => by
    have h1 := h k (Nat.lt_succ_self k)
    have h2 : cz_sum p0 k ≤ cz_sum p k := cz_sum_le (fun i hi => h i (Nat.lt_succ_of_lt hi))
    show cz_sum p0 k + p0 k < cz_sum p k + p k
    by_cases e : c = k
    · subst e; omega
    · have h3 := cz_rs_sum (fun i hi => h i (Nat.lt_succ_of_lt hi)) ⟨c, by omega, hlt⟩
      omega
/-- the least sizes are one -/
theorem cz_least_uniq {p q : Nat → Nat} (hp : cz_least C S ar rt oh cu wc wl rm wt lim p) (hq : cz_least C S ar rt oh cu wc wl rm wt lim q) : ∀ c, c < C → p c = q c :=
  fun c hc => Nat.le_antisymm (hp.2 q hq.1 c hc) (hq.2 p hp.1 c hc)
end czt
end
section
/-! contracts: the start of a body, its ends; what every state keeps beside the words; the worlds of the system -/
def ct_Qi (post : Int32 → va_W → Prop) (D : va_G) (cl : List vw_C) (A : Nat → Prop) : Array Value → State → Outcome → State → Prop := va_Qi post (fun w t => va_P D cl w t.heap ∧ va_D A w) A
def ct_Qv (post : va_W → Prop) (D : va_G) (cl : List vw_C) (A : Nat → Prop) : Array Value → State → Outcome → State → Prop := va_Qv post (fun w t => va_P D cl w t.heap ∧ va_D A w) A
theorem ct_ofi {l : Launch} {y : MethodName} {cc : ByteArray} {maxL : Nat} {ret : Option FieldType} {ws' : List Cond} {rm : Room} {EN : State → Prop} {D : va_G} {cl : List vw_C} {ws : va_W} {As : List Value} {post : Int32 → va_W → Prop} {mc ms : Nat} (hy : plainName y.cls = true) (hn : (lg_sl As).length ≤ maxL)
    (body : ∀ (p : Program) (e : Env) (s : State) (m : MethodId) (below : List Frame) (meth : Method) (c : Code) (A : Nat → Prop) (H : Heap) (locs : List Loc) (av : Array Value) (Q : State → Prop) (ls : Array Slot), p.tables.exec = Jvm.exec → c.code = cc → meth.sig.returnType = ret → c.maxLocals = maxL → s.vm.findClass y.cls = some m.cls → meth.locks = false → (meth.name = y.name) → (∀ w ∈ ws', w.before av s = true) → EN s → Q = MQ below (ct_Qi post D cl A) av s mc ms A → va_P D cl ws H → va_D A ws → va_S A s.heap H locs → (∀ q, s.heap.size ≤ q → A q) → lv_has ls maxL (lv_args 0 As) →
      W p l e rm s m av below meth c H locs 0 0 Q (F0 m 0 ls [])) : ct_i l y (.code y cc maxL ret :: ws') rm EN D cl ws As post mc ms := by
  intro sz
  refine Met.ofW (cc := cc) (maxL := maxL) (ret := ret) hy rfl ?_
  intro p e s m args below meth c s₁ B hml hv
  obtain ⟨rfl, hsz, hP, hEN, hD0⟩ := hv
  subst hsz
  rw [lg_entry_eq]
  exact body p e s m below meth c (va_A ws s.heap.size) s.heap [] As.toArray _ _ B.exec B.bytes B.returns hml (findClass_of_methodNamed B.named) B.notSynchronized (name_of_methodNamed B.named B.method).1 (fun w h => atoms_spec (ws := .code y cc maxL ret :: ws') B.pre w (List.mem_cons_of_mem _ h)) hEN rfl hP (hD0.self (sz := s.heap.size)) va_S.rf (fun q h => Or.inr h) (lv_entry As hn)
theorem ct_ofv {l : Launch} {y : MethodName} {cc : ByteArray} {maxL : Nat} {ret : Option FieldType} {ws' : List Cond} {rm : Room} {EN : State → Prop} {D : va_G} {cl : List vw_C} {ws : va_W} {As : List Value} {post : va_W → Prop} {mc ms : Nat} (hy : plainName y.cls = true) (hn : (lg_sl As).length ≤ maxL)
    (body : ∀ (p : Program) (e : Env) (s : State) (m : MethodId) (below : List Frame) (meth : Method) (c : Code) (A : Nat → Prop) (H : Heap) (locs : List Loc) (av : Array Value) (Q : State → Prop) (ls : Array Slot), p.tables.exec = Jvm.exec → c.code = cc → meth.sig.returnType = ret → c.maxLocals = maxL → s.vm.findClass y.cls = some m.cls → meth.locks = false → (meth.name = y.name) → (∀ w ∈ ws', w.before av s = true) → EN s → Q = MQ below (ct_Qv post D cl A) av s mc ms A → va_P D cl ws H → va_D A ws → va_S A s.heap H locs → (∀ q, s.heap.size ≤ q → A q) → lv_has ls maxL (lv_args 0 As) →
      W p l e rm s m av below meth c H locs 0 0 Q (F0 m 0 ls [])) : ct_v l y (.code y cc maxL ret :: ws') rm EN D cl ws As post mc ms := by
  intro sz
  refine Met.ofW (cc := cc) (maxL := maxL) (ret := ret) hy rfl ?_
  intro p e s m args below meth c s₁ B hml hv
  obtain ⟨rfl, hsz, hP, hEN, hD0⟩ := hv
  subst hsz
  rw [lg_entry_eq]
  exact body p e s m below meth c (va_A ws s.heap.size) s.heap [] As.toArray _ _ B.exec B.bytes B.returns hml (findClass_of_methodNamed B.named) B.notSynchronized (name_of_methodNamed B.named B.method).1 (fun w h => atoms_spec (ws := .code y cc maxL ret :: ws') B.pre w (List.mem_cons_of_mem _ h)) hEN rfl hP (hD0.self (sz := s.heap.size)) va_S.rf (fun q h => Or.inr h) (lv_entry As hn)
section CR
variable {p : Program} {l : Launch} {e : Env} {R : Room} {s : State} {m : MethodId} {args : Array Value} {below : List Frame} {meth : Method} {c : Code} {H : Heap} {locs : List Loc} {cells slots : Nat}
variable {cc : ByteArray} {pc : Nat} {ls : Array Slot} {D : va_G} {cl : List vw_C} {A : Nat → Prop} {w : va_W}
theorem ct_iret {post : Int32 → va_W → Prop} {v : Int32} (hx : p.tables.exec = Jvm.exec) (hb : c.code = cc) (hr : meth.sig.returnType = some .int) (hlocks : meth.locks = false) (hP : va_P D cl w H) (hD : va_D A w) (hS : va_S A s.heap H locs) (hd : decode cc pc = .ok (.ireturn, 1)) (hw : post v w) :
    W p l e R s m args below meth c H locs cells slots (MQ below (ct_Qi post D cl A) args s cells slots A) (F0 m pc ls [.int v]) :=
  W.iret hx hb hr (fun t ht hW => ⟨⟨v, w, rfl, hw, by rw [ht]; exact hP, hD⟩, hS.F ht⟩) hS.2.2 hd hlocks
theorem ct_zret {post : Int32 → va_W → Prop} {v : Int32} (hx : p.tables.exec = Jvm.exec) (hb : c.code = cc) (hr : meth.sig.returnType = some .boolean) (hlocks : meth.locks = false) (hP : va_P D cl w H) (hD : va_D A w) (hS : va_S A s.heap H locs) (hd : decode cc pc = .ok (.ireturn, 1)) (hv : v = 0 ∨ v = 1) (hw : post v w) :
    W p l e R s m args below meth c H locs cells slots (MQ below (ct_Qi post D cl A) args s cells slots A) (F0 m pc ls [.int v]) :=
  W.zret hx hb hr (by rcases hv with rfl | rfl <;> rfl) (fun t ht hW => ⟨⟨v, w, rfl, hw, by rw [ht]; exact hP, hD⟩, hS.F ht⟩) hS.2.2 hd hlocks
theorem ct_vret {post : va_W → Prop} (hx : p.tables.exec = Jvm.exec) (hb : c.code = cc) (hr : meth.sig.returnType = none) (hlocks : meth.locks = false) (hP : va_P D cl w H) (hD : va_D A w) (hS : va_S A s.heap H locs) (hd : decode cc pc = .ok (.return_, 1)) (hw : post w) :
    W p l e R s m args below meth c H locs cells slots (MQ below (ct_Qv post D cl A) args s cells slots A) (F0 m pc ls []) :=
  W.vret hx hb hr (fun t ht hW => ⟨⟨w, rfl, hw, by rw [ht]; exact hP, hD⟩, hS.F ht⟩) hS.2.2 hd hlocks
end CR
def isNest : Cond → Bool
  | .fieldLinkNest .. => true
  | _ => false
/-- the words on fields of nest mates -/
def nwL : List Cond := tables_1.filter isNest
/-- what every state keeps: the classes of the cells, the words on nest mates -/
def EN (D : va_G) (tys : List (ClassId × FieldType)) : State → Prop := fun U => va_K D vwCl tys U ∧ ∀ w ∈ nwL, va_Nw w U
theorem EN_E (D : va_G) (tys : List (ClassId × FieldType)) : ct_E (EN D tys) := by
  refine ⟨fun s U hW h => ⟨va_K.moved hW.alike h.1, fun w hw => ?_⟩, fun u U he h => ⟨?_, fun w hw => ?_⟩⟩
  · have h1 := (List.mem_filter.mp hw).2
    have h2 := h.2 w hw
    cases w with
    | fieldLinkNest a i b n d hh => exact va_Nw.warmF hW h2
    | _ => cases h1
  · refine va_K.moved (u := u) (U := U) ?_ h.1
    rw [he]
    exact Vm.Alike.refl U.vm
  · have h1 := (List.mem_filter.mp hw).2
    have h2 := h.2 w hw
    refine va_Nw.same ?_ he h2
    cases w with
    | fieldLinkNest a i b n d hh => rfl
    | _ => cases h1
abbrev iA (q : Nat) (cI : ClassId) (n : Nat) (g : Nat → Nat) : Nat × va_E := (q, .inl (cI, n, .inl (fun j => nI (g j))))
/-- the trays -/
def pT (q : Nat → Nat) (cI : ClassId) (n : Nat) (a b le ro di : Nat → Nat) : va_W := [(q 1, .inr (3, [.int (nI n), .ref (q 2), .ref (q 3), .ref (q 4), .ref (q 5), .ref (q 6)])), iA (q 2) cI 15 a, iA (q 3) cI 15 b, iA (q 4) cI 15 le, iA (q 5) cI 15 ro, iA (q 6) cI 10 di]
/-- the sizes -/
def pS (q : Nat → Nat) (cI : ClassId) (n : Nat) (ar rt oh : Nat → Nat) : va_W := [(q 7, .inr (1, [.int (nI n), .ref (q 8), .ref (q 9), .ref (q 10)])), iA (q 8) cI 6 ar, iA (q 9) cI 6 rt, iA (q 10) cI 6 oh]
/-- the cables, but for the rows of their ways -/
def pC (q r : Nat → Nat) (cI cG : ClassId) (n : Nat) (no ot cu wc wl : Nat → Nat) : va_W := [(q 11, .inr (0, [.int (nI n), .ref (q 12), .ref (q 13), .ref (q 14), .ref (q 15), .ref (q 16), .ref (q 17)])), iA (q 12) cI 20 no, iA (q 13) cI 20 ot, iA (q 14) cI 20 cu, iA (q 15) cI 20 wc, iA (q 16) cI 20 wl, (q 17, .inl (cG, 20, .inr (.inr (.inr (.inr (fun i => if i < 20 then some (r i) else none))))))]
/-- the rows of the ways -/
def pR (r : Nat → Nat) (cI : ClassId) (wt : Nat → Nat → Nat) : va_W := (List.range 20).map (fun i => iA (r i) cI 9 (wt i))
/-- a sizing -/
def pZ (z0 z1 z2 : Nat) (q : Nat → Nat) (cI : ClassId) (pk fi : Nat → Nat) : va_W := [(z0, .inr (2, [.ref (q 1), .ref (q 7), .ref (q 11), .ref z1, .ref z2])), iA z1 cI 20 pk, iA z2 cI 15 fi]
/-- the class ids of arrays: int[], int[][], long[], boolean[] -/
abbrev tyL (cI cG cL cB : ClassId) : List (ClassId × FieldType) := [(cI, .int), (cG, .array .int), (cL, .long), (cB, .boolean)]
end
section
/-! words of calls; the rows of the ways -/
theorem gV {own : String} {idx : Nat} {C : String} {y : MethodName} {cc : ByteArray} {maxL : Nat} {ret : Option FieldType} (m1 : Cond.methodLink own idx y ∈ bw) (m2 : Cond.instanceMethod y ∈ bw) (m3 : Cond.selects C y y ∈ bw) (m4 : Cond.initialized C ∈ bw) (m5 : Cond.code y cc maxL ret ∈ bw) : GoodIn bw (wsV own idx C y (.code y cc maxL ret :: bw)) := by
  have key : ∀ w ∈ wsV own idx C y (.code y cc maxL ret :: bw), w ∈ bw := by
    intro w hw
    unfold wsV at hw
    simp only [List.cons_append, List.nil_append, List.mem_cons] at hw
    rcases hw with rfl | rfl | rfl | rfl | rfl | hw
    · exact m1
    · exact m2
    · exact m3
    · exact m4
    · exact m5
    · exact hw
  exact fun w hw => ⟨key w hw, good_of_word (bw_good w (key w hw))⟩
theorem gB {y : MethodName} {cc : ByteArray} {maxL : Nat} {ret : Option FieldType} (m5 : Cond.code y cc maxL ret ∈ bw) : GoodIn bw (.code y cc maxL ret :: bw) := by
  have key : ∀ w ∈ (Cond.code y cc maxL ret :: bw), w ∈ bw := by
    intro w hw
    rcases List.mem_cons.mp hw with rfl | hw
    · exact m5
    · exact hw
  exact fun w hw => ⟨key w hw, good_of_word (bw_good w (key w hw))⟩
theorem gS {R : Room} {s : State} {args : Array Value} {own : String} {index : Nat} {y : MethodName} {bytes : ByteArray} {maxL : Nat} {ret : Option FieldType} {rm : Room} {mc ms : Nat} (n : Nat) (ht : ∀ w ∈ bw, w.before args s = true) (m1 : Cond.methodLink own index y ∈ bw) (m2 : Cond.static y ∈ bw) (m3 : Cond.initialized y.cls ∈ bw) (m5 : Cond.code y bytes maxL ret ∈ bw) (hrc : rm.cells = mc) (hrs : rm.slots = ms)
    (hd : y.cls ≠ "java/lang/invoke/MethodHandle" ∧ y.cls ≠ "java/lang/invoke/VarHandle" ∧ (parseMethodDescriptor y.desc).map (fun d => d.parameters.length) = some n) (hR : rm.frames + 1 ≤ R.frames ∧ 8 + (maxL + 11) + rm.locals ≤ R.locals) :
    CallB R s args own index y bytes maxL ret (.code y bytes maxL ret :: bw) rm mc ms n ∧ (Cond.static y).before args s = true :=
  ⟨callB_of n ht (gB m5) rfl hrc hrs (ht _ m3) (ht _ m1) hd hR, ht _ m2⟩
def pR_up (wt : Nat → Nat → Nat) (i : Nat) (f : Nat → Nat) : Nat → Nat → Nat := fun k => if k = i then f else wt k
theorem pR_at {X : va_W} {r : Nat → Nat} {cI : ClassId} {wt : Nat → Nat → Nat} {i n : Nat} (hX : X.length = n) (hi : i < 20) : (X ++ pR r cI wt)[n + i]? = some (iA (r i) cI 9 (wt i)) := by
  subst hX
  rw [List.getElem?_append_right (by omega), Nat.add_sub_cancel_left]
  unfold pR
  rw [List.getElem?_map, List.getElem?_range hi]
  rfl
theorem pR_set {X : va_W} {r : Nat → Nat} {cI : ClassId} {wt : Nat → Nat → Nat} {i n : Nat} {f : Nat → Nat} (hX : X.length = n) (hi : i < 20) : (X ++ pR r cI wt).set (n + i) (iA (r i) cI 9 f) = X ++ pR r cI (pR_up wt i f) := by
  subst hX
  rw [List.set_append_right _ _ (by omega), Nat.add_sub_cancel_left]
  congr 1
  unfold pR
  apply List.ext_getElem?
  intro k
  by_cases hk : k = i
  · subst hk
    rw [List.getElem?_set_self (by simp; exact hi), List.getElem?_map, List.getElem?_range hi]
    simp [pR_up]
  · rw [List.getElem?_set_ne (Ne.symm hk), List.getElem?_map, List.getElem?_map]
    by_cases h20 : k < 20
    · rw [List.getElem?_range h20]
      simp [pR_up, hk]
    · rw [List.getElem?_eq_none (by simp; omega)]
      rfl
section GR
variable {p : Program} {l : Launch} {e : Env} {R : Room} {s : State} {m : MethodId} {args : Array Value} {below : List Frame} {meth : Method} {c : Code} {H : Heap} {locs : List Loc} {cells slots : Nat} {Q : State → Prop}
variable {cc : ByteArray} {pc : Nat} {ls : Array Slot} {rest : List Value} {D : va_G} {cl : List vw_C} {A : Nat → Prop} {a : Nat} {tys : List (ClassId × FieldType)} {ws X : va_W} {H0 : Heap}
theorem gr_aldn (hx : p.tables.exec = Jvm.exec) (hb : c.code = cc) (hK : va_K D cl tys s) (hP : va_P D cl ws H) (q0 t0 : Nat) {cA : ClassId} {n : Nat} {f : Nat → Option Nat} (ha : ws[q0]? = some (a, .inl (cA, n, .inr (.inr (.inr (.inr f)))))) (ht : tys[t0]? = some (cA, .array .int)) {k : Nat} (hk : k < n) (hn : n < 2 ^ 31) (hd : decode cc pc = .ok (.aaload, 1))
    (kk : W p l e R s m args below meth c H locs cells slots Q (F0 m (pc + 1) ls (va_rf (f k) :: rest))) : W p l e R s m args below meth c H locs cells slots Q (F0 m pc ls (.int (nI k) :: .ref a :: rest)) := by
  have hin : vp_in (nI k) n := vp_in_nI hk hn
  have hlt : (nI k).toNatClampNeg < n := Nat.not_le.mp fun q => hin (Or.inr q)
  exact W.aald (v := va_rf (f k)) (ty := .array .int) hx hb (hP q0 _ ha) ((hK.2 t0 _ ht).1 n (fun j => va_rf (f j))) rfl (fun q => by cases q) (by show ¬ (nI k < 0 ∨ (arrV _ _ _).slots.size ≤ _); rw [arrV_size]; exact hin) (by show (arrV _ _ _).slots[_]? = _; rw [arrV_read _ _ hlt, nI_clamp (by omega)]) rfl rfl hd kk
theorem gr_ald (hx : p.tables.exec = Jvm.exec) (hb : c.code = cc) (hK : va_K D cl tys s) (hP : va_P D cl ws H) (q0 t0 : Nat) {cA : ClassId} {r : Nat → Nat} (ha : ws[q0]? = some (a, .inl (cA, 20, .inr (.inr (.inr (.inr (fun i => if i < 20 then some (r i) else none))))))) (ht : tys[t0]? = some (cA, .array .int)) {k : Nat} (hk : k < 20) (hd : decode cc pc = .ok (.aaload, 1))
    (kk : W p l e R s m args below meth c H locs cells slots Q (F0 m (pc + 1) ls (.ref (r k) :: rest))) : W p l e R s m args below meth c H locs cells slots Q (F0 m pc ls (.int (nI k) :: .ref a :: rest)) := by
  refine gr_aldn hx hb hK hP q0 t0 ha ht hk (by decide) hd ?_
  rw [if_pos hk]
  exact kk
theorem gr_iald (hx : p.tables.exec = Jvm.exec) (hb : c.code = cc) (hK : va_K D cl tys s) {r : Nat → Nat} {cI : ClassId} {wt : Nat → Nat → Nat} (hP : va_P D cl (X ++ pR r cI wt) H) (t0 : Nat) (ht : tys[t0]? = some (cI, .int)) {i k : Nat} (hi : i < 20) (hk : k < 9) (hd : decode cc pc = .ok (.iaload, 1))
    (kk : W p l e R s m args below meth c H locs cells slots Q (F0 m (pc + 1) ls (.int (nI (wt i k)) :: rest))) : W p l e R s m args below meth c H locs cells slots Q (F0 m pc ls (.int (nI k) :: .ref (r i) :: rest)) :=
  nr_iald hx hb hK hP (X.length + i) t0 (pR_at rfl hi) ht hk (by decide) hd kk
theorem gr_iast (hx : p.tables.exec = Jvm.exec) (hb : c.code = cc) (hK : va_K D cl tys s) {r : Nat → Nat} {cI : ClassId} {wt : Nat → Nat → Nat} (hP : va_P D cl (X ++ pR r cI wt) H) (hD : va_D A (X ++ pR r cI wt)) (hS : va_S A H0 H locs) (t0 : Nat) (ht : tys[t0]? = some (cI, .int)) {i k v : Nat} (hi : i < 20) (hk : k < 9) (hd : decode cc pc = .ok (.iastore, 1))
    (kk : ∀ (H : Heap) (locs : List Loc), va_P D cl (X ++ pR r cI (pR_up wt i (nr_up (wt i) k v))) H → va_D A (X ++ pR r cI (pR_up wt i (nr_up (wt i) k v))) → va_S A H0 H locs → W p l e R s m args below meth c H locs cells slots Q (F0 m (pc + 1) ls rest)) : W p l e R s m args below meth c H locs cells slots Q (F0 m pc ls (.int (nI v) :: .int (nI k) :: .ref (r i) :: rest)) := by
  refine nr_iast hx hb hK hP hD hS (X.length + i) t0 (pR_at rfl hi) ht hk (by decide) hd (fun H1 locs1 h1 h2 h3 => ?_)
  have e := pR_set (X := X) (r := r) (cI := cI) (wt := wt) (f := nr_up (wt i) k v) rfl hi
  unfold iA at e
  rw [e] at h1 h2
  exact kk H1 locs1 h1 h2 h3
end GR
end
section
def bN (g : Bool) : Nat := if g = true then 1 else 0
def pF (qa : Nat) (cI : ClassId) (nn : Nat) (g : Nat → Nat) : va_W := [iA qa cI nn g]
theorem pF_congr {D : va_G} {cl : List vw_C} {H : Heap} {qa : Nat} {cI : ClassId} {nn : Nat} {g g' : Nat → Nat} (h : ∀ j, j < nn → g j = g' j) (hP : va_P D cl (pF qa cI nn g) H) : va_P D cl (pF qa cI nn g') H := by
  intro k x hx
  have hk : k < 1 := (List.getElem?_eq_some_iff.mp hx).1
  obtain rfl : k = 0 := by omega
  cases hx
  have h0 := hP 0 _ rfl
  show H[qa]? = some (vp_cell cI (nn, .inl (fun j => nI (g' j))))
  have h1 : H[qa]? = some (vp_cell cI (nn, .inl (fun j => nI (g j)))) := h0
  rw [h1, vp_cell_i, vp_cell_i]
  congr 1
  unfold arrV
  congr 1
  apply congrArg
  funext j
  show Value.int (nI (g j)) = Value.int (nI (g' j))
  rw [h j j.isLt]
theorem pF_D {A : Nat → Prop} {qa : Nat} {cI : ClassId} {nn : Nat} {g g' : Nat → Nat} (h : va_D A (pF qa cI nn g)) : va_D A (pF qa cI nn g') := h.set (p := 0) (e := .inl (cI, nn, .inl (fun j => nI (g' j)))) rfl
def oI (o : Option Nat) : Int32 := match o with
  | some v => nI v
  | none => -1
set_option maxHeartbeats 4000000 in
set_option maxRecDepth 100000 in
/-- Trays.shorten -/
theorem kX3_shorten (l : Launch) (D : va_G) (cI cG cL cB : ClassId) (q : Nat → Nat) (n : Nat) (a b le ro di : Nat → Nat) (u v x : Nat) (hu : u < 10) (hv : v < 10) (hx0 : x ≤ 100) (hd0 : ∀ j, di j ≤ 1000000) : ct_i l yX3_shorten (.code yX3_shorten cX3_shorten 5 (some .boolean) :: bw) ({ frames := 0, cells := 0, slots := 0, locals := 0 }) (EN D (tyL cI cG cL cB)) D vwCl (pT q cI n a b le ro di) [.ref (q 1), .int (nI u), .int (nI v), .int (nI x)] (fun r W => W = pT q cI n a b le ro (cw_sh di u v x) ∧ r = nI (bN (cw_tk di u v x))) 0 0 := by
  refine ct_ofi (by decide) (Nat.le_of_ble_eq_true rfl) ?_
  intro p e s m below meth cd A H locs av Q ls hx hb hr hml hown hlocks hnm hbw hEN hQ hP hD hS hA hl
  have hown : s.vm.findClass RX3 = some m.cls := hown
  have hK := hEN.1
  have hl : lv_has ls 5 [(0, .ref (q 1)), (1, .int (nI u)), (2, .int (nI v)), (3, .int (nI x))] := hl
  refine lv_aload_n hx hb dX3_shorten_0 rfl (lv_at hl 0 rfl) ?_
  refine va_get (ci := 3) (v := .ref (q 6)) (C := RX3) (T := TX3) (N := 6) hx hb hbw in_X3 hown hK hP 0 rfl rfl 5 (by decide) (hbw _ m_55) (fun _ h9 => h9) rfl dX3_shorten_1 ?_
  refine lv_iload_n hx hb dX3_shorten_4 rfl (lv_at hl 2 rfl) ?_
  refine nr_iald hx hb hK hP 5 0 rfl rfl (k := v) (by omega) (by omega) dX3_shorten_5 ?_
  have b_1 := hd0 v
  refine lv_iload_n hx hb dX3_shorten_6 rfl (lv_at hl 3 rfl) ?_
  refine nr_iadd hx hb dX3_shorten_7 ?_
  refine lv_istore (lv' := [(4, .int (nI ((di v) + x))), (0, .ref (q 1)), (1, .int (nI u)), (2, .int (nI v)), (3, .int (nI x))]) hx hb dX3_shorten_8 hl (by decide) rfl (fun ls hl => ?_)
  refine lv_iload hx hb dX3_shorten_10 (lv_at hl 0 rfl) ?_
  refine lv_aload_n hx hb dX3_shorten_12 rfl (lv_at hl 1 rfl) ?_
  refine va_get (ci := 3) (v := .ref (q 6)) (C := RX3) (T := TX3) (N := 6) hx hb hbw in_X3 hown hK hP 0 rfl rfl 5 (by decide) (hbw _ m_55) (fun _ h9 => h9) rfl dX3_shorten_13 ?_
  refine lv_iload_n hx hb dX3_shorten_16 rfl (lv_at hl 2 rfl) ?_
  refine nr_iald hx hb hK hP 5 0 rfl rfl (k := u) (by omega) (by omega) dX3_shorten_17 ?_
  have b_2 := hd0 u
  refine nr_icmp_lt (x := (di v) + x) (y := di u) (tgt := 23) hx hb (by omega) (by omega) dX3_shorten_18 (by decide) (fun h1 => ?_) (fun h1 => ?_)
  · refine lv_aload_n hx hb dX3_shorten_23 rfl (lv_at hl 1 rfl) ?_
    refine va_get (ci := 3) (v := .ref (q 6)) (C := RX3) (T := TX3) (N := 6) hx hb hbw in_X3 hown hK hP 0 rfl rfl 5 (by decide) (hbw _ m_55) (fun _ h9 => h9) rfl dX3_shorten_24 ?_
    refine lv_iload_n hx hb dX3_shorten_27 rfl (lv_at hl 2 rfl) ?_
    refine lv_iload hx hb dX3_shorten_28 (lv_at hl 0 rfl) ?_
    refine nr_iast hx hb hK hP hD hS 5 0 rfl rfl (k := u) (v := (di v) + x) (by omega) (by omega) dX3_shorten_30 (fun H locs hP hD hS => ?_)
    have hP : va_P D vwCl (pT q cI n a b le ro (nr_up di u ((di v) + x))) H := hP
    have hD : va_D A (pT q cI n a b le ro (nr_up di u ((di v) + x))) := hD
    refine lv_iconst (v := nI 1) hx hb dX3_shorten_31 (by decide) ?_
    have e1 : cw_sh di u v x = nr_up di u (di v + x) := by unfold cw_sh; rw [if_pos h1]
    have e2 : cw_tk di u v x = true := by unfold cw_tk; exact decide_eq_true h1
    rw [hQ]
    exact ct_zret hx hb hr hlocks hP hD hS dX3_shorten_32 (by first | exact Or.inl rfl | exact Or.inr rfl) ⟨by rw [e1], by rw [e2]; rfl⟩
  · refine lv_iconst (v := nI 0) hx hb dX3_shorten_21 (by decide) ?_
    have e1 : cw_sh di u v x = di := by unfold cw_sh; rw [if_neg (by omega)]
    have e2 : cw_tk di u v x = false := by unfold cw_tk; exact decide_eq_false (by omega)
    rw [hQ]
    exact ct_zret hx hb hr hlocks hP hD hS dX3_shorten_22 (by first | exact Or.inl rfl | exact Or.inr rfl) ⟨by rw [e1], by rw [e2]; rfl⟩
set_option maxHeartbeats 4000000 in
set_option maxRecDepth 100000 in
/-- Trays.add -/
theorem kX3_add (l : Launch) (D : va_G) (cI cG cL cB : ClassId) (q : Nat → Nat) (n : Nat) (a b le ro di : Nat → Nat) (u v x y : Nat) (hn : n < 15) : ct_i l yX3_add (.code yX3_add cX3_add 6 (some .int) :: bw) ({ frames := 0, cells := 0, slots := 0, locals := 0 }) (EN D (tyL cI cG cL cB)) D vwCl (pT q cI n a b le ro di) [.ref (q 1), .int (nI u), .int (nI v), .int (nI x), .int (nI y)] (fun r W => W = pT q cI (n + 1) (nr_up a n u) (nr_up b n v) (nr_up le n x) (nr_up ro n y) di ∧ r = nI n) 0 0 := by
  refine ct_ofi (by decide) (Nat.le_of_ble_eq_true rfl) ?_
  intro p e s m below meth cd A H locs av Q ls hx hb hr hml hown hlocks hnm hbw hEN hQ hP hD hS hA hl
  have hown : s.vm.findClass RX3 = some m.cls := hown
  have hK := hEN.1
  have hl : lv_has ls 6 [(0, .ref (q 1)), (1, .int (nI u)), (2, .int (nI v)), (3, .int (nI x)), (4, .int (nI y))] := hl
  refine lv_aload_n hx hb dX3_add_0 rfl (lv_at hl 0 rfl) ?_
  refine va_get (ci := 3) (v := .int (nI n)) (C := RX3) (T := TX3) (N := 6) hx hb hbw in_X3 hown hK hP 0 rfl rfl 0 (by decide) (hbw _ m_45) (fun _ h9 => h9) rfl dX3_add_1 ?_
  refine lv_istore (lv' := [(5, .int (nI n)), (0, .ref (q 1)), (1, .int (nI u)), (2, .int (nI v)), (3, .int (nI x)), (4, .int (nI y))]) hx hb dX3_add_4 hl (by decide) rfl (fun ls hl => ?_)
  refine lv_aload_n hx hb dX3_add_6 rfl (lv_at hl 1 rfl) ?_
  refine va_get (ci := 3) (v := .ref (q 2)) (C := RX3) (T := TX3) (N := 6) hx hb hbw in_X3 hown hK hP 0 rfl rfl 1 (by decide) (hbw _ m_48) (fun _ h9 => h9) rfl dX3_add_7 ?_
  refine lv_iload hx hb dX3_add_10 (lv_at hl 0 rfl) ?_
  refine lv_iload_n hx hb dX3_add_12 rfl (lv_at hl 2 rfl) ?_
  refine nr_iast hx hb hK hP hD hS 1 0 rfl rfl (k := n) (v := u) (by omega) (by omega) dX3_add_13 (fun H locs hP hD hS => ?_)
  have hP : va_P D vwCl (pT q cI n (nr_up a n u) b le ro di) H := hP
  have hD : va_D A (pT q cI n (nr_up a n u) b le ro di) := hD
  refine lv_aload_n hx hb dX3_add_14 rfl (lv_at hl 1 rfl) ?_
  refine va_get (ci := 3) (v := .ref (q 3)) (C := RX3) (T := TX3) (N := 6) hx hb hbw in_X3 hown hK hP 0 rfl rfl 2 (by decide) (hbw _ m_49) (fun _ h9 => h9) rfl dX3_add_15 ?_
  refine lv_iload hx hb dX3_add_18 (lv_at hl 0 rfl) ?_
  refine lv_iload_n hx hb dX3_add_20 rfl (lv_at hl 3 rfl) ?_
  refine nr_iast hx hb hK hP hD hS 2 0 rfl rfl (k := n) (v := v) (by omega) (by omega) dX3_add_21 (fun H locs hP hD hS => ?_)
  have hP : va_P D vwCl (pT q cI n (nr_up a n u) (nr_up b n v) le ro di) H := hP
  have hD : va_D A (pT q cI n (nr_up a n u) (nr_up b n v) le ro di) := hD
  refine lv_aload_n hx hb dX3_add_22 rfl (lv_at hl 1 rfl) ?_
  refine va_get (ci := 3) (v := .ref (q 4)) (C := RX3) (T := TX3) (N := 6) hx hb hbw in_X3 hown hK hP 0 rfl rfl 3 (by decide) (hbw _ m_50) (fun _ h9 => h9) rfl dX3_add_23 ?_
  refine lv_iload hx hb dX3_add_26 (lv_at hl 0 rfl) ?_
  refine lv_iload_n hx hb dX3_add_28 rfl (lv_at hl 4 rfl) ?_
  refine nr_iast hx hb hK hP hD hS 3 0 rfl rfl (k := n) (v := x) (by omega) (by omega) dX3_add_29 (fun H locs hP hD hS => ?_)
  have hP : va_P D vwCl (pT q cI n (nr_up a n u) (nr_up b n v) (nr_up le n x) ro di) H := hP
  have hD : va_D A (pT q cI n (nr_up a n u) (nr_up b n v) (nr_up le n x) ro di) := hD
  refine lv_aload_n hx hb dX3_add_30 rfl (lv_at hl 1 rfl) ?_
  refine va_get (ci := 3) (v := .ref (q 5)) (C := RX3) (T := TX3) (N := 6) hx hb hbw in_X3 hown hK hP 0 rfl rfl 4 (by decide) (hbw _ m_52) (fun _ h9 => h9) rfl dX3_add_31 ?_
  refine lv_iload hx hb dX3_add_34 (lv_at hl 0 rfl) ?_
  refine lv_iload hx hb dX3_add_36 (lv_at hl 5 rfl) ?_
  refine nr_iast hx hb hK hP hD hS 4 0 rfl rfl (k := n) (v := y) (by omega) (by omega) dX3_add_38 (fun H locs hP hD hS => ?_)
  have hP : va_P D vwCl (pT q cI n (nr_up a n u) (nr_up b n v) (nr_up le n x) (nr_up ro n y) di) H := hP
  have hD : va_D A (pT q cI n (nr_up a n u) (nr_up b n v) (nr_up le n x) (nr_up ro n y) di) := hD
  refine lv_aload_n hx hb dX3_add_39 rfl (lv_at hl 1 rfl) ?_
  refine lv_iload hx hb dX3_add_40 (lv_at hl 0 rfl) ?_
  refine lv_iconst (v := nI 1) hx hb dX3_add_42 (by decide) ?_
  refine nr_iadd hx hb dX3_add_43 ?_
  refine va_put (ci := 3) (v := .int (nI (n + 1))) (ty := .int) (C := RX3) (T := TX3) (N := 6) hx hb hbw in_X3 tyX3 tyX3_ok nmX3 hown hK hP hD hS 0 rfl rfl 0 (by decide) (hbw _ m_45) (fun _ h9 => h9) rfl (by decide +kernel) rfl rfl (Nat.le_of_ble_eq_true rfl) dX3_add_44 (fun H locs hP hD hS => ?_)
  have hP : va_P D vwCl (pT q cI (n + 1) (nr_up a n u) (nr_up b n v) (nr_up le n x) (nr_up ro n y) di) H := hP
  have hD : va_D A (pT q cI (n + 1) (nr_up a n u) (nr_up b n v) (nr_up le n x) (nr_up ro n y) di) := hD
  refine lv_iload hx hb dX3_add_47 (lv_at hl 0 rfl) ?_
  rw [hQ]
  exact ct_iret hx hb hr hlocks hP hD hS dX3_add_49 ⟨rfl, rfl⟩
set_option maxHeartbeats 4000000 in
set_option maxRecDepth 100000 in
/-- Trays.endBehind -/
theorem kX3_endBehind (l : Launch) (D : va_G) (cI cG cL cB : ClassId) (q : Nat → Nat) (n : Nat) (a b le ro di : Nat → Nat) (t u : Nat) (ht : t < 15) (hu : u < 10) (ha0 : ∀ j, a j < 10) (hb0 : ∀ j, b j < 10) : ct_i l yX3_endBehind (.code yX3_endBehind cX3_endBehind 3 (some .int) :: bw) ({ frames := 0, cells := 0, slots := 0, locals := 0 }) (EN D (tyL cI cG cL cB)) D vwCl (pT q cI n a b le ro di) [.ref (q 1), .int (nI t), .int (nI u)] (fun r W => W = pT q cI n a b le ro di ∧ r = oI (cw_nx a b t u)) 0 0 := by
  refine ct_ofi (by decide) (Nat.le_of_ble_eq_true rfl) ?_
  intro p e s m below meth cd A H locs av Q ls hx hb hr hml hown hlocks hnm hbw hEN hQ hP hD hS hA hl
  have hown : s.vm.findClass RX3 = some m.cls := hown
  have hK := hEN.1
  have hl : lv_has ls 3 [(0, .ref (q 1)), (1, .int (nI t)), (2, .int (nI u))] := hl
  refine lv_aload_n hx hb dX3_endBehind_0 rfl (lv_at hl 0 rfl) ?_
  refine va_get (ci := 3) (v := .ref (q 2)) (C := RX3) (T := TX3) (N := 6) hx hb hbw in_X3 hown hK hP 0 rfl rfl 1 (by decide) (hbw _ m_48) (fun _ h9 => h9) rfl dX3_endBehind_1 ?_
  refine lv_iload_n hx hb dX3_endBehind_4 rfl (lv_at hl 1 rfl) ?_
  refine nr_iald hx hb hK hP 1 0 rfl rfl (k := t) (by omega) (by omega) dX3_endBehind_5 ?_
  have b_1 := ha0 t
  refine lv_iload_n hx hb dX3_endBehind_6 rfl (lv_at hl 2 rfl) ?_
  refine nr_icmp_ne (x := a t) (y := u) (tgt := 17) hx hb (by omega) (by omega) dX3_endBehind_7 (by decide) (fun h1 => ?_) (fun h1 => ?_)
  · refine lv_aload_n hx hb dX3_endBehind_17 rfl (lv_at hl 0 rfl) ?_
    refine va_get (ci := 3) (v := .ref (q 3)) (C := RX3) (T := TX3) (N := 6) hx hb hbw in_X3 hown hK hP 0 rfl rfl 2 (by decide) (hbw _ m_49) (fun _ h9 => h9) rfl dX3_endBehind_18 ?_
    refine lv_iload_n hx hb dX3_endBehind_21 rfl (lv_at hl 1 rfl) ?_
    refine nr_iald hx hb hK hP 2 0 rfl rfl (k := t) (by omega) (by omega) dX3_endBehind_22 ?_
    have b_2 := hb0 t
    refine lv_iload_n hx hb dX3_endBehind_23 rfl (lv_at hl 2 rfl) ?_
    refine nr_icmp_ne (x := b t) (y := u) (tgt := 36) hx hb (by omega) (by omega) dX3_endBehind_24 (by decide) (fun h2 => ?_) (fun h2 => ?_)
    · refine lv_iconst (v := (-1)) hx hb dX3_endBehind_36 (by decide) ?_
      have e1 : cw_nx a b t u = none := by unfold cw_nx; rw [if_neg h1, if_neg h2]
      rw [hQ]
      exact ct_iret hx hb hr hlocks hP hD hS dX3_endBehind_37 ⟨rfl, by rw [e1]; rfl⟩
    · refine lv_aload_n hx hb dX3_endBehind_27 rfl (lv_at hl 0 rfl) ?_
      refine va_get (ci := 3) (v := .ref (q 2)) (C := RX3) (T := TX3) (N := 6) hx hb hbw in_X3 hown hK hP 0 rfl rfl 1 (by decide) (hbw _ m_48) (fun _ h9 => h9) rfl dX3_endBehind_28 ?_
      refine lv_iload_n hx hb dX3_endBehind_31 rfl (lv_at hl 1 rfl) ?_
      refine nr_iald hx hb hK hP 1 0 rfl rfl (k := t) (by omega) (by omega) dX3_endBehind_32 ?_
      have b_3 := ha0 t
      refine lv_goto (tgt := 37) hx hb dX3_endBehind_33 (by decide) ?_
      have e1 : cw_nx a b t u = some (a t) := by unfold cw_nx; rw [if_neg h1, if_pos h2]
      rw [hQ]
      exact ct_iret hx hb hr hlocks hP hD hS dX3_endBehind_37 ⟨rfl, by rw [e1]; rfl⟩
  · refine lv_aload_n hx hb dX3_endBehind_10 rfl (lv_at hl 0 rfl) ?_
    refine va_get (ci := 3) (v := .ref (q 3)) (C := RX3) (T := TX3) (N := 6) hx hb hbw in_X3 hown hK hP 0 rfl rfl 2 (by decide) (hbw _ m_49) (fun _ h9 => h9) rfl dX3_endBehind_11 ?_
    refine lv_iload_n hx hb dX3_endBehind_14 rfl (lv_at hl 1 rfl) ?_
    refine nr_iald hx hb hK hP 2 0 rfl rfl (k := t) (by omega) (by omega) dX3_endBehind_15 ?_
    have b_4 := hb0 t
    have e1 : cw_nx a b t u = some (b t) := by unfold cw_nx; rw [if_pos h1]
    rw [hQ]
    exact ct_iret hx hb hr hlocks hP hD hS dX3_endBehind_16 ⟨rfl, by rw [e1]; rfl⟩
set_option maxHeartbeats 4000000 in
set_option maxRecDepth 100000 in
/-- Arrays.fill of an int array -/
theorem kJ_fill (l : Launch) (D : va_G) (cI cG cL cB : ClassId) (qa nn : Nat) (g : Nat → Nat) (v : Nat) (hnn : nn ≤ 1000) : ct_v l yJ_fill (.code yJ_fill cJ_fill 4 none :: bw) ({ frames := 0, cells := 0, slots := 0, locals := 0 }) (EN D (tyL cI cG cL cB)) D vwCl (pF qa cI nn g) [.ref qa, .int (nI v)] (fun W => W = pF qa cI nn (fun _ => v)) 0 0 := by
  refine ct_ofv (by decide) (Nat.le_of_ble_eq_true rfl) ?_
  intro p e s m below meth cd A H locs av Q ls hx hb hr hml hown hlocks hnm hbw hEN hQ hP hD hS hA hl
  have hK := hEN.1
  have hl : lv_has ls 4 [(0, .ref qa), (1, .int (nI v))] := hl
  refine lv_iconst (v := nI 0) hx hb dJ_fill_0 (by decide) ?_
  refine lv_istore_n (lv' := [(2, .int (nI 0)), (0, .ref qa), (1, .int (nI v))]) hx hb dJ_fill_1 rfl hl (by decide) rfl (fun ls hl => ?_)
  refine lv_aload_n hx hb dJ_fill_2 rfl (lv_at hl 1 rfl) ?_
  refine va_alen hx hb hK hP 0 0 rfl rfl (v := nI nn) rfl dJ_fill_3 ?_
  refine lv_istore_n (lv' := [(3, .int (nI nn)), (2, .int (nI 0)), (0, .ref qa), (1, .int (nI v))]) hx hb dJ_fill_4 rfl hl (by decide) rfl (fun ls hl => ?_)
  have lp : ∀ (k : Nat) (i : Nat) (g : Nat → Nat), (hk : nn < i + k) → (hi : i ≤ nn) → (hv : ∀ j, j < i → g j = v) → ∀ (H : Heap) (locs : List Loc) (ls : Array Slot), va_P D vwCl (pF qa cI nn g) H → va_D A (pF qa cI nn g) → va_S A s.heap H locs → lv_has ls 4 [(0, .ref qa), (1, .int (nI v)), (2, .int (nI i)), (3, .int (nI nn))] → W p l e ({ frames := 0, cells := 0, slots := 0, locals := 0 }) s m av below meth cd H locs 0 0 Q (F0 m 5 ls []) := by
    intro k
    induction k with
    | zero => intro i g hk hi hv; exact absurd hk (by omega)
    | succ k ih =>
      intro i g hk hi hv H locs ls hP hD hS hl
      refine lv_iload_n hx hb dJ_fill_5 rfl (lv_at hl 2 rfl) ?_
      refine lv_iload_n hx hb dJ_fill_6 rfl (lv_at hl 3 rfl) ?_
      refine nr_icmp_ge (x := i) (y := nn) (tgt := 20) hx hb (by omega) (by omega) dJ_fill_7 (by decide) (fun h1 => ?_) (fun h1 => ?_)
      · have hP : va_P D vwCl (pF qa cI nn (fun _ => v)) H := pF_congr (fun j hj => hv j (by omega)) hP
        have hD : va_D A (pF qa cI nn (fun _ => v)) := pF_D hD
        rw [hQ]
        exact ct_vret hx hb hr hlocks hP hD hS dJ_fill_20 rfl
      · refine lv_aload_n hx hb dJ_fill_10 rfl (lv_at hl 0 rfl) ?_
        refine lv_iload_n hx hb dJ_fill_11 rfl (lv_at hl 2 rfl) ?_
        refine lv_iload_n hx hb dJ_fill_12 rfl (lv_at hl 1 rfl) ?_
        refine nr_iast hx hb hK hP hD hS 0 0 rfl rfl (k := i) (v := v) (by omega) (by omega) dJ_fill_13 (fun H locs hP hD hS => ?_)
        have hP : va_P D vwCl (pF qa cI nn (nr_up g i v)) H := hP
        have hD : va_D A (pF qa cI nn (nr_up g i v)) := hD
        refine lv_iinc (v := nI (i + 1)) (lv' := [(2, .int (nI (i + 1))), (0, .ref qa), (1, .int (nI v)), (3, .int (nI nn))]) hx hb dJ_fill_14 hl (k := 2) rfl (nI_1 _) (by decide) rfl (fun ls hl => ?_)
        refine lv_goto (tgt := 5) hx hb dJ_fill_17 (by decide) ?_
        exact ih (i + 1) (nr_up g i v) (by omega) (by omega) (fun j hj => by by_cases e : j = i; rw [e]; exact nr_up_s g i v; rw [nr_up_n g v e]; exact hv j (by omega)) _ _ _ hP hD hS (lv_sub hl [1, 2, 0, 3] rfl)
  exact lp (nn + 1) 0 g (by omega) (Nat.zero_le nn) (lt_0) H locs ls hP hD hS (lv_sub hl [2, 3, 1, 0] rfl)
set_option maxHeartbeats 4000000 in
set_option maxRecDepth 100000 in
/-- Trays.firstTowardsTarget -/
theorem kX3_firstTowardsTarget (l : Launch) (D : va_G) (cI cG cL cB : ClassId) (q : Nat → Nat) (n : Nat) (a b le ro di : Nat → Nat) (u : Nat) (hn : n ≤ 15) (hu : u < 10) (ha0 : ∀ j, a j < 10) (hb0 : ∀ j, b j < 10) (hl0 : ∀ j, le j ≤ 100) (hd0 : ∀ j, di j ≤ 1000000) : ct_i l yX3_firstTowardsTarget (.code yX3_firstTowardsTarget cX3_firstTowardsTarget 4 (some .int) :: bw) ({ frames := 1, cells := 0, slots := 0, locals := 22 }) (EN D (tyL cI cG cL cB)) D vwCl (pT q cI n a b le ro di) [.ref (q 1), .int (nI u)] (fun r W => W = pT q cI n a b le ro di ∧ ((∃ t, r = nI t ∧ t < n ∧ cw_gd a b le di u t ∧ ∀ t', t' < t → ¬ cw_gd a b le di u t') ∨ (r = -1 ∧ ∀ t', t' < n → ¬ cw_gd a b le di u t'))) 0 0 := by
  refine ct_ofi (by decide) (Nat.le_of_ble_eq_true rfl) ?_
  intro p e s m below meth cd A H locs av Q ls hx hb hr hml hown hlocks hnm hbw hEN hQ hP hD hS hA hl
  have hown : s.vm.findClass RX3 = some m.cls := hown
  have hK := hEN.1
  have hl : lv_has ls 4 [(0, .ref (q 1)), (1, .int (nI u))] := hl
  refine lv_iconst (v := nI 0) hx hb dX3_firstTowardsTarget_0 (by decide) ?_
  refine lv_istore_n (lv' := [(2, .int (nI 0)), (0, .ref (q 1)), (1, .int (nI u))]) hx hb dX3_firstTowardsTarget_1 rfl hl (by decide) rfl (fun ls hl => ?_)
  have lp : ∀ (k : Nat) (i : Nat), (hk : n < i + k) → (hi : i ≤ n) → (hv : ∀ t', t' < i → ¬ cw_gd a b le di u t') → ∀ (H : Heap) (locs : List Loc) (ls : Array Slot), va_P D vwCl (pT q cI n a b le ro di) H → va_D A (pT q cI n a b le ro di) → va_S A s.heap H locs → lv_has ls 4 [(0, .ref (q 1)), (1, .int (nI u)), (2, .int (nI i))] → W p l e ({ frames := 1, cells := 0, slots := 0, locals := 22 }) s m av below meth cd H locs 0 0 Q (F0 m 2 ls []) := by
    intro k
    induction k with
    | zero => intro i hk hi hv; exact absurd hk (by omega)
    | succ k ih =>
      intro i hk hi hv H locs ls hP hD hS hl
      refine lv_iload_n hx hb dX3_firstTowardsTarget_2 rfl (lv_at hl 2 rfl) ?_
      refine lv_aload_n hx hb dX3_firstTowardsTarget_3 rfl (lv_at hl 0 rfl) ?_
      refine va_get (ci := 3) (v := .int (nI n)) (C := RX3) (T := TX3) (N := 6) hx hb hbw in_X3 hown hK hP 0 rfl rfl 0 (by decide) (hbw _ m_45) (fun _ h9 => h9) rfl dX3_firstTowardsTarget_4 ?_
      refine nr_icmp_ge (x := i) (y := n) (tgt := 52) hx hb (by omega) (by omega) dX3_firstTowardsTarget_7 (by decide) (fun h1 => ?_) (fun h1 => ?_)
      · refine lv_iconst (v := (-1)) hx hb dX3_firstTowardsTarget_52 (by decide) ?_
        have e1 : i = n := by omega
        rw [hQ]
        exact ct_iret hx hb hr hlocks hP hD hS dX3_firstTowardsTarget_53 ⟨rfl, Or.inr ⟨rfl, by rw [← e1]; exact hv⟩⟩
      · refine lv_aload_n hx hb dX3_firstTowardsTarget_10 rfl (lv_at hl 0 rfl) ?_
        refine lv_iload_n hx hb dX3_firstTowardsTarget_11 rfl (lv_at hl 2 rfl) ?_
        refine lv_iload_n hx hb dX3_firstTowardsTarget_12 rfl (lv_at hl 1 rfl) ?_
        refine ct_Vi (wc := (pT q cI n a b le ro di)) (wr := ([] : va_W)) (As := [.int (nI i), .int (nI u)]) (rest := []) ⟨hx, hb, hml, hown, hbw⟩ (EN_E D _) hEN (kX3_endBehind l D cI cG cL cB q n a b le ro di i u (by omega) hu ha0 hb0) (cwV (C := "CableSizes$Trays") 2 hbw (gV m_365 m_366 m_367 m_19 m_368) rfl rfl rfl (by decide +kernel) ⟨Nat.le_of_ble_eq_true rfl, Nat.le_of_ble_eq_true rfl⟩) (va_recv hK hP (ci := 3) (q0 := 0) rfl rfl) hP hD hS hA [0, 1, 2, 3, 4, 5] [] rfl rfl (by decide) (by decide) (by decide) rfl hl.1 rfl (Nat.le_of_ble_eq_true rfl) dX3_firstTowardsTarget_13 ⟨Nat.le_of_ble_eq_true rfl, Nat.le_of_ble_eq_true rfl⟩ (fun r_1 w_1 H locs hw hP hD hS => ?_)
        obtain ⟨rfl, hr1⟩ := hw
        have hP := hP.sub (ws' := (pT q cI n a b le ro di)) [0, 1, 2, 3, 4, 5] rfl
        have hD := hD.sub (ws' := (pT q cI n a b le ro di)) [0, 1, 2, 3, 4, 5] (by decide) rfl
        refine lv_istore_n (lv' := [(3, .int r_1), (0, .ref (q 1)), (1, .int (nI u)), (2, .int (nI i))]) hx hb dX3_firstTowardsTarget_16 rfl hl (by decide) rfl (fun ls hl => ?_)
        refine lv_iload_n hx hb dX3_firstTowardsTarget_17 rfl (lv_at hl 0 rfl) ?_
        refine lv_iconst (v := (-1)) hx hb dX3_firstTowardsTarget_18 (by decide) ?_
        cases hn1 : cw_nx a b i u with
        | none =>
          rw [hn1] at hr1
          refine lv_icmp_eq (tgt := 46) hx hb dX3_firstTowardsTarget_19 (by decide) (fun h2 => ?_) (fun h2 => ?_)
          · refine lv_iinc (v := nI (i + 1)) (lv' := [(2, .int (nI (i + 1))), (3, .int r_1), (0, .ref (q 1)), (1, .int (nI u))]) hx hb dX3_firstTowardsTarget_46 hl (k := 3) rfl (nI_1 _) (by decide) rfl (fun ls hl => ?_)
            refine lv_goto (tgt := 2) hx hb dX3_firstTowardsTarget_49 (by decide) ?_
            exact ih (i + 1) (by omega) (by omega) (lt_s hv (by rintro ⟨w, h3, -⟩; rw [hn1] at h3; cases h3)) _ _ _ hP hD hS (lv_sub hl [2, 3, 0] rfl)
          · exact absurd hr1 h2
        | some z =>
          rw [hn1] at hr1
          have hz := (show z < 10 by rcases cw_nx_cases hn1 with ⟨-, h⟩ | ⟨-, h⟩ <;> rw [h]; exact hb0 i; exact ha0 i)
          have hr2 : r_1 = nI z := hr1
          subst hr2
          refine lv_icmp_eq (tgt := 46) hx hb dX3_firstTowardsTarget_19 (by decide) (fun h2 => ?_) (fun h2 => ?_)
          · exact absurd (congrArg Int32.toInt h2) (by rw [nI_toInt (by omega)]; intro h; have h3 : (z : Int) = -1 := h; omega)
          · refine lv_aload_n hx hb dX3_firstTowardsTarget_22 rfl (lv_at hl 1 rfl) ?_
            refine va_get (ci := 3) (v := .ref (q 6)) (C := RX3) (T := TX3) (N := 6) hx hb hbw in_X3 hown hK hP 0 rfl rfl 5 (by decide) (hbw _ m_55) (fun _ h9 => h9) rfl dX3_firstTowardsTarget_23 ?_
            refine lv_iload_n hx hb dX3_firstTowardsTarget_26 rfl (lv_at hl 0 rfl) ?_
            refine nr_iald hx hb hK hP 5 0 rfl rfl (k := z) (by omega) (by omega) dX3_firstTowardsTarget_27 ?_
            have b_2 := hd0 z
            refine lv_aload_n hx hb dX3_firstTowardsTarget_28 rfl (lv_at hl 1 rfl) ?_
            refine va_get (ci := 3) (v := .ref (q 4)) (C := RX3) (T := TX3) (N := 6) hx hb hbw in_X3 hown hK hP 0 rfl rfl 3 (by decide) (hbw _ m_50) (fun _ h9 => h9) rfl dX3_firstTowardsTarget_29 ?_
            refine lv_iload_n hx hb dX3_firstTowardsTarget_32 rfl (lv_at hl 3 rfl) ?_
            refine nr_iald hx hb hK hP 3 0 rfl rfl (k := i) (by omega) (by omega) dX3_firstTowardsTarget_33 ?_
            have b_3 := hl0 i
            refine nr_iadd hx hb dX3_firstTowardsTarget_34 ?_
            refine lv_aload_n hx hb dX3_firstTowardsTarget_35 rfl (lv_at hl 1 rfl) ?_
            refine va_get (ci := 3) (v := .ref (q 6)) (C := RX3) (T := TX3) (N := 6) hx hb hbw in_X3 hown hK hP 0 rfl rfl 5 (by decide) (hbw _ m_55) (fun _ h9 => h9) rfl dX3_firstTowardsTarget_36 ?_
            refine lv_iload_n hx hb dX3_firstTowardsTarget_39 rfl (lv_at hl 2 rfl) ?_
            refine nr_iald hx hb hK hP 5 0 rfl rfl (k := u) (by omega) (by omega) dX3_firstTowardsTarget_40 ?_
            have b_4 := hd0 u
            refine nr_icmp_ne (x := (di z) + (le i)) (y := di u) (tgt := 46) hx hb (by omega) (by omega) dX3_firstTowardsTarget_41 (by decide) (fun h3 => ?_) (fun h3 => ?_)
            · refine lv_iinc (v := nI (i + 1)) (lv' := [(2, .int (nI (i + 1))), (3, .int (nI z)), (0, .ref (q 1)), (1, .int (nI u))]) hx hb dX3_firstTowardsTarget_46 hl (k := 3) rfl (nI_1 _) (by decide) rfl (fun ls hl => ?_)
              refine lv_goto (tgt := 2) hx hb dX3_firstTowardsTarget_49 (by decide) ?_
              exact ih (i + 1) (by omega) (by omega) (lt_s hv (by rintro ⟨w, h4, h5⟩; rw [hn1] at h4; cases h4; exact h3 h5)) _ _ _ hP hD hS (lv_sub hl [2, 3, 0] rfl)
            · refine lv_iload_n hx hb dX3_firstTowardsTarget_44 rfl (lv_at hl 3 rfl) ?_
              rw [hQ]
              exact ct_iret hx hb hr hlocks hP hD hS dX3_firstTowardsTarget_45 ⟨rfl, Or.inl ⟨i, rfl, by omega, ⟨z, hn1, h3⟩, hv⟩⟩
  exact lp (n + 1) 0 (by omega) (Nat.zero_le n) (lt_0) H locs ls hP hD hS (lv_sub hl [1, 2, 0] rfl)
theorem bN_t {g : Bool} (h : 0 < bN g) : g = true := by cases g with | true => rfl | false => exact absurd h (by decide)
theorem bN_f {g : Bool} (h : bN g = 0) : g = false := by cases g with | false => rfl | true => exact absurd h (by decide)
theorem cw_in.as {T : Nat} {a b ln : Nat → Nat} {v F k t : Nat} {g g' : Bool} {d : Nat → Nat} (h : cw_in T a b ln v F k t g d) (e : g = g') : cw_in T a b ln v F k t g' d := e ▸ h
set_option maxHeartbeats 4000000 in
set_option maxRecDepth 100000 in
/-- Trays.measureTo -/
theorem kX3_measureTo (l : Launch) (D : va_G) (cI cG cL cB : ClassId) (q : Nat → Nat) (n : Nat) (a b le ro di : Nat → Nat) (v : Nat) (hv : v < 10) (hn : n ≤ 15) (hok : cw_ok n a b le) (ha0 : ∀ j, a j < 10) (hb0 : ∀ j, b j < 10) (hl0 : ∀ j, le j ≤ 100) : ct_v l yX3_measureTo (.code yX3_measureTo cX3_measureTo 7 none :: bw) ({ frames := 1, cells := 0, slots := 0, locals := 24 }) (EN D (tyL cI cG cL cB)) D vwCl (pT q cI n a b le ro di) [.ref (q 1), .int (nI v)] (fun W => ∃ d, W = pT q cI n a b le ro d ∧ cw_ds n a b le v 1000000 d) 0 0 := by
  refine ct_ofv (by decide) (Nat.le_of_ble_eq_true rfl) ?_
  intro p e s m below meth cd A H locs av Q ls hx hb hr hml hown hlocks hnm hbw hEN hQ hP hD hS hA hl
  have hown : s.vm.findClass RX3 = some m.cls := hown
  have hK := hEN.1
  have hl : lv_has ls 7 [(0, .ref (q 1)), (1, .int (nI v))] := hl
  refine lv_aload_n hx hb dX3_measureTo_0 rfl (lv_at hl 0 rfl) ?_
  refine va_get (ci := 3) (v := .ref (q 6)) (C := RX3) (T := TX3) (N := 6) hx hb hbw in_X3 hown hK hP 0 rfl rfl 5 (by decide) (hbw _ m_55) (fun _ h9 => h9) rfl dX3_measureTo_1 ?_
  refine lv_ldc (v := nI 1000000) hx hb hown (hbw _ m_354) dX3_measureTo_4 ?_
  refine ct_Sv (wc := [iA (q 6) cI 10 di]) (wr := ([(q 1, .inr (3, [.int (nI n), .ref (q 2), .ref (q 3), .ref (q 4), .ref (q 5), .ref (q 6)])), iA (q 2) cI 15 a, iA (q 3) cI 15 b, iA (q 4) cI 15 le, iA (q 5) cI 15 ro])) (As := [.ref (q 6), .int (nI 1000000)]) (rest := []) ⟨hx, hb, hml, hown, hbw⟩ (EN_E D _) hEN (kJ_fill l D cI cG cL cB (q 6) 10 di 1000000 (by omega)) (gS 2 hbw m_355 m_198 m_29 m_199 rfl rfl (by decide +kernel) ⟨Nat.le_of_ble_eq_true rfl, Nat.le_of_ble_eq_true rfl⟩) hP hD hS hA [5] [0, 1, 2, 3, 4] rfl rfl (by decide) (by decide) (by decide) rfl hl.1 rfl (Nat.le_of_ble_eq_true rfl) dX3_measureTo_6 ⟨Nat.le_of_ble_eq_true rfl, Nat.le_of_ble_eq_true rfl⟩ (fun w_1 H locs hw hP hD hS => ?_)
  obtain rfl := hw
  have hP := hP.sub (ws' := (pT q cI n a b le ro (fun _ => 1000000))) [0, 1, 2, 3, 4, 5] rfl
  have hD := hD.sub (ws' := (pT q cI n a b le ro (fun _ => 1000000))) [0, 1, 2, 3, 4, 5] (by decide) rfl
  refine lv_aload_n hx hb dX3_measureTo_9 rfl (lv_at hl 0 rfl) ?_
  refine va_get (ci := 3) (v := .ref (q 6)) (C := RX3) (T := TX3) (N := 6) hx hb hbw in_X3 hown hK hP 0 rfl rfl 5 (by decide) (hbw _ m_55) (fun _ h9 => h9) rfl dX3_measureTo_10 ?_
  refine lv_iload_n hx hb dX3_measureTo_13 rfl (lv_at hl 1 rfl) ?_
  refine lv_iconst (v := nI 0) hx hb dX3_measureTo_14 (by decide) ?_
  refine nr_iast hx hb hK hP hD hS 5 0 rfl rfl (k := v) (v := 0) (by omega) (by omega) dX3_measureTo_15 (fun H locs hP hD hS => ?_)
  have hP : va_P D vwCl (pT q cI n a b le ro (nr_up (fun _ => 1000000) v 0)) H := hP
  have hD : va_D A (pT q cI n a b le ro (nr_up (fun _ => 1000000) v 0)) := hD
  refine lv_iconst (v := nI 1) hx hb dX3_measureTo_16 (by decide) ?_
  refine lv_istore_n (lv' := [(2, .int (nI 1)), (0, .ref (q 1)), (1, .int (nI v))]) hx hb dX3_measureTo_17 rfl hl (by decide) rfl (fun ls hl => ?_)
  refine lv_iconst (v := nI 0) hx hb dX3_measureTo_18 (by decide) ?_
  refine lv_istore_n (lv' := [(3, .int (nI 0)), (2, .int (nI 1)), (0, .ref (q 1)), (1, .int (nI v))]) hx hb dX3_measureTo_19 rfl hl (by decide) rfl (fun ls hl => ?_)
  have lp : ∀ (k : Nat) (rd : Nat) (g : Bool) (d : Nat → Nat), (hk : 10 < rd + k) → (hi : rd ≤ 10) → (hd : cw_rd n a b le v 1000000 rd g d) → ∀ (H : Heap) (locs : List Loc) (ls : Array Slot), va_P D vwCl (pT q cI n a b le ro d) H → va_D A (pT q cI n a b le ro d) → va_S A s.heap H locs → lv_has ls 7 [(0, .ref (q 1)), (1, .int (nI v)), (2, .int (nI (bN g))), (3, .int (nI rd))] → W p l e ({ frames := 1, cells := 0, slots := 0, locals := 24 }) s m av below meth cd H locs 0 0 Q (F0 m 20 ls []) := by
    intro k
    induction k with
    | zero => intro rd g d hk hi hd; exact absurd hk (by omega)
    | succ k ih =>
      intro rd g d hk hi hd H locs ls hP hD hS hl
      refine lv_iload_n hx hb dX3_measureTo_20 rfl (lv_at hl 2 rfl) ?_
      refine nr_if_eq (x := bN g) (tgt := 130) hx hb (by unfold bN; split <;> omega) dX3_measureTo_21 (by decide) (fun h1 => ?_) (fun h1 => ?_)
      · obtain rfl : g = false := by cases g with | false => rfl | true => exact absurd h1 (by decide)
        rw [hQ]
        exact ct_vret hx hb hr hlocks hP hD hS dX3_measureTo_130 ⟨d, rfl, cw_rd_calm hd⟩
      · refine lv_iload_n hx hb dX3_measureTo_24 rfl (lv_at hl 3 rfl) ?_
        refine lv_bipush (v := nI 10) hx hb dX3_measureTo_25 (by decide) ?_
        refine nr_icmp_ge (x := rd) (y := 10) (tgt := 130) hx hb (by omega) (by omega) dX3_measureTo_27 (by decide) (fun h2 => ?_) (fun h2 => ?_)
        · rw [hQ]
          exact ct_vret hx hb hr hlocks hP hD hS dX3_measureTo_130 ⟨d, rfl, cw_rd_10 hok hv (show 9 ≤ rd by omega) hd⟩
        · refine lv_iconst (v := nI 0) hx hb dX3_measureTo_30 (by decide) ?_
          refine lv_istore_n (lv' := [(2, .int (nI 0)), (0, .ref (q 1)), (1, .int (nI v)), (3, .int (nI rd))]) hx hb dX3_measureTo_31 rfl hl (by decide) rfl (fun ls hl => ?_)
          refine lv_iconst (v := nI 0) hx hb dX3_measureTo_32 (by decide) ?_
          refine lv_istore (lv' := [(4, .int (nI 0)), (2, .int (nI 0)), (0, .ref (q 1)), (1, .int (nI v)), (3, .int (nI rd))]) hx hb dX3_measureTo_33 hl (by decide) rfl (fun ls hl => ?_)
          have lq : ∀ (k : Nat) (t : Nat) (g : Bool) (d : Nat → Nat), (hk2 : n < t + k) → (ht : t ≤ n) → (hd : cw_in n a b le v 1000000 rd t g d) → ∀ (H : Heap) (locs : List Loc) (ls : Array Slot), va_P D vwCl (pT q cI n a b le ro d) H → va_D A (pT q cI n a b le ro d) → va_S A s.heap H locs → lv_has ls 7 [(0, .ref (q 1)), (1, .int (nI v)), (2, .int (nI (bN g))), (3, .int (nI rd)), (4, .int (nI t))] → W p l e ({ frames := 1, cells := 0, slots := 0, locals := 24 }) s m av below meth cd H locs 0 0 Q (F0 m 35 ls []) := by
            intro k
            induction k with
            | zero => intro t g d hk2 ht hd; exact absurd hk2 (by omega)
            | succ k ih2 =>
              intro t g d hk2 ht hd H locs ls hP hD hS hl
              have hd0 : ∀ j, d j ≤ 1000000 := hd.1.1
              refine lv_iload hx hb dX3_measureTo_35 (lv_at hl 4 rfl) ?_
              refine lv_aload_n hx hb dX3_measureTo_37 rfl (lv_at hl 0 rfl) ?_
              refine va_get (ci := 3) (v := .int (nI n)) (C := RX3) (T := TX3) (N := 6) hx hb hbw in_X3 hown hK hP 0 rfl rfl 0 (by decide) (hbw _ m_45) (fun _ h9 => h9) rfl dX3_measureTo_38 ?_
              refine nr_icmp_ge (x := t) (y := n) (tgt := 124) hx hb (by omega) (by omega) dX3_measureTo_41 (by decide) (fun h3 => ?_) (fun h3 => ?_)
              · obtain rfl : t = n := by omega
                refine lv_iinc (v := nI (rd + 1)) (lv' := [(3, .int (nI (rd + 1))), (0, .ref (q 1)), (1, .int (nI v)), (2, .int (nI (bN g))), (4, .int (nI t))]) hx hb dX3_measureTo_124 hl (k := 3) rfl (nI_1 _) (by decide) rfl (fun ls hl => ?_)
                refine lv_goto (tgt := 20) hx hb dX3_measureTo_127 (by decide) ?_
                exact ih (rd + 1) g d (by omega) (by omega) (cw_in_end hd) _ _ _ hP hD hS (lv_sub hl [1, 2, 3, 0] rfl)
              · refine lv_aload_n hx hb dX3_measureTo_44 rfl (lv_at hl 0 rfl) ?_
                refine lv_aload_n hx hb dX3_measureTo_45 rfl (lv_at hl 0 rfl) ?_
                refine va_get (ci := 3) (v := .ref (q 2)) (C := RX3) (T := TX3) (N := 6) hx hb hbw in_X3 hown hK hP 0 rfl rfl 1 (by decide) (hbw _ m_48) (fun _ h9 => h9) rfl dX3_measureTo_46 ?_
                refine lv_iload hx hb dX3_measureTo_49 (lv_at hl 4 rfl) ?_
                refine nr_iald hx hb hK hP 1 0 rfl rfl (k := t) (by omega) (by omega) dX3_measureTo_51 ?_
                have b_2 := ha0 t
                refine lv_aload_n hx hb dX3_measureTo_52 rfl (lv_at hl 0 rfl) ?_
                refine va_get (ci := 3) (v := .ref (q 3)) (C := RX3) (T := TX3) (N := 6) hx hb hbw in_X3 hown hK hP 0 rfl rfl 2 (by decide) (hbw _ m_49) (fun _ h9 => h9) rfl dX3_measureTo_53 ?_
                refine lv_iload hx hb dX3_measureTo_56 (lv_at hl 4 rfl) ?_
                refine nr_iald hx hb hK hP 2 0 rfl rfl (k := t) (by omega) (by omega) dX3_measureTo_58 ?_
                have b_3 := hb0 t
                refine lv_aload_n hx hb dX3_measureTo_59 rfl (lv_at hl 0 rfl) ?_
                refine va_get (ci := 3) (v := .ref (q 4)) (C := RX3) (T := TX3) (N := 6) hx hb hbw in_X3 hown hK hP 0 rfl rfl 3 (by decide) (hbw _ m_50) (fun _ h9 => h9) rfl dX3_measureTo_60 ?_
                refine lv_iload hx hb dX3_measureTo_63 (lv_at hl 4 rfl) ?_
                refine nr_iald hx hb hK hP 3 0 rfl rfl (k := t) (by omega) (by omega) dX3_measureTo_65 ?_
                have b_4 := hl0 t
                have hd1 : ∀ j, cw_sh d (a t) (b t) (le t) j ≤ 1000000 := fun j => Nat.le_trans (cw_sh_le d (a t) (b t) (le t) j) (hd0 j)
                refine ct_Vi (wc := (pT q cI n a b le ro d)) (wr := ([] : va_W)) (As := [.int (nI (a t)), .int (nI (b t)), .int (nI (le t))]) (rest := []) ⟨hx, hb, hml, hown, hbw⟩ (EN_E D _) hEN (kX3_shorten l D cI cG cL cB q n a b le ro d (a t) (b t) (le t) (ha0 t) (hb0 t) (hl0 t) hd0) (cwV (C := "CableSizes$Trays") 3 hbw (gV m_356 m_358 m_4 m_19 m_359) rfl rfl rfl (by decide +kernel) ⟨Nat.le_of_ble_eq_true rfl, Nat.le_of_ble_eq_true rfl⟩) (va_recv hK hP (ci := 3) (q0 := 0) rfl rfl) hP hD hS hA [0, 1, 2, 3, 4, 5] [] rfl rfl (by decide) (by decide) (by decide) rfl hl.1 rfl (Nat.le_of_ble_eq_true rfl) dX3_measureTo_66 ⟨Nat.le_of_ble_eq_true rfl, Nat.le_of_ble_eq_true rfl⟩ (fun r_5 w_5 H locs hw hP hD hS => ?_)
                obtain ⟨rfl, rfl⟩ := hw
                have hP := hP.sub (ws' := (pT q cI n a b le ro (cw_sh d (a t) (b t) (le t)))) [0, 1, 2, 3, 4, 5] rfl
                have hD := hD.sub (ws' := (pT q cI n a b le ro (cw_sh d (a t) (b t) (le t)))) [0, 1, 2, 3, 4, 5] (by decide) rfl
                refine lv_istore (lv' := [(5, .int (nI (bN (cw_tk d (a t) (b t) (le t))))), (0, .ref (q 1)), (1, .int (nI v)), (2, .int (nI (bN g))), (3, .int (nI rd)), (4, .int (nI t))]) hx hb dX3_measureTo_69 hl (by decide) rfl (fun ls hl => ?_)
                refine lv_aload_n hx hb dX3_measureTo_71 rfl (lv_at hl 1 rfl) ?_
                refine lv_aload_n hx hb dX3_measureTo_72 rfl (lv_at hl 1 rfl) ?_
                refine va_get (ci := 3) (v := .ref (q 3)) (C := RX3) (T := TX3) (N := 6) hx hb hbw in_X3 hown hK hP 0 rfl rfl 2 (by decide) (hbw _ m_49) (fun _ h9 => h9) rfl dX3_measureTo_73 ?_
                refine lv_iload hx hb dX3_measureTo_76 (lv_at hl 5 rfl) ?_
                refine nr_iald hx hb hK hP 2 0 rfl rfl (k := t) (by omega) (by omega) dX3_measureTo_78 ?_
                have b_6 := hb0 t
                refine lv_aload_n hx hb dX3_measureTo_79 rfl (lv_at hl 1 rfl) ?_
                refine va_get (ci := 3) (v := .ref (q 2)) (C := RX3) (T := TX3) (N := 6) hx hb hbw in_X3 hown hK hP 0 rfl rfl 1 (by decide) (hbw _ m_48) (fun _ h9 => h9) rfl dX3_measureTo_80 ?_
                refine lv_iload hx hb dX3_measureTo_83 (lv_at hl 5 rfl) ?_
                refine nr_iald hx hb hK hP 1 0 rfl rfl (k := t) (by omega) (by omega) dX3_measureTo_85 ?_
                have b_7 := ha0 t
                refine lv_aload_n hx hb dX3_measureTo_86 rfl (lv_at hl 1 rfl) ?_
                refine va_get (ci := 3) (v := .ref (q 4)) (C := RX3) (T := TX3) (N := 6) hx hb hbw in_X3 hown hK hP 0 rfl rfl 3 (by decide) (hbw _ m_50) (fun _ h9 => h9) rfl dX3_measureTo_87 ?_
                refine lv_iload hx hb dX3_measureTo_90 (lv_at hl 5 rfl) ?_
                refine nr_iald hx hb hK hP 3 0 rfl rfl (k := t) (by omega) (by omega) dX3_measureTo_92 ?_
                have b_8 := hl0 t
                refine ct_Vi (wc := (pT q cI n a b le ro (cw_sh d (a t) (b t) (le t)))) (wr := ([] : va_W)) (As := [.int (nI (b t)), .int (nI (a t)), .int (nI (le t))]) (rest := []) ⟨hx, hb, hml, hown, hbw⟩ (EN_E D _) hEN (kX3_shorten l D cI cG cL cB q n a b le ro (cw_sh d (a t) (b t) (le t)) (b t) (a t) (le t) (hb0 t) (ha0 t) (hl0 t) hd1) (cwV (C := "CableSizes$Trays") 3 hbw (gV m_356 m_358 m_4 m_19 m_359) rfl rfl rfl (by decide +kernel) ⟨Nat.le_of_ble_eq_true rfl, Nat.le_of_ble_eq_true rfl⟩) (va_recv hK hP (ci := 3) (q0 := 0) rfl rfl) hP hD hS hA [0, 1, 2, 3, 4, 5] [] rfl rfl (by decide) (by decide) (by decide) rfl hl.1 rfl (Nat.le_of_ble_eq_true rfl) dX3_measureTo_93 ⟨Nat.le_of_ble_eq_true rfl, Nat.le_of_ble_eq_true rfl⟩ (fun r_9 w_9 H locs hw hP hD hS => ?_)
                obtain ⟨rfl, rfl⟩ := hw
                have hP := hP.sub (ws' := (pT q cI n a b le ro (cw_sh (cw_sh d (a t) (b t) (le t)) (b t) (a t) (le t)))) [0, 1, 2, 3, 4, 5] rfl
                have hD := hD.sub (ws' := (pT q cI n a b le ro (cw_sh (cw_sh d (a t) (b t) (le t)) (b t) (a t) (le t)))) [0, 1, 2, 3, 4, 5] (by decide) rfl
                have hs := cw_in_s hok h3 hd
                refine lv_istore (lv' := [(6, .int (nI (bN (cw_tk (cw_sh d (a t) (b t) (le t)) (b t) (a t) (le t))))), (5, .int (nI (bN (cw_tk d (a t) (b t) (le t))))), (0, .ref (q 1)), (1, .int (nI v)), (2, .int (nI (bN g))), (3, .int (nI rd)), (4, .int (nI t))]) hx hb dX3_measureTo_96 hl (by decide) rfl (fun ls hl => ?_)
                refine lv_iload_n hx hb dX3_measureTo_98 rfl (lv_at hl 4 rfl) ?_
                refine nr_if_ne (x := bN g) (tgt := 112) hx hb (by unfold bN; split <;> omega) dX3_measureTo_99 (by decide) (fun h4 => ?_) (fun h4 => ?_)
                · refine lv_iconst (v := nI 1) hx hb dX3_measureTo_112 (by decide) ?_
                  refine lv_goto (tgt := 117) hx hb dX3_measureTo_113 (by decide) ?_
                  refine lv_istore_n (lv' := [(2, .int (nI 1)), (6, .int (nI (bN (cw_tk (cw_sh d (a t) (b t) (le t)) (b t) (a t) (le t))))), (5, .int (nI (bN (cw_tk d (a t) (b t) (le t))))), (0, .ref (q 1)), (1, .int (nI v)), (3, .int (nI rd)), (4, .int (nI t))]) hx hb dX3_measureTo_117 rfl hl (by decide) rfl (fun ls hl => ?_)
                  refine lv_iinc (v := nI (t + 1)) (lv' := [(4, .int (nI (t + 1))), (2, .int (nI 1)), (6, .int (nI (bN (cw_tk (cw_sh d (a t) (b t) (le t)) (b t) (a t) (le t))))), (5, .int (nI (bN (cw_tk d (a t) (b t) (le t))))), (0, .ref (q 1)), (1, .int (nI v)), (3, .int (nI rd))]) hx hb dX3_measureTo_118 hl (k := 6) rfl (nI_1 _) (by decide) rfl (fun ls hl => ?_)
                  refine lv_goto (tgt := 35) hx hb dX3_measureTo_121 (by decide) ?_
                  exact ih2 (t + 1) true _ (by omega) (by omega) (hs.as (by rw [bN_t h4]; rfl)) _ _ _ hP hD hS (lv_sub hl [4, 5, 1, 6, 0] rfl)
                · refine lv_iload hx hb dX3_measureTo_102 (lv_at hl 1 rfl) ?_
                  refine nr_if_ne (x := bN (cw_tk d (a t) (b t) (le t))) (tgt := 112) hx hb (by unfold bN; split <;> omega) dX3_measureTo_104 (by decide) (fun h5 => ?_) (fun h5 => ?_)
                  · refine lv_iconst (v := nI 1) hx hb dX3_measureTo_112 (by decide) ?_
                    refine lv_goto (tgt := 117) hx hb dX3_measureTo_113 (by decide) ?_
                    refine lv_istore_n (lv' := [(2, .int (nI 1)), (6, .int (nI (bN (cw_tk (cw_sh d (a t) (b t) (le t)) (b t) (a t) (le t))))), (5, .int (nI (bN (cw_tk d (a t) (b t) (le t))))), (0, .ref (q 1)), (1, .int (nI v)), (3, .int (nI rd)), (4, .int (nI t))]) hx hb dX3_measureTo_117 rfl hl (by decide) rfl (fun ls hl => ?_)
                    refine lv_iinc (v := nI (t + 1)) (lv' := [(4, .int (nI (t + 1))), (2, .int (nI 1)), (6, .int (nI (bN (cw_tk (cw_sh d (a t) (b t) (le t)) (b t) (a t) (le t))))), (5, .int (nI (bN (cw_tk d (a t) (b t) (le t))))), (0, .ref (q 1)), (1, .int (nI v)), (3, .int (nI rd))]) hx hb dX3_measureTo_118 hl (k := 6) rfl (nI_1 _) (by decide) rfl (fun ls hl => ?_)
                    refine lv_goto (tgt := 35) hx hb dX3_measureTo_121 (by decide) ?_
                    exact ih2 (t + 1) true _ (by omega) (by omega) (hs.as (by rw [bN_t h5]; cases g <;> rfl)) _ _ _ hP hD hS (lv_sub hl [4, 5, 1, 6, 0] rfl)
                  · refine lv_iload hx hb dX3_measureTo_107 (lv_at hl 0 rfl) ?_
                    refine nr_if_eq (x := bN (cw_tk (cw_sh d (a t) (b t) (le t)) (b t) (a t) (le t))) (tgt := 116) hx hb (by unfold bN; split <;> omega) dX3_measureTo_109 (by decide) (fun h6 => ?_) (fun h6 => ?_)
                    · refine lv_iconst (v := nI 0) hx hb dX3_measureTo_116 (by decide) ?_
                      refine lv_istore_n (lv' := [(2, .int (nI 0)), (6, .int (nI (bN (cw_tk (cw_sh d (a t) (b t) (le t)) (b t) (a t) (le t))))), (5, .int (nI (bN (cw_tk d (a t) (b t) (le t))))), (0, .ref (q 1)), (1, .int (nI v)), (3, .int (nI rd)), (4, .int (nI t))]) hx hb dX3_measureTo_117 rfl hl (by decide) rfl (fun ls hl => ?_)
                      refine lv_iinc (v := nI (t + 1)) (lv' := [(4, .int (nI (t + 1))), (2, .int (nI 0)), (6, .int (nI (bN (cw_tk (cw_sh d (a t) (b t) (le t)) (b t) (a t) (le t))))), (5, .int (nI (bN (cw_tk d (a t) (b t) (le t))))), (0, .ref (q 1)), (1, .int (nI v)), (3, .int (nI rd))]) hx hb dX3_measureTo_118 hl (k := 6) rfl (nI_1 _) (by decide) rfl (fun ls hl => ?_)
                      refine lv_goto (tgt := 35) hx hb dX3_measureTo_121 (by decide) ?_
                      exact ih2 (t + 1) false _ (by omega) (by omega) (hs.as (by rw [bN_f h4, bN_f h5, bN_f h6]; rfl)) _ _ _ hP hD hS (lv_sub hl [4, 5, 1, 6, 0] rfl)
                    · refine lv_iconst (v := nI 1) hx hb dX3_measureTo_112 (by decide) ?_
                      refine lv_goto (tgt := 117) hx hb dX3_measureTo_113 (by decide) ?_
                      refine lv_istore_n (lv' := [(2, .int (nI 1)), (6, .int (nI (bN (cw_tk (cw_sh d (a t) (b t) (le t)) (b t) (a t) (le t))))), (5, .int (nI (bN (cw_tk d (a t) (b t) (le t))))), (0, .ref (q 1)), (1, .int (nI v)), (3, .int (nI rd)), (4, .int (nI t))]) hx hb dX3_measureTo_117 rfl hl (by decide) rfl (fun ls hl => ?_)
                      refine lv_iinc (v := nI (t + 1)) (lv' := [(4, .int (nI (t + 1))), (2, .int (nI 1)), (6, .int (nI (bN (cw_tk (cw_sh d (a t) (b t) (le t)) (b t) (a t) (le t))))), (5, .int (nI (bN (cw_tk d (a t) (b t) (le t))))), (0, .ref (q 1)), (1, .int (nI v)), (3, .int (nI rd))]) hx hb dX3_measureTo_118 hl (k := 6) rfl (nI_1 _) (by decide) rfl (fun ls hl => ?_)
                      refine lv_goto (tgt := 35) hx hb dX3_measureTo_121 (by decide) ?_
                      exact ih2 (t + 1) true _ (by omega) (by omega) (hs.as (by rw [bN_t h6]; cases g <;> cases cw_tk d (a t) (b t) (le t) <;> rfl)) _ _ _ hP hD hS (lv_sub hl [4, 5, 1, 6, 0] rfl)
          exact lq (n + 1) 0 false d (by omega) (Nat.zero_le n) (cw_in_0 hd) _ _ _ hP hD hS (lv_sub hl [2, 3, 1, 4, 0] rfl)
  exact lp 11 0 true (nr_up (fun _ => 1000000) v 0) (by omega) (by omega) (cw_rd_0 (by omega)) H locs ls hP hD hS (lv_sub hl [2, 3, 1, 0] rfl)
end
section
/-- whether a size may stand behind the last one -/
def cz_fol (sn : Nat) (ar rt oh : Nat → Nat) (x y z : Nat) : Bool := decide (sn = 0 ∨ (ar (sn - 1) < x ∧ rt (sn - 1) ≤ y ∧ z ≤ oh (sn - 1)))
set_option maxHeartbeats 4000000 in
set_option maxRecDepth 100000 in
/-- Sizes.mayFollow -/
theorem kX1_mayFollow (l : Launch) (D : va_G) (cI cG cL cB : ClassId) (q : Nat → Nat) (sn : Nat) (ar rt oh : Nat → Nat) (x y z : Nat) (hn : sn ≤ 6) (hx0 : x ≤ 1000) (hy0 : y ≤ 1000) (hz0 : z ≤ 1000) (har : ∀ j, ar j ≤ 1000) (hrt : ∀ j, rt j ≤ 1000) (hoh : ∀ j, oh j ≤ 1000) : ct_i l yX1_mayFollow (.code yX1_mayFollow cX1_mayFollow 5 (some .boolean) :: bw) ({ frames := 0, cells := 0, slots := 0, locals := 0 }) (EN D (tyL cI cG cL cB)) D vwCl (pS q cI sn ar rt oh) [.ref (q 7), .int (nI x), .int (nI y), .int (nI z)] (fun r W => W = pS q cI sn ar rt oh ∧ r = nI (bN (cz_fol sn ar rt oh x y z))) 0 0 := by
  refine ct_ofi (by decide) (Nat.le_of_ble_eq_true rfl) ?_
  intro p e s m below meth cd A H locs av Q ls hx hb hr hml hown hlocks hnm hbw hEN hQ hP hD hS hA hl
  have hown : s.vm.findClass RX1 = some m.cls := hown
  have hK := hEN.1
  have hl : lv_has ls 5 [(0, .ref (q 7)), (1, .int (nI x)), (2, .int (nI y)), (3, .int (nI z))] := hl
  refine lv_aload_n hx hb dX1_mayFollow_0 rfl (lv_at hl 0 rfl) ?_
  refine va_get (ci := 1) (v := .int (nI sn)) (C := RX1) (T := TX1) (N := 4) hx hb hbw in_X1 hown hK hP 0 rfl rfl 0 (by decide) (hbw _ m_77) (fun _ h9 => h9) rfl dX1_mayFollow_1 ?_
  refine nr_if_ne (x := sn) (tgt := 9) hx hb (by omega) dX1_mayFollow_4 (by decide) (fun h1 => ?_) (fun h1 => ?_)
  · refine lv_aload_n hx hb dX1_mayFollow_9 rfl (lv_at hl 0 rfl) ?_
    refine va_get (ci := 1) (v := .int (nI sn)) (C := RX1) (T := TX1) (N := 4) hx hb hbw in_X1 hown hK hP 0 rfl rfl 0 (by decide) (hbw _ m_77) (fun _ h9 => h9) rfl dX1_mayFollow_10 ?_
    refine lv_iconst (v := nI 1) hx hb dX1_mayFollow_13 (by decide) ?_
    refine nr_isub hx hb (by omega) dX1_mayFollow_14 ?_
    refine lv_istore (lv' := [(4, .int (nI (sn - 1))), (0, .ref (q 7)), (1, .int (nI x)), (2, .int (nI y)), (3, .int (nI z))]) hx hb dX1_mayFollow_15 hl (by decide) rfl (fun ls hl => ?_)
    refine lv_iload_n hx hb dX1_mayFollow_17 rfl (lv_at hl 2 rfl) ?_
    refine lv_aload_n hx hb dX1_mayFollow_18 rfl (lv_at hl 1 rfl) ?_
    refine va_get (ci := 1) (v := .ref (q 8)) (C := RX1) (T := TX1) (N := 4) hx hb hbw in_X1 hown hK hP 0 rfl rfl 1 (by decide) (hbw _ m_80) (fun _ h9 => h9) rfl dX1_mayFollow_19 ?_
    refine lv_iload hx hb dX1_mayFollow_22 (lv_at hl 0 rfl) ?_
    refine nr_iald hx hb hK hP 1 0 rfl rfl (k := sn - 1) (by omega) (by omega) dX1_mayFollow_24 ?_
    have b_1 := har (sn - 1)
    refine nr_icmp_le (x := x) (y := ar (sn - 1)) (tgt := 54) hx hb (by omega) (by omega) dX1_mayFollow_25 (by decide) (fun h2 => ?_) (fun h2 => ?_)
    · refine lv_iconst (v := nI 0) hx hb dX1_mayFollow_54 (by decide) ?_
      have e1 : cz_fol sn ar rt oh x y z = false := decide_eq_false (by omega)
      rw [hQ]
      exact ct_zret hx hb hr hlocks hP hD hS dX1_mayFollow_55 (by first | exact Or.inl rfl | exact Or.inr rfl) ⟨rfl, by rw [e1]; rfl⟩
    · refine lv_iload_n hx hb dX1_mayFollow_28 rfl (lv_at hl 3 rfl) ?_
      refine lv_aload_n hx hb dX1_mayFollow_29 rfl (lv_at hl 1 rfl) ?_
      refine va_get (ci := 1) (v := .ref (q 9)) (C := RX1) (T := TX1) (N := 4) hx hb hbw in_X1 hown hK hP 0 rfl rfl 2 (by decide) (hbw _ m_82) (fun _ h9 => h9) rfl dX1_mayFollow_30 ?_
      refine lv_iload hx hb dX1_mayFollow_33 (lv_at hl 0 rfl) ?_
      refine nr_iald hx hb hK hP 2 0 rfl rfl (k := sn - 1) (by omega) (by omega) dX1_mayFollow_35 ?_
      have b_2 := hrt (sn - 1)
      refine nr_icmp_lt (x := y) (y := rt (sn - 1)) (tgt := 54) hx hb (by omega) (by omega) dX1_mayFollow_36 (by decide) (fun h3 => ?_) (fun h3 => ?_)
      · refine lv_iconst (v := nI 0) hx hb dX1_mayFollow_54 (by decide) ?_
        have e1 : cz_fol sn ar rt oh x y z = false := decide_eq_false (by omega)
        rw [hQ]
        exact ct_zret hx hb hr hlocks hP hD hS dX1_mayFollow_55 (by first | exact Or.inl rfl | exact Or.inr rfl) ⟨rfl, by rw [e1]; rfl⟩
      · refine lv_iload_n hx hb dX1_mayFollow_39 rfl (lv_at hl 4 rfl) ?_
        refine lv_aload_n hx hb dX1_mayFollow_40 rfl (lv_at hl 1 rfl) ?_
        refine va_get (ci := 1) (v := .ref (q 10)) (C := RX1) (T := TX1) (N := 4) hx hb hbw in_X1 hown hK hP 0 rfl rfl 3 (by decide) (hbw _ m_84) (fun _ h9 => h9) rfl dX1_mayFollow_41 ?_
        refine lv_iload hx hb dX1_mayFollow_44 (lv_at hl 0 rfl) ?_
        refine nr_iald hx hb hK hP 3 0 rfl rfl (k := sn - 1) (by omega) (by omega) dX1_mayFollow_46 ?_
        have b_3 := hoh (sn - 1)
        refine nr_icmp_gt (x := z) (y := oh (sn - 1)) (tgt := 54) hx hb (by omega) (by omega) dX1_mayFollow_47 (by decide) (fun h4 => ?_) (fun h4 => ?_)
        · refine lv_iconst (v := nI 0) hx hb dX1_mayFollow_54 (by decide) ?_
          have e1 : cz_fol sn ar rt oh x y z = false := decide_eq_false (by omega)
          rw [hQ]
          exact ct_zret hx hb hr hlocks hP hD hS dX1_mayFollow_55 (by first | exact Or.inl rfl | exact Or.inr rfl) ⟨rfl, by rw [e1]; rfl⟩
        · refine lv_iconst (v := nI 1) hx hb dX1_mayFollow_50 (by decide) ?_
          refine lv_goto (tgt := 55) hx hb dX1_mayFollow_51 (by decide) ?_
          have e1 : cz_fol sn ar rt oh x y z = true := decide_eq_true (by omega)
          rw [hQ]
          exact ct_zret hx hb hr hlocks hP hD hS dX1_mayFollow_55 (by first | exact Or.inl rfl | exact Or.inr rfl) ⟨rfl, by rw [e1]; rfl⟩
  · refine lv_iconst (v := nI 1) hx hb dX1_mayFollow_7 (by decide) ?_
    have e1 : cz_fol sn ar rt oh x y z = true := decide_eq_true (Or.inl h1)
    rw [hQ]
    exact ct_zret hx hb hr hlocks hP hD hS dX1_mayFollow_8 (by first | exact Or.inl rfl | exact Or.inr rfl) ⟨rfl, by rw [e1]; rfl⟩
set_option maxHeartbeats 4000000 in
set_option maxRecDepth 100000 in
/-- Sizes.add -/
theorem kX1_add (l : Launch) (D : va_G) (cI cG cL cB : ClassId) (q : Nat → Nat) (sn : Nat) (ar rt oh : Nat → Nat) (x y z : Nat) (hn : sn < 6) : ct_i l yX1_add (.code yX1_add cX1_add 5 (some .int) :: bw) ({ frames := 0, cells := 0, slots := 0, locals := 0 }) (EN D (tyL cI cG cL cB)) D vwCl (pS q cI sn ar rt oh) [.ref (q 7), .int (nI x), .int (nI y), .int (nI z)] (fun r W => W = pS q cI (sn + 1) (nr_up ar sn x) (nr_up rt sn y) (nr_up oh sn z) ∧ r = nI sn) 0 0 := by
  refine ct_ofi (by decide) (Nat.le_of_ble_eq_true rfl) ?_
  intro p e s m below meth cd A H locs av Q ls hx hb hr hml hown hlocks hnm hbw hEN hQ hP hD hS hA hl
  have hown : s.vm.findClass RX1 = some m.cls := hown
  have hK := hEN.1
  have hl : lv_has ls 5 [(0, .ref (q 7)), (1, .int (nI x)), (2, .int (nI y)), (3, .int (nI z))] := hl
  refine lv_aload_n hx hb dX1_add_0 rfl (lv_at hl 0 rfl) ?_
  refine va_get (ci := 1) (v := .int (nI sn)) (C := RX1) (T := TX1) (N := 4) hx hb hbw in_X1 hown hK hP 0 rfl rfl 0 (by decide) (hbw _ m_77) (fun _ h9 => h9) rfl dX1_add_1 ?_
  refine lv_istore (lv' := [(4, .int (nI sn)), (0, .ref (q 7)), (1, .int (nI x)), (2, .int (nI y)), (3, .int (nI z))]) hx hb dX1_add_4 hl (by decide) rfl (fun ls hl => ?_)
  refine lv_aload_n hx hb dX1_add_6 rfl (lv_at hl 1 rfl) ?_
  refine va_get (ci := 1) (v := .ref (q 8)) (C := RX1) (T := TX1) (N := 4) hx hb hbw in_X1 hown hK hP 0 rfl rfl 1 (by decide) (hbw _ m_80) (fun _ h9 => h9) rfl dX1_add_7 ?_
  refine lv_iload hx hb dX1_add_10 (lv_at hl 0 rfl) ?_
  refine lv_iload_n hx hb dX1_add_12 rfl (lv_at hl 2 rfl) ?_
  refine nr_iast hx hb hK hP hD hS 1 0 rfl rfl (k := sn) (v := x) (by omega) (by omega) dX1_add_13 (fun H locs hP hD hS => ?_)
  have hP : va_P D vwCl (pS q cI sn (nr_up ar sn x) rt oh) H := hP
  have hD : va_D A (pS q cI sn (nr_up ar sn x) rt oh) := hD
  refine lv_aload_n hx hb dX1_add_14 rfl (lv_at hl 1 rfl) ?_
  refine va_get (ci := 1) (v := .ref (q 9)) (C := RX1) (T := TX1) (N := 4) hx hb hbw in_X1 hown hK hP 0 rfl rfl 2 (by decide) (hbw _ m_82) (fun _ h9 => h9) rfl dX1_add_15 ?_
  refine lv_iload hx hb dX1_add_18 (lv_at hl 0 rfl) ?_
  refine lv_iload_n hx hb dX1_add_20 rfl (lv_at hl 3 rfl) ?_
  refine nr_iast hx hb hK hP hD hS 2 0 rfl rfl (k := sn) (v := y) (by omega) (by omega) dX1_add_21 (fun H locs hP hD hS => ?_)
  have hP : va_P D vwCl (pS q cI sn (nr_up ar sn x) (nr_up rt sn y) oh) H := hP
  have hD : va_D A (pS q cI sn (nr_up ar sn x) (nr_up rt sn y) oh) := hD
  refine lv_aload_n hx hb dX1_add_22 rfl (lv_at hl 1 rfl) ?_
  refine va_get (ci := 1) (v := .ref (q 10)) (C := RX1) (T := TX1) (N := 4) hx hb hbw in_X1 hown hK hP 0 rfl rfl 3 (by decide) (hbw _ m_84) (fun _ h9 => h9) rfl dX1_add_23 ?_
  refine lv_iload hx hb dX1_add_26 (lv_at hl 0 rfl) ?_
  refine lv_iload_n hx hb dX1_add_28 rfl (lv_at hl 4 rfl) ?_
  refine nr_iast hx hb hK hP hD hS 3 0 rfl rfl (k := sn) (v := z) (by omega) (by omega) dX1_add_29 (fun H locs hP hD hS => ?_)
  have hP : va_P D vwCl (pS q cI sn (nr_up ar sn x) (nr_up rt sn y) (nr_up oh sn z)) H := hP
  have hD : va_D A (pS q cI sn (nr_up ar sn x) (nr_up rt sn y) (nr_up oh sn z)) := hD
  refine lv_aload_n hx hb dX1_add_30 rfl (lv_at hl 1 rfl) ?_
  refine lv_iload hx hb dX1_add_31 (lv_at hl 0 rfl) ?_
  refine lv_iconst (v := nI 1) hx hb dX1_add_33 (by decide) ?_
  refine nr_iadd hx hb dX1_add_34 ?_
  refine va_put (ci := 1) (v := .int (nI (sn + 1))) (ty := .int) (C := RX1) (T := TX1) (N := 4) hx hb hbw in_X1 tyX1 tyX1_ok nmX1 hown hK hP hD hS 0 rfl rfl 0 (by decide) (hbw _ m_77) (fun _ h9 => h9) rfl (by decide +kernel) rfl rfl (Nat.le_of_ble_eq_true rfl) dX1_add_35 (fun H locs hP hD hS => ?_)
  have hP : va_P D vwCl (pS q cI (sn + 1) (nr_up ar sn x) (nr_up rt sn y) (nr_up oh sn z)) H := hP
  have hD : va_D A (pS q cI (sn + 1) (nr_up ar sn x) (nr_up rt sn y) (nr_up oh sn z)) := hD
  refine lv_iload hx hb dX1_add_38 (lv_at hl 0 rfl) ?_
  rw [hQ]
  exact ct_iret hx hb hr hlocks hP hD hS dX1_add_40 ⟨rfl, rfl⟩
set_option maxHeartbeats 4000000 in
set_option maxRecDepth 100000 in
/-- Cables.add -/
theorem kX0_add (l : Launch) (D : va_G) (cI cG cL cB : ClassId) (q r : Nat → Nat) (cn : Nat) (no ot cu wc wl : Nat → Nat) (x y z : Nat) (hn : cn < 20) : ct_i l yX0_add (.code yX0_add cX0_add 5 (some .int) :: bw) ({ frames := 0, cells := 0, slots := 0, locals := 0 }) (EN D (tyL cI cG cL cB)) D vwCl (pC q r cI cG cn no ot cu wc wl) [.ref (q 11), .int (nI x), .int (nI y), .int (nI z)] (fun v W => W = pC q r cI cG (cn + 1) (nr_up no cn x) (nr_up ot cn y) (nr_up cu cn z) wc wl ∧ v = nI cn) 0 0 := by
  refine ct_ofi (by decide) (Nat.le_of_ble_eq_true rfl) ?_
  intro p e s m below meth cd A H locs av Q ls hx hb hr hml hown hlocks hnm hbw hEN hQ hP hD hS hA hl
  have hown : s.vm.findClass RX0 = some m.cls := hown
  have hK := hEN.1
  have hl : lv_has ls 5 [(0, .ref (q 11)), (1, .int (nI x)), (2, .int (nI y)), (3, .int (nI z))] := hl
  refine lv_aload_n hx hb dX0_add_0 rfl (lv_at hl 0 rfl) ?_
  refine va_get (ci := 0) (v := .int (nI cn)) (C := RX0) (T := TX0) (N := 7) hx hb hbw in_X0 hown hK hP 0 rfl rfl 0 (by decide) (hbw _ m_103) (fun _ h9 => h9) rfl dX0_add_1 ?_
  refine lv_istore (lv' := [(4, .int (nI cn)), (0, .ref (q 11)), (1, .int (nI x)), (2, .int (nI y)), (3, .int (nI z))]) hx hb dX0_add_4 hl (by decide) rfl (fun ls hl => ?_)
  refine lv_aload_n hx hb dX0_add_6 rfl (lv_at hl 1 rfl) ?_
  refine va_get (ci := 0) (v := .ref (q 12)) (C := RX0) (T := TX0) (N := 7) hx hb hbw in_X0 hown hK hP 0 rfl rfl 1 (by decide) (hbw _ m_106) (fun _ h9 => h9) rfl dX0_add_7 ?_
  refine lv_iload hx hb dX0_add_10 (lv_at hl 0 rfl) ?_
  refine lv_iload_n hx hb dX0_add_12 rfl (lv_at hl 2 rfl) ?_
  refine nr_iast hx hb hK hP hD hS 1 0 rfl rfl (k := cn) (v := x) (by omega) (by omega) dX0_add_13 (fun H locs hP hD hS => ?_)
  have hP : va_P D vwCl (pC q r cI cG cn (nr_up no cn x) ot cu wc wl) H := hP
  have hD : va_D A (pC q r cI cG cn (nr_up no cn x) ot cu wc wl) := hD
  refine lv_aload_n hx hb dX0_add_14 rfl (lv_at hl 1 rfl) ?_
  refine va_get (ci := 0) (v := .ref (q 13)) (C := RX0) (T := TX0) (N := 7) hx hb hbw in_X0 hown hK hP 0 rfl rfl 2 (by decide) (hbw _ m_107) (fun _ h9 => h9) rfl dX0_add_15 ?_
  refine lv_iload hx hb dX0_add_18 (lv_at hl 0 rfl) ?_
  refine lv_iload_n hx hb dX0_add_20 rfl (lv_at hl 3 rfl) ?_
  refine nr_iast hx hb hK hP hD hS 2 0 rfl rfl (k := cn) (v := y) (by omega) (by omega) dX0_add_21 (fun H locs hP hD hS => ?_)
  have hP : va_P D vwCl (pC q r cI cG cn (nr_up no cn x) (nr_up ot cn y) cu wc wl) H := hP
  have hD : va_D A (pC q r cI cG cn (nr_up no cn x) (nr_up ot cn y) cu wc wl) := hD
  refine lv_aload_n hx hb dX0_add_22 rfl (lv_at hl 1 rfl) ?_
  refine va_get (ci := 0) (v := .ref (q 14)) (C := RX0) (T := TX0) (N := 7) hx hb hbw in_X0 hown hK hP 0 rfl rfl 3 (by decide) (hbw _ m_108) (fun _ h9 => h9) rfl dX0_add_23 ?_
  refine lv_iload hx hb dX0_add_26 (lv_at hl 0 rfl) ?_
  refine lv_iload_n hx hb dX0_add_28 rfl (lv_at hl 4 rfl) ?_
  refine nr_iast hx hb hK hP hD hS 3 0 rfl rfl (k := cn) (v := z) (by omega) (by omega) dX0_add_29 (fun H locs hP hD hS => ?_)
  have hP : va_P D vwCl (pC q r cI cG cn (nr_up no cn x) (nr_up ot cn y) (nr_up cu cn z) wc wl) H := hP
  have hD : va_D A (pC q r cI cG cn (nr_up no cn x) (nr_up ot cn y) (nr_up cu cn z) wc wl) := hD
  refine lv_aload_n hx hb dX0_add_30 rfl (lv_at hl 1 rfl) ?_
  refine lv_iload hx hb dX0_add_31 (lv_at hl 0 rfl) ?_
  refine lv_iconst (v := nI 1) hx hb dX0_add_33 (by decide) ?_
  refine nr_iadd hx hb dX0_add_34 ?_
  refine va_put (ci := 0) (v := .int (nI (cn + 1))) (ty := .int) (C := RX0) (T := TX0) (N := 7) hx hb hbw in_X0 tyX0 tyX0_ok nmX0 hown hK hP hD hS 0 rfl rfl 0 (by decide) (hbw _ m_103) (fun _ h9 => h9) rfl (by decide +kernel) rfl rfl (Nat.le_of_ble_eq_true rfl) dX0_add_35 (fun H locs hP hD hS => ?_)
  have hP : va_P D vwCl (pC q r cI cG (cn + 1) (nr_up no cn x) (nr_up ot cn y) (nr_up cu cn z) wc wl) H := hP
  have hD : va_D A (pC q r cI cG (cn + 1) (nr_up no cn x) (nr_up ot cn y) (nr_up cu cn z) wc wl) := hD
  refine lv_iload hx hb dX0_add_38 (lv_at hl 0 rfl) ?_
  rw [hQ]
  exact ct_iret hx hb hr hlocks hP hD hS dX0_add_40 ⟨rfl, rfl⟩
set_option maxHeartbeats 4000000 in
set_option maxRecDepth 100000 in
/-- Cables.isLoose -/
theorem kX0_isLoose (l : Launch) (D : va_G) (cI cG cL cB : ClassId) (q r : Nat → Nat) (cn : Nat) (no ot cu wc wl : Nat → Nat) (x : Nat) (hx0 : x < 20) (hwc : ∀ j, wc j ≤ 9) : ct_i l yX0_isLoose (.code yX0_isLoose cX0_isLoose 2 (some .boolean) :: bw) ({ frames := 0, cells := 0, slots := 0, locals := 0 }) (EN D (tyL cI cG cL cB)) D vwCl (pC q r cI cG cn no ot cu wc wl) [.ref (q 11), .int (nI x)] (fun v W => W = pC q r cI cG cn no ot cu wc wl ∧ v = nI (bN (decide (wc x = 0)))) 0 0 := by
  refine ct_ofi (by decide) (Nat.le_of_ble_eq_true rfl) ?_
  intro p e s m below meth cd A H locs av Q ls hx hb hr hml hown hlocks hnm hbw hEN hQ hP hD hS hA hl
  have hown : s.vm.findClass RX0 = some m.cls := hown
  have hK := hEN.1
  have hl : lv_has ls 2 [(0, .ref (q 11)), (1, .int (nI x))] := hl
  refine lv_aload_n hx hb dX0_isLoose_0 rfl (lv_at hl 0 rfl) ?_
  refine va_get (ci := 0) (v := .ref (q 15)) (C := RX0) (T := TX0) (N := 7) hx hb hbw in_X0 hown hK hP 0 rfl rfl 4 (by decide) (hbw _ m_111) (fun _ h9 => h9) rfl dX0_isLoose_1 ?_
  refine lv_iload_n hx hb dX0_isLoose_4 rfl (lv_at hl 1 rfl) ?_
  refine nr_iald hx hb hK hP 4 0 rfl rfl (k := x) (by omega) (by omega) dX0_isLoose_5 ?_
  have b_1 := hwc x
  refine nr_if_ne (x := wc x) (tgt := 13) hx hb (by omega) dX0_isLoose_6 (by decide) (fun h1 => ?_) (fun h1 => ?_)
  · refine lv_iconst (v := nI 0) hx hb dX0_isLoose_13 (by decide) ?_
    have e1 : decide (wc x = 0) = false := decide_eq_false (by omega)
    rw [hQ]
    exact ct_zret hx hb hr hlocks hP hD hS dX0_isLoose_14 (by first | exact Or.inl rfl | exact Or.inr rfl) ⟨rfl, by rw [e1]; rfl⟩
  · refine lv_iconst (v := nI 1) hx hb dX0_isLoose_9 (by decide) ?_
    refine lv_goto (tgt := 14) hx hb dX0_isLoose_10 (by decide) ?_
    have e1 : decide (wc x = 0) = true := decide_eq_true h1
    rw [hQ]
    exact ct_zret hx hb hr hlocks hP hD hS dX0_isLoose_14 (by first | exact Or.inl rfl | exact Or.inr rfl) ⟨rfl, by rw [e1]; rfl⟩
set_option maxHeartbeats 4000000 in
set_option maxRecDepth 100000 in
/-- Cables.countThrough -/
theorem kX0_countThrough (l : Launch) (D : va_G) (cI cG cL cB : ClassId) (q r : Nat → Nat) (cn : Nat) (no ot cu wc wl : Nat → Nat) (wt : Nat → Nat → Nat) (t : Nat) (hn : cn ≤ 20) (ht : t < 15) (hwc : ∀ j, wc j ≤ 9) (hwt : ∀ i j, wt i j < 15) : ct_i l yX0_countThrough (.code yX0_countThrough cX0_countThrough 5 (some .int) :: bw) ({ frames := 0, cells := 0, slots := 0, locals := 0 }) (EN D (tyL cI cG cL cB)) D vwCl (pC q r cI cG cn no ot cu wc wl ++ pR r cI wt) [.ref (q 11), .int (nI t)] (fun v W => W = pC q r cI cG cn no ot cu wc wl ++ pR r cI wt ∧ v = nI (cz_sum (fun c => cz_occ wc wt c t) cn)) 0 0 := by
  refine ct_ofi (by decide) (Nat.le_of_ble_eq_true rfl) ?_
  intro p e s m below meth cd A H locs av Q ls hx hb hr hml hown hlocks hnm hbw hEN hQ hP hD hS hA hl
  have hown : s.vm.findClass RX0 = some m.cls := hown
  have hK := hEN.1
  have hl : lv_has ls 5 [(0, .ref (q 11)), (1, .int (nI t))] := hl
  refine lv_iconst (v := nI 0) hx hb dX0_countThrough_0 (by decide) ?_
  refine lv_istore_n (lv' := [(2, .int (nI 0)), (0, .ref (q 11)), (1, .int (nI t))]) hx hb dX0_countThrough_1 rfl hl (by decide) rfl (fun ls hl => ?_)
  refine lv_iconst (v := nI 0) hx hb dX0_countThrough_2 (by decide) ?_
  refine lv_istore_n (lv' := [(3, .int (nI 0)), (2, .int (nI 0)), (0, .ref (q 11)), (1, .int (nI t))]) hx hb dX0_countThrough_3 rfl hl (by decide) rfl (fun ls hl => ?_)
  have lp : ∀ (k : Nat) (c : Nat) (z : Nat), (hk : cn < c + k) → (hi : c ≤ cn) → (hz : z = cz_sum (fun c => cz_occ wc wt c t) c) → ∀ (H : Heap) (locs : List Loc) (ls : Array Slot), va_P D vwCl (pC q r cI cG cn no ot cu wc wl ++ pR r cI wt) H → va_D A (pC q r cI cG cn no ot cu wc wl ++ pR r cI wt) → va_S A s.heap H locs → lv_has ls 5 [(0, .ref (q 11)), (1, .int (nI t)), (2, .int (nI z)), (3, .int (nI c))] → W p l e ({ frames := 0, cells := 0, slots := 0, locals := 0 }) s m av below meth cd H locs 0 0 Q (F0 m 4 ls []) := by
    intro k
    induction k with
    | zero => intro c z hk hi hz; exact absurd hk (by omega)
    | succ k ih =>
      intro c z hk hi hz H locs ls hP hD hS hl
      have hb1 : z ≤ c * 9 := by rw [hz]; exact cz_sum_bd (fun i _ => Nat.le_trans (cz_sum_bd (M := 1) (fun j _ => by split <;> omega)) (by have := hwc i; omega))
      refine lv_iload_n hx hb dX0_countThrough_4 rfl (lv_at hl 3 rfl) ?_
      refine lv_aload_n hx hb dX0_countThrough_5 rfl (lv_at hl 0 rfl) ?_
      refine va_get (ci := 0) (v := .int (nI cn)) (C := RX0) (T := TX0) (N := 7) hx hb hbw in_X0 hown hK hP 0 rfl rfl 0 (by decide) (hbw _ m_103) (fun _ h9 => h9) rfl dX0_countThrough_6 ?_
      refine nr_icmp_ge (x := c) (y := cn) (tgt := 54) hx hb (by omega) (by omega) dX0_countThrough_9 (by decide) (fun h1 => ?_) (fun h1 => ?_)
      · refine lv_iload_n hx hb dX0_countThrough_54 rfl (lv_at hl 2 rfl) ?_
        obtain rfl : c = cn := by omega
        rw [hQ]
        exact ct_iret hx hb hr hlocks hP hD hS dX0_countThrough_55 ⟨rfl, by rw [hz]⟩
      · refine lv_iconst (v := nI 0) hx hb dX0_countThrough_12 (by decide) ?_
        refine lv_istore (lv' := [(4, .int (nI 0)), (0, .ref (q 11)), (1, .int (nI t)), (2, .int (nI z)), (3, .int (nI c))]) hx hb dX0_countThrough_13 hl (by decide) rfl (fun ls hl => ?_)
        have b_0 := hwc c
        have lq : ∀ (k : Nat) (i : Nat) (z : Nat), (hk2 : 9 < i + k) → (hi2 : i ≤ wc c) → (hz2 : z = cz_sum (fun c => cz_occ wc wt c t) c + cz_sum (fun i => if wt c i = t then 1 else 0) i) → ∀ (H : Heap) (locs : List Loc) (ls : Array Slot), va_P D vwCl (pC q r cI cG cn no ot cu wc wl ++ pR r cI wt) H → va_D A (pC q r cI cG cn no ot cu wc wl ++ pR r cI wt) → va_S A s.heap H locs → lv_has ls 5 [(0, .ref (q 11)), (1, .int (nI t)), (2, .int (nI z)), (3, .int (nI c)), (4, .int (nI i))] → W p l e ({ frames := 0, cells := 0, slots := 0, locals := 0 }) s m av below meth cd H locs 0 0 Q (F0 m 15 ls []) := by
          intro k
          induction k with
          | zero => intro i z hk2 hi2 hz2; exact absurd hk2 (by omega)
          | succ k ih2 =>
            intro i z hk2 hi2 hz2 H locs ls hP hD hS hl
            have hb2 : cz_sum (fun i => if wt c i = t then 1 else 0) i ≤ i * 1 := cz_sum_bd (fun j _ => by split <;> omega)
            refine lv_iload hx hb dX0_countThrough_15 (lv_at hl 4 rfl) ?_
            refine lv_aload_n hx hb dX0_countThrough_17 rfl (lv_at hl 0 rfl) ?_
            refine va_get (ci := 0) (v := .ref (q 15)) (C := RX0) (T := TX0) (N := 7) hx hb hbw in_X0 hown hK hP 0 rfl rfl 4 (by decide) (hbw _ m_111) (fun _ h9 => h9) rfl dX0_countThrough_18 ?_
            refine lv_iload_n hx hb dX0_countThrough_21 rfl (lv_at hl 3 rfl) ?_
            refine nr_iald hx hb hK hP 4 0 rfl rfl (k := c) (by omega) (by omega) dX0_countThrough_22 ?_
            have b_1 := hwc c
            refine nr_icmp_ge (x := i) (y := wc c) (tgt := 48) hx hb (by omega) (by omega) dX0_countThrough_23 (by decide) (fun h2 => ?_) (fun h2 => ?_)
            · refine lv_iinc (v := nI (c + 1)) (lv' := [(3, .int (nI (c + 1))), (0, .ref (q 11)), (1, .int (nI t)), (2, .int (nI z)), (4, .int (nI i))]) hx hb dX0_countThrough_48 hl (k := 3) rfl (nI_1 _) (by decide) rfl (fun ls hl => ?_)
              refine lv_goto (tgt := 4) hx hb dX0_countThrough_51 (by decide) ?_
              obtain rfl : i = wc c := by omega
              exact ih (c + 1) z (by omega) (by omega) hz2 _ _ _ hP hD hS (lv_sub hl [1, 2, 3, 0] rfl)
            · refine lv_aload_n hx hb dX0_countThrough_26 rfl (lv_at hl 0 rfl) ?_
              refine va_get (ci := 0) (v := .ref (q 17)) (C := RX0) (T := TX0) (N := 7) hx hb hbw in_X0 hown hK hP 0 rfl rfl 6 (by decide) (hbw _ m_117) (fun _ h9 => h9) rfl dX0_countThrough_27 ?_
              refine lv_iload_n hx hb dX0_countThrough_30 rfl (lv_at hl 3 rfl) ?_
              refine gr_ald hx hb hK hP 6 1 rfl rfl (k := c) (by omega) dX0_countThrough_31 ?_
              refine lv_iload hx hb dX0_countThrough_32 (lv_at hl 4 rfl) ?_
              refine gr_iald hx hb hK hP 0 rfl (i := c) (k := i) (by omega) (by omega) dX0_countThrough_34 ?_
              have b_2 := hwt c i
              refine lv_iload_n hx hb dX0_countThrough_35 rfl (lv_at hl 1 rfl) ?_
              refine nr_icmp_ne (x := wt c i) (y := t) (tgt := 42) hx hb (by omega) (by omega) dX0_countThrough_36 (by decide) (fun h3 => ?_) (fun h3 => ?_)
              · refine lv_iinc (v := nI (i + 1)) (lv' := [(4, .int (nI (i + 1))), (0, .ref (q 11)), (1, .int (nI t)), (2, .int (nI z)), (3, .int (nI c))]) hx hb dX0_countThrough_42 hl (k := 4) rfl (nI_1 _) (by decide) rfl (fun ls hl => ?_)
                refine lv_goto (tgt := 15) hx hb dX0_countThrough_45 (by decide) ?_
                exact ih2 (i + 1) z (by omega) (by omega) (by rw [hz2]; show _ = _ + (_ + if wt c i = t then 1 else 0); rw [if_neg h3]; omega) _ _ _ hP hD hS (lv_sub hl [1, 2, 3, 4, 0] rfl)
              · refine lv_iinc (v := nI (z + 1)) (lv' := [(2, .int (nI (z + 1))), (0, .ref (q 11)), (1, .int (nI t)), (3, .int (nI c)), (4, .int (nI i))]) hx hb dX0_countThrough_39 hl (k := 2) rfl (nI_1 _) (by decide) rfl (fun ls hl => ?_)
                refine lv_iinc (v := nI (i + 1)) (lv' := [(4, .int (nI (i + 1))), (2, .int (nI (z + 1))), (0, .ref (q 11)), (1, .int (nI t)), (3, .int (nI c))]) hx hb dX0_countThrough_42 hl (k := 4) rfl (nI_1 _) (by decide) rfl (fun ls hl => ?_)
                refine lv_goto (tgt := 15) hx hb dX0_countThrough_45 (by decide) ?_
                exact ih2 (i + 1) (z + 1) (by omega) (by omega) (by rw [hz2]; show _ = _ + (_ + if wt c i = t then 1 else 0); rw [if_pos h3]; omega) _ _ _ hP hD hS (lv_sub hl [2, 3, 1, 4, 0] rfl)
        exact lq 10 0 z (by omega) (Nat.zero_le _) (by rw [← hz]; rfl) _ _ _ hP hD hS (lv_sub hl [1, 2, 3, 4, 0] rfl)
  exact lp (cn + 1) 0 0 (by omega) (Nat.zero_le cn) rfl H locs ls hP hD hS (lv_sub hl [2, 3, 1, 0] rfl)
theorem nr_up_up (g : Nat → Nat) (k v w : Nat) : nr_up (nr_up g k v) k w = nr_up g k w := by
  funext j
  unfold nr_up
  split <;> rfl
theorem pR_up_up (wt : Nat → Nat → Nat) (i : Nat) (f g : Nat → Nat) : pR_up (pR_up wt i f) i g = pR_up wt i g := by
  funext j
  unfold pR_up
  split <;> rfl
theorem pR_up_s (wt : Nat → Nat → Nat) (i : Nat) (f : Nat → Nat) : pR_up wt i f i = f := if_pos rfl
theorem pR_up_n (wt : Nat → Nat → Nat) {i j : Nat} (f : Nat → Nat) (h : j ≠ i) : pR_up wt i f j = wt j := if_neg h
theorem pR_up_self (wt : Nat → Nat → Nat) (i : Nat) : pR_up wt i (wt i) = wt := by
  funext j
  unfold pR_up
  split
  · rename_i h; rw [h]
  · rfl
/-- k trays f, L long, are the way from u to v (none, and 0 long, where there is no way) -/
def cw_W (n : Nat) (a b le : Nat → Nat) (u v k : Nat) (f : Nat → Nat) (L : Nat) : Prop := ∃ d, cw_ds n a b le v 1000000 d ∧ ((1000000 ≤ d u ∧ k = 0 ∧ L = 0) ∨ (d u < 1000000 ∧ k ≤ 9 ∧ cw_gr n a b le d ((List.range k).map f) u v ∧ L = d u))
theorem cw_row (f : Nat → Nat) (k t : Nat) : (List.range (k + 1)).map (nr_up f k t) = (List.range k).map f ++ [t] := by
  rw [List.range_succ, List.map_append]
  congr 1
  · apply List.map_congr_left
    intro j hj
    exact nr_up_n f t (Nat.ne_of_lt (List.mem_range.mp hj))
  · show [nr_up f k t k] = [t]
    rw [nr_up_s]
set_option maxHeartbeats 4000000 in
set_option maxRecDepth 100000 in
/-- Cables.findWay -/
theorem kX0_findWay (l : Launch) (D : va_G) (cI cG cL cB : ClassId) (q r : Nat → Nat) (cn : Nat) (no ot cu wc wl : Nat → Nat) (n : Nat) (a b le ro di : Nat → Nat) (wt : Nat → Nat → Nat) (c : Nat) (hc : c < 20) (hno : no c < 10) (hot : ot c < 10) (hwt : ∀ i j, wt i j < 15) (hn : n ≤ 15) (hok : cw_ok n a b le) (ha0 : ∀ j, a j < 10) (hb0 : ∀ j, b j < 10) (hl0 : ∀ j, le j ≤ 100) : ct_v l yX0_findWay (.code yX0_findWay cX0_findWay 6 none :: bw) ({ frames := 2, cells := 0, slots := 0, locals := 50 }) (EN D (tyL cI cG cL cB)) D vwCl (pC q r cI cG cn no ot cu wc wl ++ pT q cI n a b le ro di ++ pR r cI wt) [.ref (q 11), .int (nI c), .ref (q 1)] (fun W => ∃ d k f L, W = pC q r cI cG cn no ot cu (nr_up wc c k) (nr_up wl c L) ++ pT q cI n a b le ro d ++ pR r cI (pR_up wt c f) ∧ cw_W n a b le (no c) (ot c) k f L ∧ ∀ j, f j < 15) 0 0 := by
  refine ct_ofv (by decide) (Nat.le_of_ble_eq_true rfl) ?_
  intro p e s m below meth cd A H locs av Q ls hx hb hr hml hown hlocks hnm hbw hEN hQ hP hD hS hA hl
  have hown : s.vm.findClass RX0 = some m.cls := hown
  have hK := hEN.1
  have hl : lv_has ls 6 [(0, .ref (q 11)), (1, .int (nI c)), (2, .ref (q 1))] := hl
  refine lv_aload_n hx hb dX0_findWay_0 rfl (lv_at hl 2 rfl) ?_
  refine lv_aload_n hx hb dX0_findWay_1 rfl (lv_at hl 0 rfl) ?_
  refine va_get (ci := 0) (v := .ref (q 13)) (C := RX0) (T := TX0) (N := 7) hx hb hbw in_X0 hown hK hP 0 rfl rfl 2 (by decide) (hbw _ m_107) (fun _ h9 => h9) rfl dX0_findWay_2 ?_
  refine lv_iload_n hx hb dX0_findWay_5 rfl (lv_at hl 1 rfl) ?_
  refine nr_iald hx hb hK hP 2 0 rfl rfl (k := c) (by omega) (by omega) dX0_findWay_6 ?_
  refine ct_Vv (wc := (pT q cI n a b le ro di)) (wr := (pC q r cI cG cn no ot cu wc wl ++ pR r cI wt)) (As := [.int (nI (ot c))]) (rest := []) ⟨hx, hb, hml, hown, hbw⟩ (EN_E D _) hEN (kX3_measureTo l D cI cG cL cB q n a b le ro di (ot c) hot hn hok ha0 hb0 hl0) (cwV (C := "CableSizes$Trays") 1 hbw (gV m_350 m_351 m_352 m_19 m_353) rfl rfl rfl (by decide +kernel) ⟨Nat.le_of_ble_eq_true rfl, Nat.le_of_ble_eq_true rfl⟩) (va_recv hK hP (ci := 3) (q0 := 7) rfl rfl) hP hD hS hA [7, 8, 9, 10, 11, 12] [0, 1, 2, 3, 4, 5, 6, 13, 14, 15, 16, 17, 18, 19, 20, 21, 22, 23, 24, 25, 26, 27, 28, 29, 30, 31, 32] rfl rfl (by decide) (by decide) (by decide) rfl hl.1 rfl (Nat.le_of_ble_eq_true rfl) dX0_findWay_7 ⟨Nat.le_of_ble_eq_true rfl, Nat.le_of_ble_eq_true rfl⟩ (fun w_1 H locs hw hP hD hS => ?_)
  obtain ⟨d, rfl, hds⟩ := hw
  have hP := hP.sub (ws' := (pC q r cI cG cn no ot cu wc wl ++ pT q cI n a b le ro d ++ pR r cI wt)) [0, 1, 2, 3, 4, 5, 6, 27, 28, 29, 30, 31, 32, 7, 8, 9, 10, 11, 12, 13, 14, 15, 16, 17, 18, 19, 20, 21, 22, 23, 24, 25, 26] rfl
  have hD := hD.sub (ws' := (pC q r cI cG cn no ot cu wc wl ++ pT q cI n a b le ro d ++ pR r cI wt)) [0, 1, 2, 3, 4, 5, 6, 27, 28, 29, 30, 31, 32, 7, 8, 9, 10, 11, 12, 13, 14, 15, 16, 17, 18, 19, 20, 21, 22, 23, 24, 25, 26] (by decide) rfl
  have hd0 : ∀ j, d j ≤ 1000000 := hds.1.1
  refine lv_aload_n hx hb dX0_findWay_10 rfl (lv_at hl 0 rfl) ?_
  refine va_get (ci := 0) (v := .ref (q 15)) (C := RX0) (T := TX0) (N := 7) hx hb hbw in_X0 hown hK hP 0 rfl rfl 4 (by decide) (hbw _ m_111) (fun _ h9 => h9) rfl dX0_findWay_11 ?_
  refine lv_iload_n hx hb dX0_findWay_14 rfl (lv_at hl 1 rfl) ?_
  refine lv_iconst (v := nI 0) hx hb dX0_findWay_15 (by decide) ?_
  refine nr_iast hx hb hK hP hD hS 4 0 rfl rfl (k := c) (v := 0) (by omega) (by omega) dX0_findWay_16 (fun H locs hP hD hS => ?_)
  have hP : va_P D vwCl (pC q r cI cG cn no ot cu (nr_up wc c 0) wl ++ pT q cI n a b le ro d ++ pR r cI wt) H := hP
  have hD : va_D A (pC q r cI cG cn no ot cu (nr_up wc c 0) wl ++ pT q cI n a b le ro d ++ pR r cI wt) := hD
  refine lv_aload_n hx hb dX0_findWay_17 rfl (lv_at hl 0 rfl) ?_
  refine va_get (ci := 0) (v := .ref (q 16)) (C := RX0) (T := TX0) (N := 7) hx hb hbw in_X0 hown hK hP 0 rfl rfl 5 (by decide) (hbw _ m_114) (fun _ h9 => h9) rfl dX0_findWay_18 ?_
  refine lv_iload_n hx hb dX0_findWay_21 rfl (lv_at hl 1 rfl) ?_
  refine lv_iconst (v := nI 0) hx hb dX0_findWay_22 (by decide) ?_
  refine nr_iast hx hb hK hP hD hS 5 0 rfl rfl (k := c) (v := 0) (by omega) (by omega) dX0_findWay_23 (fun H locs hP hD hS => ?_)
  have hP : va_P D vwCl (pC q r cI cG cn no ot cu (nr_up wc c 0) (nr_up wl c 0) ++ pT q cI n a b le ro d ++ pR r cI wt) H := hP
  have hD : va_D A (pC q r cI cG cn no ot cu (nr_up wc c 0) (nr_up wl c 0) ++ pT q cI n a b le ro d ++ pR r cI wt) := hD
  refine lv_aload_n hx hb dX0_findWay_24 rfl (lv_at hl 2 rfl) ?_
  refine va_getN (ci := 3) (v := .ref (q 6)) (C := RX3) (T := TX3) (N := 6) hx hb hbw in_X3 hown hK hP 7 rfl rfl 5 (by decide) (va_Nw.use rfl (hEN.2 _ (List.mem_filter.mpr ⟨mn_39, rfl⟩))) (fun _ h9 => h9) rfl dX0_findWay_25 ?_
  refine lv_aload_n hx hb dX0_findWay_28 rfl (lv_at hl 0 rfl) ?_
  refine va_get (ci := 0) (v := .ref (q 12)) (C := RX0) (T := TX0) (N := 7) hx hb hbw in_X0 hown hK hP 0 rfl rfl 1 (by decide) (hbw _ m_106) (fun _ h9 => h9) rfl dX0_findWay_29 ?_
  refine lv_iload_n hx hb dX0_findWay_32 rfl (lv_at hl 1 rfl) ?_
  refine nr_iald hx hb hK hP 1 0 rfl rfl (k := c) (by omega) (by omega) dX0_findWay_33 ?_
  refine nr_iald hx hb hK hP 12 0 rfl rfl (k := no c) (by omega) (by omega) dX0_findWay_34 ?_
  have b_2 := hd0 (no c)
  refine lv_ldc (v := nI 1000000) hx hb hown (hbw _ m_360) dX0_findWay_35 ?_
  have hP : va_P D vwCl (pC q r cI cG cn no ot cu (nr_up wc c 0) (nr_up wl c 0) ++ pT q cI n a b le ro d ++ pR r cI (pR_up wt c (wt c))) H := by rw [pR_up_self]; exact hP
  have hD : va_D A (pC q r cI cG cn no ot cu (nr_up wc c 0) (nr_up wl c 0) ++ pT q cI n a b le ro d ++ pR r cI (pR_up wt c (wt c))) := by rw [pR_up_self]; exact hD
  refine nr_icmp_lt (x := d (no c)) (y := 1000000) (tgt := 41) hx hb (by omega) (by omega) dX0_findWay_37 (by decide) (fun h1 => ?_) (fun h1 => ?_)
  · refine lv_aload_n hx hb dX0_findWay_41 rfl (lv_at hl 0 rfl) ?_
    refine va_get (ci := 0) (v := .ref (q 12)) (C := RX0) (T := TX0) (N := 7) hx hb hbw in_X0 hown hK hP 0 rfl rfl 1 (by decide) (hbw _ m_106) (fun _ h9 => h9) rfl dX0_findWay_42 ?_
    refine lv_iload_n hx hb dX0_findWay_45 rfl (lv_at hl 1 rfl) ?_
    refine nr_iald hx hb hK hP 1 0 rfl rfl (k := c) (by omega) (by omega) dX0_findWay_46 ?_
    refine lv_istore_n (lv' := [(3, .int (nI (no c))), (0, .ref (q 11)), (1, .int (nI c)), (2, .ref (q 1))]) hx hb dX0_findWay_47 rfl hl (by decide) rfl (fun ls hl => ?_)
    refine lv_iconst (v := nI 0) hx hb dX0_findWay_48 (by decide) ?_
    refine lv_istore (lv' := [(4, .int (nI 0)), (3, .int (nI (no c))), (0, .ref (q 11)), (1, .int (nI c)), (2, .ref (q 1))]) hx hb dX0_findWay_49 hl (by decide) rfl (fun ls hl => ?_)
    have lp : ∀ (k : Nat) (st : Nat) (nd : Nat) (L : Nat) (f : Nat → Nat), (hk : 9 < st + k) → (hst : st ≤ 9) → (hnd : nd < 10) → (hL : L + d nd = d (no c)) → (hg : cw_gr n a b le d ((List.range st).map f) (no c) nd) → (hf : ∀ j, f j < 15) → ∀ (H : Heap) (locs : List Loc) (ls : Array Slot), va_P D vwCl (pC q r cI cG cn no ot cu (nr_up wc c st) (nr_up wl c L) ++ pT q cI n a b le ro d ++ pR r cI (pR_up wt c f)) H → va_D A (pC q r cI cG cn no ot cu (nr_up wc c st) (nr_up wl c L) ++ pT q cI n a b le ro d ++ pR r cI (pR_up wt c f)) → va_S A s.heap H locs → lv_has ls 6 [(0, .ref (q 11)), (1, .int (nI c)), (2, .ref (q 1)), (3, .int (nI nd)), (4, .int (nI st))] → W p l e ({ frames := 2, cells := 0, slots := 0, locals := 50 }) s m av below meth cd H locs 0 0 Q (F0 m 51 ls []) := by
      intro k
      induction k with
      | zero => intro st nd L f hk hst hnd hL hg hf; exact absurd hk (by omega)
      | succ k ih =>
        intro st nd L f hk hst hnd hL hg hf H locs ls hP hD hS hl
        refine lv_iload_n hx hb dX0_findWay_51 rfl (lv_at hl 3 rfl) ?_
        refine lv_aload_n hx hb dX0_findWay_52 rfl (lv_at hl 0 rfl) ?_
        refine va_get (ci := 0) (v := .ref (q 13)) (C := RX0) (T := TX0) (N := 7) hx hb hbw in_X0 hown hK hP 0 rfl rfl 2 (by decide) (hbw _ m_107) (fun _ h9 => h9) rfl dX0_findWay_53 ?_
        refine lv_iload_n hx hb dX0_findWay_56 rfl (lv_at hl 1 rfl) ?_
        refine nr_iald hx hb hK hP 2 0 rfl rfl (k := c) (by omega) (by omega) dX0_findWay_57 ?_
        refine nr_icmp_eq (x := nd) (y := ot c) (tgt := 135) hx hb (by omega) (by omega) dX0_findWay_58 (by decide) (fun h2 => ?_) (fun h2 => ?_)
        · subst h2
          have hd9 : d (ot c) = 0 := cw_ds_v hds
          rw [hQ]
          exact ct_vret hx hb hr hlocks hP hD hS dX0_findWay_135 ⟨d, st, f, L, rfl, ⟨d, hds, Or.inr ⟨h1, hst, hg, by omega⟩⟩, hf⟩
        · obtain ⟨hlen, tz, htz, hgz⟩ := cw_gr_go hok hot hds hg h1 h2
          rw [List.length_map, List.length_range] at hlen
          refine lv_iload hx hb dX0_findWay_61 (lv_at hl 4 rfl) ?_
          refine lv_bipush (v := nI 9) hx hb dX0_findWay_63 (by decide) ?_
          refine nr_icmp_ge (x := st) (y := 9) (tgt := 135) hx hb (by omega) (by omega) dX0_findWay_65 (by decide) (fun h3 => ?_) (fun h3 => ?_)
          · exact absurd h3 (by omega)
          · refine lv_aload_n hx hb dX0_findWay_68 rfl (lv_at hl 2 rfl) ?_
            refine lv_iload_n hx hb dX0_findWay_69 rfl (lv_at hl 3 rfl) ?_
            refine ct_Vi (wc := (pT q cI n a b le ro d)) (wr := (pC q r cI cG cn no ot cu (nr_up wc c st) (nr_up wl c L) ++ pR r cI (pR_up wt c f))) (As := [.int (nI nd)]) (rest := []) ⟨hx, hb, hml, hown, hbw⟩ (EN_E D _) hEN (kX3_firstTowardsTarget l D cI cG cL cB q n a b le ro d nd hn hnd ha0 hb0 hl0 hd0) (cwV (C := "CableSizes$Trays") 1 hbw (gV m_361 m_362 m_363 m_19 m_364) rfl rfl rfl (by decide +kernel) ⟨Nat.le_of_ble_eq_true rfl, Nat.le_of_ble_eq_true rfl⟩) (va_recv hK hP (ci := 3) (q0 := 7) rfl rfl) hP hD hS hA [7, 8, 9, 10, 11, 12] [0, 1, 2, 3, 4, 5, 6, 13, 14, 15, 16, 17, 18, 19, 20, 21, 22, 23, 24, 25, 26, 27, 28, 29, 30, 31, 32] rfl rfl (by decide) (by decide) (by decide) rfl hl.1 rfl (Nat.le_of_ble_eq_true rfl) dX0_findWay_70 ⟨Nat.le_of_ble_eq_true rfl, Nat.le_of_ble_eq_true rfl⟩ (fun r_3 w_3 H locs hw hP hD hS => ?_)
            obtain ⟨rfl, hft⟩ := hw
            have hP := hP.sub (ws' := (pC q r cI cG cn no ot cu (nr_up wc c st) (nr_up wl c L) ++ pT q cI n a b le ro d ++ pR r cI (pR_up wt c f))) [0, 1, 2, 3, 4, 5, 6, 27, 28, 29, 30, 31, 32, 7, 8, 9, 10, 11, 12, 13, 14, 15, 16, 17, 18, 19, 20, 21, 22, 23, 24, 25, 26] rfl
            have hD := hD.sub (ws' := (pC q r cI cG cn no ot cu (nr_up wc c st) (nr_up wl c L) ++ pT q cI n a b le ro d ++ pR r cI (pR_up wt c f))) [0, 1, 2, 3, 4, 5, 6, 27, 28, 29, 30, 31, 32, 7, 8, 9, 10, 11, 12, 13, 14, 15, 16, 17, 18, 19, 20, 21, 22, 23, 24, 25, 26] (by decide) rfl
            obtain ⟨t, hrt, ht, hgd, hmin⟩ : ∃ t, r_3 = nI t ∧ t < n ∧ cw_gd a b le d nd t ∧ ∀ t', t' < t → ¬ cw_gd a b le d nd t' := by
              rcases hft with h | ⟨-, h⟩
              · exact h
              · exact absurd hgz (h tz htz)
            subst hrt
            obtain ⟨y, hny, hdy⟩ := id hgd
            have hy10 := (cw_nx_lt hok ht hny).2.1
            have b_9 := hl0 t
            have b_8 := hd0 nd
            have b_7 := hd0 (no c)
            refine lv_istore (lv' := [(5, .int (nI t)), (0, .ref (q 11)), (1, .int (nI c)), (2, .ref (q 1)), (3, .int (nI nd)), (4, .int (nI st))]) hx hb dX0_findWay_73 hl (by decide) rfl (fun ls hl => ?_)
            refine lv_iload hx hb dX0_findWay_75 (lv_at hl 0 rfl) ?_
            refine lv_iconst (v := (-1)) hx hb dX0_findWay_77 (by decide) ?_
            refine lv_icmp_ne (tgt := 84) hx hb dX0_findWay_78 (by decide) (fun h4 => ?_) (fun h4 => ?_)
            · refine lv_aload_n hx hb dX0_findWay_84 rfl (lv_at hl 1 rfl) ?_
              refine va_get (ci := 0) (v := .ref (q 17)) (C := RX0) (T := TX0) (N := 7) hx hb hbw in_X0 hown hK hP 0 rfl rfl 6 (by decide) (hbw _ m_117) (fun _ h9 => h9) rfl dX0_findWay_85 ?_
              refine lv_iload_n hx hb dX0_findWay_88 rfl (lv_at hl 2 rfl) ?_
              refine gr_ald hx hb hK hP 6 1 rfl rfl (k := c) (by omega) dX0_findWay_89 ?_
              refine lv_iload hx hb dX0_findWay_90 (lv_at hl 5 rfl) ?_
              refine lv_iload hx hb dX0_findWay_92 (lv_at hl 0 rfl) ?_
              refine gr_iast hx hb hK hP hD hS 0 rfl (i := c) (k := st) (v := t) (by omega) (by omega) dX0_findWay_94 (fun H locs hP hD hS => ?_)
              have hP : va_P D vwCl (pC q r cI cG cn no ot cu (nr_up wc c st) (nr_up wl c L) ++ pT q cI n a b le ro d ++ pR r cI (pR_up (pR_up wt c f) c (nr_up ((pR_up wt c f) c) st t))) H := hP
              have hD : va_D A (pC q r cI cG cn no ot cu (nr_up wc c st) (nr_up wl c L) ++ pT q cI n a b le ro d ++ pR r cI (pR_up (pR_up wt c f) c (nr_up ((pR_up wt c f) c) st t))) := hD
              refine lv_aload_n hx hb dX0_findWay_95 rfl (lv_at hl 1 rfl) ?_
              refine va_get (ci := 0) (v := .ref (q 15)) (C := RX0) (T := TX0) (N := 7) hx hb hbw in_X0 hown hK hP 0 rfl rfl 4 (by decide) (hbw _ m_111) (fun _ h9 => h9) rfl dX0_findWay_96 ?_
              refine lv_iload_n hx hb dX0_findWay_99 rfl (lv_at hl 2 rfl) ?_
              refine lv_iload hx hb dX0_findWay_100 (lv_at hl 5 rfl) ?_
              refine lv_iconst (v := nI 1) hx hb dX0_findWay_102 (by decide) ?_
              refine nr_iadd hx hb dX0_findWay_103 ?_
              refine nr_iast hx hb hK hP hD hS 4 0 rfl rfl (k := c) (v := st + 1) (by omega) (by omega) dX0_findWay_104 (fun H locs hP hD hS => ?_)
              have hP : va_P D vwCl (pC q r cI cG cn no ot cu (nr_up (nr_up wc c st) c (st + 1)) (nr_up wl c L) ++ pT q cI n a b le ro d ++ pR r cI (pR_up (pR_up wt c f) c (nr_up ((pR_up wt c f) c) st t))) H := hP
              have hD : va_D A (pC q r cI cG cn no ot cu (nr_up (nr_up wc c st) c (st + 1)) (nr_up wl c L) ++ pT q cI n a b le ro d ++ pR r cI (pR_up (pR_up wt c f) c (nr_up ((pR_up wt c f) c) st t))) := hD
              refine lv_aload_n hx hb dX0_findWay_105 rfl (lv_at hl 1 rfl) ?_
              refine va_get (ci := 0) (v := .ref (q 16)) (C := RX0) (T := TX0) (N := 7) hx hb hbw in_X0 hown hK hP 0 rfl rfl 5 (by decide) (hbw _ m_114) (fun _ h9 => h9) rfl dX0_findWay_106 ?_
              refine lv_iload_n hx hb dX0_findWay_109 rfl (lv_at hl 2 rfl) ?_
              refine lv_dup2_11 hx hb dX0_findWay_110 rfl rfl ?_
              refine nr_iald hx hb hK hP 5 0 rfl rfl (k := c) (by omega) (by omega) dX0_findWay_111 ?_
              refine lv_aload_n hx hb dX0_findWay_112 rfl (lv_at hl 3 rfl) ?_
              refine va_getN (ci := 3) (v := .ref (q 4)) (C := RX3) (T := TX3) (N := 6) hx hb hbw in_X3 hown hK hP 7 rfl rfl 3 (by decide) (va_Nw.use rfl (hEN.2 _ (List.mem_filter.mpr ⟨mn_34, rfl⟩))) (fun _ h9 => h9) rfl dX0_findWay_113 ?_
              refine lv_iload hx hb dX0_findWay_116 (lv_at hl 0 rfl) ?_
              refine nr_iald hx hb hK hP 10 0 rfl rfl (k := t) (by omega) (by omega) dX0_findWay_118 ?_
              refine nr_iadd hx hb dX0_findWay_119 ?_
              refine nr_iast hx hb hK hP hD hS 5 0 rfl rfl (k := c) (v := ((nr_up wl c L) c) + (le t)) (by omega) (by omega) dX0_findWay_120 (fun H locs hP hD hS => ?_)
              have hP : va_P D vwCl (pC q r cI cG cn no ot cu (nr_up (nr_up wc c st) c (st + 1)) (nr_up (nr_up wl c L) c (((nr_up wl c L) c) + (le t))) ++ pT q cI n a b le ro d ++ pR r cI (pR_up (pR_up wt c f) c (nr_up ((pR_up wt c f) c) st t))) H := hP
              have hD : va_D A (pC q r cI cG cn no ot cu (nr_up (nr_up wc c st) c (st + 1)) (nr_up (nr_up wl c L) c (((nr_up wl c L) c) + (le t))) ++ pT q cI n a b le ro d ++ pR r cI (pR_up (pR_up wt c f) c (nr_up ((pR_up wt c f) c) st t))) := hD
              simp only [nr_up_up, nr_up_s, pR_up_up, pR_up_s] at hP hD
              have hP : va_P D vwCl (pC q r cI cG cn no ot cu (nr_up wc c (st + 1)) (nr_up wl c (L + le t)) ++ pT q cI n a b le ro d ++ pR r cI (pR_up wt c (nr_up f st t))) H := hP
              have hD : va_D A (pC q r cI cG cn no ot cu (nr_up wc c (st + 1)) (nr_up wl c (L + le t)) ++ pT q cI n a b le ro d ++ pR r cI (pR_up wt c (nr_up f st t))) := hD
              refine lv_aload_n hx hb dX0_findWay_121 rfl (lv_at hl 3 rfl) ?_
              refine lv_iload hx hb dX0_findWay_122 (lv_at hl 0 rfl) ?_
              refine lv_iload_n hx hb dX0_findWay_124 rfl (lv_at hl 4 rfl) ?_
              refine ct_Vi (wc := (pT q cI n a b le ro d)) (wr := (pC q r cI cG cn no ot cu (nr_up wc c (st + 1)) (nr_up wl c (L + le t)) ++ pR r cI (pR_up wt c (nr_up f st t)))) (As := [.int (nI t), .int (nI nd)]) (rest := []) ⟨hx, hb, hml, hown, hbw⟩ (EN_E D _) hEN (kX3_endBehind l D cI cG cL cB q n a b le ro d t nd (by omega) hnd ha0 hb0) (cwV (C := "CableSizes$Trays") 2 hbw (gV m_369 m_366 m_367 m_19 m_368) rfl rfl rfl (by decide +kernel) ⟨Nat.le_of_ble_eq_true rfl, Nat.le_of_ble_eq_true rfl⟩) (va_recv hK hP (ci := 3) (q0 := 7) rfl rfl) hP hD hS hA [7, 8, 9, 10, 11, 12] [0, 1, 2, 3, 4, 5, 6, 13, 14, 15, 16, 17, 18, 19, 20, 21, 22, 23, 24, 25, 26, 27, 28, 29, 30, 31, 32] rfl rfl (by decide) (by decide) (by decide) rfl hl.1 rfl (Nat.le_of_ble_eq_true rfl) dX0_findWay_125 ⟨Nat.le_of_ble_eq_true rfl, Nat.le_of_ble_eq_true rfl⟩ (fun r_4 w_4 H locs hw hP hD hS => ?_)
              obtain ⟨rfl, hre⟩ := hw
              have hP := hP.sub (ws' := (pC q r cI cG cn no ot cu (nr_up wc c (st + 1)) (nr_up wl c (L + le t)) ++ pT q cI n a b le ro d ++ pR r cI (pR_up wt c (nr_up f st t)))) [0, 1, 2, 3, 4, 5, 6, 27, 28, 29, 30, 31, 32, 7, 8, 9, 10, 11, 12, 13, 14, 15, 16, 17, 18, 19, 20, 21, 22, 23, 24, 25, 26] rfl
              have hD := hD.sub (ws' := (pC q r cI cG cn no ot cu (nr_up wc c (st + 1)) (nr_up wl c (L + le t)) ++ pT q cI n a b le ro d ++ pR r cI (pR_up wt c (nr_up f st t)))) [0, 1, 2, 3, 4, 5, 6, 27, 28, 29, 30, 31, 32, 7, 8, 9, 10, 11, 12, 13, 14, 15, 16, 17, 18, 19, 20, 21, 22, 23, 24, 25, 26] (by decide) rfl
              rw [hny] at hre
              have hre : r_4 = nI y := hre
              subst hre
              refine lv_istore_n (lv' := [(3, .int (nI y)), (5, .int (nI t)), (0, .ref (q 11)), (1, .int (nI c)), (2, .ref (q 1)), (4, .int (nI st))]) hx hb dX0_findWay_128 rfl hl (by decide) rfl (fun ls hl => ?_)
              refine lv_iinc (v := nI (st + 1)) (lv' := [(4, .int (nI (st + 1))), (3, .int (nI y)), (5, .int (nI t)), (0, .ref (q 11)), (1, .int (nI c)), (2, .ref (q 1))]) hx hb dX0_findWay_129 hl (k := 5) rfl (nI_1 _) (by decide) rfl (fun ls hl => ?_)
              refine lv_goto (tgt := 51) hx hb dX0_findWay_132 (by decide) ?_
              exact ih (st + 1) y (L + le t) (nr_up f st t) (by omega) (by omega) hy10 (by omega) (by rw [cw_row]; exact cw_gr_app hg ht hny hdy hmin) (fun j => by by_cases e : j = st; rw [e, nr_up_s]; omega; rw [nr_up_n f t e]; exact hf j) _ _ _ hP hD hS (lv_sub hl [3, 4, 5, 1, 0] rfl)
            · exact absurd (congrArg Int32.toInt h4) (by rw [nI_toInt (by omega)]; intro h; have h5 : (t : Int) = -1 := h; omega)
    exact lp 10 0 (no c) 0 (wt c) (by omega) (by omega) hno (by omega) rfl (hwt c) H locs ls hP hD hS (lv_sub hl [2, 3, 4, 1, 0] rfl)
  · rw [hQ]
    exact ct_vret hx hb hr hlocks hP hD hS dX0_findWay_40 ⟨d, 0, wt c, 0, rfl, ⟨d, hds, Or.inl ⟨h1, rfl, rfl⟩⟩, hwt c⟩
end
section
/-- the bounds of sizes and cables -/
def okZ (sn : Nat) (ar rt oh : Nat → Nat) (cn : Nat) (cu wc wl : Nat → Nat) (wt : Nat → Nat → Nat) : Prop := sn ≤ 6 ∧ (∀ j, ar j ≤ 100) ∧ (∀ j, rt j ≤ 1000) ∧ (∀ j, oh j ≤ 1000) ∧ cn ≤ 20 ∧ (∀ j, cu j ≤ 1000) ∧ (∀ j, wc j ≤ 9) ∧ (∀ j, wl j ≤ 900) ∧ ∀ i j, wt i j < 15
/-- the least factor on the first k trays of cable c, the fills given -/
def cz_mg (fi : Nat → Nat) (wt : Nat → Nat → Nat) (c : Nat) : Nat → Nat
  | 0 => 1000
  | k + 1 => min (cz_mg fi wt c k) (cz_fac (fi (wt c k)))
theorem cz_mg_le (fi : Nat → Nat) (wt : Nat → Nat → Nat) (c : Nat) : ∀ k, cz_mg fi wt c k ≤ 1000
  | 0 => Nat.le_refl _
  | k + 1 => by
    have := cz_mg_le fi wt c k
    show min _ _ ≤ 1000
    omega
def cy_carry (rt wc pk fi : Nat → Nat) (wt : Nat → Nat → Nat) (c : Nat) : Nat := rt (pk c) * cz_mg fi wt c (wc c) / 1000
def cy_right (rt oh cu wc wl pk fi : Nat → Nat) (wt : Nat → Nat → Nat) (lim c : Nat) : Bool := decide (wc c = 0 ∨ (cu c ≤ cy_carry rt wc pk fi wt c ∧ cz_drop oh cu wl pk c ≤ lim))
theorem cy_right_congr {rt oh cu wc wl pk pk' fi : Nat → Nat} {wt : Nat → Nat → Nat} {lim c : Nat} (h : pk' c = pk c) : cy_right rt oh cu wc wl pk' fi wt lim c = cy_right rt oh cu wc wl pk fi wt lim c := by
  unfold cy_right cy_carry cz_drop
  rw [h]
theorem cz_drop_bd {oh cu wl pk : Nat → Nat} {c : Nat} (h1 : cu c ≤ 1000) (h2 : oh (pk c) ≤ 1000) (h3 : wl c ≤ 900) : cu c * oh (pk c) * wl c ≤ 900000000 ∧ cz_drop oh cu wl pk c ≤ 900000 := by
  have a1 : cu c * oh (pk c) ≤ 1000 * 1000 := Nat.mul_le_mul h1 h2
  have a2 : cu c * oh (pk c) * wl c ≤ 1000 * 1000 * 900 := Nat.mul_le_mul a1 h3
  refine ⟨by omega, ?_⟩
  unfold cz_drop
  omega
theorem cy_carry_bd {rt wc pk fi : Nat → Nat} {wt : Nat → Nat → Nat} {c : Nat} (h1 : rt (pk c) ≤ 1000) : rt (pk c) * cz_mg fi wt c (wc c) ≤ 1000000 ∧ cy_carry rt wc pk fi wt c ≤ 1000 := by
  have a1 : rt (pk c) * cz_mg fi wt c (wc c) ≤ 1000 * 1000 := Nat.mul_le_mul h1 (cz_mg_le fi wt c (wc c))
  refine ⟨by omega, ?_⟩
  unfold cy_carry
  omega
theorem nr_min {x y : Nat} (h1 : x < 2 ^ 31) (h2 : y < 2 ^ 31) : (if nI y < nI x then nI y else nI x) = nI (min x y) := by
  by_cases h : y < x
  · rw [if_pos ((nI_ltI h2 h1).mpr h), Nat.min_eq_right (by omega)]
  · rw [if_neg (fun q => h ((nI_ltI h2 h1).mp q)), Nat.min_eq_left (by omega)]
set_option maxHeartbeats 4000000 in
set_option maxRecDepth 100000 in
/-- Sizing.factorOf -/
theorem kX2_factorOf (l : Launch) (D : va_G) (cI cG cL cB : ClassId) (z0 z1 z2 : Nat) (q : Nat → Nat) (pk fi : Nat → Nat) (t : Nat) (ht : t < 15) (hfi : ∀ j, fi j ≤ 18000000) : ct_i l yX2_factorOf (.code yX2_factorOf cX2_factorOf 3 (some .int) :: bw) ({ frames := 0, cells := 0, slots := 0, locals := 0 }) (EN D (tyL cI cG cL cB)) D vwCl (pZ z0 z1 z2 q cI pk fi) [.ref z0, .int (nI t)] (fun v W => W = pZ z0 z1 z2 q cI pk fi ∧ v = nI (cz_fac (fi t))) 0 0 := by
  refine ct_ofi (by decide) (Nat.le_of_ble_eq_true rfl) ?_
  intro p e s m below meth cd A H locs av Q ls hx hb hr hml hown hlocks hnm hbw hEN hQ hP hD hS hA hl
  have hown : s.vm.findClass RX2 = some m.cls := hown
  have hK := hEN.1
  have hl : lv_has ls 3 [(0, .ref z0), (1, .int (nI t))] := hl
  refine lv_aload_n hx hb dX2_factorOf_0 rfl (lv_at hl 0 rfl) ?_
  refine va_get (ci := 2) (v := .ref z2) (C := RX2) (T := TX2) (N := 5) hx hb hbw in_X2 hown hK hP 0 rfl rfl 4 (by decide) (hbw _ m_146) (fun _ h9 => h9) rfl dX2_factorOf_1 ?_
  refine lv_iload_n hx hb dX2_factorOf_4 rfl (lv_at hl 1 rfl) ?_
  refine nr_iald hx hb hK hP 2 0 rfl rfl (k := t) (by omega) (by omega) dX2_factorOf_5 ?_
  have b_1 := hfi t
  refine lv_istore_n (lv' := [(2, .int (nI (fi t))), (0, .ref z0), (1, .int (nI t))]) hx hb dX2_factorOf_6 rfl hl (by decide) rfl (fun ls hl => ?_)
  refine lv_iload_n hx hb dX2_factorOf_7 rfl (lv_at hl 0 rfl) ?_
  refine lv_sipush (v := nI 200) hx hb dX2_factorOf_8 (by decide) ?_
  refine nr_icmp_gt (x := fi t) (y := 200) (tgt := 18) hx hb (by omega) (by omega) dX2_factorOf_11 (by decide) (fun h0 => ?_) (fun h0 => ?_)
  · refine lv_iload_n hx hb dX2_factorOf_18 rfl (lv_at hl 0 rfl) ?_
    refine lv_sipush (v := nI 400) hx hb dX2_factorOf_19 (by decide) ?_
    refine nr_icmp_gt (x := fi t) (y := 400) (tgt := 29) hx hb (by omega) (by omega) dX2_factorOf_22 (by decide) (fun h1 => ?_) (fun h1 => ?_)
    · refine lv_iload_n hx hb dX2_factorOf_29 rfl (lv_at hl 0 rfl) ?_
      refine lv_sipush (v := nI 600) hx hb dX2_factorOf_30 (by decide) ?_
      refine nr_icmp_gt (x := fi t) (y := 600) (tgt := 40) hx hb (by omega) (by omega) dX2_factorOf_33 (by decide) (fun h2 => ?_) (fun h2 => ?_)
      · refine lv_iload_n hx hb dX2_factorOf_40 rfl (lv_at hl 0 rfl) ?_
        refine lv_sipush (v := nI 800) hx hb dX2_factorOf_41 (by decide) ?_
        refine nr_icmp_gt (x := fi t) (y := 800) (tgt := 51) hx hb (by omega) (by omega) dX2_factorOf_44 (by decide) (fun h3 => ?_) (fun h3 => ?_)
        · refine lv_iload_n hx hb dX2_factorOf_51 rfl (lv_at hl 0 rfl) ?_
          refine lv_sipush (v := nI 1000) hx hb dX2_factorOf_52 (by decide) ?_
          refine nr_icmp_gt (x := fi t) (y := 1000) (tgt := 64) hx hb (by omega) (by omega) dX2_factorOf_55 (by decide) (fun h4 => ?_) (fun h4 => ?_)
          · refine lv_iconst (v := nI 0) hx hb dX2_factorOf_64 (by decide) ?_
            have e1 : cz_fac (fi t) = 0 := by unfold cz_fac; rw [if_neg (by omega), if_neg (by omega), if_neg (by omega), if_neg (by omega), if_neg (by omega)]
            rw [hQ]
            exact ct_iret hx hb hr hlocks hP hD hS dX2_factorOf_65 ⟨rfl, by rw [e1]⟩
          · refine lv_sipush (v := nI 500) hx hb dX2_factorOf_58 (by decide) ?_
            refine lv_goto (tgt := 65) hx hb dX2_factorOf_61 (by decide) ?_
            have e1 : cz_fac (fi t) = 500 := by unfold cz_fac; rw [if_neg (by omega), if_neg (by omega), if_neg (by omega), if_neg (by omega), if_pos (by omega)]
            rw [hQ]
            exact ct_iret hx hb hr hlocks hP hD hS dX2_factorOf_65 ⟨rfl, by rw [e1]⟩
        · refine lv_sipush (v := nI 550) hx hb dX2_factorOf_47 (by decide) ?_
          have e1 : cz_fac (fi t) = 550 := by unfold cz_fac; rw [if_neg (by omega), if_neg (by omega), if_neg (by omega), if_pos (by omega)]
          rw [hQ]
          exact ct_iret hx hb hr hlocks hP hD hS dX2_factorOf_50 ⟨rfl, by rw [e1]⟩
      · refine lv_sipush (v := nI 650) hx hb dX2_factorOf_36 (by decide) ?_
        have e1 : cz_fac (fi t) = 650 := by unfold cz_fac; rw [if_neg (by omega), if_neg (by omega), if_pos (by omega)]
        rw [hQ]
        exact ct_iret hx hb hr hlocks hP hD hS dX2_factorOf_39 ⟨rfl, by rw [e1]⟩
    · refine lv_sipush (v := nI 800) hx hb dX2_factorOf_25 (by decide) ?_
      have e1 : cz_fac (fi t) = 800 := by unfold cz_fac; rw [if_neg (by omega), if_pos (by omega)]
      rw [hQ]
      exact ct_iret hx hb hr hlocks hP hD hS dX2_factorOf_28 ⟨rfl, by rw [e1]⟩
  · refine lv_sipush (v := nI 1000) hx hb dX2_factorOf_14 (by decide) ?_
    have e1 : cz_fac (fi t) = 1000 := by unfold cz_fac; rw [if_pos (by omega)]
    rw [hQ]
    exact ct_iret hx hb hr hlocks hP hD hS dX2_factorOf_17 ⟨rfl, by rw [e1]⟩
set_option maxHeartbeats 4000000 in
set_option maxRecDepth 100000 in
/-- Sizing.dropOf -/
theorem kX2_dropOf (l : Launch) (D : va_G) (cI cG cL cB : ClassId) (z0 z1 z2 : Nat) (q r : Nat → Nat) (pk fi : Nat → Nat) (sn : Nat) (ar rt oh : Nat → Nat) (cn : Nat) (no ot cu wc wl : Nat → Nat) (wt : Nat → Nat → Nat) (c : Nat) (hc : c < 20) (hz : okZ sn ar rt oh cn cu wc wl wt) (hpk : ∀ j, pk j < 6) (hfi : ∀ j, fi j ≤ 18000000) : ct_i l yX2_dropOf (.code yX2_dropOf cX2_dropOf 2 (some .int) :: bw) ({ frames := 0, cells := 0, slots := 0, locals := 0 }) (EN D (tyL cI cG cL cB)) D vwCl (pZ z0 z1 z2 q cI pk fi ++ pS q cI sn ar rt oh ++ pC q r cI cG cn no ot cu wc wl) [.ref z0, .int (nI c)] (fun v W => W = pZ z0 z1 z2 q cI pk fi ++ pS q cI sn ar rt oh ++ pC q r cI cG cn no ot cu wc wl ∧ v = nI (cz_drop oh cu wl pk c)) 0 0 := by
  refine ct_ofi (by decide) (Nat.le_of_ble_eq_true rfl) ?_
  intro p e s m below meth cd A H locs av Q ls hx hb hr hml hown hlocks hnm hbw hEN hQ hP hD hS hA hl
  have hown : s.vm.findClass RX2 = some m.cls := hown
  have hK := hEN.1
  have hl : lv_has ls 2 [(0, .ref z0), (1, .int (nI c))] := hl
  obtain ⟨hsn, har, hrt, hoh, hcn, hcu, hwc, hwl, hwt⟩ := id hz
  have hb9 := cz_drop_bd (oh := oh) (cu := cu) (wl := wl) (pk := pk) (c := c) (hcu c) (hoh (pk c)) (hwl c)
  refine lv_aload_n hx hb dX2_dropOf_0 rfl (lv_at hl 0 rfl) ?_
  refine va_get (ci := 2) (v := .ref (q 11)) (C := RX2) (T := TX2) (N := 5) hx hb hbw in_X2 hown hK hP 0 rfl rfl 2 (by decide) (hbw _ m_143) (fun _ h9 => h9) rfl dX2_dropOf_1 ?_
  refine va_getN (ci := 0) (v := .ref (q 14)) (C := RX0) (T := TX0) (N := 7) hx hb hbw in_X0 hown hK hP 7 rfl rfl 3 (by decide) (va_Nw.use rfl (hEN.2 _ (List.mem_filter.mpr ⟨mn_93, rfl⟩))) (fun _ h9 => h9) rfl dX2_dropOf_4 ?_
  refine lv_iload_n hx hb dX2_dropOf_7 rfl (lv_at hl 1 rfl) ?_
  refine nr_iald hx hb hK hP 10 0 rfl rfl (k := c) (by omega) (by omega) dX2_dropOf_8 ?_
  have b_1 := hcu c
  refine lv_aload_n hx hb dX2_dropOf_9 rfl (lv_at hl 0 rfl) ?_
  refine va_get (ci := 2) (v := .ref (q 7)) (C := RX2) (T := TX2) (N := 5) hx hb hbw in_X2 hown hK hP 0 rfl rfl 1 (by decide) (hbw _ m_142) (fun _ h9 => h9) rfl dX2_dropOf_10 ?_
  refine va_getN (ci := 1) (v := .ref (q 10)) (C := RX1) (T := TX1) (N := 4) hx hb hbw in_X1 hown hK hP 3 rfl rfl 3 (by decide) (va_Nw.use rfl (hEN.2 _ (List.mem_filter.mpr ⟨mn_68, rfl⟩))) (fun _ h9 => h9) rfl dX2_dropOf_13 ?_
  refine lv_aload_n hx hb dX2_dropOf_16 rfl (lv_at hl 0 rfl) ?_
  refine va_get (ci := 2) (v := .ref z1) (C := RX2) (T := TX2) (N := 5) hx hb hbw in_X2 hown hK hP 0 rfl rfl 3 (by decide) (hbw _ m_144) (fun _ h9 => h9) rfl dX2_dropOf_17 ?_
  refine lv_iload_n hx hb dX2_dropOf_20 rfl (lv_at hl 1 rfl) ?_
  refine nr_iald hx hb hK hP 1 0 rfl rfl (k := c) (by omega) (by omega) dX2_dropOf_21 ?_
  have b_2 := hpk c
  refine nr_iald hx hb hK hP 6 0 rfl rfl (k := pk c) (by omega) (by omega) dX2_dropOf_22 ?_
  have b_3 := hoh (pk c)
  refine nr_imul hx hb dX2_dropOf_23 ?_
  refine lv_aload_n hx hb dX2_dropOf_24 rfl (lv_at hl 0 rfl) ?_
  refine va_get (ci := 2) (v := .ref (q 11)) (C := RX2) (T := TX2) (N := 5) hx hb hbw in_X2 hown hK hP 0 rfl rfl 2 (by decide) (hbw _ m_143) (fun _ h9 => h9) rfl dX2_dropOf_25 ?_
  refine va_getN (ci := 0) (v := .ref (q 16)) (C := RX0) (T := TX0) (N := 7) hx hb hbw in_X0 hown hK hP 7 rfl rfl 5 (by decide) (va_Nw.use rfl (hEN.2 _ (List.mem_filter.mpr ⟨mn_98, rfl⟩))) (fun _ h9 => h9) rfl dX2_dropOf_28 ?_
  refine lv_iload_n hx hb dX2_dropOf_31 rfl (lv_at hl 1 rfl) ?_
  refine nr_iald hx hb hK hP 12 0 rfl rfl (k := c) (by omega) (by omega) dX2_dropOf_32 ?_
  have b_4 := hwl c
  refine nr_imul hx hb dX2_dropOf_33 ?_
  refine lv_sipush (v := nI 1000) hx hb dX2_dropOf_34 (by decide) ?_
  refine nr_idiv hx hb (by omega) (by omega) (by omega) dX2_dropOf_37 ?_
  rw [hQ]
  exact ct_iret hx hb hr hlocks hP hD hS dX2_dropOf_38 ⟨rfl, rfl⟩
set_option maxHeartbeats 4000000 in
set_option maxRecDepth 100000 in
/-- Sizing.carriedBy -/
theorem kX2_carriedBy (l : Launch) (D : va_G) (cI cG cL cB : ClassId) (z0 z1 z2 : Nat) (q r : Nat → Nat) (pk fi : Nat → Nat) (sn : Nat) (ar rt oh : Nat → Nat) (cn : Nat) (no ot cu wc wl : Nat → Nat) (wt : Nat → Nat → Nat) (c : Nat) (hc : c < 20) (hz : okZ sn ar rt oh cn cu wc wl wt) (hpk : ∀ j, pk j < 6) (hfi : ∀ j, fi j ≤ 18000000) : ct_i l yX2_carriedBy (.code yX2_carriedBy cX2_carriedBy 4 (some .int) :: bw) ({ frames := 1, cells := 0, slots := 0, locals := 22 }) (EN D (tyL cI cG cL cB)) D vwCl (pZ z0 z1 z2 q cI pk fi ++ pS q cI sn ar rt oh ++ pC q r cI cG cn no ot cu wc wl ++ pR r cI wt) [.ref z0, .int (nI c)] (fun v W => W = pZ z0 z1 z2 q cI pk fi ++ pS q cI sn ar rt oh ++ pC q r cI cG cn no ot cu wc wl ++ pR r cI wt ∧ v = nI (cy_carry rt wc pk fi wt c)) 0 0 := by
  refine ct_ofi (by decide) (Nat.le_of_ble_eq_true rfl) ?_
  intro p e s m below meth cd A H locs av Q ls hx hb hr hml hown hlocks hnm hbw hEN hQ hP hD hS hA hl
  have hown : s.vm.findClass RX2 = some m.cls := hown
  have hK := hEN.1
  have hl : lv_has ls 4 [(0, .ref z0), (1, .int (nI c))] := hl
  obtain ⟨hsn, har, hrt, hoh, hcn, hcu, hwc, hwl, hwt⟩ := id hz
  have b_0 := hwc c
  have hb9 := cy_carry_bd (rt := rt) (wc := wc) (pk := pk) (fi := fi) (wt := wt) (c := c) (hrt (pk c))
  refine lv_sipush (v := nI 1000) hx hb dX2_carriedBy_0 (by decide) ?_
  refine lv_istore_n (lv' := [(2, .int (nI 1000)), (0, .ref z0), (1, .int (nI c))]) hx hb dX2_carriedBy_3 rfl hl (by decide) rfl (fun ls hl => ?_)
  refine lv_iconst (v := nI 0) hx hb dX2_carriedBy_4 (by decide) ?_
  refine lv_istore_n (lv' := [(3, .int (nI 0)), (2, .int (nI 1000)), (0, .ref z0), (1, .int (nI c))]) hx hb dX2_carriedBy_5 rfl hl (by decide) rfl (fun ls hl => ?_)
  have lp : ∀ (k : Nat) (k0 : Nat), (hk : 9 < k0 + k) → (hi : k0 ≤ wc c) → ∀ (H : Heap) (locs : List Loc) (ls : Array Slot), va_P D vwCl (pZ z0 z1 z2 q cI pk fi ++ pS q cI sn ar rt oh ++ pC q r cI cG cn no ot cu wc wl ++ pR r cI wt) H → va_D A (pZ z0 z1 z2 q cI pk fi ++ pS q cI sn ar rt oh ++ pC q r cI cG cn no ot cu wc wl ++ pR r cI wt) → va_S A s.heap H locs → lv_has ls 4 [(0, .ref z0), (1, .int (nI c)), (2, .int (nI (cz_mg fi wt c k0))), (3, .int (nI k0))] → W p l e ({ frames := 1, cells := 0, slots := 0, locals := 22 }) s m av below meth cd H locs 0 0 Q (F0 m 6 ls []) := by
    intro k
    induction k with
    | zero => intro k0 hk hi; exact absurd hk (by omega)
    | succ k ih =>
      intro k0 hk hi H locs ls hP hD hS hl
      refine lv_iload_n hx hb dX2_carriedBy_6 rfl (lv_at hl 3 rfl) ?_
      refine lv_aload_n hx hb dX2_carriedBy_7 rfl (lv_at hl 0 rfl) ?_
      refine va_get (ci := 2) (v := .ref (q 11)) (C := RX2) (T := TX2) (N := 5) hx hb hbw in_X2 hown hK hP 0 rfl rfl 2 (by decide) (hbw _ m_143) (fun _ h9 => h9) rfl dX2_carriedBy_8 ?_
      refine va_getN (ci := 0) (v := .ref (q 15)) (C := RX0) (T := TX0) (N := 7) hx hb hbw in_X0 hown hK hP 7 rfl rfl 4 (by decide) (va_Nw.use rfl (hEN.2 _ (List.mem_filter.mpr ⟨mn_95, rfl⟩))) (fun _ h9 => h9) rfl dX2_carriedBy_11 ?_
      refine lv_iload_n hx hb dX2_carriedBy_14 rfl (lv_at hl 1 rfl) ?_
      refine nr_iald hx hb hK hP 11 0 rfl rfl (k := c) (by omega) (by omega) dX2_carriedBy_15 ?_
      have b_1 := hwc c
      refine nr_icmp_ge (x := k0) (y := wc c) (tgt := 45) hx hb (by omega) (by omega) dX2_carriedBy_16 (by decide) (fun h1 => ?_) (fun h1 => ?_)
      · obtain rfl : k0 = wc c := by omega
        refine lv_aload_n hx hb dX2_carriedBy_45 rfl (lv_at hl 0 rfl) ?_
        refine va_get (ci := 2) (v := .ref (q 7)) (C := RX2) (T := TX2) (N := 5) hx hb hbw in_X2 hown hK hP 0 rfl rfl 1 (by decide) (hbw _ m_142) (fun _ h9 => h9) rfl dX2_carriedBy_46 ?_
        refine va_getN (ci := 1) (v := .ref (q 9)) (C := RX1) (T := TX1) (N := 4) hx hb hbw in_X1 hown hK hP 3 rfl rfl 2 (by decide) (va_Nw.use rfl (hEN.2 _ (List.mem_filter.mpr ⟨mn_66, rfl⟩))) (fun _ h9 => h9) rfl dX2_carriedBy_49 ?_
        refine lv_aload_n hx hb dX2_carriedBy_52 rfl (lv_at hl 0 rfl) ?_
        refine va_get (ci := 2) (v := .ref z1) (C := RX2) (T := TX2) (N := 5) hx hb hbw in_X2 hown hK hP 0 rfl rfl 3 (by decide) (hbw _ m_144) (fun _ h9 => h9) rfl dX2_carriedBy_53 ?_
        refine lv_iload_n hx hb dX2_carriedBy_56 rfl (lv_at hl 1 rfl) ?_
        refine nr_iald hx hb hK hP 1 0 rfl rfl (k := c) (by omega) (by omega) dX2_carriedBy_57 ?_
        have b_2 := hpk c
        refine nr_iald hx hb hK hP 5 0 rfl rfl (k := pk c) (by omega) (by omega) dX2_carriedBy_58 ?_
        have b_3 := hrt (pk c)
        refine lv_iload_n hx hb dX2_carriedBy_59 rfl (lv_at hl 2 rfl) ?_
        refine nr_imul hx hb dX2_carriedBy_60 ?_
        refine lv_sipush (v := nI 1000) hx hb dX2_carriedBy_61 (by decide) ?_
        refine nr_idiv hx hb (by omega) (by omega) (by omega) dX2_carriedBy_64 ?_
        rw [hQ]
        exact ct_iret hx hb hr hlocks hP hD hS dX2_carriedBy_65 ⟨rfl, rfl⟩
      · refine lv_iload_n hx hb dX2_carriedBy_19 rfl (lv_at hl 2 rfl) ?_
        refine lv_aload_n hx hb dX2_carriedBy_20 rfl (lv_at hl 0 rfl) ?_
        refine lv_aload_n hx hb dX2_carriedBy_21 rfl (lv_at hl 0 rfl) ?_
        refine va_get (ci := 2) (v := .ref (q 11)) (C := RX2) (T := TX2) (N := 5) hx hb hbw in_X2 hown hK hP 0 rfl rfl 2 (by decide) (hbw _ m_143) (fun _ h9 => h9) rfl dX2_carriedBy_22 ?_
        refine va_getN (ci := 0) (v := .ref (q 17)) (C := RX0) (T := TX0) (N := 7) hx hb hbw in_X0 hown hK hP 7 rfl rfl 6 (by decide) (va_Nw.use rfl (hEN.2 _ (List.mem_filter.mpr ⟨mn_101, rfl⟩))) (fun _ h9 => h9) rfl dX2_carriedBy_25 ?_
        refine lv_iload_n hx hb dX2_carriedBy_28 rfl (lv_at hl 1 rfl) ?_
        refine gr_ald hx hb hK hP 13 1 rfl rfl (k := c) (by omega) dX2_carriedBy_29 ?_
        refine lv_iload_n hx hb dX2_carriedBy_30 rfl (lv_at hl 3 rfl) ?_
        refine gr_iald hx hb hK hP 0 rfl (i := c) (k := k0) (by omega) (by omega) dX2_carriedBy_31 ?_
        have b_4 := hwt c k0
        refine ct_Vi (wc := (pZ z0 z1 z2 q cI pk fi)) (wr := (pS q cI sn ar rt oh ++ pC q r cI cG cn no ot cu wc wl ++ pR r cI wt)) (As := [.int (nI (wt c k0))]) (rest := [.int (nI (cz_mg fi wt c k0))]) ⟨hx, hb, hml, hown, hbw⟩ (EN_E D _) hEN (kX2_factorOf l D cI cG cL cB z0 z1 z2 q pk fi (wt c k0) (hwt c k0) hfi) (cwV (C := "CableSizes$Sizing") 1 hbw (gV m_220 m_221 m_222 m_22 m_223) rfl rfl rfl (by decide +kernel) ⟨Nat.le_of_ble_eq_true rfl, Nat.le_of_ble_eq_true rfl⟩) (va_recv hK hP (ci := 2) (q0 := 0) rfl rfl) hP hD hS hA [0, 1, 2] [3, 4, 5, 6, 7, 8, 9, 10, 11, 12, 13, 14, 15, 16, 17, 18, 19, 20, 21, 22, 23, 24, 25, 26, 27, 28, 29, 30, 31, 32, 33] rfl rfl (by decide) (by decide) (by decide) rfl hl.1 rfl (Nat.le_of_ble_eq_true rfl) dX2_carriedBy_32 ⟨Nat.le_of_ble_eq_true rfl, Nat.le_of_ble_eq_true rfl⟩ (fun r_5 w_5 H locs hw hP hD hS => ?_)
        obtain ⟨rfl, rfl⟩ := hw
        have hP := hP.sub (ws' := (pZ z0 z1 z2 q cI pk fi ++ pS q cI sn ar rt oh ++ pC q r cI cG cn no ot cu wc wl ++ pR r cI wt)) [31, 32, 33, 0, 1, 2, 3, 4, 5, 6, 7, 8, 9, 10, 11, 12, 13, 14, 15, 16, 17, 18, 19, 20, 21, 22, 23, 24, 25, 26, 27, 28, 29, 30] rfl
        have hD := hD.sub (ws' := (pZ z0 z1 z2 q cI pk fi ++ pS q cI sn ar rt oh ++ pC q r cI cG cn no ot cu wc wl ++ pR r cI wt)) [31, 32, 33, 0, 1, 2, 3, 4, 5, 6, 7, 8, 9, 10, 11, 12, 13, 14, 15, 16, 17, 18, 19, 20, 21, 22, 23, 24, 25, 26, 27, 28, 29, 30] (by decide) rfl
        have b_1 := cz_mg_le fi wt c k0
        have b_2 := cz_fac_le (fi (wt c k0))
        refine va_mmin (x := nI (cz_mg fi wt c k0)) (y := nI (cz_fac (fi (wt c k0)))) hx hb (hml.trans hl.1.symm) hown (hbw _ m_224) (hbw _ m_225) (hbw _ m_30) (hbw _ m_226) (Nat.le_of_ble_eq_true rfl) (Nat.le_of_ble_eq_true rfl) (Nat.le_of_ble_eq_true rfl) (Nat.le_of_ble_eq_true rfl) dX2_carriedBy_35 ?_
        rw [nr_min (by omega) (by omega)]
        refine lv_istore_n (lv' := [(2, .int (nI (min (cz_mg fi wt c k0) (cz_fac (fi (wt c k0)))))), (0, .ref z0), (1, .int (nI c)), (3, .int (nI k0))]) hx hb dX2_carriedBy_38 rfl hl (by decide) rfl (fun ls hl => ?_)
        refine lv_iinc (v := nI (k0 + 1)) (lv' := [(3, .int (nI (k0 + 1))), (2, .int (nI (min (cz_mg fi wt c k0) (cz_fac (fi (wt c k0)))))), (0, .ref z0), (1, .int (nI c))]) hx hb dX2_carriedBy_39 hl (k := 3) rfl (nI_1 _) (by decide) rfl (fun ls hl => ?_)
        refine lv_goto (tgt := 6) hx hb dX2_carriedBy_42 (by decide) ?_
        exact ih (k0 + 1) (by omega) (by omega) _ _ _ hP hD hS (lv_sub hl [2, 3, 1, 0] rfl)
  exact lp 10 0 (by omega) (Nat.zero_le _) H locs ls hP hD hS (lv_sub hl [2, 3, 1, 0] rfl)
set_option maxHeartbeats 4000000 in
set_option maxRecDepth 100000 in
/-- Sizing.isRightAt -/
theorem kX2_isRightAt (l : Launch) (D : va_G) (cI cG cL cB : ClassId) (z0 z1 z2 : Nat) (q r : Nat → Nat) (pk fi : Nat → Nat) (sn : Nat) (ar rt oh : Nat → Nat) (cn : Nat) (no ot cu wc wl : Nat → Nat) (wt : Nat → Nat → Nat) (c lim : Nat) (hc : c < 20) (hlim : lim ≤ 1000000) (hz : okZ sn ar rt oh cn cu wc wl wt) (hpk : ∀ j, pk j < 6) (hfi : ∀ j, fi j ≤ 18000000) : ct_i l yX2_isRightAt (.code yX2_isRightAt cX2_isRightAt 3 (some .boolean) :: bw) ({ frames := 2, cells := 0, slots := 0, locals := 45 }) (EN D (tyL cI cG cL cB)) D vwCl (pZ z0 z1 z2 q cI pk fi ++ pS q cI sn ar rt oh ++ pC q r cI cG cn no ot cu wc wl ++ pR r cI wt) [.ref z0, .int (nI c), .int (nI lim)] (fun v W => W = pZ z0 z1 z2 q cI pk fi ++ pS q cI sn ar rt oh ++ pC q r cI cG cn no ot cu wc wl ++ pR r cI wt ∧ v = nI (bN (cy_right rt oh cu wc wl pk fi wt lim c))) 0 0 := by
  refine ct_ofi (by decide) (Nat.le_of_ble_eq_true rfl) ?_
  intro p e s m below meth cd A H locs av Q ls hx hb hr hml hown hlocks hnm hbw hEN hQ hP hD hS hA hl
  have hown : s.vm.findClass RX2 = some m.cls := hown
  have hK := hEN.1
  have hl : lv_has ls 3 [(0, .ref z0), (1, .int (nI c)), (2, .int (nI lim))] := hl
  obtain ⟨hsn, har, hrt, hoh, hcn, hcu, hwc, hwl, hwt⟩ := id hz
  have hb8 := cz_drop_bd (oh := oh) (cu := cu) (wl := wl) (pk := pk) (c := c) (hcu c) (hoh (pk c)) (hwl c)
  have hb9 := cy_carry_bd (rt := rt) (wc := wc) (pk := pk) (fi := fi) (wt := wt) (c := c) (hrt (pk c))
  refine lv_aload_n hx hb dX2_isRightAt_0 rfl (lv_at hl 0 rfl) ?_
  refine va_get (ci := 2) (v := .ref (q 11)) (C := RX2) (T := TX2) (N := 5) hx hb hbw in_X2 hown hK hP 0 rfl rfl 2 (by decide) (hbw _ m_143) (fun _ h9 => h9) rfl dX2_isRightAt_1 ?_
  refine lv_iload_n hx hb dX2_isRightAt_4 rfl (lv_at hl 1 rfl) ?_
  refine ct_Vi (wc := (pC q r cI cG cn no ot cu wc wl)) (wr := (pZ z0 z1 z2 q cI pk fi ++ pS q cI sn ar rt oh ++ pR r cI wt)) (As := [.int (nI c)]) (rest := []) ⟨hx, hb, hml, hown, hbw⟩ (EN_E D _) hEN (kX0_isLoose l D cI cG cL cB q r cn no ot cu wc wl c hc hwc) (cwV (C := "CableSizes$Cables") 1 hbw (gV m_212 m_213 m_214 m_21 m_215) rfl rfl rfl (by decide +kernel) ⟨Nat.le_of_ble_eq_true rfl, Nat.le_of_ble_eq_true rfl⟩) (va_recv hK hP (ci := 0) (q0 := 7) rfl rfl) hP hD hS hA [7, 8, 9, 10, 11, 12, 13] [0, 1, 2, 3, 4, 5, 6, 14, 15, 16, 17, 18, 19, 20, 21, 22, 23, 24, 25, 26, 27, 28, 29, 30, 31, 32, 33] rfl rfl (by decide) (by decide) (by decide) rfl hl.1 rfl (Nat.le_of_ble_eq_true rfl) dX2_isRightAt_5 ⟨Nat.le_of_ble_eq_true rfl, Nat.le_of_ble_eq_true rfl⟩ (fun r_1 w_1 H locs hw hP hD hS => ?_)
  obtain ⟨rfl, rfl⟩ := hw
  have hP := hP.sub (ws' := (pZ z0 z1 z2 q cI pk fi ++ pS q cI sn ar rt oh ++ pC q r cI cG cn no ot cu wc wl ++ pR r cI wt)) [0, 1, 2, 3, 4, 5, 6, 27, 28, 29, 30, 31, 32, 33, 7, 8, 9, 10, 11, 12, 13, 14, 15, 16, 17, 18, 19, 20, 21, 22, 23, 24, 25, 26] rfl
  have hD := hD.sub (ws' := (pZ z0 z1 z2 q cI pk fi ++ pS q cI sn ar rt oh ++ pC q r cI cG cn no ot cu wc wl ++ pR r cI wt)) [0, 1, 2, 3, 4, 5, 6, 27, 28, 29, 30, 31, 32, 33, 7, 8, 9, 10, 11, 12, 13, 14, 15, 16, 17, 18, 19, 20, 21, 22, 23, 24, 25, 26] (by decide) rfl
  refine nr_if_eq (x := bN (decide (wc c = 0))) (tgt := 13) hx hb (by unfold bN; split <;> omega) dX2_isRightAt_8 (by decide) (fun h1 => ?_) (fun h1 => ?_)
  · have h0 := of_decide_eq_false (bN_f h1)
    refine lv_aload_n hx hb dX2_isRightAt_13 rfl (lv_at hl 0 rfl) ?_
    refine lv_iload_n hx hb dX2_isRightAt_14 rfl (lv_at hl 1 rfl) ?_
    refine ct_Vi (wc := (pZ z0 z1 z2 q cI pk fi ++ pS q cI sn ar rt oh ++ pC q r cI cG cn no ot cu wc wl ++ pR r cI wt)) (wr := ([] : va_W)) (As := [.int (nI c)]) (rest := []) ⟨hx, hb, hml, hown, hbw⟩ (EN_E D _) hEN (kX2_carriedBy l D cI cG cL cB z0 z1 z2 q r pk fi sn ar rt oh cn no ot cu wc wl wt c hc hz hpk hfi) (cwV (C := "CableSizes$Sizing") 1 hbw (gV m_216 m_217 m_218 m_22 m_219) rfl rfl rfl (by decide +kernel) ⟨Nat.le_of_ble_eq_true rfl, Nat.le_of_ble_eq_true rfl⟩) (va_recv hK hP (ci := 2) (q0 := 0) rfl rfl) hP hD hS hA [0, 1, 2, 3, 4, 5, 6, 7, 8, 9, 10, 11, 12, 13, 14, 15, 16, 17, 18, 19, 20, 21, 22, 23, 24, 25, 26, 27, 28, 29, 30, 31, 32, 33] [] rfl rfl (by decide) (by decide) (by decide) rfl hl.1 rfl (Nat.le_of_ble_eq_true rfl) dX2_isRightAt_15 ⟨Nat.le_of_ble_eq_true rfl, Nat.le_of_ble_eq_true rfl⟩ (fun r_2 w_2 H locs hw hP hD hS => ?_)
    obtain ⟨rfl, rfl⟩ := hw
    have hP := hP.sub (ws' := (pZ z0 z1 z2 q cI pk fi ++ pS q cI sn ar rt oh ++ pC q r cI cG cn no ot cu wc wl ++ pR r cI wt)) [0, 1, 2, 3, 4, 5, 6, 7, 8, 9, 10, 11, 12, 13, 14, 15, 16, 17, 18, 19, 20, 21, 22, 23, 24, 25, 26, 27, 28, 29, 30, 31, 32, 33] rfl
    have hD := hD.sub (ws' := (pZ z0 z1 z2 q cI pk fi ++ pS q cI sn ar rt oh ++ pC q r cI cG cn no ot cu wc wl ++ pR r cI wt)) [0, 1, 2, 3, 4, 5, 6, 7, 8, 9, 10, 11, 12, 13, 14, 15, 16, 17, 18, 19, 20, 21, 22, 23, 24, 25, 26, 27, 28, 29, 30, 31, 32, 33] (by decide) rfl
    refine lv_aload_n hx hb dX2_isRightAt_18 rfl (lv_at hl 0 rfl) ?_
    refine va_get (ci := 2) (v := .ref (q 11)) (C := RX2) (T := TX2) (N := 5) hx hb hbw in_X2 hown hK hP 0 rfl rfl 2 (by decide) (hbw _ m_143) (fun _ h9 => h9) rfl dX2_isRightAt_19 ?_
    refine va_getN (ci := 0) (v := .ref (q 14)) (C := RX0) (T := TX0) (N := 7) hx hb hbw in_X0 hown hK hP 7 rfl rfl 3 (by decide) (va_Nw.use rfl (hEN.2 _ (List.mem_filter.mpr ⟨mn_93, rfl⟩))) (fun _ h9 => h9) rfl dX2_isRightAt_22 ?_
    refine lv_iload_n hx hb dX2_isRightAt_25 rfl (lv_at hl 1 rfl) ?_
    refine nr_iald hx hb hK hP 10 0 rfl rfl (k := c) (by omega) (by omega) dX2_isRightAt_26 ?_
    have b_3 := hcu c
    refine nr_icmp_lt (x := cy_carry rt wc pk fi wt c) (y := cu c) (tgt := 43) hx hb (by omega) (by omega) dX2_isRightAt_27 (by decide) (fun h2 => ?_) (fun h2 => ?_)
    · refine lv_iconst (v := nI 0) hx hb dX2_isRightAt_43 (by decide) ?_
      have e1 : cy_right rt oh cu wc wl pk fi wt lim c = false := decide_eq_false (by omega)
      rw [hQ]
      exact ct_zret hx hb hr hlocks hP hD hS dX2_isRightAt_44 (by first | exact Or.inl rfl | exact Or.inr rfl) ⟨rfl, by rw [e1]; rfl⟩
    · refine lv_aload_n hx hb dX2_isRightAt_30 rfl (lv_at hl 0 rfl) ?_
      refine lv_iload_n hx hb dX2_isRightAt_31 rfl (lv_at hl 1 rfl) ?_
      refine ct_Vi (wc := (pZ z0 z1 z2 q cI pk fi ++ pS q cI sn ar rt oh ++ pC q r cI cG cn no ot cu wc wl)) (wr := (pR r cI wt)) (As := [.int (nI c)]) (rest := []) ⟨hx, hb, hml, hown, hbw⟩ (EN_E D _) hEN (kX2_dropOf l D cI cG cL cB z0 z1 z2 q r pk fi sn ar rt oh cn no ot cu wc wl wt c hc hz hpk hfi) (cwV (C := "CableSizes$Sizing") 1 hbw (gV m_227 m_228 m_229 m_22 m_230) rfl rfl rfl (by decide +kernel) ⟨Nat.le_of_ble_eq_true rfl, Nat.le_of_ble_eq_true rfl⟩) (va_recv hK hP (ci := 2) (q0 := 0) rfl rfl) hP hD hS hA [0, 1, 2, 3, 4, 5, 6, 7, 8, 9, 10, 11, 12, 13] [14, 15, 16, 17, 18, 19, 20, 21, 22, 23, 24, 25, 26, 27, 28, 29, 30, 31, 32, 33] rfl rfl (by decide) (by decide) (by decide) rfl hl.1 rfl (Nat.le_of_ble_eq_true rfl) dX2_isRightAt_32 ⟨Nat.le_of_ble_eq_true rfl, Nat.le_of_ble_eq_true rfl⟩ (fun r_4 w_4 H locs hw hP hD hS => ?_)
      obtain ⟨rfl, rfl⟩ := hw
      have hP := hP.sub (ws' := (pZ z0 z1 z2 q cI pk fi ++ pS q cI sn ar rt oh ++ pC q r cI cG cn no ot cu wc wl ++ pR r cI wt)) [20, 21, 22, 23, 24, 25, 26, 27, 28, 29, 30, 31, 32, 33, 0, 1, 2, 3, 4, 5, 6, 7, 8, 9, 10, 11, 12, 13, 14, 15, 16, 17, 18, 19] rfl
      have hD := hD.sub (ws' := (pZ z0 z1 z2 q cI pk fi ++ pS q cI sn ar rt oh ++ pC q r cI cG cn no ot cu wc wl ++ pR r cI wt)) [20, 21, 22, 23, 24, 25, 26, 27, 28, 29, 30, 31, 32, 33, 0, 1, 2, 3, 4, 5, 6, 7, 8, 9, 10, 11, 12, 13, 14, 15, 16, 17, 18, 19] (by decide) rfl
      refine lv_iload_n hx hb dX2_isRightAt_35 rfl (lv_at hl 2 rfl) ?_
      refine nr_icmp_gt (x := cz_drop oh cu wl pk c) (y := lim) (tgt := 43) hx hb (by omega) (by omega) dX2_isRightAt_36 (by decide) (fun h3 => ?_) (fun h3 => ?_)
      · refine lv_iconst (v := nI 0) hx hb dX2_isRightAt_43 (by decide) ?_
        have e1 : cy_right rt oh cu wc wl pk fi wt lim c = false := decide_eq_false (by omega)
        rw [hQ]
        exact ct_zret hx hb hr hlocks hP hD hS dX2_isRightAt_44 (by first | exact Or.inl rfl | exact Or.inr rfl) ⟨rfl, by rw [e1]; rfl⟩
      · refine lv_iconst (v := nI 1) hx hb dX2_isRightAt_39 (by decide) ?_
        refine lv_goto (tgt := 44) hx hb dX2_isRightAt_40 (by decide) ?_
        have e1 : cy_right rt oh cu wc wl pk fi wt lim c = true := decide_eq_true (by omega)
        rw [hQ]
        exact ct_zret hx hb hr hlocks hP hD hS dX2_isRightAt_44 (by first | exact Or.inl rfl | exact Or.inr rfl) ⟨rfl, by rw [e1]; rfl⟩
  · refine lv_iconst (v := nI 1) hx hb dX2_isRightAt_11 (by decide) ?_
    have e1 : cy_right rt oh cu wc wl pk fi wt lim c = true := decide_eq_true (Or.inl (of_decide_eq_true (bN_t h1)))
    rw [hQ]
    exact ct_zret hx hb hr hlocks hP hD hS dX2_isRightAt_12 (by first | exact Or.inl rfl | exact Or.inr rfl) ⟨rfl, by rw [e1]; rfl⟩
set_option maxHeartbeats 4000000 in
set_option maxRecDepth 100000 in
/-- Sizing.allAreRight -/
theorem kX2_allAreRight (l : Launch) (D : va_G) (cI cG cL cB : ClassId) (z0 z1 z2 : Nat) (q r : Nat → Nat) (pk fi : Nat → Nat) (sn : Nat) (ar rt oh : Nat → Nat) (cn : Nat) (no ot cu wc wl : Nat → Nat) (wt : Nat → Nat → Nat) (lim : Nat) (hlim : lim ≤ 1000000) (hz : okZ sn ar rt oh cn cu wc wl wt) (hpk : ∀ j, pk j < 6) (hfi : ∀ j, fi j ≤ 18000000) : ct_i l yX2_allAreRight (.code yX2_allAreRight cX2_allAreRight 3 (some .boolean) :: bw) ({ frames := 3, cells := 0, slots := 0, locals := 67 }) (EN D (tyL cI cG cL cB)) D vwCl (pZ z0 z1 z2 q cI pk fi ++ pS q cI sn ar rt oh ++ pC q r cI cG cn no ot cu wc wl ++ pR r cI wt) [.ref z0, .int (nI lim)] (fun v W => W = pZ z0 z1 z2 q cI pk fi ++ pS q cI sn ar rt oh ++ pC q r cI cG cn no ot cu wc wl ++ pR r cI wt ∧ ((v = nI 1 ∧ ∀ c, c < cn → cy_right rt oh cu wc wl pk fi wt lim c = true) ∨ (v = nI 0 ∧ ∃ c, c < cn ∧ cy_right rt oh cu wc wl pk fi wt lim c = false))) 0 0 := by
  refine ct_ofi (by decide) (Nat.le_of_ble_eq_true rfl) ?_
  intro p e s m below meth cd A H locs av Q ls hx hb hr hml hown hlocks hnm hbw hEN hQ hP hD hS hA hl
  have hown : s.vm.findClass RX2 = some m.cls := hown
  have hK := hEN.1
  have hl : lv_has ls 3 [(0, .ref z0), (1, .int (nI lim))] := hl
  obtain ⟨hsn, har, hrt, hoh, hcn, hcu, hwc, hwl, hwt⟩ := id hz
  refine lv_iconst (v := nI 0) hx hb dX2_allAreRight_0 (by decide) ?_
  refine lv_istore_n (lv' := [(2, .int (nI 0)), (0, .ref z0), (1, .int (nI lim))]) hx hb dX2_allAreRight_1 rfl hl (by decide) rfl (fun ls hl => ?_)
  have lp : ∀ (k : Nat) (i : Nat), (hk : cn < i + k) → (hi : i ≤ cn) → (hv : ∀ c, c < i → cy_right rt oh cu wc wl pk fi wt lim c = true) → ∀ (H : Heap) (locs : List Loc) (ls : Array Slot), va_P D vwCl (pZ z0 z1 z2 q cI pk fi ++ pS q cI sn ar rt oh ++ pC q r cI cG cn no ot cu wc wl ++ pR r cI wt) H → va_D A (pZ z0 z1 z2 q cI pk fi ++ pS q cI sn ar rt oh ++ pC q r cI cG cn no ot cu wc wl ++ pR r cI wt) → va_S A s.heap H locs → lv_has ls 3 [(0, .ref z0), (1, .int (nI lim)), (2, .int (nI i))] → W p l e ({ frames := 3, cells := 0, slots := 0, locals := 67 }) s m av below meth cd H locs 0 0 Q (F0 m 2 ls []) := by
    intro k
    induction k with
    | zero => intro i hk hi hv; exact absurd hk (by omega)
    | succ k ih =>
      intro i hk hi hv H locs ls hP hD hS hl
      refine lv_iload_n hx hb dX2_allAreRight_2 rfl (lv_at hl 2 rfl) ?_
      refine lv_aload_n hx hb dX2_allAreRight_3 rfl (lv_at hl 0 rfl) ?_
      refine va_get (ci := 2) (v := .ref (q 11)) (C := RX2) (T := TX2) (N := 5) hx hb hbw in_X2 hown hK hP 0 rfl rfl 2 (by decide) (hbw _ m_143) (fun _ h9 => h9) rfl dX2_allAreRight_4 ?_
      refine va_getN (ci := 0) (v := .int (nI cn)) (C := RX0) (T := TX0) (N := 7) hx hb hbw in_X0 hown hK hP 7 rfl rfl 0 (by decide) (va_Nw.use rfl (hEN.2 _ (List.mem_filter.mpr ⟨mn_87, rfl⟩))) (fun _ h9 => h9) rfl dX2_allAreRight_7 ?_
      refine nr_icmp_ge (x := i) (y := cn) (tgt := 30) hx hb (by omega) (by omega) dX2_allAreRight_10 (by decide) (fun h1 => ?_) (fun h1 => ?_)
      · obtain rfl : i = cn := by omega
        refine lv_iconst (v := nI 1) hx hb dX2_allAreRight_30 (by decide) ?_
        rw [hQ]
        exact ct_zret hx hb hr hlocks hP hD hS dX2_allAreRight_31 (by first | exact Or.inl rfl | exact Or.inr rfl) ⟨rfl, Or.inl ⟨rfl, hv⟩⟩
      · refine lv_aload_n hx hb dX2_allAreRight_13 rfl (lv_at hl 0 rfl) ?_
        refine lv_iload_n hx hb dX2_allAreRight_14 rfl (lv_at hl 2 rfl) ?_
        refine lv_iload_n hx hb dX2_allAreRight_15 rfl (lv_at hl 1 rfl) ?_
        refine ct_Vi (wc := (pZ z0 z1 z2 q cI pk fi ++ pS q cI sn ar rt oh ++ pC q r cI cG cn no ot cu wc wl ++ pR r cI wt)) (wr := ([] : va_W)) (As := [.int (nI i), .int (nI lim)]) (rest := []) ⟨hx, hb, hml, hown, hbw⟩ (EN_E D _) hEN (kX2_isRightAt l D cI cG cL cB z0 z1 z2 q r pk fi sn ar rt oh cn no ot cu wc wl wt i lim (by omega) hlim hz hpk hfi) (cwV (C := "CableSizes$Sizing") 2 hbw (gV m_208 m_210 m_1 m_22 m_211) rfl rfl rfl (by decide +kernel) ⟨Nat.le_of_ble_eq_true rfl, Nat.le_of_ble_eq_true rfl⟩) (va_recv hK hP (ci := 2) (q0 := 0) rfl rfl) hP hD hS hA [0, 1, 2, 3, 4, 5, 6, 7, 8, 9, 10, 11, 12, 13, 14, 15, 16, 17, 18, 19, 20, 21, 22, 23, 24, 25, 26, 27, 28, 29, 30, 31, 32, 33] [] rfl rfl (by decide) (by decide) (by decide) rfl hl.1 rfl (Nat.le_of_ble_eq_true rfl) dX2_allAreRight_16 ⟨Nat.le_of_ble_eq_true rfl, Nat.le_of_ble_eq_true rfl⟩ (fun r_1 w_1 H locs hw hP hD hS => ?_)
        obtain ⟨rfl, rfl⟩ := hw
        have hP := hP.sub (ws' := (pZ z0 z1 z2 q cI pk fi ++ pS q cI sn ar rt oh ++ pC q r cI cG cn no ot cu wc wl ++ pR r cI wt)) [0, 1, 2, 3, 4, 5, 6, 7, 8, 9, 10, 11, 12, 13, 14, 15, 16, 17, 18, 19, 20, 21, 22, 23, 24, 25, 26, 27, 28, 29, 30, 31, 32, 33] rfl
        have hD := hD.sub (ws' := (pZ z0 z1 z2 q cI pk fi ++ pS q cI sn ar rt oh ++ pC q r cI cG cn no ot cu wc wl ++ pR r cI wt)) [0, 1, 2, 3, 4, 5, 6, 7, 8, 9, 10, 11, 12, 13, 14, 15, 16, 17, 18, 19, 20, 21, 22, 23, 24, 25, 26, 27, 28, 29, 30, 31, 32, 33] (by decide) rfl
        refine nr_if_ne (x := bN (cy_right rt oh cu wc wl pk fi wt lim i)) (tgt := 24) hx hb (by unfold bN; split <;> omega) dX2_allAreRight_19 (by decide) (fun h2 => ?_) (fun h2 => ?_)
        · refine lv_iinc (v := nI (i + 1)) (lv' := [(2, .int (nI (i + 1))), (0, .ref z0), (1, .int (nI lim))]) hx hb dX2_allAreRight_24 hl (k := 2) rfl (nI_1 _) (by decide) rfl (fun ls hl => ?_)
          refine lv_goto (tgt := 2) hx hb dX2_allAreRight_27 (by decide) ?_
          exact ih (i + 1) (by omega) (by omega) (lt_s hv (bN_t h2)) _ _ _ hP hD hS (lv_sub hl [1, 2, 0] rfl)
        · refine lv_iconst (v := nI 0) hx hb dX2_allAreRight_22 (by decide) ?_
          rw [hQ]
          exact ct_zret hx hb hr hlocks hP hD hS dX2_allAreRight_23 (by first | exact Or.inl rfl | exact Or.inr rfl) ⟨rfl, Or.inr ⟨rfl, i, h1, bN_f h2⟩⟩
  exact lp (cn + 1) 0 (by omega) (Nat.zero_le cn) (lt_0) H locs ls hP hD hS (lv_sub hl [1, 2, 0] rfl)
/-- the sizes behind a raising of the wrong ones among the first i cables -/
def cy_up (rg : Nat → Bool) (pk : Nat → Nat) (i : Nat) : Nat → Nat := fun j => if j < i ∧ rg j = false then pk j + 1 else pk j
theorem cy_up_0 (rg : Nat → Bool) (pk : Nat → Nat) : cy_up rg pk 0 = pk := by
  funext j
  unfold cy_up
  rw [if_neg (by omega)]
theorem cy_up_at (rg : Nat → Bool) (pk : Nat → Nat) (i : Nat) : cy_up rg pk i i = pk i := by
  unfold cy_up
  rw [if_neg (by omega)]
theorem cy_up_r {rg : Nat → Bool} {pk : Nat → Nat} {i : Nat} (h : rg i = true) : cy_up rg pk (i + 1) = cy_up rg pk i := by
  funext j
  unfold cy_up
  by_cases e : j = i
  · subst e; rw [if_neg (by rw [h]; simp), if_neg (by omega)]
  · by_cases e2 : j < i
    · simp [e2, Nat.lt_succ_of_lt e2]
    · rw [if_neg (by omega), if_neg (by omega)]
theorem cy_up_w {rg : Nat → Bool} {pk : Nat → Nat} {i : Nat} (h : rg i = false) : nr_up (cy_up rg pk i) i (cy_up rg pk i i + 1) = cy_up rg pk (i + 1) := by
  funext j
  rw [cy_up_at]
  unfold nr_up cy_up
  by_cases e : j = i
  · subst e; rw [if_pos rfl, if_pos ⟨Nat.lt_succ_self _, h⟩]
  · rw [if_neg e]
    by_cases e2 : j < i
    · simp [e2, Nat.lt_succ_of_lt e2]
    · rw [if_neg (by omega), if_neg (by omega)]
set_option maxHeartbeats 4000000 in
set_option maxRecDepth 100000 in
/-- Sizing.raiseWrongOnes -/
theorem kX2_raiseWrongOnes (l : Launch) (D : va_G) (cI cG cL cB : ClassId) (z0 z1 z2 : Nat) (q r : Nat → Nat) (pk fi : Nat → Nat) (sn : Nat) (ar rt oh : Nat → Nat) (cn : Nat) (no ot cu wc wl : Nat → Nat) (wt : Nat → Nat → Nat) (lim : Nat) (hlim : lim ≤ 1000000) (hz : okZ sn ar rt oh cn cu wc wl wt) (hpk : ∀ j, pk j < 6) (hfi : ∀ j, fi j ≤ 18000000) : ct_i l yX2_raiseWrongOnes (.code yX2_raiseWrongOnes cX2_raiseWrongOnes 3 (some .boolean) :: bw) ({ frames := 3, cells := 0, slots := 0, locals := 67 }) (EN D (tyL cI cG cL cB)) D vwCl (pZ z0 z1 z2 q cI pk fi ++ pS q cI sn ar rt oh ++ pC q r cI cG cn no ot cu wc wl ++ pR r cI wt) [.ref z0, .int (nI lim)] (fun v W => ∃ pk', W = pZ z0 z1 z2 q cI pk' fi ++ pS q cI sn ar rt oh ++ pC q r cI cG cn no ot cu wc wl ++ pR r cI wt ∧ (∀ j, pk' j < 6) ∧ ((v = nI 1 ∧ pk' = cy_up (cy_right rt oh cu wc wl pk fi wt lim) pk cn ∧ ∀ c, c < cn → cy_right rt oh cu wc wl pk fi wt lim c = false → pk c + 1 < sn) ∨ (v = nI 0 ∧ ∃ c, c < cn ∧ cy_right rt oh cu wc wl pk fi wt lim c = false ∧ sn ≤ pk c + 1))) 0 0 := by
  refine ct_ofi (by decide) (Nat.le_of_ble_eq_true rfl) ?_
  intro p e s m below meth cd A H locs av Q ls hx hb hr hml hown hlocks hnm hbw hEN hQ hP hD hS hA hl
  have hown : s.vm.findClass RX2 = some m.cls := hown
  have hK := hEN.1
  have hl : lv_has ls 3 [(0, .ref z0), (1, .int (nI lim))] := hl
  obtain ⟨hsn, har, hrt, hoh, hcn, hcu, hwc, hwl, hwt⟩ := id hz
  have hP : va_P D vwCl (pZ z0 z1 z2 q cI (cy_up (cy_right rt oh cu wc wl pk fi wt lim) pk 0) fi ++ pS q cI sn ar rt oh ++ pC q r cI cG cn no ot cu wc wl ++ pR r cI wt) H := by rw [cy_up_0]; exact hP
  have hD : va_D A (pZ z0 z1 z2 q cI (cy_up (cy_right rt oh cu wc wl pk fi wt lim) pk 0) fi ++ pS q cI sn ar rt oh ++ pC q r cI cG cn no ot cu wc wl ++ pR r cI wt) := by rw [cy_up_0]; exact hD
  refine lv_iconst (v := nI 0) hx hb dX2_raiseWrongOnes_0 (by decide) ?_
  refine lv_istore_n (lv' := [(2, .int (nI 0)), (0, .ref z0), (1, .int (nI lim))]) hx hb dX2_raiseWrongOnes_1 rfl hl (by decide) rfl (fun ls hl => ?_)
  have lp : ∀ (k : Nat) (i : Nat), (hk : cn < i + k) → (hi : i ≤ cn) → (hv : ∀ c, c < i → cy_right rt oh cu wc wl pk fi wt lim c = false → pk c + 1 < sn) → (hp6 : ∀ j, cy_up (cy_right rt oh cu wc wl pk fi wt lim) pk i j < 6) → ∀ (H : Heap) (locs : List Loc) (ls : Array Slot), va_P D vwCl (pZ z0 z1 z2 q cI (cy_up (cy_right rt oh cu wc wl pk fi wt lim) pk i) fi ++ pS q cI sn ar rt oh ++ pC q r cI cG cn no ot cu wc wl ++ pR r cI wt) H → va_D A (pZ z0 z1 z2 q cI (cy_up (cy_right rt oh cu wc wl pk fi wt lim) pk i) fi ++ pS q cI sn ar rt oh ++ pC q r cI cG cn no ot cu wc wl ++ pR r cI wt) → va_S A s.heap H locs → lv_has ls 3 [(0, .ref z0), (1, .int (nI lim)), (2, .int (nI i))] → W p l e ({ frames := 3, cells := 0, slots := 0, locals := 67 }) s m av below meth cd H locs 0 0 Q (F0 m 2 ls []) := by
    intro k
    induction k with
    | zero => intro i hk hi hv hp6; exact absurd hk (by omega)
    | succ k ih =>
      intro i hk hi hv hp6 H locs ls hP hD hS hl
      refine lv_iload_n hx hb dX2_raiseWrongOnes_2 rfl (lv_at hl 2 rfl) ?_
      refine lv_aload_n hx hb dX2_raiseWrongOnes_3 rfl (lv_at hl 0 rfl) ?_
      refine va_get (ci := 2) (v := .ref (q 11)) (C := RX2) (T := TX2) (N := 5) hx hb hbw in_X2 hown hK hP 0 rfl rfl 2 (by decide) (hbw _ m_143) (fun _ h9 => h9) rfl dX2_raiseWrongOnes_4 ?_
      refine va_getN (ci := 0) (v := .int (nI cn)) (C := RX0) (T := TX0) (N := 7) hx hb hbw in_X0 hown hK hP 7 rfl rfl 0 (by decide) (va_Nw.use rfl (hEN.2 _ (List.mem_filter.mpr ⟨mn_87, rfl⟩))) (fun _ h9 => h9) rfl dX2_raiseWrongOnes_7 ?_
      refine nr_icmp_ge (x := i) (y := cn) (tgt := 58) hx hb (by omega) (by omega) dX2_raiseWrongOnes_10 (by decide) (fun h1 => ?_) (fun h1 => ?_)
      · obtain rfl : i = cn := by omega
        refine lv_iconst (v := nI 1) hx hb dX2_raiseWrongOnes_58 (by decide) ?_
        rw [hQ]
        exact ct_zret hx hb hr hlocks hP hD hS dX2_raiseWrongOnes_59 (by first | exact Or.inl rfl | exact Or.inr rfl) ⟨_, rfl, hp6, Or.inl ⟨rfl, rfl, hv⟩⟩
      · refine lv_aload_n hx hb dX2_raiseWrongOnes_13 rfl (lv_at hl 0 rfl) ?_
        refine lv_iload_n hx hb dX2_raiseWrongOnes_14 rfl (lv_at hl 2 rfl) ?_
        refine lv_iload_n hx hb dX2_raiseWrongOnes_15 rfl (lv_at hl 1 rfl) ?_
        have e0 : cy_right rt oh cu wc wl (cy_up (cy_right rt oh cu wc wl pk fi wt lim) pk i) fi wt lim i = cy_right rt oh cu wc wl pk fi wt lim i := cy_right_congr (cy_up_at _ _ _)
        refine ct_Vi (wc := (pZ z0 z1 z2 q cI (cy_up (cy_right rt oh cu wc wl pk fi wt lim) pk i) fi ++ pS q cI sn ar rt oh ++ pC q r cI cG cn no ot cu wc wl ++ pR r cI wt)) (wr := ([] : va_W)) (As := [.int (nI i), .int (nI lim)]) (rest := []) ⟨hx, hb, hml, hown, hbw⟩ (EN_E D _) hEN (kX2_isRightAt l D cI cG cL cB z0 z1 z2 q r (cy_up (cy_right rt oh cu wc wl pk fi wt lim) pk i) fi sn ar rt oh cn no ot cu wc wl wt i lim (by omega) hlim hz hp6 hfi) (cwV (C := "CableSizes$Sizing") 2 hbw (gV m_208 m_210 m_1 m_22 m_211) rfl rfl rfl (by decide +kernel) ⟨Nat.le_of_ble_eq_true rfl, Nat.le_of_ble_eq_true rfl⟩) (va_recv hK hP (ci := 2) (q0 := 0) rfl rfl) hP hD hS hA [0, 1, 2, 3, 4, 5, 6, 7, 8, 9, 10, 11, 12, 13, 14, 15, 16, 17, 18, 19, 20, 21, 22, 23, 24, 25, 26, 27, 28, 29, 30, 31, 32, 33] [] rfl rfl (by decide) (by decide) (by decide) rfl hl.1 rfl (Nat.le_of_ble_eq_true rfl) dX2_raiseWrongOnes_16 ⟨Nat.le_of_ble_eq_true rfl, Nat.le_of_ble_eq_true rfl⟩ (fun r_1 w_1 H locs hw hP hD hS => ?_)
        obtain ⟨rfl, rfl⟩ := hw
        have hP := hP.sub (ws' := (pZ z0 z1 z2 q cI (cy_up (cy_right rt oh cu wc wl pk fi wt lim) pk i) fi ++ pS q cI sn ar rt oh ++ pC q r cI cG cn no ot cu wc wl ++ pR r cI wt)) [0, 1, 2, 3, 4, 5, 6, 7, 8, 9, 10, 11, 12, 13, 14, 15, 16, 17, 18, 19, 20, 21, 22, 23, 24, 25, 26, 27, 28, 29, 30, 31, 32, 33] rfl
        have hD := hD.sub (ws' := (pZ z0 z1 z2 q cI (cy_up (cy_right rt oh cu wc wl pk fi wt lim) pk i) fi ++ pS q cI sn ar rt oh ++ pC q r cI cG cn no ot cu wc wl ++ pR r cI wt)) [0, 1, 2, 3, 4, 5, 6, 7, 8, 9, 10, 11, 12, 13, 14, 15, 16, 17, 18, 19, 20, 21, 22, 23, 24, 25, 26, 27, 28, 29, 30, 31, 32, 33] (by decide) rfl
        refine nr_if_ne (x := bN (cy_right rt oh cu wc wl (cy_up (cy_right rt oh cu wc wl pk fi wt lim) pk i) fi wt lim i)) (tgt := 52) hx hb (by unfold bN; split <;> omega) dX2_raiseWrongOnes_19 (by decide) (fun h2 => ?_) (fun h2 => ?_)
        · have e1 := (e0.symm.trans (bN_t h2))
          refine lv_iinc (v := nI (i + 1)) (lv' := [(2, .int (nI (i + 1))), (0, .ref z0), (1, .int (nI lim))]) hx hb dX2_raiseWrongOnes_52 hl (k := 2) rfl (nI_1 _) (by decide) rfl (fun ls hl => ?_)
          refine lv_goto (tgt := 2) hx hb dX2_raiseWrongOnes_55 (by decide) ?_
          rw [← cy_up_r e1] at hP hD
          exact ih (i + 1) (by omega) (by omega) (lt_s hv (fun h => by rw [e1] at h; cases h)) (by rw [cy_up_r e1]; exact hp6) _ _ _ hP hD hS (lv_sub hl [1, 2, 0] rfl)
        · have e1 := (e0.symm.trans (bN_f h2))
          have e2 := cy_up_at (cy_right rt oh cu wc wl pk fi wt lim) pk i
          refine lv_aload_n hx hb dX2_raiseWrongOnes_22 rfl (lv_at hl 0 rfl) ?_
          refine va_get (ci := 2) (v := .ref z1) (C := RX2) (T := TX2) (N := 5) hx hb hbw in_X2 hown hK hP 0 rfl rfl 3 (by decide) (hbw _ m_144) (fun _ h9 => h9) rfl dX2_raiseWrongOnes_23 ?_
          refine lv_iload_n hx hb dX2_raiseWrongOnes_26 rfl (lv_at hl 2 rfl) ?_
          refine nr_iald hx hb hK hP 1 0 rfl rfl (k := i) (by omega) (by omega) dX2_raiseWrongOnes_27 ?_
          have b_2 := hp6 i
          refine lv_iconst (v := nI 1) hx hb dX2_raiseWrongOnes_28 (by decide) ?_
          refine nr_iadd hx hb dX2_raiseWrongOnes_29 ?_
          refine lv_aload_n hx hb dX2_raiseWrongOnes_30 rfl (lv_at hl 0 rfl) ?_
          refine va_get (ci := 2) (v := .ref (q 7)) (C := RX2) (T := TX2) (N := 5) hx hb hbw in_X2 hown hK hP 0 rfl rfl 1 (by decide) (hbw _ m_142) (fun _ h9 => h9) rfl dX2_raiseWrongOnes_31 ?_
          refine va_getN (ci := 1) (v := .int (nI sn)) (C := RX1) (T := TX1) (N := 4) hx hb hbw in_X1 hown hK hP 3 rfl rfl 0 (by decide) (va_Nw.use rfl (hEN.2 _ (List.mem_filter.mpr ⟨mn_61, rfl⟩))) (fun _ h9 => h9) rfl dX2_raiseWrongOnes_34 ?_
          refine nr_icmp_lt (x := ((cy_up (cy_right rt oh cu wc wl pk fi wt lim) pk i) i) + 1) (y := sn) (tgt := 42) hx hb (by omega) (by omega) dX2_raiseWrongOnes_37 (by decide) (fun h3 => ?_) (fun h3 => ?_)
          · refine lv_aload_n hx hb dX2_raiseWrongOnes_42 rfl (lv_at hl 0 rfl) ?_
            refine va_get (ci := 2) (v := .ref z1) (C := RX2) (T := TX2) (N := 5) hx hb hbw in_X2 hown hK hP 0 rfl rfl 3 (by decide) (hbw _ m_144) (fun _ h9 => h9) rfl dX2_raiseWrongOnes_43 ?_
            refine lv_iload_n hx hb dX2_raiseWrongOnes_46 rfl (lv_at hl 2 rfl) ?_
            refine lv_dup2_11 hx hb dX2_raiseWrongOnes_47 rfl rfl ?_
            refine nr_iald hx hb hK hP 1 0 rfl rfl (k := i) (by omega) (by omega) dX2_raiseWrongOnes_48 ?_
            have b_3 := hp6 i
            refine lv_iconst (v := nI 1) hx hb dX2_raiseWrongOnes_49 (by decide) ?_
            refine nr_iadd hx hb dX2_raiseWrongOnes_50 ?_
            refine nr_iast hx hb hK hP hD hS 1 0 rfl rfl (k := i) (v := ((cy_up (cy_right rt oh cu wc wl pk fi wt lim) pk i) i) + 1) (by omega) (by omega) dX2_raiseWrongOnes_51 (fun H locs hP hD hS => ?_)
            have hP : va_P D vwCl (pZ z0 z1 z2 q cI (nr_up (cy_up (cy_right rt oh cu wc wl pk fi wt lim) pk i) i (((cy_up (cy_right rt oh cu wc wl pk fi wt lim) pk i) i) + 1)) fi ++ pS q cI sn ar rt oh ++ pC q r cI cG cn no ot cu wc wl ++ pR r cI wt) H := hP
            have hD : va_D A (pZ z0 z1 z2 q cI (nr_up (cy_up (cy_right rt oh cu wc wl pk fi wt lim) pk i) i (((cy_up (cy_right rt oh cu wc wl pk fi wt lim) pk i) i) + 1)) fi ++ pS q cI sn ar rt oh ++ pC q r cI cG cn no ot cu wc wl ++ pR r cI wt) := hD
            rw [cy_up_w e1] at hP hD
            refine lv_iinc (v := nI (i + 1)) (lv' := [(2, .int (nI (i + 1))), (0, .ref z0), (1, .int (nI lim))]) hx hb dX2_raiseWrongOnes_52 hl (k := 2) rfl (nI_1 _) (by decide) rfl (fun ls hl => ?_)
            refine lv_goto (tgt := 2) hx hb dX2_raiseWrongOnes_55 (by decide) ?_
            exact ih (i + 1) (by omega) (by omega) (lt_s hv (fun _ => by omega)) (fun j => by by_cases e : j = i; rw [e, ← cy_up_w e1, nr_up_s]; omega; rw [← cy_up_w e1, nr_up_n _ _ e]; exact hp6 j) _ _ _ hP hD hS (lv_sub hl [1, 2, 0] rfl)
          · refine lv_iconst (v := nI 0) hx hb dX2_raiseWrongOnes_40 (by decide) ?_
            rw [hQ]
            exact ct_zret hx hb hr hlocks hP hD hS dX2_raiseWrongOnes_41 (by first | exact Or.inl rfl | exact Or.inr rfl) ⟨_, rfl, hp6, Or.inr ⟨rfl, i, h1, e1, by omega⟩⟩
  exact lp (cn + 1) 0 (by omega) (Nat.zero_le cn) (lt_0) (by rw [cy_up_0]; exact hpk) H locs ls hP hD hS (lv_sub hl [1, 2, 0] rfl)
set_option maxHeartbeats 4000000 in
set_option maxRecDepth 100000 in
/-- Sizing.sumOfCopper -/
theorem kX2_sumOfCopper (l : Launch) (D : va_G) (cI cG cL cB : ClassId) (z0 z1 z2 : Nat) (q r : Nat → Nat) (pk fi : Nat → Nat) (sn : Nat) (ar rt oh : Nat → Nat) (cn : Nat) (no ot cu wc wl : Nat → Nat) (wt : Nat → Nat → Nat) (hz : okZ sn ar rt oh cn cu wc wl wt) (hpk : ∀ j, pk j < 6) (hfi : ∀ j, fi j ≤ 18000000) : ct_i l yX2_sumOfCopper (.code yX2_sumOfCopper cX2_sumOfCopper 3 (some .int) :: bw) ({ frames := 0, cells := 0, slots := 0, locals := 0 }) (EN D (tyL cI cG cL cB)) D vwCl (pZ z0 z1 z2 q cI pk fi ++ pS q cI sn ar rt oh ++ pC q r cI cG cn no ot cu wc wl) [.ref z0] (fun v W => W = pZ z0 z1 z2 q cI pk fi ++ pS q cI sn ar rt oh ++ pC q r cI cG cn no ot cu wc wl ∧ v = nI (cz_sum (fun c => ar (pk c) * wl c) cn)) 0 0 := by
  refine ct_ofi (by decide) (Nat.le_of_ble_eq_true rfl) ?_
  intro p e s m below meth cd A H locs av Q ls hx hb hr hml hown hlocks hnm hbw hEN hQ hP hD hS hA hl
  have hown : s.vm.findClass RX2 = some m.cls := hown
  have hK := hEN.1
  have hl : lv_has ls 3 [(0, .ref z0)] := hl
  obtain ⟨hsn, har, hrt, hoh, hcn, hcu, hwc, hwl, hwt⟩ := id hz
  refine lv_iconst (v := nI 0) hx hb dX2_sumOfCopper_0 (by decide) ?_
  refine lv_istore_n (lv' := [(1, .int (nI 0)), (0, .ref z0)]) hx hb dX2_sumOfCopper_1 rfl hl (by decide) rfl (fun ls hl => ?_)
  refine lv_iconst (v := nI 0) hx hb dX2_sumOfCopper_2 (by decide) ?_
  refine lv_istore_n (lv' := [(2, .int (nI 0)), (1, .int (nI 0)), (0, .ref z0)]) hx hb dX2_sumOfCopper_3 rfl hl (by decide) rfl (fun ls hl => ?_)
  have lp : ∀ (k : Nat) (i : Nat), (hk : cn < i + k) → (hi : i ≤ cn) → ∀ (H : Heap) (locs : List Loc) (ls : Array Slot), va_P D vwCl (pZ z0 z1 z2 q cI pk fi ++ pS q cI sn ar rt oh ++ pC q r cI cG cn no ot cu wc wl) H → va_D A (pZ z0 z1 z2 q cI pk fi ++ pS q cI sn ar rt oh ++ pC q r cI cG cn no ot cu wc wl) → va_S A s.heap H locs → lv_has ls 3 [(0, .ref z0), (1, .int (nI (cz_sum (fun c => ar (pk c) * wl c) i))), (2, .int (nI i))] → W p l e ({ frames := 0, cells := 0, slots := 0, locals := 0 }) s m av below meth cd H locs 0 0 Q (F0 m 4 ls []) := by
    intro k
    induction k with
    | zero => intro i hk hi; exact absurd hk (by omega)
    | succ k ih =>
      intro i hk hi H locs ls hP hD hS hl
      refine lv_iload_n hx hb dX2_sumOfCopper_4 rfl (lv_at hl 2 rfl) ?_
      refine lv_aload_n hx hb dX2_sumOfCopper_5 rfl (lv_at hl 0 rfl) ?_
      refine va_get (ci := 2) (v := .ref (q 11)) (C := RX2) (T := TX2) (N := 5) hx hb hbw in_X2 hown hK hP 0 rfl rfl 2 (by decide) (hbw _ m_143) (fun _ h9 => h9) rfl dX2_sumOfCopper_6 ?_
      refine va_getN (ci := 0) (v := .int (nI cn)) (C := RX0) (T := TX0) (N := 7) hx hb hbw in_X0 hown hK hP 7 rfl rfl 0 (by decide) (va_Nw.use rfl (hEN.2 _ (List.mem_filter.mpr ⟨mn_87, rfl⟩))) (fun _ h9 => h9) rfl dX2_sumOfCopper_9 ?_
      refine nr_icmp_ge (x := i) (y := cn) (tgt := 48) hx hb (by omega) (by omega) dX2_sumOfCopper_12 (by decide) (fun h1 => ?_) (fun h1 => ?_)
      · obtain rfl : i = cn := by omega
        refine lv_iload_n hx hb dX2_sumOfCopper_48 rfl (lv_at hl 1 rfl) ?_
        rw [hQ]
        exact ct_iret hx hb hr hlocks hP hD hS dX2_sumOfCopper_49 ⟨rfl, rfl⟩
      · refine lv_iload_n hx hb dX2_sumOfCopper_15 rfl (lv_at hl 1 rfl) ?_
        refine lv_aload_n hx hb dX2_sumOfCopper_16 rfl (lv_at hl 0 rfl) ?_
        refine va_get (ci := 2) (v := .ref (q 7)) (C := RX2) (T := TX2) (N := 5) hx hb hbw in_X2 hown hK hP 0 rfl rfl 1 (by decide) (hbw _ m_142) (fun _ h9 => h9) rfl dX2_sumOfCopper_17 ?_
        refine va_getN (ci := 1) (v := .ref (q 8)) (C := RX1) (T := TX1) (N := 4) hx hb hbw in_X1 hown hK hP 3 rfl rfl 1 (by decide) (va_Nw.use rfl (hEN.2 _ (List.mem_filter.mpr ⟨mn_64, rfl⟩))) (fun _ h9 => h9) rfl dX2_sumOfCopper_20 ?_
        refine lv_aload_n hx hb dX2_sumOfCopper_23 rfl (lv_at hl 0 rfl) ?_
        refine va_get (ci := 2) (v := .ref z1) (C := RX2) (T := TX2) (N := 5) hx hb hbw in_X2 hown hK hP 0 rfl rfl 3 (by decide) (hbw _ m_144) (fun _ h9 => h9) rfl dX2_sumOfCopper_24 ?_
        refine lv_iload_n hx hb dX2_sumOfCopper_27 rfl (lv_at hl 2 rfl) ?_
        refine nr_iald hx hb hK hP 1 0 rfl rfl (k := i) (by omega) (by omega) dX2_sumOfCopper_28 ?_
        have b_1 := hpk i
        refine nr_iald hx hb hK hP 4 0 rfl rfl (k := pk i) (by omega) (by omega) dX2_sumOfCopper_29 ?_
        have b_2 := har (pk i)
        refine lv_aload_n hx hb dX2_sumOfCopper_30 rfl (lv_at hl 0 rfl) ?_
        refine va_get (ci := 2) (v := .ref (q 11)) (C := RX2) (T := TX2) (N := 5) hx hb hbw in_X2 hown hK hP 0 rfl rfl 2 (by decide) (hbw _ m_143) (fun _ h9 => h9) rfl dX2_sumOfCopper_31 ?_
        refine va_getN (ci := 0) (v := .ref (q 16)) (C := RX0) (T := TX0) (N := 7) hx hb hbw in_X0 hown hK hP 7 rfl rfl 5 (by decide) (va_Nw.use rfl (hEN.2 _ (List.mem_filter.mpr ⟨mn_98, rfl⟩))) (fun _ h9 => h9) rfl dX2_sumOfCopper_34 ?_
        refine lv_iload_n hx hb dX2_sumOfCopper_37 rfl (lv_at hl 2 rfl) ?_
        refine nr_iald hx hb hK hP 12 0 rfl rfl (k := i) (by omega) (by omega) dX2_sumOfCopper_38 ?_
        have b_3 := hwl i
        refine nr_imul hx hb dX2_sumOfCopper_39 ?_
        refine nr_iadd hx hb dX2_sumOfCopper_40 ?_
        refine lv_istore_n (lv' := [(1, .int (nI ((cz_sum (fun c => ar (pk c) * wl c) i) + ((ar (pk i)) * (wl i))))), (0, .ref z0), (2, .int (nI i))]) hx hb dX2_sumOfCopper_41 rfl hl (by decide) rfl (fun ls hl => ?_)
        refine lv_iinc (v := nI (i + 1)) (lv' := [(2, .int (nI (i + 1))), (1, .int (nI ((cz_sum (fun c => ar (pk c) * wl c) i) + ((ar (pk i)) * (wl i))))), (0, .ref z0)]) hx hb dX2_sumOfCopper_42 hl (k := 2) rfl (nI_1 _) (by decide) rfl (fun ls hl => ?_)
        refine lv_goto (tgt := 4) hx hb dX2_sumOfCopper_45 (by decide) ?_
        exact ih (i + 1) (by omega) (by omega) _ _ _ hP hD hS (lv_sub hl [2, 1, 0] rfl)
  exact lp (cn + 1) 0 (by omega) (Nat.zero_le cn) H locs ls hP hD hS (lv_sub hl [2, 1, 0] rfl)
end
section
/-! the climbing, pure: round by round every wrong cable goes up by one -/
theorem cz_occ_bd {wc : Nat → Nat} {wt : Nat → Nat → Nat} {c t : Nat} (h : wc c ≤ 9) : cz_occ wc wt c t ≤ 9 := by
  have h1 : cz_occ wc wt c t ≤ wc c * 1 := cz_sum_bd (fun j _ => by split <;> omega)
  omega
theorem cz_load_bd {C : Nat} {ar wc pk : Nat → Nat} {wt : Nat → Nat → Nat} {t : Nat} (h1 : C ≤ 20) (h2 : ∀ j, ar j ≤ 100) (h3 : ∀ j, wc j ≤ 9) : cz_load C ar wc wt pk t ≤ 18000 := by
  have h4 : cz_load C ar wc wt pk t ≤ C * (9 * 100) := cz_sum_bd (fun c _ => Nat.mul_le_mul (cz_occ_bd (h3 c)) (h2 (pk c)))
  have h5 : C * (9 * 100) ≤ 20 * (9 * 100) := Nat.mul_le_mul_right _ h1
  omega
theorem cz_mg_congr {fi fi' : Nat → Nat} {wt : Nat → Nat → Nat} {c : Nat} : ∀ {k : Nat}, (∀ i, i < k → fi (wt c i) = fi' (wt c i)) → cz_mg fi wt c k = cz_mg fi' wt c k
  | 0, _ => rfl
  | k + 1, h => by
    show min _ _ = min _ _
    rw [cz_mg_congr (fun i hi => h i (Nat.lt_succ_of_lt hi)), h k (Nat.lt_succ_self k)]
theorem cy_right_fi {rt oh cu wc wl pk fi fi' : Nat → Nat} {wt : Nat → Nat → Nat} {lim c : Nat} (h : ∀ i, i < wc c → fi (wt c i) = fi' (wt c i)) : cy_right rt oh cu wc wl pk fi wt lim c = cy_right rt oh cu wc wl pk fi' wt lim c := by
  unfold cy_right cy_carry
  rw [cz_mg_congr h]
section CS
variable (C S : Nat) (ar rt oh cu wc wl rm : Nat → Nat) (wt : Nat → Nat → Nat) (lim : Nat)
/-- whether cable c is right with the sizes p -/
def cs_rg (p : Nat → Nat) (c : Nat) : Bool := cy_right rt oh cu wc wl p (cz_fill C ar wc rm wt p) wt lim c
/-- the sizes behind m rounds -/
def cs_it : Nat → Nat → Nat
  | 0 => fun _ => 0
  | m + 1 => cy_up (cs_rg C ar rt oh cu wc wl rm wt lim (cs_it m)) (cs_it m) C
def cs_good (p : Nat → Nat) : Prop := ∀ c, c < C → cs_rg C ar rt oh cu wc wl rm wt lim p c = true
def cs_stuck (p : Nat → Nat) : Prop := ∃ c, c < C ∧ cs_rg C ar rt oh cu wc wl rm wt lim p c = false ∧ S ≤ p c + 1
/-- m rounds went up -/
def cs_go (m : Nat) : Prop := ∀ j, j < m → ¬ cs_good C ar rt oh cu wc wl rm wt lim (cs_it C ar rt oh cu wc wl rm wt lim j) ∧ ¬ cs_stuck C S ar rt oh cu wc wl rm wt lim (cs_it C ar rt oh cu wc wl rm wt lim j)
end CS
section CT2
variable {C S : Nat} {ar rt oh cu wc wl rm : Nat → Nat} {wt : Nat → Nat → Nat} {lim : Nat}
theorem cs_bound (hS : C = 0 ∨ 0 < S) : ∀ (m : Nat), cs_go C S ar rt oh cu wc wl rm wt lim m → (∀ c, c < C → cs_it C ar rt oh cu wc wl rm wt lim m c < S) ∧ m ≤ cz_sum (cs_it C ar rt oh cu wc wl rm wt lim m) C
  | 0, _ => ⟨fun c hc => by show 0 < S; omega, Nat.zero_le _⟩
  | m + 1, h => by
    obtain ⟨h1, h2⟩ := cs_bound hS m (fun j hj => h j (Nat.lt_succ_of_lt hj))
    obtain ⟨h3, h4⟩ := h m (Nat.lt_succ_self m)
    have key : ∀ c, c < C → cs_it C ar rt oh cu wc wl rm wt lim m c ≤ cs_it C ar rt oh cu wc wl rm wt lim (m + 1) c ∧ cs_it C ar rt oh cu wc wl rm wt lim (m + 1) c < S ∧ (cs_rg C ar rt oh cu wc wl rm wt lim (cs_it C ar rt oh cu wc wl rm wt lim m) c = false → cs_it C ar rt oh cu wc wl rm wt lim m c < cs_it C ar rt oh cu wc wl rm wt lim (m + 1) c) := by
      intro c hc
      show _ ≤ cy_up _ _ _ c ∧ cy_up _ _ _ c < S ∧ (_ → _ < cy_up _ _ _ c)
      unfold cy_up
      split
      · rename_i e
        refine ⟨by omega, ?_, fun _ => by omega⟩
        exact Nat.lt_of_not_le (fun q => h4 ⟨c, hc, e.2, q⟩)
      · rename_i e
        exact ⟨Nat.le_refl _, h1 c hc, fun q => absurd ⟨hc, q⟩ e⟩
    refine ⟨fun c hc => (key c hc).2.1, ?_⟩
    have h5 : ∃ c, c < C ∧ cs_rg C ar rt oh cu wc wl rm wt lim (cs_it C ar rt oh cu wc wl rm wt lim m) c = false := by
      apply Classical.byContradiction
      intro hn
      refine h3 (fun c hc => ?_)
      cases hq : cs_rg C ar rt oh cu wc wl rm wt lim (cs_it C ar rt oh cu wc wl rm wt lim m) c with
      | true => rfl
      | false => exact absurd ⟨c, hc, hq⟩ hn
    obtain ⟨c, hc, hw⟩ := h5
    have h6 := cz_rs_sum (fun c hc => (key c hc).1) ⟨c, hc, (key c hc).2.2 hw⟩
    omega
theorem cs_rounds (hS : C = 0 ∨ 0 < S) (hC : C ≤ 20) (hS6 : S ≤ 6) {m : Nat} (h : cs_go C S ar rt oh cu wc wl rm wt lim m) : m ≤ 100 := by
  obtain ⟨h1, h2⟩ := cs_bound hS m h
  have h3 : cz_sum (cs_it C ar rt oh cu wc wl rm wt lim m) C ≤ C * 5 := cz_sum_bd (fun c hc => by have := h1 c hc; omega)
  omega
/-- the end is one -/
theorem cs_end_uniq {m m' : Nat} (h : cs_go C S ar rt oh cu wc wl rm wt lim m) (h' : cs_go C S ar rt oh cu wc wl rm wt lim m') (e : cs_good C ar rt oh cu wc wl rm wt lim (cs_it C ar rt oh cu wc wl rm wt lim m) ∨ cs_stuck C S ar rt oh cu wc wl rm wt lim (cs_it C ar rt oh cu wc wl rm wt lim m)) (e' : cs_good C ar rt oh cu wc wl rm wt lim (cs_it C ar rt oh cu wc wl rm wt lim m') ∨ cs_stuck C S ar rt oh cu wc wl rm wt lim (cs_it C ar rt oh cu wc wl rm wt lim m')) : m = m' := by
  rcases Nat.lt_trichotomy m m' with q | q | q
  · have := h' m q
    rcases e with e | e
    · exact absurd e this.1
    · exact absurd e this.2
  · exact q
  · have := h m' q
    rcases e' with e | e
    · exact absurd e this.1
    · exact absurd e this.2
theorem cs_not_both {p : Nat → Nat} (h1 : cs_good C ar rt oh cu wc wl rm wt lim p) (h2 : cs_stuck C S ar rt oh cu wc wl rm wt lim p) : False := by
  obtain ⟨c, hc, h3, -⟩ := h2
  rw [h1 c hc] at h3
  cases h3
end CT2
end
section
set_option maxHeartbeats 4000000 in
set_option maxRecDepth 100000 in
/-- Sizing.fillTrays -/
theorem kX2_fillTrays (l : Launch) (D : va_G) (cI cG cL cB : ClassId) (z0 z1 z2 : Nat) (q r : Nat → Nat) (pk fi : Nat → Nat) (sn : Nat) (ar rt oh : Nat → Nat) (cn : Nat) (no ot cu wc wl : Nat → Nat) (wt : Nat → Nat → Nat) (n : Nat) (a b le ro di : Nat → Nat) (hz : okZ sn ar rt oh cn cu wc wl wt) (hpk : ∀ j, pk j < 6) (hn : n ≤ 15) (hro : ∀ j, ro j ≤ 1000) (hro1 : ∀ j, j < n → 1 ≤ ro j) : ct_v l yX2_fillTrays (.code yX2_fillTrays cX2_fillTrays 3 none :: bw) ({ frames := 1, cells := 0, slots := 0, locals := 23 }) (EN D (tyL cI cG cL cB)) D vwCl (pZ z0 z1 z2 q cI pk fi ++ pT q cI n a b le ro di ++ pS q cI sn ar rt oh ++ pC q r cI cG cn no ot cu wc wl ++ pR r cI wt) [.ref z0] (fun W => ∃ fi', W = pZ z0 z1 z2 q cI pk fi' ++ pT q cI n a b le ro di ++ pS q cI sn ar rt oh ++ pC q r cI cG cn no ot cu wc wl ++ pR r cI wt ∧ (∀ t, t < n → fi' t = cz_fill cn ar wc ro wt pk t) ∧ ∀ j, fi' j ≤ 18000000) 0 0 := by
  refine ct_ofv (by decide) (Nat.le_of_ble_eq_true rfl) ?_
  intro p e s m below meth cd A H locs av Q ls hx hb hr hml hown hlocks hnm hbw hEN hQ hP hD hS hA hl
  have hown : s.vm.findClass RX2 = some m.cls := hown
  have hK := hEN.1
  have hl : lv_has ls 3 [(0, .ref z0)] := hl
  obtain ⟨hsn, har, hrt, hoh, hcn, hcu, hwc, hwl, hwt⟩ := id hz
  refine lv_aload_n hx hb dX2_fillTrays_0 rfl (lv_at hl 0 rfl) ?_
  refine va_get (ci := 2) (v := .ref z2) (C := RX2) (T := TX2) (N := 5) hx hb hbw in_X2 hown hK hP 0 rfl rfl 4 (by decide) (hbw _ m_146) (fun _ h9 => h9) rfl dX2_fillTrays_1 ?_
  refine lv_iconst (v := nI 0) hx hb dX2_fillTrays_4 (by decide) ?_
  refine ct_Sv (wc := [iA z2 cI 15 fi]) (wr := ([(z0, .inr (2, [.ref (q 1), .ref (q 7), .ref (q 11), .ref z1, .ref z2])), iA z1 cI 20 pk] ++ pT q cI n a b le ro di ++ pS q cI sn ar rt oh ++ pC q r cI cG cn no ot cu wc wl ++ pR r cI wt)) (As := [.ref z2, .int (nI 0)]) (rest := []) ⟨hx, hb, hml, hown, hbw⟩ (EN_E D _) hEN (kJ_fill l D cI cG cL cB z2 15 fi 0 (by omega)) (gS 2 hbw m_197 m_198 m_29 m_199 rfl rfl (by decide +kernel) ⟨Nat.le_of_ble_eq_true rfl, Nat.le_of_ble_eq_true rfl⟩) hP hD hS hA [2] [0, 1, 3, 4, 5, 6, 7, 8, 9, 10, 11, 12, 13, 14, 15, 16, 17, 18, 19, 20, 21, 22, 23, 24, 25, 26, 27, 28, 29, 30, 31, 32, 33, 34, 35, 36, 37, 38, 39] rfl rfl (by decide) (by decide) (by decide) rfl hl.1 rfl (Nat.le_of_ble_eq_true rfl) dX2_fillTrays_5 ⟨Nat.le_of_ble_eq_true rfl, Nat.le_of_ble_eq_true rfl⟩ (fun w_1 H locs hw hP hD hS => ?_)
  obtain rfl := hw
  have hP := hP.sub (ws' := (pZ z0 z1 z2 q cI pk (fun _ => 0) ++ pT q cI n a b le ro di ++ pS q cI sn ar rt oh ++ pC q r cI cG cn no ot cu wc wl ++ pR r cI wt)) [0, 1, 39, 2, 3, 4, 5, 6, 7, 8, 9, 10, 11, 12, 13, 14, 15, 16, 17, 18, 19, 20, 21, 22, 23, 24, 25, 26, 27, 28, 29, 30, 31, 32, 33, 34, 35, 36, 37, 38] rfl
  have hD := hD.sub (ws' := (pZ z0 z1 z2 q cI pk (fun _ => 0) ++ pT q cI n a b le ro di ++ pS q cI sn ar rt oh ++ pC q r cI cG cn no ot cu wc wl ++ pR r cI wt)) [0, 1, 39, 2, 3, 4, 5, 6, 7, 8, 9, 10, 11, 12, 13, 14, 15, 16, 17, 18, 19, 20, 21, 22, 23, 24, 25, 26, 27, 28, 29, 30, 31, 32, 33, 34, 35, 36, 37, 38] (by decide) rfl
  refine lv_iconst (v := nI 0) hx hb dX2_fillTrays_8 (by decide) ?_
  refine lv_istore_n (lv' := [(1, .int (nI 0)), (0, .ref z0)]) hx hb dX2_fillTrays_9 rfl hl (by decide) rfl (fun ls hl => ?_)
  have lp : ∀ (k : Nat) (c : Nat) (fi : Nat → Nat), (hk : cn < c + k) → (hi : c ≤ cn) → (hv : ∀ t, fi t = cz_sum (fun c => cz_occ wc wt c t * ar (pk c)) c) → ∀ (H : Heap) (locs : List Loc) (ls : Array Slot), va_P D vwCl (pZ z0 z1 z2 q cI pk fi ++ pT q cI n a b le ro di ++ pS q cI sn ar rt oh ++ pC q r cI cG cn no ot cu wc wl ++ pR r cI wt) H → va_D A (pZ z0 z1 z2 q cI pk fi ++ pT q cI n a b le ro di ++ pS q cI sn ar rt oh ++ pC q r cI cG cn no ot cu wc wl ++ pR r cI wt) → va_S A s.heap H locs → lv_has ls 3 [(0, .ref z0), (1, .int (nI c))] → W p l e ({ frames := 1, cells := 0, slots := 0, locals := 23 }) s m av below meth cd H locs 0 0 Q (F0 m 10 ls []) := by
    intro k
    induction k with
    | zero => intro c fi hk hi hv; exact absurd hk (by omega)
    | succ k ih =>
      intro c fi hk hi hv H locs ls hP hD hS hl
      refine lv_iload_n hx hb dX2_fillTrays_10 rfl (lv_at hl 1 rfl) ?_
      refine lv_aload_n hx hb dX2_fillTrays_11 rfl (lv_at hl 0 rfl) ?_
      refine va_get (ci := 2) (v := .ref (q 11)) (C := RX2) (T := TX2) (N := 5) hx hb hbw in_X2 hown hK hP 0 rfl rfl 2 (by decide) (hbw _ m_143) (fun _ h9 => h9) rfl dX2_fillTrays_12 ?_
      refine va_getN (ci := 0) (v := .int (nI cn)) (C := RX0) (T := TX0) (N := 7) hx hb hbw in_X0 hown hK hP 13 rfl rfl 0 (by decide) (va_Nw.use rfl (hEN.2 _ (List.mem_filter.mpr ⟨mn_87, rfl⟩))) (fun _ h9 => h9) rfl dX2_fillTrays_15 ?_
      refine nr_icmp_ge (x := c) (y := cn) (tgt := 81) hx hb (by omega) (by omega) dX2_fillTrays_18 (by decide) (fun h1 => ?_) (fun h1 => ?_)
      · obtain rfl : cn = c := by omega
        have hb9 : ∀ t, fi t ≤ 18000 := fun t => by rw [hv t]; exact cz_load_bd hcn har hwc
        refine lv_iconst (v := nI 0) hx hb dX2_fillTrays_81 (by decide) ?_
        refine lv_istore_n (lv' := [(1, .int (nI 0)), (0, .ref z0)]) hx hb dX2_fillTrays_82 rfl hl (by decide) rfl (fun ls hl => ?_)
        have l3 : ∀ (k : Nat) (t : Nat) (fi : Nat → Nat), (hk3 : n < t + k) → (ht : t ≤ n) → (hv1 : ∀ j, j < t → fi j = cz_fill cn ar wc ro wt pk j) → (hv2 : ∀ j, t ≤ j → fi j = cz_load cn ar wc wt pk j) → (hv3 : ∀ j, fi j ≤ 18000000) → ∀ (H : Heap) (locs : List Loc) (ls : Array Slot), va_P D vwCl (pZ z0 z1 z2 q cI pk fi ++ pT q cI n a b le ro di ++ pS q cI sn ar rt oh ++ pC q r cI cG cn no ot cu wc wl ++ pR r cI wt) H → va_D A (pZ z0 z1 z2 q cI pk fi ++ pT q cI n a b le ro di ++ pS q cI sn ar rt oh ++ pC q r cI cG cn no ot cu wc wl ++ pR r cI wt) → va_S A s.heap H locs → lv_has ls 3 [(0, .ref z0), (1, .int (nI t))] → W p l e ({ frames := 1, cells := 0, slots := 0, locals := 23 }) s m av below meth cd H locs 0 0 Q (F0 m 83 ls []) := by
          intro k
          induction k with
          | zero => intro t fi hk3 ht hv1 hv2 hv3; exact absurd hk3 (by omega)
          | succ k ih3 =>
            intro t fi hk3 ht hv1 hv2 hv3 H locs ls hP hD hS hl
            refine lv_iload_n hx hb dX2_fillTrays_83 rfl (lv_at hl 1 rfl) ?_
            refine lv_aload_n hx hb dX2_fillTrays_84 rfl (lv_at hl 0 rfl) ?_
            refine va_get (ci := 2) (v := .ref (q 1)) (C := RX2) (T := TX2) (N := 5) hx hb hbw in_X2 hown hK hP 0 rfl rfl 0 (by decide) (hbw _ m_141) (fun _ h9 => h9) rfl dX2_fillTrays_85 ?_
            refine va_getN (ci := 3) (v := .int (nI n)) (C := RX3) (T := TX3) (N := 6) hx hb hbw in_X3 hown hK hP 3 rfl rfl 0 (by decide) (va_Nw.use rfl (hEN.2 _ (List.mem_filter.mpr ⟨mn_30, rfl⟩))) (fun _ h9 => h9) rfl dX2_fillTrays_88 ?_
            refine nr_icmp_ge (x := t) (y := n) (tgt := 126) hx hb (by omega) (by omega) dX2_fillTrays_91 (by decide) (fun h2 => ?_) (fun h2 => ?_)
            · obtain rfl : t = n := by omega
              rw [hQ]
              exact ct_vret hx hb hr hlocks hP hD hS dX2_fillTrays_126 ⟨fi, rfl, hv1, hv3⟩
            · have c_1 := hv2 t (Nat.le_refl t)
              have c_2 : cz_load cn ar wc wt pk t ≤ 18000 := cz_load_bd hcn har hwc
              have c_3 := hro1 t h2
              refine lv_aload_n hx hb dX2_fillTrays_94 rfl (lv_at hl 0 rfl) ?_
              refine va_get (ci := 2) (v := .ref z2) (C := RX2) (T := TX2) (N := 5) hx hb hbw in_X2 hown hK hP 0 rfl rfl 4 (by decide) (hbw _ m_146) (fun _ h9 => h9) rfl dX2_fillTrays_95 ?_
              refine lv_iload_n hx hb dX2_fillTrays_98 rfl (lv_at hl 1 rfl) ?_
              refine lv_aload_n hx hb dX2_fillTrays_99 rfl (lv_at hl 0 rfl) ?_
              refine va_get (ci := 2) (v := .ref z2) (C := RX2) (T := TX2) (N := 5) hx hb hbw in_X2 hown hK hP 0 rfl rfl 4 (by decide) (hbw _ m_146) (fun _ h9 => h9) rfl dX2_fillTrays_100 ?_
              refine lv_iload_n hx hb dX2_fillTrays_103 rfl (lv_at hl 1 rfl) ?_
              refine nr_iald hx hb hK hP 2 0 rfl rfl (k := t) (by omega) (by omega) dX2_fillTrays_104 ?_
              refine lv_sipush (v := nI 1000) hx hb dX2_fillTrays_105 (by decide) ?_
              refine nr_imul hx hb dX2_fillTrays_108 ?_
              refine lv_aload_n hx hb dX2_fillTrays_109 rfl (lv_at hl 0 rfl) ?_
              refine va_get (ci := 2) (v := .ref (q 1)) (C := RX2) (T := TX2) (N := 5) hx hb hbw in_X2 hown hK hP 0 rfl rfl 0 (by decide) (hbw _ m_141) (fun _ h9 => h9) rfl dX2_fillTrays_110 ?_
              refine va_getN (ci := 3) (v := .ref (q 5)) (C := RX3) (T := TX3) (N := 6) hx hb hbw in_X3 hown hK hP 3 rfl rfl 4 (by decide) (va_Nw.use rfl (hEN.2 _ (List.mem_filter.mpr ⟨mn_36, rfl⟩))) (fun _ h9 => h9) rfl dX2_fillTrays_113 ?_
              refine lv_iload_n hx hb dX2_fillTrays_116 rfl (lv_at hl 1 rfl) ?_
              refine nr_iald hx hb hK hP 7 0 rfl rfl (k := t) (by omega) (by omega) dX2_fillTrays_117 ?_
              have b_2 := hro t
              refine nr_idiv hx hb (by omega) (by omega) (by omega) dX2_fillTrays_118 ?_
              refine nr_iast hx hb hK hP hD hS 2 0 rfl rfl (k := t) (v := ((fi t) * 1000) / (ro t)) (by omega) (by omega) dX2_fillTrays_119 (fun H locs hP hD hS => ?_)
              have hP : va_P D vwCl (pZ z0 z1 z2 q cI pk (nr_up fi t (((fi t) * 1000) / (ro t))) ++ pT q cI n a b le ro di ++ pS q cI sn ar rt oh ++ pC q r cI cG cn no ot cu wc wl ++ pR r cI wt) H := hP
              have hD : va_D A (pZ z0 z1 z2 q cI pk (nr_up fi t (((fi t) * 1000) / (ro t))) ++ pT q cI n a b le ro di ++ pS q cI sn ar rt oh ++ pC q r cI cG cn no ot cu wc wl ++ pR r cI wt) := hD
              refine lv_iinc (v := nI (t + 1)) (lv' := [(1, .int (nI (t + 1))), (0, .ref z0)]) hx hb dX2_fillTrays_120 hl (k := 1) rfl (nI_1 _) (by decide) rfl (fun ls hl => ?_)
              refine lv_goto (tgt := 83) hx hb dX2_fillTrays_123 (by decide) ?_
              have c_4 : fi t * 1000 / ro t ≤ 18000000 := Nat.le_trans (Nat.div_le_self _ _) (by omega)
              exact ih3 (t + 1) (nr_up fi t (((fi t) * 1000) / (ro t))) (by omega) (by omega) (lt_s (fun j hj => by rw [nr_up_n _ _ (Nat.ne_of_lt hj)]; exact hv1 j hj) (by rw [nr_up_s, c_1]; rfl)) (fun j hj => by rw [nr_up_n _ _ (by omega)]; exact hv2 j (by omega)) (fun j => by by_cases e : j = t; rw [e, nr_up_s]; exact c_4; rw [nr_up_n _ _ e]; exact hv3 j) _ _ _ hP hD hS (lv_sub hl [1, 0] rfl)
        exact l3 (n + 1) 0 fi (by omega) (Nat.zero_le n) (lt_0) (fun j _ => hv j) (fun j => by have := hb9 j; omega) _ _ _ hP hD hS (lv_sub hl [1, 0] rfl)
      · have b_0 := hwc c
        refine lv_iconst (v := nI 0) hx hb dX2_fillTrays_21 (by decide) ?_
        refine lv_istore_n (lv' := [(2, .int (nI 0)), (0, .ref z0), (1, .int (nI c))]) hx hb dX2_fillTrays_22 rfl hl (by decide) rfl (fun ls hl => ?_)
        have lq : ∀ (k : Nat) (i : Nat) (fi : Nat → Nat), (hk2 : 9 < i + k) → (hi2 : i ≤ wc c) → (hv2 : ∀ t, fi t = cz_sum (fun c => cz_occ wc wt c t * ar (pk c)) c + cz_sum (fun i => if wt c i = t then 1 else 0) i * ar (pk c)) → ∀ (H : Heap) (locs : List Loc) (ls : Array Slot), va_P D vwCl (pZ z0 z1 z2 q cI pk fi ++ pT q cI n a b le ro di ++ pS q cI sn ar rt oh ++ pC q r cI cG cn no ot cu wc wl ++ pR r cI wt) H → va_D A (pZ z0 z1 z2 q cI pk fi ++ pT q cI n a b le ro di ++ pS q cI sn ar rt oh ++ pC q r cI cG cn no ot cu wc wl ++ pR r cI wt) → va_S A s.heap H locs → lv_has ls 3 [(0, .ref z0), (1, .int (nI c)), (2, .int (nI i))] → W p l e ({ frames := 1, cells := 0, slots := 0, locals := 23 }) s m av below meth cd H locs 0 0 Q (F0 m 23 ls []) := by
          intro k
          induction k with
          | zero => intro i fi hk2 hi2 hv2; exact absurd hk2 (by omega)
          | succ k ih2 =>
            intro i fi hk2 hi2 hv2 H locs ls hP hD hS hl
            refine lv_iload_n hx hb dX2_fillTrays_23 rfl (lv_at hl 2 rfl) ?_
            refine lv_aload_n hx hb dX2_fillTrays_24 rfl (lv_at hl 0 rfl) ?_
            refine va_get (ci := 2) (v := .ref (q 11)) (C := RX2) (T := TX2) (N := 5) hx hb hbw in_X2 hown hK hP 0 rfl rfl 2 (by decide) (hbw _ m_143) (fun _ h9 => h9) rfl dX2_fillTrays_25 ?_
            refine va_getN (ci := 0) (v := .ref (q 15)) (C := RX0) (T := TX0) (N := 7) hx hb hbw in_X0 hown hK hP 13 rfl rfl 4 (by decide) (va_Nw.use rfl (hEN.2 _ (List.mem_filter.mpr ⟨mn_95, rfl⟩))) (fun _ h9 => h9) rfl dX2_fillTrays_28 ?_
            refine lv_iload_n hx hb dX2_fillTrays_31 rfl (lv_at hl 1 rfl) ?_
            refine nr_iald hx hb hK hP 17 0 rfl rfl (k := c) (by omega) (by omega) dX2_fillTrays_32 ?_
            have b_3 := hwc c
            refine nr_icmp_ge (x := i) (y := wc c) (tgt := 75) hx hb (by omega) (by omega) dX2_fillTrays_33 (by decide) (fun h2 => ?_) (fun h2 => ?_)
            · refine lv_iinc (v := nI (c + 1)) (lv' := [(1, .int (nI (c + 1))), (0, .ref z0), (2, .int (nI i))]) hx hb dX2_fillTrays_75 hl (k := 1) rfl (nI_1 _) (by decide) rfl (fun ls hl => ?_)
              refine lv_goto (tgt := 10) hx hb dX2_fillTrays_78 (by decide) ?_
              obtain rfl : i = wc c := by omega
              exact ih (c + 1) fi (by omega) (by omega) hv2 _ _ _ hP hD hS (lv_sub hl [1, 0] rfl)
            · refine lv_aload_n hx hb dX2_fillTrays_36 rfl (lv_at hl 0 rfl) ?_
              refine va_get (ci := 2) (v := .ref z2) (C := RX2) (T := TX2) (N := 5) hx hb hbw in_X2 hown hK hP 0 rfl rfl 4 (by decide) (hbw _ m_146) (fun _ h9 => h9) rfl dX2_fillTrays_37 ?_
              refine lv_aload_n hx hb dX2_fillTrays_40 rfl (lv_at hl 0 rfl) ?_
              refine va_get (ci := 2) (v := .ref (q 11)) (C := RX2) (T := TX2) (N := 5) hx hb hbw in_X2 hown hK hP 0 rfl rfl 2 (by decide) (hbw _ m_143) (fun _ h9 => h9) rfl dX2_fillTrays_41 ?_
              refine va_getN (ci := 0) (v := .ref (q 17)) (C := RX0) (T := TX0) (N := 7) hx hb hbw in_X0 hown hK hP 13 rfl rfl 6 (by decide) (va_Nw.use rfl (hEN.2 _ (List.mem_filter.mpr ⟨mn_101, rfl⟩))) (fun _ h9 => h9) rfl dX2_fillTrays_44 ?_
              refine lv_iload_n hx hb dX2_fillTrays_47 rfl (lv_at hl 1 rfl) ?_
              refine gr_ald hx hb hK hP 19 1 rfl rfl (k := c) (by omega) dX2_fillTrays_48 ?_
              refine lv_iload_n hx hb dX2_fillTrays_49 rfl (lv_at hl 2 rfl) ?_
              refine gr_iald hx hb hK hP 0 rfl (i := c) (k := i) (by omega) (by omega) dX2_fillTrays_50 ?_
              have b_4 := hwt c i
              refine lv_dup2_11 hx hb dX2_fillTrays_51 rfl rfl ?_
              refine nr_iald hx hb hK hP 2 0 rfl rfl (k := wt c i) (by omega) (by omega) dX2_fillTrays_52 ?_
              refine lv_aload_n hx hb dX2_fillTrays_53 rfl (lv_at hl 0 rfl) ?_
              refine va_get (ci := 2) (v := .ref (q 7)) (C := RX2) (T := TX2) (N := 5) hx hb hbw in_X2 hown hK hP 0 rfl rfl 1 (by decide) (hbw _ m_142) (fun _ h9 => h9) rfl dX2_fillTrays_54 ?_
              refine va_getN (ci := 1) (v := .ref (q 8)) (C := RX1) (T := TX1) (N := 4) hx hb hbw in_X1 hown hK hP 9 rfl rfl 1 (by decide) (va_Nw.use rfl (hEN.2 _ (List.mem_filter.mpr ⟨mn_64, rfl⟩))) (fun _ h9 => h9) rfl dX2_fillTrays_57 ?_
              refine lv_aload_n hx hb dX2_fillTrays_60 rfl (lv_at hl 0 rfl) ?_
              refine va_get (ci := 2) (v := .ref z1) (C := RX2) (T := TX2) (N := 5) hx hb hbw in_X2 hown hK hP 0 rfl rfl 3 (by decide) (hbw _ m_144) (fun _ h9 => h9) rfl dX2_fillTrays_61 ?_
              refine lv_iload_n hx hb dX2_fillTrays_64 rfl (lv_at hl 1 rfl) ?_
              refine nr_iald hx hb hK hP 1 0 rfl rfl (k := c) (by omega) (by omega) dX2_fillTrays_65 ?_
              have b_5 := hpk c
              refine nr_iald hx hb hK hP 10 0 rfl rfl (k := pk c) (by omega) (by omega) dX2_fillTrays_66 ?_
              have b_6 := har (pk c)
              refine nr_iadd hx hb dX2_fillTrays_67 ?_
              refine nr_iast hx hb hK hP hD hS 2 0 rfl rfl (k := wt c i) (v := (fi (wt c i)) + (ar (pk c))) (by omega) (by omega) dX2_fillTrays_68 (fun H locs hP hD hS => ?_)
              have hP : va_P D vwCl (pZ z0 z1 z2 q cI pk (nr_up fi (wt c i) ((fi (wt c i)) + (ar (pk c)))) ++ pT q cI n a b le ro di ++ pS q cI sn ar rt oh ++ pC q r cI cG cn no ot cu wc wl ++ pR r cI wt) H := hP
              have hD : va_D A (pZ z0 z1 z2 q cI pk (nr_up fi (wt c i) ((fi (wt c i)) + (ar (pk c)))) ++ pT q cI n a b le ro di ++ pS q cI sn ar rt oh ++ pC q r cI cG cn no ot cu wc wl ++ pR r cI wt) := hD
              refine lv_iinc (v := nI (i + 1)) (lv' := [(2, .int (nI (i + 1))), (0, .ref z0), (1, .int (nI c))]) hx hb dX2_fillTrays_69 hl (k := 2) rfl (nI_1 _) (by decide) rfl (fun ls hl => ?_)
              refine lv_goto (tgt := 23) hx hb dX2_fillTrays_72 (by decide) ?_
              exact ih2 (i + 1) (nr_up fi (wt c i) ((fi (wt c i)) + (ar (pk c)))) (by omega) (by omega) (fun t => by
                show _ = _ + (_ + if wt c i = t then 1 else 0) * _
                by_cases e : t = wt c i
                · rw [e, nr_up_s, hv2 (wt c i), if_pos rfl, Nat.add_mul, Nat.one_mul, Nat.add_assoc]
                · rw [nr_up_n _ _ e, hv2 t, if_neg (fun q => e q.symm), Nat.add_zero]) _ _ _ hP hD hS (lv_sub hl [1, 2, 0] rfl)
        exact lq 10 0 fi (by omega) (Nat.zero_le _) (fun t => by rw [hv t]; show _ = _ + 0 * _; rw [Nat.zero_mul, Nat.add_zero]) _ _ _ hP hD hS (lv_sub hl [1, 2, 0] rfl)
  exact lp (cn + 1) 0 (fun _ => 0) (by omega) (Nat.zero_le cn) (fun _ => rfl) H locs ls hP hD hS (lv_sub hl [1, 0] rfl)
theorem cs_six {C S : Nat} {ar rt oh cu wc wl rm : Nat → Nat} {wt : Nat → Nat → Nat} {lim m : Nat} (hS : C = 0 ∨ 0 < S) (hS6 : S ≤ 6) (h : cs_go C S ar rt oh cu wc wl rm wt lim m) : ∀ j, cs_it C ar rt oh cu wc wl rm wt lim m j < 6 := by
  intro j
  by_cases hj : j < C
  · have := (cs_bound hS m h).1 j hj; omega
  · have key : ∀ m, cs_it C ar rt oh cu wc wl rm wt lim m j = 0 := by
      intro m
      induction m with
      | zero => rfl
      | succ m ih =>
        show cy_up _ _ _ j = 0
        unfold cy_up
        rw [if_neg (fun q => hj q.1)]
        exact ih
    rw [key m]; omega
theorem cy_up_congr {rg rg' : Nat → Bool} {pk : Nat → Nat} {i : Nat} (h : ∀ j, j < i → rg j = rg' j) : cy_up rg pk i = cy_up rg' pk i := by
  funext j
  unfold cy_up
  by_cases hj : j < i
  · rw [h j hj]
  · rw [if_neg (fun q => hj q.1), if_neg (fun q => hj q.1)]
set_option maxHeartbeats 4000000 in
set_option maxRecDepth 100000 in
/-- Sizing.climb -/
theorem kX2_climb (l : Launch) (D : va_G) (cI cG cL cB : ClassId) (z0 z1 z2 : Nat) (q r : Nat → Nat) (pk fi : Nat → Nat) (sn : Nat) (ar rt oh : Nat → Nat) (cn : Nat) (no ot cu wc wl : Nat → Nat) (wt : Nat → Nat → Nat) (n : Nat) (a b le ro di : Nat → Nat) (lim : Nat) (hlim : lim ≤ 1000000) (hway : ∀ c, c < cn → ∀ i, i < wc c → wt c i < n) (hz : okZ sn ar rt oh cn cu wc wl wt) (hfi : ∀ j, fi j ≤ 18000000) (hn : n ≤ 15) (hro : ∀ j, ro j ≤ 1000) (hro1 : ∀ j, j < n → 1 ≤ ro j) : ct_i l yX2_climb (.code yX2_climb cX2_climb 3 (some .boolean) :: bw) ({ frames := 4, cells := 0, slots := 0, locals := 89 }) (EN D (tyL cI cG cL cB)) D vwCl (pZ z0 z1 z2 q cI pk fi ++ pT q cI n a b le ro di ++ pS q cI sn ar rt oh ++ pC q r cI cG cn no ot cu wc wl ++ pR r cI wt) [.ref z0, .int (nI lim)] (fun v W => ∃ pk' fi', W = pZ z0 z1 z2 q cI pk' fi' ++ pT q cI n a b le ro di ++ pS q cI sn ar rt oh ++ pC q r cI cG cn no ot cu wc wl ++ pR r cI wt ∧ (∀ j, pk' j < 6) ∧ (∀ j, fi' j ≤ 18000000) ∧ ((v = nI 1 ∧ (cn = 0 ∨ 0 < sn) ∧ ∃ m, pk' = cs_it cn ar rt oh cu wc wl ro wt lim m ∧ cs_go cn sn ar rt oh cu wc wl ro wt lim m ∧ cs_good cn ar rt oh cu wc wl ro wt lim (cs_it cn ar rt oh cu wc wl ro wt lim m) ∧ ∀ t, t < n → fi' t = cz_fill cn ar wc ro wt pk' t) ∨ (v = nI 0 ∧ ((0 < cn ∧ sn = 0) ∨ ((cn = 0 ∨ 0 < sn) ∧ ∃ m, cs_go cn sn ar rt oh cu wc wl ro wt lim m ∧ cs_stuck cn sn ar rt oh cu wc wl ro wt lim (cs_it cn ar rt oh cu wc wl ro wt lim m)))))) 0 0 := by
  refine ct_ofi (by decide) (Nat.le_of_ble_eq_true rfl) ?_
  intro p e s m below meth cd A H locs av Q ls hx hb hr hml hown hlocks hnm hbw hEN hQ hP hD hS hA hl
  have hown : s.vm.findClass RX2 = some m.cls := hown
  have hK := hEN.1
  have hl : lv_has ls 3 [(0, .ref z0), (1, .int (nI lim))] := hl
  obtain ⟨hsn, har, hrt, hoh, hcn, hcu, hwc, hwl, hwt⟩ := id hz
  refine lv_aload_n hx hb dX2_climb_0 rfl (lv_at hl 0 rfl) ?_
  refine va_get (ci := 2) (v := .ref z1) (C := RX2) (T := TX2) (N := 5) hx hb hbw in_X2 hown hK hP 0 rfl rfl 3 (by decide) (hbw _ m_144) (fun _ h9 => h9) rfl dX2_climb_1 ?_
  refine lv_iconst (v := nI 0) hx hb dX2_climb_4 (by decide) ?_
  refine ct_Sv (wc := [iA z1 cI 20 pk]) (wr := ([(z0, .inr (2, [.ref (q 1), .ref (q 7), .ref (q 11), .ref z1, .ref z2])), iA z2 cI 15 fi] ++ pT q cI n a b le ro di ++ pS q cI sn ar rt oh ++ pC q r cI cG cn no ot cu wc wl ++ pR r cI wt)) (As := [.ref z1, .int (nI 0)]) (rest := []) ⟨hx, hb, hml, hown, hbw⟩ (EN_E D _) hEN (kJ_fill l D cI cG cL cB z1 20 pk 0 (by omega)) (gS 2 hbw m_197 m_198 m_29 m_199 rfl rfl (by decide +kernel) ⟨Nat.le_of_ble_eq_true rfl, Nat.le_of_ble_eq_true rfl⟩) hP hD hS hA [1] [0, 2, 3, 4, 5, 6, 7, 8, 9, 10, 11, 12, 13, 14, 15, 16, 17, 18, 19, 20, 21, 22, 23, 24, 25, 26, 27, 28, 29, 30, 31, 32, 33, 34, 35, 36, 37, 38, 39] rfl rfl (by decide) (by decide) (by decide) rfl hl.1 rfl (Nat.le_of_ble_eq_true rfl) dX2_climb_5 ⟨Nat.le_of_ble_eq_true rfl, Nat.le_of_ble_eq_true rfl⟩ (fun w_1 H locs hw hP hD hS => ?_)
  obtain rfl := hw
  have hP := hP.sub (ws' := (pZ z0 z1 z2 q cI (fun _ => 0) fi ++ pT q cI n a b le ro di ++ pS q cI sn ar rt oh ++ pC q r cI cG cn no ot cu wc wl ++ pR r cI wt)) [0, 39, 1, 2, 3, 4, 5, 6, 7, 8, 9, 10, 11, 12, 13, 14, 15, 16, 17, 18, 19, 20, 21, 22, 23, 24, 25, 26, 27, 28, 29, 30, 31, 32, 33, 34, 35, 36, 37, 38] rfl
  have hD := hD.sub (ws' := (pZ z0 z1 z2 q cI (fun _ => 0) fi ++ pT q cI n a b le ro di ++ pS q cI sn ar rt oh ++ pC q r cI cG cn no ot cu wc wl ++ pR r cI wt)) [0, 39, 1, 2, 3, 4, 5, 6, 7, 8, 9, 10, 11, 12, 13, 14, 15, 16, 17, 18, 19, 20, 21, 22, 23, 24, 25, 26, 27, 28, 29, 30, 31, 32, 33, 34, 35, 36, 37, 38] (by decide) rfl
  refine lv_aload_n hx hb dX2_climb_8 rfl (lv_at hl 0 rfl) ?_
  refine va_get (ci := 2) (v := .ref (q 11)) (C := RX2) (T := TX2) (N := 5) hx hb hbw in_X2 hown hK hP 0 rfl rfl 2 (by decide) (hbw _ m_143) (fun _ h9 => h9) rfl dX2_climb_9 ?_
  refine va_getN (ci := 0) (v := .int (nI cn)) (C := RX0) (T := TX0) (N := 7) hx hb hbw in_X0 hown hK hP 13 rfl rfl 0 (by decide) (va_Nw.use rfl (hEN.2 _ (List.mem_filter.mpr ⟨mn_87, rfl⟩))) (fun _ h9 => h9) rfl dX2_climb_12 ?_
  refine lv_if_le (tgt := 30) hx hb dX2_climb_15 (by decide) (fun h1 => ?_) (fun h1 => ?_)
  · have h1 : cn = 0 := by rcases Nat.eq_zero_or_pos cn with h | h; exact h; exact absurd h1 (nI_nle h (by omega))
    have hS0 : cn = 0 ∨ 0 < sn := Or.inl h1
    refine lv_iconst (v := nI 0) hx hb dX2_climb_30 (by decide) ?_
    refine lv_istore_n (lv' := [(2, .int (nI 0)), (0, .ref z0), (1, .int (nI lim))]) hx hb dX2_climb_31 rfl hl (by decide) rfl (fun ls hl => ?_)
    have lp : ∀ (k : Nat) (rd : Nat) (fi : Nat → Nat), (hk : 101 < rd + k) → (hi : rd ≤ 101) → (hgo : cs_go cn sn ar rt oh cu wc wl ro wt lim rd) → (hfi : ∀ j, fi j ≤ 18000000) → ∀ (H : Heap) (locs : List Loc) (ls : Array Slot), va_P D vwCl (pZ z0 z1 z2 q cI (cs_it cn ar rt oh cu wc wl ro wt lim rd) fi ++ pT q cI n a b le ro di ++ pS q cI sn ar rt oh ++ pC q r cI cG cn no ot cu wc wl ++ pR r cI wt) H → va_D A (pZ z0 z1 z2 q cI (cs_it cn ar rt oh cu wc wl ro wt lim rd) fi ++ pT q cI n a b le ro di ++ pS q cI sn ar rt oh ++ pC q r cI cG cn no ot cu wc wl ++ pR r cI wt) → va_S A s.heap H locs → lv_has ls 3 [(0, .ref z0), (1, .int (nI lim)), (2, .int (nI rd))] → W p l e ({ frames := 4, cells := 0, slots := 0, locals := 89 }) s m av below meth cd H locs 0 0 Q (F0 m 32 ls []) := by
      intro k
      induction k with
      | zero => intro rd fi hk hi hgo hfi; exact absurd hk (by omega)
      | succ k ih =>
        intro rd fi hk hi hgo hfi H locs ls hP hD hS hl
        have hrd := cs_rounds hS0 hcn hsn hgo
        have hp6 : ∀ j, cs_it cn ar rt oh cu wc wl ro wt lim rd j < 6 := cs_six hS0 hsn hgo
        refine lv_iload_n hx hb dX2_climb_32 rfl (lv_at hl 2 rfl) ?_
        refine lv_bipush (v := nI 101) hx hb dX2_climb_33 (by decide) ?_
        refine nr_icmp_ge (x := rd) (y := 101) (tgt := 68) hx hb (by omega) (by omega) dX2_climb_35 (by decide) (fun h2 => ?_) (fun h2 => ?_)
        · exact absurd h2 (by omega)
        · refine lv_aload_n hx hb dX2_climb_38 rfl (lv_at hl 0 rfl) ?_
          refine ct_Vv (wc := (pZ z0 z1 z2 q cI (cs_it cn ar rt oh cu wc wl ro wt lim rd) fi ++ pT q cI n a b le ro di ++ pS q cI sn ar rt oh ++ pC q r cI cG cn no ot cu wc wl ++ pR r cI wt)) (wr := ([] : va_W)) (As := []) (rest := []) ⟨hx, hb, hml, hown, hbw⟩ (EN_E D _) hEN (kX2_fillTrays l D cI cG cL cB z0 z1 z2 q r (cs_it cn ar rt oh cu wc wl ro wt lim rd) fi sn ar rt oh cn no ot cu wc wl wt n a b le ro di hz hp6 hn hro hro1) (cwV (C := "CableSizes$Sizing") 0 hbw (gV m_200 m_201 m_202 m_22 m_203) rfl rfl rfl (by decide +kernel) ⟨Nat.le_of_ble_eq_true rfl, Nat.le_of_ble_eq_true rfl⟩) (va_recv hK hP (ci := 2) (q0 := 0) rfl rfl) hP hD hS hA [0, 1, 2, 3, 4, 5, 6, 7, 8, 9, 10, 11, 12, 13, 14, 15, 16, 17, 18, 19, 20, 21, 22, 23, 24, 25, 26, 27, 28, 29, 30, 31, 32, 33, 34, 35, 36, 37, 38, 39] [] rfl rfl (by decide) (by decide) (by decide) rfl hl.1 rfl (Nat.le_of_ble_eq_true rfl) dX2_climb_39 ⟨Nat.le_of_ble_eq_true rfl, Nat.le_of_ble_eq_true rfl⟩ (fun w_2 H locs hw hP hD hS => ?_)
          obtain ⟨fi', rfl, hf1, hf2⟩ := hw
          have hP := hP.sub (ws' := (pZ z0 z1 z2 q cI (cs_it cn ar rt oh cu wc wl ro wt lim rd) fi' ++ pT q cI n a b le ro di ++ pS q cI sn ar rt oh ++ pC q r cI cG cn no ot cu wc wl ++ pR r cI wt)) [0, 1, 2, 3, 4, 5, 6, 7, 8, 9, 10, 11, 12, 13, 14, 15, 16, 17, 18, 19, 20, 21, 22, 23, 24, 25, 26, 27, 28, 29, 30, 31, 32, 33, 34, 35, 36, 37, 38, 39] rfl
          have hD := hD.sub (ws' := (pZ z0 z1 z2 q cI (cs_it cn ar rt oh cu wc wl ro wt lim rd) fi' ++ pT q cI n a b le ro di ++ pS q cI sn ar rt oh ++ pC q r cI cG cn no ot cu wc wl ++ pR r cI wt)) [0, 1, 2, 3, 4, 5, 6, 7, 8, 9, 10, 11, 12, 13, 14, 15, 16, 17, 18, 19, 20, 21, 22, 23, 24, 25, 26, 27, 28, 29, 30, 31, 32, 33, 34, 35, 36, 37, 38, 39] (by decide) rfl
          have hrg : ∀ c, c < cn → cy_right rt oh cu wc wl (cs_it cn ar rt oh cu wc wl ro wt lim rd) fi' wt lim c = cs_rg cn ar rt oh cu wc wl ro wt lim (cs_it cn ar rt oh cu wc wl ro wt lim rd) c := fun c hc => cy_right_fi (fun i hi => hf1 _ (hway c hc i hi))
          refine lv_aload_n hx hb dX2_climb_42 rfl (lv_at hl 0 rfl) ?_
          refine lv_iload_n hx hb dX2_climb_43 rfl (lv_at hl 1 rfl) ?_
          refine ct_Vi (wc := (pZ z0 z1 z2 q cI (cs_it cn ar rt oh cu wc wl ro wt lim rd) fi' ++ pS q cI sn ar rt oh ++ pC q r cI cG cn no ot cu wc wl ++ pR r cI wt)) (wr := (pT q cI n a b le ro di)) (As := [.int (nI lim)]) (rest := []) ⟨hx, hb, hml, hown, hbw⟩ (EN_E D _) hEN (kX2_allAreRight l D cI cG cL cB z0 z1 z2 q r (cs_it cn ar rt oh cu wc wl ro wt lim rd) fi' sn ar rt oh cn no ot cu wc wl wt lim hlim hz hp6 hf2) (cwV (C := "CableSizes$Sizing") 1 hbw (gV m_204 m_205 m_206 m_22 m_207) rfl rfl rfl (by decide +kernel) ⟨Nat.le_of_ble_eq_true rfl, Nat.le_of_ble_eq_true rfl⟩) (va_recv hK hP (ci := 2) (q0 := 0) rfl rfl) hP hD hS hA [0, 1, 2, 9, 10, 11, 12, 13, 14, 15, 16, 17, 18, 19, 20, 21, 22, 23, 24, 25, 26, 27, 28, 29, 30, 31, 32, 33, 34, 35, 36, 37, 38, 39] [3, 4, 5, 6, 7, 8] rfl rfl (by decide) (by decide) (by decide) rfl hl.1 rfl (Nat.le_of_ble_eq_true rfl) dX2_climb_44 ⟨Nat.le_of_ble_eq_true rfl, Nat.le_of_ble_eq_true rfl⟩ (fun r_3 w_3 H locs hw hP hD hS => ?_)
          obtain ⟨rfl, har2⟩ := hw
          have hP := hP.sub (ws' := (pZ z0 z1 z2 q cI (cs_it cn ar rt oh cu wc wl ro wt lim rd) fi' ++ pT q cI n a b le ro di ++ pS q cI sn ar rt oh ++ pC q r cI cG cn no ot cu wc wl ++ pR r cI wt)) [6, 7, 8, 0, 1, 2, 3, 4, 5, 9, 10, 11, 12, 13, 14, 15, 16, 17, 18, 19, 20, 21, 22, 23, 24, 25, 26, 27, 28, 29, 30, 31, 32, 33, 34, 35, 36, 37, 38, 39] rfl
          have hD := hD.sub (ws' := (pZ z0 z1 z2 q cI (cs_it cn ar rt oh cu wc wl ro wt lim rd) fi' ++ pT q cI n a b le ro di ++ pS q cI sn ar rt oh ++ pC q r cI cG cn no ot cu wc wl ++ pR r cI wt)) [6, 7, 8, 0, 1, 2, 3, 4, 5, 9, 10, 11, 12, 13, 14, 15, 16, 17, 18, 19, 20, 21, 22, 23, 24, 25, 26, 27, 28, 29, 30, 31, 32, 33, 34, 35, 36, 37, 38, 39] (by decide) rfl
          rcases har2 with ⟨hr1, hall⟩ | ⟨hr1, hex⟩
          · subst hr1
            refine nr_if_eq (x := 1) (tgt := 52) hx hb (by omega) dX2_climb_47 (by decide) (fun h3 => ?_) (fun h3 => ?_)
            · exact absurd h3 (by omega)
            · refine lv_iconst (v := nI 1) hx hb dX2_climb_50 (by decide) ?_
              rw [hQ]
              exact ct_zret hx hb hr hlocks hP hD hS dX2_climb_51 (by first | exact Or.inl rfl | exact Or.inr rfl) ⟨_, fi', rfl, hp6, hf2, Or.inl ⟨rfl, hS0, rd, rfl, hgo, fun c hc => by rw [← hrg c hc]; exact hall c hc, hf1⟩⟩
          · subst hr1
            refine nr_if_eq (x := 0) (tgt := 52) hx hb (by omega) dX2_climb_47 (by decide) (fun h3 => ?_) (fun h3 => ?_)
            · have hng : ¬ cs_good cn ar rt oh cu wc wl ro wt lim (cs_it cn ar rt oh cu wc wl ro wt lim rd) := fun hg => by obtain ⟨c, hc, h⟩ := hex; rw [hrg c hc, hg c hc] at h; cases h
              refine lv_aload_n hx hb dX2_climb_52 rfl (lv_at hl 0 rfl) ?_
              refine lv_iload_n hx hb dX2_climb_53 rfl (lv_at hl 1 rfl) ?_
              refine ct_Vi (wc := (pZ z0 z1 z2 q cI (cs_it cn ar rt oh cu wc wl ro wt lim rd) fi' ++ pS q cI sn ar rt oh ++ pC q r cI cG cn no ot cu wc wl ++ pR r cI wt)) (wr := (pT q cI n a b le ro di)) (As := [.int (nI lim)]) (rest := []) ⟨hx, hb, hml, hown, hbw⟩ (EN_E D _) hEN (kX2_raiseWrongOnes l D cI cG cL cB z0 z1 z2 q r (cs_it cn ar rt oh cu wc wl ro wt lim rd) fi' sn ar rt oh cn no ot cu wc wl wt lim hlim hz hp6 hf2) (cwV (C := "CableSizes$Sizing") 1 hbw (gV m_231 m_233 m_2 m_22 m_234) rfl rfl rfl (by decide +kernel) ⟨Nat.le_of_ble_eq_true rfl, Nat.le_of_ble_eq_true rfl⟩) (va_recv hK hP (ci := 2) (q0 := 0) rfl rfl) hP hD hS hA [0, 1, 2, 9, 10, 11, 12, 13, 14, 15, 16, 17, 18, 19, 20, 21, 22, 23, 24, 25, 26, 27, 28, 29, 30, 31, 32, 33, 34, 35, 36, 37, 38, 39] [3, 4, 5, 6, 7, 8] rfl rfl (by decide) (by decide) (by decide) rfl hl.1 rfl (Nat.le_of_ble_eq_true rfl) dX2_climb_54 ⟨Nat.le_of_ble_eq_true rfl, Nat.le_of_ble_eq_true rfl⟩ (fun r_4 w_4 H locs hw hP hD hS => ?_)
              obtain ⟨pk', rfl, hp7, hrs⟩ := hw
              have hP := hP.sub (ws' := (pZ z0 z1 z2 q cI pk' fi' ++ pT q cI n a b le ro di ++ pS q cI sn ar rt oh ++ pC q r cI cG cn no ot cu wc wl ++ pR r cI wt)) [6, 7, 8, 0, 1, 2, 3, 4, 5, 9, 10, 11, 12, 13, 14, 15, 16, 17, 18, 19, 20, 21, 22, 23, 24, 25, 26, 27, 28, 29, 30, 31, 32, 33, 34, 35, 36, 37, 38, 39] rfl
              have hD := hD.sub (ws' := (pZ z0 z1 z2 q cI pk' fi' ++ pT q cI n a b le ro di ++ pS q cI sn ar rt oh ++ pC q r cI cG cn no ot cu wc wl ++ pR r cI wt)) [6, 7, 8, 0, 1, 2, 3, 4, 5, 9, 10, 11, 12, 13, 14, 15, 16, 17, 18, 19, 20, 21, 22, 23, 24, 25, 26, 27, 28, 29, 30, 31, 32, 33, 34, 35, 36, 37, 38, 39] (by decide) rfl
              rcases hrs with ⟨hr2, hpk2, hok2⟩ | ⟨hr2, c, hc, hwr, hst⟩
              · subst hr2
                have hpk3 : pk' = cs_it cn ar rt oh cu wc wl ro wt lim (rd + 1) := by rw [hpk2]; exact cy_up_congr hrg
                rw [hpk3] at hP hD
                refine nr_if_ne (x := 1) (tgt := 62) hx hb (by omega) dX2_climb_57 (by decide) (fun h4 => ?_) (fun h4 => ?_)
                · refine lv_iinc (v := nI (rd + 1)) (lv' := [(2, .int (nI (rd + 1))), (0, .ref z0), (1, .int (nI lim))]) hx hb dX2_climb_62 hl (k := 2) rfl (nI_1 _) (by decide) rfl (fun ls hl => ?_)
                  refine lv_goto (tgt := 32) hx hb dX2_climb_65 (by decide) ?_
                  exact ih (rd + 1) fi' (by omega) (by omega) (lt_s hgo ⟨hng, fun ⟨c, hc, h5, h6⟩ => by have := hok2 c hc ((hrg c hc).trans h5); omega⟩) hf2 _ _ _ hP hD hS (lv_sub hl [1, 2, 0] rfl)
                · exact absurd h4 (by omega)
              · subst hr2
                refine nr_if_ne (x := 0) (tgt := 62) hx hb (by omega) dX2_climb_57 (by decide) (fun h4 => ?_) (fun h4 => ?_)
                · exact absurd h4 (by omega)
                · refine lv_iconst (v := nI 0) hx hb dX2_climb_60 (by decide) ?_
                  rw [hQ]
                  exact ct_zret hx hb hr hlocks hP hD hS dX2_climb_61 (by first | exact Or.inl rfl | exact Or.inr rfl) ⟨_, fi', rfl, hp7, hf2, Or.inr ⟨rfl, Or.inr ⟨hS0, rd, hgo, c, hc, (hrg c hc).symm.trans hwr, hst⟩⟩⟩
            · exact absurd h3 (by omega)
    exact lp 102 0 fi (by omega) (by omega) (lt_0) hfi _ _ _ hP hD hS (lv_sub hl [1, 2, 0] rfl)
  · have h1 : 0 < cn := by rcases Nat.eq_zero_or_pos cn with h | h; exact absurd (by rw [h]; decide) h1; exact h
    refine lv_aload_n hx hb dX2_climb_18 rfl (lv_at hl 0 rfl) ?_
    refine va_get (ci := 2) (v := .ref (q 7)) (C := RX2) (T := TX2) (N := 5) hx hb hbw in_X2 hown hK hP 0 rfl rfl 1 (by decide) (hbw _ m_142) (fun _ h9 => h9) rfl dX2_climb_19 ?_
    refine va_getN (ci := 1) (v := .int (nI sn)) (C := RX1) (T := TX1) (N := 4) hx hb hbw in_X1 hown hK hP 9 rfl rfl 0 (by decide) (va_Nw.use rfl (hEN.2 _ (List.mem_filter.mpr ⟨mn_61, rfl⟩))) (fun _ h9 => h9) rfl dX2_climb_22 ?_
    refine nr_if_ne (x := sn) (tgt := 30) hx hb (by omega) dX2_climb_25 (by decide) (fun h5 => ?_) (fun h5 => ?_)
    · have hS0 : cn = 0 ∨ 0 < sn := Or.inr h5
      refine lv_iconst (v := nI 0) hx hb dX2_climb_30 (by decide) ?_
      refine lv_istore_n (lv' := [(2, .int (nI 0)), (0, .ref z0), (1, .int (nI lim))]) hx hb dX2_climb_31 rfl hl (by decide) rfl (fun ls hl => ?_)
      have lp : ∀ (k : Nat) (rd : Nat) (fi : Nat → Nat), (hk : 101 < rd + k) → (hi : rd ≤ 101) → (hgo : cs_go cn sn ar rt oh cu wc wl ro wt lim rd) → (hfi : ∀ j, fi j ≤ 18000000) → ∀ (H : Heap) (locs : List Loc) (ls : Array Slot), va_P D vwCl (pZ z0 z1 z2 q cI (cs_it cn ar rt oh cu wc wl ro wt lim rd) fi ++ pT q cI n a b le ro di ++ pS q cI sn ar rt oh ++ pC q r cI cG cn no ot cu wc wl ++ pR r cI wt) H → va_D A (pZ z0 z1 z2 q cI (cs_it cn ar rt oh cu wc wl ro wt lim rd) fi ++ pT q cI n a b le ro di ++ pS q cI sn ar rt oh ++ pC q r cI cG cn no ot cu wc wl ++ pR r cI wt) → va_S A s.heap H locs → lv_has ls 3 [(0, .ref z0), (1, .int (nI lim)), (2, .int (nI rd))] → W p l e ({ frames := 4, cells := 0, slots := 0, locals := 89 }) s m av below meth cd H locs 0 0 Q (F0 m 32 ls []) := by
        intro k
        induction k with
        | zero => intro rd fi hk hi hgo hfi; exact absurd hk (by omega)
        | succ k ih =>
          intro rd fi hk hi hgo hfi H locs ls hP hD hS hl
          have hrd := cs_rounds hS0 hcn hsn hgo
          have hp6 : ∀ j, cs_it cn ar rt oh cu wc wl ro wt lim rd j < 6 := cs_six hS0 hsn hgo
          refine lv_iload_n hx hb dX2_climb_32 rfl (lv_at hl 2 rfl) ?_
          refine lv_bipush (v := nI 101) hx hb dX2_climb_33 (by decide) ?_
          refine nr_icmp_ge (x := rd) (y := 101) (tgt := 68) hx hb (by omega) (by omega) dX2_climb_35 (by decide) (fun h2 => ?_) (fun h2 => ?_)
          · exact absurd h2 (by omega)
          · refine lv_aload_n hx hb dX2_climb_38 rfl (lv_at hl 0 rfl) ?_
            refine ct_Vv (wc := (pZ z0 z1 z2 q cI (cs_it cn ar rt oh cu wc wl ro wt lim rd) fi ++ pT q cI n a b le ro di ++ pS q cI sn ar rt oh ++ pC q r cI cG cn no ot cu wc wl ++ pR r cI wt)) (wr := ([] : va_W)) (As := []) (rest := []) ⟨hx, hb, hml, hown, hbw⟩ (EN_E D _) hEN (kX2_fillTrays l D cI cG cL cB z0 z1 z2 q r (cs_it cn ar rt oh cu wc wl ro wt lim rd) fi sn ar rt oh cn no ot cu wc wl wt n a b le ro di hz hp6 hn hro hro1) (cwV (C := "CableSizes$Sizing") 0 hbw (gV m_200 m_201 m_202 m_22 m_203) rfl rfl rfl (by decide +kernel) ⟨Nat.le_of_ble_eq_true rfl, Nat.le_of_ble_eq_true rfl⟩) (va_recv hK hP (ci := 2) (q0 := 0) rfl rfl) hP hD hS hA [0, 1, 2, 3, 4, 5, 6, 7, 8, 9, 10, 11, 12, 13, 14, 15, 16, 17, 18, 19, 20, 21, 22, 23, 24, 25, 26, 27, 28, 29, 30, 31, 32, 33, 34, 35, 36, 37, 38, 39] [] rfl rfl (by decide) (by decide) (by decide) rfl hl.1 rfl (Nat.le_of_ble_eq_true rfl) dX2_climb_39 ⟨Nat.le_of_ble_eq_true rfl, Nat.le_of_ble_eq_true rfl⟩ (fun w_5 H locs hw hP hD hS => ?_)
            obtain ⟨fi', rfl, hf1, hf2⟩ := hw
            have hP := hP.sub (ws' := (pZ z0 z1 z2 q cI (cs_it cn ar rt oh cu wc wl ro wt lim rd) fi' ++ pT q cI n a b le ro di ++ pS q cI sn ar rt oh ++ pC q r cI cG cn no ot cu wc wl ++ pR r cI wt)) [0, 1, 2, 3, 4, 5, 6, 7, 8, 9, 10, 11, 12, 13, 14, 15, 16, 17, 18, 19, 20, 21, 22, 23, 24, 25, 26, 27, 28, 29, 30, 31, 32, 33, 34, 35, 36, 37, 38, 39] rfl
            have hD := hD.sub (ws' := (pZ z0 z1 z2 q cI (cs_it cn ar rt oh cu wc wl ro wt lim rd) fi' ++ pT q cI n a b le ro di ++ pS q cI sn ar rt oh ++ pC q r cI cG cn no ot cu wc wl ++ pR r cI wt)) [0, 1, 2, 3, 4, 5, 6, 7, 8, 9, 10, 11, 12, 13, 14, 15, 16, 17, 18, 19, 20, 21, 22, 23, 24, 25, 26, 27, 28, 29, 30, 31, 32, 33, 34, 35, 36, 37, 38, 39] (by decide) rfl
            have hrg : ∀ c, c < cn → cy_right rt oh cu wc wl (cs_it cn ar rt oh cu wc wl ro wt lim rd) fi' wt lim c = cs_rg cn ar rt oh cu wc wl ro wt lim (cs_it cn ar rt oh cu wc wl ro wt lim rd) c := fun c hc => cy_right_fi (fun i hi => hf1 _ (hway c hc i hi))
            refine lv_aload_n hx hb dX2_climb_42 rfl (lv_at hl 0 rfl) ?_
            refine lv_iload_n hx hb dX2_climb_43 rfl (lv_at hl 1 rfl) ?_
            refine ct_Vi (wc := (pZ z0 z1 z2 q cI (cs_it cn ar rt oh cu wc wl ro wt lim rd) fi' ++ pS q cI sn ar rt oh ++ pC q r cI cG cn no ot cu wc wl ++ pR r cI wt)) (wr := (pT q cI n a b le ro di)) (As := [.int (nI lim)]) (rest := []) ⟨hx, hb, hml, hown, hbw⟩ (EN_E D _) hEN (kX2_allAreRight l D cI cG cL cB z0 z1 z2 q r (cs_it cn ar rt oh cu wc wl ro wt lim rd) fi' sn ar rt oh cn no ot cu wc wl wt lim hlim hz hp6 hf2) (cwV (C := "CableSizes$Sizing") 1 hbw (gV m_204 m_205 m_206 m_22 m_207) rfl rfl rfl (by decide +kernel) ⟨Nat.le_of_ble_eq_true rfl, Nat.le_of_ble_eq_true rfl⟩) (va_recv hK hP (ci := 2) (q0 := 0) rfl rfl) hP hD hS hA [0, 1, 2, 9, 10, 11, 12, 13, 14, 15, 16, 17, 18, 19, 20, 21, 22, 23, 24, 25, 26, 27, 28, 29, 30, 31, 32, 33, 34, 35, 36, 37, 38, 39] [3, 4, 5, 6, 7, 8] rfl rfl (by decide) (by decide) (by decide) rfl hl.1 rfl (Nat.le_of_ble_eq_true rfl) dX2_climb_44 ⟨Nat.le_of_ble_eq_true rfl, Nat.le_of_ble_eq_true rfl⟩ (fun r_6 w_6 H locs hw hP hD hS => ?_)
            obtain ⟨rfl, har2⟩ := hw
            have hP := hP.sub (ws' := (pZ z0 z1 z2 q cI (cs_it cn ar rt oh cu wc wl ro wt lim rd) fi' ++ pT q cI n a b le ro di ++ pS q cI sn ar rt oh ++ pC q r cI cG cn no ot cu wc wl ++ pR r cI wt)) [6, 7, 8, 0, 1, 2, 3, 4, 5, 9, 10, 11, 12, 13, 14, 15, 16, 17, 18, 19, 20, 21, 22, 23, 24, 25, 26, 27, 28, 29, 30, 31, 32, 33, 34, 35, 36, 37, 38, 39] rfl
            have hD := hD.sub (ws' := (pZ z0 z1 z2 q cI (cs_it cn ar rt oh cu wc wl ro wt lim rd) fi' ++ pT q cI n a b le ro di ++ pS q cI sn ar rt oh ++ pC q r cI cG cn no ot cu wc wl ++ pR r cI wt)) [6, 7, 8, 0, 1, 2, 3, 4, 5, 9, 10, 11, 12, 13, 14, 15, 16, 17, 18, 19, 20, 21, 22, 23, 24, 25, 26, 27, 28, 29, 30, 31, 32, 33, 34, 35, 36, 37, 38, 39] (by decide) rfl
            rcases har2 with ⟨hr1, hall⟩ | ⟨hr1, hex⟩
            · subst hr1
              refine nr_if_eq (x := 1) (tgt := 52) hx hb (by omega) dX2_climb_47 (by decide) (fun h3 => ?_) (fun h3 => ?_)
              · exact absurd h3 (by omega)
              · refine lv_iconst (v := nI 1) hx hb dX2_climb_50 (by decide) ?_
                rw [hQ]
                exact ct_zret hx hb hr hlocks hP hD hS dX2_climb_51 (by first | exact Or.inl rfl | exact Or.inr rfl) ⟨_, fi', rfl, hp6, hf2, Or.inl ⟨rfl, hS0, rd, rfl, hgo, fun c hc => by rw [← hrg c hc]; exact hall c hc, hf1⟩⟩
            · subst hr1
              refine nr_if_eq (x := 0) (tgt := 52) hx hb (by omega) dX2_climb_47 (by decide) (fun h3 => ?_) (fun h3 => ?_)
              · have hng : ¬ cs_good cn ar rt oh cu wc wl ro wt lim (cs_it cn ar rt oh cu wc wl ro wt lim rd) := fun hg => by obtain ⟨c, hc, h⟩ := hex; rw [hrg c hc, hg c hc] at h; cases h
                refine lv_aload_n hx hb dX2_climb_52 rfl (lv_at hl 0 rfl) ?_
                refine lv_iload_n hx hb dX2_climb_53 rfl (lv_at hl 1 rfl) ?_
                refine ct_Vi (wc := (pZ z0 z1 z2 q cI (cs_it cn ar rt oh cu wc wl ro wt lim rd) fi' ++ pS q cI sn ar rt oh ++ pC q r cI cG cn no ot cu wc wl ++ pR r cI wt)) (wr := (pT q cI n a b le ro di)) (As := [.int (nI lim)]) (rest := []) ⟨hx, hb, hml, hown, hbw⟩ (EN_E D _) hEN (kX2_raiseWrongOnes l D cI cG cL cB z0 z1 z2 q r (cs_it cn ar rt oh cu wc wl ro wt lim rd) fi' sn ar rt oh cn no ot cu wc wl wt lim hlim hz hp6 hf2) (cwV (C := "CableSizes$Sizing") 1 hbw (gV m_231 m_233 m_2 m_22 m_234) rfl rfl rfl (by decide +kernel) ⟨Nat.le_of_ble_eq_true rfl, Nat.le_of_ble_eq_true rfl⟩) (va_recv hK hP (ci := 2) (q0 := 0) rfl rfl) hP hD hS hA [0, 1, 2, 9, 10, 11, 12, 13, 14, 15, 16, 17, 18, 19, 20, 21, 22, 23, 24, 25, 26, 27, 28, 29, 30, 31, 32, 33, 34, 35, 36, 37, 38, 39] [3, 4, 5, 6, 7, 8] rfl rfl (by decide) (by decide) (by decide) rfl hl.1 rfl (Nat.le_of_ble_eq_true rfl) dX2_climb_54 ⟨Nat.le_of_ble_eq_true rfl, Nat.le_of_ble_eq_true rfl⟩ (fun r_7 w_7 H locs hw hP hD hS => ?_)
                obtain ⟨pk', rfl, hp7, hrs⟩ := hw
                have hP := hP.sub (ws' := (pZ z0 z1 z2 q cI pk' fi' ++ pT q cI n a b le ro di ++ pS q cI sn ar rt oh ++ pC q r cI cG cn no ot cu wc wl ++ pR r cI wt)) [6, 7, 8, 0, 1, 2, 3, 4, 5, 9, 10, 11, 12, 13, 14, 15, 16, 17, 18, 19, 20, 21, 22, 23, 24, 25, 26, 27, 28, 29, 30, 31, 32, 33, 34, 35, 36, 37, 38, 39] rfl
                have hD := hD.sub (ws' := (pZ z0 z1 z2 q cI pk' fi' ++ pT q cI n a b le ro di ++ pS q cI sn ar rt oh ++ pC q r cI cG cn no ot cu wc wl ++ pR r cI wt)) [6, 7, 8, 0, 1, 2, 3, 4, 5, 9, 10, 11, 12, 13, 14, 15, 16, 17, 18, 19, 20, 21, 22, 23, 24, 25, 26, 27, 28, 29, 30, 31, 32, 33, 34, 35, 36, 37, 38, 39] (by decide) rfl
                rcases hrs with ⟨hr2, hpk2, hok2⟩ | ⟨hr2, c, hc, hwr, hst⟩
                · subst hr2
                  have hpk3 : pk' = cs_it cn ar rt oh cu wc wl ro wt lim (rd + 1) := by rw [hpk2]; exact cy_up_congr hrg
                  rw [hpk3] at hP hD
                  refine nr_if_ne (x := 1) (tgt := 62) hx hb (by omega) dX2_climb_57 (by decide) (fun h4 => ?_) (fun h4 => ?_)
                  · refine lv_iinc (v := nI (rd + 1)) (lv' := [(2, .int (nI (rd + 1))), (0, .ref z0), (1, .int (nI lim))]) hx hb dX2_climb_62 hl (k := 2) rfl (nI_1 _) (by decide) rfl (fun ls hl => ?_)
                    refine lv_goto (tgt := 32) hx hb dX2_climb_65 (by decide) ?_
                    exact ih (rd + 1) fi' (by omega) (by omega) (lt_s hgo ⟨hng, fun ⟨c, hc, h5, h6⟩ => by have := hok2 c hc ((hrg c hc).trans h5); omega⟩) hf2 _ _ _ hP hD hS (lv_sub hl [1, 2, 0] rfl)
                  · exact absurd h4 (by omega)
                · subst hr2
                  refine nr_if_ne (x := 0) (tgt := 62) hx hb (by omega) dX2_climb_57 (by decide) (fun h4 => ?_) (fun h4 => ?_)
                  · exact absurd h4 (by omega)
                  · refine lv_iconst (v := nI 0) hx hb dX2_climb_60 (by decide) ?_
                    rw [hQ]
                    exact ct_zret hx hb hr hlocks hP hD hS dX2_climb_61 (by first | exact Or.inl rfl | exact Or.inr rfl) ⟨_, fi', rfl, hp7, hf2, Or.inr ⟨rfl, Or.inr ⟨hS0, rd, hgo, c, hc, (hrg c hc).symm.trans hwr, hst⟩⟩⟩
              · exact absurd h3 (by omega)
      exact lp 102 0 fi (by omega) (by omega) (lt_0) hfi _ _ _ hP hD hS (lv_sub hl [1, 2, 0] rfl)
    · refine lv_iconst (v := nI 0) hx hb dX2_climb_28 (by decide) ?_
      rw [hQ]
      exact ct_zret hx hb hr hlocks hP hD hS dX2_climb_29 (by first | exact Or.inl rfl | exact Or.inr rfl) ⟨_, fi, rfl, fun _ => by show 0 < 6; omega, hfi, Or.inr ⟨rfl, Or.inl ⟨h1, h5⟩⟩⟩
end
section
/-! the reference: its cells; arrays that may hold NONE (coded: 0 is NONE, k + 1 is k); ways as rows with an end -/
def mI (k : Nat) : Int32 := match k with
  | 0 => -1
  | j + 1 => nI j
abbrev mA (q : Nat) (cI : ClassId) (n : Nat) (g : Nat → Nat) : Nat × va_E := (q, .inl (cI, n, .inl (fun j => mI (g j))))
def pM (g : Nat → Nat) (cI cB : ClassId) (th n : Nat) (en le ro : Nat → Nat) (sn : Nat) (ar rt oh : Nat → Nat) (cn : Nat) (no ot cu : Nat → Nat) (lim : Nat) (fa wy lo ch bd : Nat → Nat) : va_W :=
  [(g 0, .inr (5, [.int (nI th), .int (nI n), .ref (g 1), .ref (g 2), .ref (g 3), .int (nI sn), .ref (g 4), .ref (g 5), .ref (g 6), .int (nI cn), .ref (g 7), .ref (g 8), .ref (g 9), .int (nI lim), .ref (g 10), .ref (g 11), .ref (g 12), .ref (g 13), .ref (g 14)])),
   iA (g 1) cI 30 en, iA (g 2) cI 15 le, iA (g 3) cI 15 ro, iA (g 4) cI 6 ar, iA (g 5) cI 6 rt, iA (g 6) cI 6 oh, iA (g 7) cI 20 no, iA (g 8) cI 20 ot, iA (g 9) cI 20 cu, iA (g 10) cI 10 fa, mA (g 11) cI 320 wy, mA (g 12) cI 20 lo, iA (g 13) cI 20 ch, iA (g 14) cB 20 bd]
section MR
variable {p : Program} {l : Launch} {e : Env} {R : Room} {s : State} {m : MethodId} {args : Array Value} {below : List Frame} {meth : Method} {c : Code} {H : Heap} {locs : List Loc} {cells slots : Nat} {Q : State → Prop}
variable {cc : ByteArray} {pc : Nat} {ls : Array Slot} {rest : List Value} {D : va_G} {cl : List vw_C} {A : Nat → Prop} {a : Nat} {tys : List (ClassId × FieldType)} {ws : va_W} {H0 : Heap}
theorem nr_mald (hx : p.tables.exec = Jvm.exec) (hb : c.code = cc) (hK : va_K D cl tys s) (hP : va_P D cl ws H) (q0 t0 : Nat) {cA : ClassId} {n : Nat} {g : Nat → Nat} (ha : ws[q0]? = some (a, .inl (cA, n, .inl (fun j => mI (g j))))) (ht : tys[t0]? = some (cA, .int)) {k : Nat} (hk : k < n) (hn : n < 2 ^ 31) (hd : decode cc pc = .ok (.iaload, 1))
    (kk : W p l e R s m args below meth c H locs cells slots Q (F0 m (pc + 1) ls (.int (mI (g k)) :: rest))) : W p l e R s m args below meth c H locs cells slots Q (F0 m pc ls (.int (nI k) :: .ref a :: rest)) := by
  refine va_iald hx hb hK hP q0 t0 ha ht (vp_in_nI hk hn) hd ?_
  rw [nI_clamp (by omega)]
  exact kk
theorem nr_mald0 (hx : p.tables.exec = Jvm.exec) (hb : c.code = cc) (hK : va_K D cl tys s) (hP : va_P D cl ws H) (q0 t0 : Nat) {cA : ClassId} {n : Nat} {g : Nat → Nat} (ha : ws[q0]? = some (a, .inl (cA, n, .inl (fun j => mI (g j))))) (ht : tys[t0]? = some (cA, .int)) {k : Nat} (hk : k < n) (hn : n < 2 ^ 31) (hv : g k = 0) (hd : decode cc pc = .ok (.iaload, 1))
    (kk : W p l e R s m args below meth c H locs cells slots Q (F0 m (pc + 1) ls (.int (-1) :: rest))) : W p l e R s m args below meth c H locs cells slots Q (F0 m pc ls (.int (nI k) :: .ref a :: rest)) := by
  refine nr_mald hx hb hK hP q0 t0 ha ht hk hn hd ?_
  rw [hv]
  exact kk
theorem nr_mald1 (hx : p.tables.exec = Jvm.exec) (hb : c.code = cc) (hK : va_K D cl tys s) (hP : va_P D cl ws H) (q0 t0 : Nat) {cA : ClassId} {n : Nat} {g : Nat → Nat} (ha : ws[q0]? = some (a, .inl (cA, n, .inl (fun j => mI (g j))))) (ht : tys[t0]? = some (cA, .int)) {k v : Nat} (hk : k < n) (hn : n < 2 ^ 31) (hv : g k = v + 1) (hd : decode cc pc = .ok (.iaload, 1))
    (kk : W p l e R s m args below meth c H locs cells slots Q (F0 m (pc + 1) ls (.int (nI v) :: rest))) : W p l e R s m args below meth c H locs cells slots Q (F0 m pc ls (.int (nI k) :: .ref a :: rest)) := by
  refine nr_mald hx hb hK hP q0 t0 ha ht hk hn hd ?_
  rw [hv]
  exact kk
theorem nr_mast (hx : p.tables.exec = Jvm.exec) (hb : c.code = cc) (hK : va_K D cl tys s) (hP : va_P D cl ws H) (hD : va_D A ws) (hS : va_S A H0 H locs) (q0 t0 : Nat) {cA : ClassId} {n : Nat} {g : Nat → Nat} (ha : ws[q0]? = some (a, .inl (cA, n, .inl (fun j => mI (g j))))) (ht : tys[t0]? = some (cA, .int)) {x : Int32} {k : Nat} (v : Nat) (hv : x = mI v) (hk : k < n) (hn : n < 2 ^ 31) (hd : decode cc pc = .ok (.iastore, 1))
    (kk : ∀ (H : Heap) (locs : List Loc), va_P D cl (ws.set q0 (a, .inl (cA, n, .inl (fun j => mI (nr_up g k v j))))) H → va_D A (ws.set q0 (a, .inl (cA, n, .inl (fun j => mI (nr_up g k v j))))) → va_S A H0 H locs → W p l e R s m args below meth c H locs cells slots Q (F0 m (pc + 1) ls rest)) : W p l e R s m args below meth c H locs cells slots Q (F0 m pc ls (.int x :: .int (nI k) :: .ref a :: rest)) := by
  subst hv
  refine va_iast hx hb hK hP hD hS q0 t0 ha ht (vp_in_nI hk hn) hd (fun H1 locs1 h1 h2 h3 => ?_)
  have e : upd (fun j => mI (g j)) k (mI v) = fun j => mI (nr_up g k v j) := by
    funext j
    unfold nr_up
    by_cases h : j = k
    · subst h; rw [pk_us, if_pos rfl]
    · rw [pk_un h, if_neg h]
  rw [nI_clamp (by omega), e] at h1 h2
  exact kk H1 locs1 h1 h2 h3
theorem nr_zald (hx : p.tables.exec = Jvm.exec) (hb : c.code = cc) (hK : va_K D cl tys s) (hP : va_P D cl ws H) (q0 t0 : Nat) {cA : ClassId} {n : Nat} {g : Nat → Nat} (ha : ws[q0]? = some (a, .inl (cA, n, .inl (fun j => nI (g j))))) (ht : tys[t0]? = some (cA, .boolean)) {k : Nat} (hk : k < n) (hn : n < 2 ^ 31) (hd : decode cc pc = .ok (.baload, 1))
    (kk : W p l e R s m args below meth c H locs cells slots Q (F0 m (pc + 1) ls (.int (nI (g k)) :: rest))) : W p l e R s m args below meth c H locs cells slots Q (F0 m pc ls (.int (nI k) :: .ref a :: rest)) := by
  refine va_zald hx hb hK hP q0 t0 ha ht (vp_in_nI hk hn) hd ?_
  rw [nI_clamp (by omega)]
  exact kk
theorem nr_zast (hx : p.tables.exec = Jvm.exec) (hb : c.code = cc) (hK : va_K D cl tys s) (hP : va_P D cl ws H) (hD : va_D A ws) (hS : va_S A H0 H locs) (q0 t0 : Nat) {cA : ClassId} {n : Nat} {g : Nat → Nat} (ha : ws[q0]? = some (a, .inl (cA, n, .inl (fun j => nI (g j))))) (ht : tys[t0]? = some (cA, .boolean)) {k v : Nat} (hv : v = 0 ∨ v = 1) (hk : k < n) (hn : n < 2 ^ 31) (hd : decode cc pc = .ok (.bastore, 1))
    (kk : ∀ (H : Heap) (locs : List Loc), va_P D cl (ws.set q0 (a, .inl (cA, n, .inl (fun j => nI (nr_up g k v j))))) H → va_D A (ws.set q0 (a, .inl (cA, n, .inl (fun j => nI (nr_up g k v j))))) → va_S A H0 H locs → W p l e R s m args below meth c H locs cells slots Q (F0 m (pc + 1) ls rest)) : W p l e R s m args below meth c H locs cells slots Q (F0 m pc ls (.int (nI v) :: .int (nI k) :: .ref a :: rest)) := by
  refine va_zast hx hb hK hP hD hS q0 t0 ha ht (vp_in_nI hk hn) hd (fun H1 locs1 h1 h2 h3 => ?_)
  have e : vp_nar .boolean (nI v) = nI v := by rcases hv with rfl | rfl <;> rfl
  rw [nI_clamp (by omega), e, nr_up_eq] at h1 h2
  exact kk H1 locs1 h1 h2 h3
/-- a long compared, then 'less' or 'greater' -/
theorem nr_cmplt (hx : p.tables.exec = Jvm.exec) (hb : c.code = cc) {x y : Int64} {off : Int} {tgt : Nat} (hd1 : decode cc pc = .ok (.lcmp, 1)) (hd2 : decode cc (pc + 1) = .ok (.ifCond .lt off, 3)) (ht : ((pc + 1 : Nat) : Int) + off = (tgt : Int))
    (kt : x < y → W p l e R s m args below meth c H locs cells slots Q (F0 m tgt ls rest)) (kf : ¬ x < y → W p l e R s m args below meth c H locs cells slots Q (F0 m (pc + 1 + 3) ls rest)) : W p l e R s m args below meth c H locs cells slots Q (F0 m pc ls (.long y :: .long x :: rest)) := by
  refine W.lcmp hx hb hd1 ?_
  refine lv_if_lt hx hb hd2 ht (fun h => kt ?_) (fun h => kf ?_)
  · by_cases q : x < y
    · exact q
    · exfalso
      by_cases h1 : y < x
      · simp [lg_cmp, h1] at h
      · by_cases h2 : x = y
        · simp [lg_cmp, h2] at h
        · exact absurd (Int64.lt_of_le_of_ne (Int64.not_lt.mp h1) h2) q
  · intro q
    have h1 : ¬ y < x := Int64.lt_asymm q
    have h2 : x ≠ y := fun e => by subst e; exact Int64.lt_irrefl q
    exact h (by simp [lg_cmp, h1, h2])
theorem nr_cmpgt (hx : p.tables.exec = Jvm.exec) (hb : c.code = cc) {x y : Int64} {off : Int} {tgt : Nat} (hd1 : decode cc pc = .ok (.lcmp, 1)) (hd2 : decode cc (pc + 1) = .ok (.ifCond .gt off, 3)) (ht : ((pc + 1 : Nat) : Int) + off = (tgt : Int))
    (kt : y < x → W p l e R s m args below meth c H locs cells slots Q (F0 m tgt ls rest)) (kf : ¬ y < x → W p l e R s m args below meth c H locs cells slots Q (F0 m (pc + 1 + 3) ls rest)) : W p l e R s m args below meth c H locs cells slots Q (F0 m pc ls (.long y :: .long x :: rest)) := by
  refine W.lcmp hx hb hd1 ?_
  refine lv_if_gt hx hb hd2 ht (fun h => kt ?_) (fun h => kf ?_)
  · by_cases q : y < x
    · exact q
    · exfalso
      by_cases h2 : x = y
      · simp [lg_cmp, h2] at h
        try exact absurd h (by decide)
      · simp [lg_cmp, q, h2] at h
        try exact absurd h (by decide)
  · intro q
    exact h (by simp [lg_cmp, q])
theorem nr_cmpne (hx : p.tables.exec = Jvm.exec) (hb : c.code = cc) {x y : Int64} {off : Int} {tgt : Nat} (hd1 : decode cc pc = .ok (.lcmp, 1)) (hd2 : decode cc (pc + 1) = .ok (.ifCond .ne off, 3)) (ht : ((pc + 1 : Nat) : Int) + off = (tgt : Int))
    (kt : x ≠ y → W p l e R s m args below meth c H locs cells slots Q (F0 m tgt ls rest)) (kf : x = y → W p l e R s m args below meth c H locs cells slots Q (F0 m (pc + 1 + 3) ls rest)) : W p l e R s m args below meth c H locs cells slots Q (F0 m pc ls (.long y :: .long x :: rest)) := by
  refine W.lcmp hx hb hd1 ?_
  refine lv_if_ne hx hb hd2 ht (fun h => kt ?_) (fun h => kf ?_)
  · intro q
    subst q
    exact h (by simp [lg_cmp])
  · by_cases h1 : y < x
    · simp [lg_cmp, h1] at h
    · by_cases h2 : x = y
      · exact h2
      · simp [lg_cmp, h1, h2] at h
end MR
/-- the trays f i, f (i + 1) .. of a walk are always the lowest ones: r of them, from u to v -/
def cw_gs (T : Nat) (a b ln d f : Nat → Nat) : Nat → Nat → Nat → Nat → Prop
  | 0, _, u, v => u = v
  | r + 1, i, u, v => f i < T ∧ (∃ w, cw_nx a b (f i) u = some w ∧ d w + ln (f i) = d u ∧ cw_gs T a b ln d f r (i + 1) w v) ∧ ∀ t', t' < f i → ¬ cw_gd a b ln d u t'
theorem cw_gs_of {T : Nat} {a b ln d f : Nat → Nat} : ∀ (r i u v : Nat), cw_gr T a b ln d ((List.range' i r).map f) u v → cw_gs T a b ln d f r i u v
  | 0, _, _, _, h => h
  | r + 1, i, u, v, h => by
    rw [List.range'_succ, List.map_cons] at h
    obtain ⟨h1, ⟨w, h2, h3, h4⟩, h5⟩ := h
    exact ⟨h1, ⟨w, h2, h3, cw_gs_of r (i + 1) w v h4⟩, h5⟩
theorem cw_ds_uniq {T : Nat} {a b ln : Nat → Nat} {v F : Nat} {d d' : Nat → Nat} (h : cw_ds T a b ln v F d) (h' : cw_ds T a b ln v F d') : d = d' := by
  have key : ∀ {d d' : Nat → Nat}, cw_ds T a b ln v F d → cw_ds T a b ln v F d' → ∀ u, d' u ≤ d u := by
    intro d d' h h' u
    by_cases hF : d u < F
    · obtain ⟨p, hp, e⟩ := h.1.2 u hF
      rw [← e]
      exact h'.2 p u hp
    · exact Nat.le_trans (h'.1.1 u) (by omega)
  funext u
  exact Nat.le_antisymm (key h' h u) (key h h' u)
theorem nI_nm1 {k : Nat} (h : k < 2 ^ 31) : ¬ nI k = -1 := by
  intro e
  have h1 := congrArg Int32.toInt e
  rw [nI_toInt h] at h1
  have h2 : (k : Int) = -1 := h1
  omega
section LR
variable {p : Program} {l : Launch} {e : Env} {R : Room} {s : State} {m : MethodId} {args : Array Value} {below : List Frame} {meth : Method} {c : Code} {H : Heap} {locs : List Loc} {cells slots : Nat} {Q : State → Prop}
variable {cc : ByteArray} {pc : Nat} {ls : Array Slot} {rest : List Value}
theorem nr_lmul (hx : p.tables.exec = Jvm.exec) (hb : c.code = cc) {x y : Nat} (hd : decode cc pc = .ok (.lmul, 1))
    (k : W p l e R s m args below meth c H locs cells slots Q (F0 m (pc + 1) ls (.long (lN (x * y)) :: rest))) : W p l e R s m args below meth c H locs cells slots Q (F0 m pc ls (.long (lN y) :: .long (lN x) :: rest)) := by
  refine lv_lmul hx hb hd ?_
  rw [lN_mul]
  exact k
theorem lN_ne0 {y : Nat} (h0 : 0 < y) (hy : y < 2 ^ 63) : ¬ lN y = 0 := fun e => by
  have h : lN y = lN 0 := e
  exact absurd ((pk_lEQ hy (by omega)).mp h) (by omega)
theorem nr_ldiv (hx : p.tables.exec = Jvm.exec) (hb : c.code = cc) {x y : Nat} (h0 : 0 < y) (hy : y < 2 ^ 63) (hxx : x < 2 ^ 63) (hd : decode cc pc = .ok (.ldiv, 1))
    (k : W p l e R s m args below meth c H locs cells slots Q (F0 m (pc + 1) ls (.long (lN (x / y)) :: rest))) : W p l e R s m args below meth c H locs cells slots Q (F0 m pc ls (.long (lN y) :: .long (lN x) :: rest)) := by
  refine lv_ldiv hx hb hd (lN_ne0 h0 hy) ?_
  rw [pk_lDiv hxx h0 hy]
  exact k
theorem nr_lrem (hx : p.tables.exec = Jvm.exec) (hb : c.code = cc) {x y : Nat} (h0 : 0 < y) (hy : y < 2 ^ 63) (hxx : x < 2 ^ 63) (hd : decode cc pc = .ok (.lrem, 1))
    (k : W p l e R s m args below meth c H locs cells slots Q (F0 m (pc + 1) ls (.long (lN (x % y)) :: rest))) : W p l e R s m args below meth c H locs cells slots Q (F0 m pc ls (.long (lN y) :: .long (lN x) :: rest)) := by
  refine lv_lrem hx hb hd (lN_ne0 h0 hy) ?_
  rw [pk_lRem hxx h0 hy]
  exact k
end LR
theorem x64_lt (x : Int32) {k : Nat} (hk : k < 2 ^ 31) : (x.toInt64 < lN k ↔ x.toInt < k) ∧ (lN k < x.toInt64 ↔ (k : Int) < x.toInt) := by
  rw [Int64.lt_iff_toInt_lt, Int64.lt_iff_toInt_lt, lN_toInt hk, Int32.toInt_toInt64]
  exact ⟨Iff.rfl, Iff.rfl⟩
/-- a number is in bounds -/
def inB (x : Int32) (lo hi : Nat) : Prop := ∃ k : Nat, x = nI k ∧ lo ≤ k ∧ k ≤ hi
theorem inB_of {x : Int32} {lo hi : Nat} (hh : hi < 2 ^ 31) (h1 : (lo : Int) ≤ x.toInt) (h2 : x.toInt ≤ hi) : inB x lo hi := by
  refine ⟨x.toInt.toNat, ?_, by omega, by omega⟩
  apply Int32.toInt_inj.mp
  rw [nI_toInt (by omega)]
  omega
theorem inB_toInt {x : Int32} {lo hi : Nat} (hh : hi < 2 ^ 31) (h : inB x lo hi) : (lo : Int) ≤ x.toInt ∧ x.toInt ≤ hi := by
  obtain ⟨k, rfl, h1, h2⟩ := h
  rw [nI_toInt (by omega)]
  omega
end
section
set_option maxHeartbeats 4000000 in
set_option maxRecDepth 100000 in
/-- isNode -/
theorem kX5_isNode (l : Launch) (D : va_G) (cI cG cL cB : ClassId) (x : Int32) : ct_i l yX5_isNode (.code yX5_isNode cX5_isNode 1 (some .boolean) :: bw) ({ frames := 0, cells := 0, slots := 0, locals := 0 }) (EN D (tyL cI cG cL cB)) D vwCl ([] : va_W) [.int x] (fun v W => W = [] ∧ ((v = nI 1 ∧ inB x 0 9) ∨ (v = nI 0 ∧ ¬ inB x 0 9))) 0 0 := by
  refine ct_ofi (by decide) (Nat.le_of_ble_eq_true rfl) ?_
  intro p e s m below meth cd A H locs av Q ls hx hb hr hml hown hlocks hnm hbw hEN hQ hP hD hS hA hl
  have hown : s.vm.findClass RX5 = some m.cls := hown
  have hK := hEN.1
  have hl : lv_has ls 1 [(0, .int x)] := hl
  refine lv_iload_n hx hb dX5_isNode_0 rfl (lv_at hl 0 rfl) ?_
  refine lv_if_lt (tgt := 14) hx hb dX5_isNode_1 (by decide) (fun h1 => ?_) (fun h1 => ?_)
  · refine lv_iconst (v := nI 0) hx hb dX5_isNode_14 (by decide) ?_
    rw [hQ]
    exact ct_zret hx hb hr hlocks hP hD hS dX5_isNode_15 (by first | exact Or.inl rfl | exact Or.inr rfl) ⟨rfl, Or.inr ⟨rfl, (fun q => by have q := inB_toInt (by omega) q; have q2 := Int32.lt_iff_toInt_lt.mp h1; have q3 : x.toInt < 0 := q2; omega)⟩⟩
  · refine lv_iload_n hx hb dX5_isNode_4 rfl (lv_at hl 0 rfl) ?_
    refine lv_bipush (v := nI 10) hx hb dX5_isNode_5 (by decide) ?_
    refine lv_icmp_ge (tgt := 14) hx hb dX5_isNode_7 (by decide) (fun h2 => ?_) (fun h2 => ?_)
    · refine lv_iconst (v := nI 0) hx hb dX5_isNode_14 (by decide) ?_
      rw [hQ]
      exact ct_zret hx hb hr hlocks hP hD hS dX5_isNode_15 (by first | exact Or.inl rfl | exact Or.inr rfl) ⟨rfl, Or.inr ⟨rfl, (fun q => by have q := inB_toInt (by omega) q; have q2 := Int32.le_iff_toInt_le.mp h2; rw [nI_toInt (by omega)] at q2; omega)⟩⟩
    · refine lv_iconst (v := nI 1) hx hb dX5_isNode_10 (by decide) ?_
      refine lv_goto (tgt := 15) hx hb dX5_isNode_11 (by decide) ?_
      rw [hQ]
      exact ct_zret hx hb hr hlocks hP hD hS dX5_isNode_15 (by first | exact Or.inl rfl | exact Or.inr rfl) ⟨rfl, Or.inl ⟨rfl, inB_of (by omega) (by have q := Int32.le_iff_toInt_le.mp (Int32.not_lt.mp h1); have q2 : (0 : Int) ≤ x.toInt := q; omega) (by have q := Int32.lt_iff_toInt_lt.mp (Int32.not_le.mp h2); rw [nI_toInt (by omega)] at q; omega)⟩⟩
set_option maxHeartbeats 4000000 in
set_option maxRecDepth 100000 in
/-- isIn -/
theorem kX5_isIn (l : Launch) (D : va_G) (cI cG cL cB : ClassId) (x : Int32) (lw hg : Nat) (h1 : lw < 2 ^ 31) (h2 : hg < 2 ^ 31) : ct_i l yX5_isIn (.code yX5_isIn cX5_isIn 6 (some .boolean) :: bw) ({ frames := 0, cells := 0, slots := 0, locals := 0 }) (EN D (tyL cI cG cL cB)) D vwCl ([] : va_W) [.long x.toInt64, .long (lN lw), .long (lN hg)] (fun v W => W = [] ∧ ((v = nI 1 ∧ inB x lw hg) ∨ (v = nI 0 ∧ ¬ inB x lw hg))) 0 0 := by
  refine ct_ofi (by decide) (Nat.le_of_ble_eq_true rfl) ?_
  intro p e s m below meth cd A H locs av Q ls hx hb hr hml hown hlocks hnm hbw hEN hQ hP hD hS hA hl
  have hown : s.vm.findClass RX5 = some m.cls := hown
  have hK := hEN.1
  have hl : lv_has ls 6 [(0, .long x.toInt64), (2, .long (lN lw)), (4, .long (lN hg))] := hl
  refine lv_lload_n hx hb dX5_isIn_0 rfl (lv_at hl 0 rfl) ?_
  refine lv_lload_n hx hb dX5_isIn_1 rfl (lv_at hl 1 rfl) ?_
  refine nr_cmplt (tgt := 17) hx hb dX5_isIn_2 dX5_isIn_3 (by decide) (fun h3 => ?_) (fun h3 => ?_)
  · refine lv_iconst (v := nI 0) hx hb dX5_isIn_17 (by decide) ?_
    rw [hQ]
    exact ct_zret hx hb hr hlocks hP hD hS dX5_isIn_18 (by first | exact Or.inl rfl | exact Or.inr rfl) ⟨rfl, Or.inr ⟨rfl, fun q => by have q := inB_toInt h2 q; have q2 := (x64_lt x h1).1.mp h3; omega⟩⟩
  · refine lv_lload_n hx hb dX5_isIn_6 rfl (lv_at hl 0 rfl) ?_
    refine lv_lload hx hb dX5_isIn_7 (lv_at hl 2 rfl) ?_
    refine nr_cmpgt (tgt := 17) hx hb dX5_isIn_9 dX5_isIn_10 (by decide) (fun h4 => ?_) (fun h4 => ?_)
    · refine lv_iconst (v := nI 0) hx hb dX5_isIn_17 (by decide) ?_
      rw [hQ]
      exact ct_zret hx hb hr hlocks hP hD hS dX5_isIn_18 (by first | exact Or.inl rfl | exact Or.inr rfl) ⟨rfl, Or.inr ⟨rfl, fun q => by have q := inB_toInt h2 q; have q2 := (x64_lt x h2).2.mp h4; omega⟩⟩
    · refine lv_iconst (v := nI 1) hx hb dX5_isIn_13 (by decide) ?_
      refine lv_goto (tgt := 18) hx hb dX5_isIn_14 (by decide) ?_
      rw [hQ]
      exact ct_zret hx hb hr hlocks hP hD hS dX5_isIn_18 (by first | exact Or.inl rfl | exact Or.inr rfl) ⟨rfl, Or.inl ⟨rfl, inB_of h2 (by have q := mt (x64_lt x h1).1.mpr h3; omega) (by have q := mt (x64_lt x h2).2.mpr h4; omega)⟩⟩
set_option maxHeartbeats 4000000 in
set_option maxRecDepth 100000 in
/-- thrown -/
theorem kX5_thrown (l : Launch) (D : va_G) (cI cG cL cB : ClassId) (g : Nat → Nat) (th n : Nat) (en le ro : Nat → Nat) (sn : Nat) (ar rt oh : Nat → Nat) (cn : Nat) (no ot cu : Nat → Nat) (lim : Nat) (fa wy lo ch bd : Nat → Nat) : ct_i l yX5_thrown (.code yX5_thrown cX5_thrown 1 (some .int) :: bw) ({ frames := 0, cells := 0, slots := 0, locals := 0 }) (EN D (tyL cI cG cL cB)) D vwCl (pM g cI cB th n en le ro sn ar rt oh cn no ot cu lim fa wy lo ch bd) [.ref (g 0)] (fun v W => W = (pM g cI cB th n en le ro sn ar rt oh cn no ot cu lim fa wy lo ch bd) ∧ v = nI th) 0 0 := by
  refine ct_ofi (by decide) (Nat.le_of_ble_eq_true rfl) ?_
  intro p e s m below meth cd A H locs av Q ls hx hb hr hml hown hlocks hnm hbw hEN hQ hP hD hS hA hl
  have hown : s.vm.findClass RX5 = some m.cls := hown
  have hK := hEN.1
  have hl : lv_has ls 1 [(0, .ref (g 0))] := hl
  refine lv_aload_n hx hb dX5_thrown_0 rfl (lv_at hl 0 rfl) ?_
  refine va_get (ci := 5) (v := .int (nI th)) (C := RX5) (T := TX5) (N := 19) hx hb hbw in_X5 hown hK hP 0 rfl rfl 0 (by decide) (hbw _ m_488) (fun _ h9 => h9) rfl dX5_thrown_1 ?_
  rw [hQ]
  exact ct_iret hx hb hr hlocks hP hD hS dX5_thrown_4 ⟨rfl, rfl⟩
set_option maxHeartbeats 4000000 in
set_option maxRecDepth 100000 in
/-- X5_noCable -/
theorem kX5_noCable (l : Launch) (D : va_G) (cI cG cL cB : ClassId) (g : Nat → Nat) (th n : Nat) (en le ro : Nat → Nat) (sn : Nat) (ar rt oh : Nat → Nat) (cn : Nat) (no ot cu : Nat → Nat) (lim : Nat) (fa wy lo ch bd : Nat → Nat) (x : Int32) (hn : cn ≤ 20) : ct_i l yX5_noCable (.code yX5_noCable cX5_noCable 2 (some .boolean) :: bw) ({ frames := 0, cells := 0, slots := 0, locals := 0 }) (EN D (tyL cI cG cL cB)) D vwCl (pM g cI cB th n en le ro sn ar rt oh cn no ot cu lim fa wy lo ch bd) [.ref (g 0), .int x] (fun v W => W = (pM g cI cB th n en le ro sn ar rt oh cn no ot cu lim fa wy lo ch bd) ∧ ((v = nI 1 ∧ ¬ ∃ k, k < cn ∧ x = nI k) ∨ (v = nI 0 ∧ ∃ k, k < cn ∧ x = nI k))) 0 0 := by
  refine ct_ofi (by decide) (Nat.le_of_ble_eq_true rfl) ?_
  intro p e s m below meth cd A H locs av Q ls hx hb hr hml hown hlocks hnm hbw hEN hQ hP hD hS hA hl
  have hown : s.vm.findClass RX5 = some m.cls := hown
  have hK := hEN.1
  have hl : lv_has ls 2 [(0, .ref (g 0)), (1, .int x)] := hl
  refine lv_iload_n hx hb dX5_noCable_0 rfl (lv_at hl 1 rfl) ?_
  refine lv_if_lt (tgt := 12) hx hb dX5_noCable_1 (by decide) (fun h1 => ?_) (fun h1 => ?_)
  · refine lv_iconst (v := nI 1) hx hb dX5_noCable_12 (by decide) ?_
    refine lv_goto (tgt := 17) hx hb dX5_noCable_13 (by decide) ?_
    rw [hQ]
    exact ct_zret hx hb hr hlocks hP hD hS dX5_noCable_17 (by first | exact Or.inl rfl | exact Or.inr rfl) ⟨rfl, Or.inl ⟨rfl, fun ⟨k, hk, e⟩ => by rw [e] at h1; exact nI_pos (by omega) h1⟩⟩
  · refine lv_iload_n hx hb dX5_noCable_4 rfl (lv_at hl 1 rfl) ?_
    refine lv_aload_n hx hb dX5_noCable_5 rfl (lv_at hl 0 rfl) ?_
    refine va_get (ci := 5) (v := .int (nI cn)) (C := RX5) (T := TX5) (N := 19) hx hb hbw in_X5 hown hK hP 0 rfl rfl 9 (by decide) (hbw _ m_497) (fun _ h9 => h9) rfl dX5_noCable_6 ?_
    refine lv_icmp_lt (tgt := 16) hx hb dX5_noCable_9 (by decide) (fun h2 => ?_) (fun h2 => ?_)
    · refine lv_iconst (v := nI 0) hx hb dX5_noCable_16 (by decide) ?_
      obtain ⟨k, hk, e⟩ : ∃ k, k < cn ∧ x = nI k := by
        rcases pk_ix x (n := cn) (by omega) with h | h | ⟨j, h3, h4⟩
        · exact absurd h h1
        · exact absurd h2 (Int32.not_lt.mpr h)
        · exact ⟨j, h3, h4⟩
      rw [hQ]
      exact ct_zret hx hb hr hlocks hP hD hS dX5_noCable_17 (by first | exact Or.inl rfl | exact Or.inr rfl) ⟨rfl, Or.inr ⟨rfl, k, hk, e⟩⟩
    · refine lv_iconst (v := nI 1) hx hb dX5_noCable_12 (by decide) ?_
      refine lv_goto (tgt := 17) hx hb dX5_noCable_13 (by decide) ?_
      rw [hQ]
      exact ct_zret hx hb hr hlocks hP hD hS dX5_noCable_17 (by first | exact Or.inl rfl | exact Or.inr rfl) ⟨rfl, Or.inl ⟨rfl, fun ⟨k, hk, e⟩ => h2 (by rw [e]; exact nI_lt hk (by omega))⟩⟩
set_option maxHeartbeats 4000000 in
set_option maxRecDepth 100000 in
/-- X5_noTray -/
theorem kX5_noTray (l : Launch) (D : va_G) (cI cG cL cB : ClassId) (g : Nat → Nat) (th n : Nat) (en le ro : Nat → Nat) (sn : Nat) (ar rt oh : Nat → Nat) (cn : Nat) (no ot cu : Nat → Nat) (lim : Nat) (fa wy lo ch bd : Nat → Nat) (x : Int32) (hn : n ≤ 15) : ct_i l yX5_noTray (.code yX5_noTray cX5_noTray 2 (some .boolean) :: bw) ({ frames := 0, cells := 0, slots := 0, locals := 0 }) (EN D (tyL cI cG cL cB)) D vwCl (pM g cI cB th n en le ro sn ar rt oh cn no ot cu lim fa wy lo ch bd) [.ref (g 0), .int x] (fun v W => W = (pM g cI cB th n en le ro sn ar rt oh cn no ot cu lim fa wy lo ch bd) ∧ ((v = nI 1 ∧ ¬ ∃ k, k < n ∧ x = nI k) ∨ (v = nI 0 ∧ ∃ k, k < n ∧ x = nI k))) 0 0 := by
  refine ct_ofi (by decide) (Nat.le_of_ble_eq_true rfl) ?_
  intro p e s m below meth cd A H locs av Q ls hx hb hr hml hown hlocks hnm hbw hEN hQ hP hD hS hA hl
  have hown : s.vm.findClass RX5 = some m.cls := hown
  have hK := hEN.1
  have hl : lv_has ls 2 [(0, .ref (g 0)), (1, .int x)] := hl
  refine lv_iload_n hx hb dX5_noTray_0 rfl (lv_at hl 1 rfl) ?_
  refine lv_if_lt (tgt := 12) hx hb dX5_noTray_1 (by decide) (fun h1 => ?_) (fun h1 => ?_)
  · refine lv_iconst (v := nI 1) hx hb dX5_noTray_12 (by decide) ?_
    refine lv_goto (tgt := 17) hx hb dX5_noTray_13 (by decide) ?_
    rw [hQ]
    exact ct_zret hx hb hr hlocks hP hD hS dX5_noTray_17 (by first | exact Or.inl rfl | exact Or.inr rfl) ⟨rfl, Or.inl ⟨rfl, fun ⟨k, hk, e⟩ => by rw [e] at h1; exact nI_pos (by omega) h1⟩⟩
  · refine lv_iload_n hx hb dX5_noTray_4 rfl (lv_at hl 1 rfl) ?_
    refine lv_aload_n hx hb dX5_noTray_5 rfl (lv_at hl 0 rfl) ?_
    refine va_get (ci := 5) (v := .int (nI n)) (C := RX5) (T := TX5) (N := 19) hx hb hbw in_X5 hown hK hP 0 rfl rfl 1 (by decide) (hbw _ m_489) (fun _ h9 => h9) rfl dX5_noTray_6 ?_
    refine lv_icmp_lt (tgt := 16) hx hb dX5_noTray_9 (by decide) (fun h2 => ?_) (fun h2 => ?_)
    · refine lv_iconst (v := nI 0) hx hb dX5_noTray_16 (by decide) ?_
      obtain ⟨k, hk, e⟩ : ∃ k, k < n ∧ x = nI k := by
        rcases pk_ix x (n := n) (by omega) with h | h | ⟨j, h3, h4⟩
        · exact absurd h h1
        · exact absurd h2 (Int32.not_lt.mpr h)
        · exact ⟨j, h3, h4⟩
      rw [hQ]
      exact ct_zret hx hb hr hlocks hP hD hS dX5_noTray_17 (by first | exact Or.inl rfl | exact Or.inr rfl) ⟨rfl, Or.inr ⟨rfl, k, hk, e⟩⟩
    · refine lv_iconst (v := nI 1) hx hb dX5_noTray_12 (by decide) ?_
      refine lv_goto (tgt := 17) hx hb dX5_noTray_13 (by decide) ?_
      rw [hQ]
      exact ct_zret hx hb hr hlocks hP hD hS dX5_noTray_17 (by first | exact Or.inl rfl | exact Or.inr rfl) ⟨rfl, Or.inl ⟨rfl, fun ⟨k, hk, e⟩ => h2 (by rw [e]; exact nI_lt hk (by omega))⟩⟩
set_option maxHeartbeats 4000000 in
set_option maxRecDepth 100000 in
/-- behind -/
theorem kX5_behind (l : Launch) (D : va_G) (cI cG cL cB : ClassId) (g : Nat → Nat) (th n : Nat) (en le ro : Nat → Nat) (sn : Nat) (ar rt oh : Nat → Nat) (cn : Nat) (no ot cu : Nat → Nat) (lim : Nat) (fa wy lo ch bd : Nat → Nat) (t u : Nat) (ht : t < 15) (hu : u < 10) (hen : ∀ j, en j < 10) : ct_i l yX5_behind (.code yX5_behind cX5_behind 3 (some .int) :: bw) ({ frames := 0, cells := 0, slots := 0, locals := 0 }) (EN D (tyL cI cG cL cB)) D vwCl (pM g cI cB th n en le ro sn ar rt oh cn no ot cu lim fa wy lo ch bd) [.ref (g 0), .int (nI t), .int (nI u)] (fun v W => W = (pM g cI cB th n en le ro sn ar rt oh cn no ot cu lim fa wy lo ch bd) ∧ v = oI (cw_nx (fun t => en (2 * t)) (fun t => en (2 * t + 1)) t u)) 0 0 := by
  refine ct_ofi (by decide) (Nat.le_of_ble_eq_true rfl) ?_
  intro p e s m below meth cd A H locs av Q ls hx hb hr hml hown hlocks hnm hbw hEN hQ hP hD hS hA hl
  have hown : s.vm.findClass RX5 = some m.cls := hown
  have hK := hEN.1
  have hl : lv_has ls 3 [(0, .ref (g 0)), (1, .int (nI t)), (2, .int (nI u))] := hl
  refine lv_aload_n hx hb dX5_behind_0 rfl (lv_at hl 0 rfl) ?_
  refine va_get (ci := 5) (v := .ref (g 1)) (C := RX5) (T := TX5) (N := 19) hx hb hbw in_X5 hown hK hP 0 rfl rfl 2 (by decide) (hbw _ m_490) (fun _ h9 => h9) rfl dX5_behind_1 ?_
  refine lv_iconst (v := nI 2) hx hb dX5_behind_4 (by decide) ?_
  refine lv_iload_n hx hb dX5_behind_5 rfl (lv_at hl 1 rfl) ?_
  refine nr_imul hx hb dX5_behind_6 ?_
  refine nr_iald hx hb hK hP 1 0 rfl rfl (k := 2 * t) (by omega) (by omega) dX5_behind_7 ?_
  have b_1 := hen (2 * t)
  refine lv_iload_n hx hb dX5_behind_8 rfl (lv_at hl 2 rfl) ?_
  refine nr_icmp_ne (x := en (2 * t)) (y := u) (tgt := 25) hx hb (by omega) (by omega) dX5_behind_9 (by decide) (fun h1 => ?_) (fun h1 => ?_)
  · refine lv_aload_n hx hb dX5_behind_25 rfl (lv_at hl 0 rfl) ?_
    refine va_get (ci := 5) (v := .ref (g 1)) (C := RX5) (T := TX5) (N := 19) hx hb hbw in_X5 hown hK hP 0 rfl rfl 2 (by decide) (hbw _ m_490) (fun _ h9 => h9) rfl dX5_behind_26 ?_
    refine lv_iconst (v := nI 2) hx hb dX5_behind_29 (by decide) ?_
    refine lv_iload_n hx hb dX5_behind_30 rfl (lv_at hl 1 rfl) ?_
    refine nr_imul hx hb dX5_behind_31 ?_
    refine lv_iconst (v := nI 1) hx hb dX5_behind_32 (by decide) ?_
    refine nr_iadd hx hb dX5_behind_33 ?_
    refine nr_iald hx hb hK hP 1 0 rfl rfl (k := (2 * t) + 1) (by omega) (by omega) dX5_behind_34 ?_
    have b_2 := hen ((2 * t) + 1)
    refine lv_iload_n hx hb dX5_behind_35 rfl (lv_at hl 2 rfl) ?_
    refine nr_icmp_ne (x := en ((2 * t) + 1)) (y := u) (tgt := 50) hx hb (by omega) (by omega) dX5_behind_36 (by decide) (fun h2 => ?_) (fun h2 => ?_)
    · refine lv_iconst (v := (-1)) hx hb dX5_behind_50 (by decide) ?_
      have e1 : cw_nx (fun t => en (2 * t)) (fun t => en (2 * t + 1)) t u = none := by unfold cw_nx; rw [if_neg h1, if_neg h2]
      rw [hQ]
      exact ct_iret hx hb hr hlocks hP hD hS dX5_behind_51 ⟨rfl, by rw [e1]; rfl⟩
    · refine lv_aload_n hx hb dX5_behind_39 rfl (lv_at hl 0 rfl) ?_
      refine va_get (ci := 5) (v := .ref (g 1)) (C := RX5) (T := TX5) (N := 19) hx hb hbw in_X5 hown hK hP 0 rfl rfl 2 (by decide) (hbw _ m_490) (fun _ h9 => h9) rfl dX5_behind_40 ?_
      refine lv_iconst (v := nI 2) hx hb dX5_behind_43 (by decide) ?_
      refine lv_iload_n hx hb dX5_behind_44 rfl (lv_at hl 1 rfl) ?_
      refine nr_imul hx hb dX5_behind_45 ?_
      refine nr_iald hx hb hK hP 1 0 rfl rfl (k := 2 * t) (by omega) (by omega) dX5_behind_46 ?_
      have b_3 := hen (2 * t)
      refine lv_goto (tgt := 51) hx hb dX5_behind_47 (by decide) ?_
      have e1 : cw_nx (fun t => en (2 * t)) (fun t => en (2 * t + 1)) t u = some (en (2 * t)) := by unfold cw_nx; rw [if_neg h1, if_pos h2]
      rw [hQ]
      exact ct_iret hx hb hr hlocks hP hD hS dX5_behind_51 ⟨rfl, by rw [e1]; rfl⟩
  · refine lv_aload_n hx hb dX5_behind_12 rfl (lv_at hl 0 rfl) ?_
    refine va_get (ci := 5) (v := .ref (g 1)) (C := RX5) (T := TX5) (N := 19) hx hb hbw in_X5 hown hK hP 0 rfl rfl 2 (by decide) (hbw _ m_490) (fun _ h9 => h9) rfl dX5_behind_13 ?_
    refine lv_iconst (v := nI 2) hx hb dX5_behind_16 (by decide) ?_
    refine lv_iload_n hx hb dX5_behind_17 rfl (lv_at hl 1 rfl) ?_
    refine nr_imul hx hb dX5_behind_18 ?_
    refine lv_iconst (v := nI 1) hx hb dX5_behind_19 (by decide) ?_
    refine nr_iadd hx hb dX5_behind_20 ?_
    refine nr_iald hx hb hK hP 1 0 rfl rfl (k := (2 * t) + 1) (by omega) (by omega) dX5_behind_21 ?_
    have b_4 := hen ((2 * t) + 1)
    refine lv_goto (tgt := 51) hx hb dX5_behind_22 (by decide) ?_
    have e1 : cw_nx (fun t => en (2 * t)) (fun t => en (2 * t + 1)) t u = some (en (2 * t + 1)) := by unfold cw_nx; rw [if_pos h1]
    rw [hQ]
    exact ct_iret hx hb hr hlocks hP hD hS dX5_behind_51 ⟨rfl, by rw [e1]; rfl⟩
theorem cw_rd_any {T : Nat} {a b ln : Nat → Nat} {v F k : Nat} {g : Bool} {d : Nat → Nat} (h : cw_rd T a b ln v F k g d) : cw_rd T a b ln v F k true d := ⟨h.1, h.2.1, h.2.2.1, fun q => by cases q⟩
theorem nr_up_same (d : Nat → Nat) (k : Nat) : nr_up d k (d k) = d := by
  funext j
  unfold nr_up
  split
  · rename_i h; rw [h]
  · rfl
theorem cw_sh_pos {d : Nat → Nat} {u w x : Nat} (h : d w + x < d u) : cw_sh d u w x = nr_up d u (d w + x) := if_pos h
theorem cw_sh_neg {d : Nat → Nat} {u w x : Nat} (h : d u ≤ d w + x) : cw_sh d u w x = d := if_neg (Nat.not_lt.mpr h)
theorem pM_far {D : va_G} {H : Heap} {g : Nat → Nat} {cI cB : ClassId} {th n : Nat} {en le ro : Nat → Nat} {sn : Nat} {ar rt oh : Nat → Nat} {cn : Nat} {no ot cu : Nat → Nat} {lim : Nat} {fa wy lo ch bd fa' : Nat → Nat} (h : ∀ j, j < 10 → fa j = fa' j) (hP : va_P D vwCl (pM g cI cB th n en le ro sn ar rt oh cn no ot cu lim fa wy lo ch bd) H) : va_P D vwCl (pM g cI cB th n en le ro sn ar rt oh cn no ot cu lim fa' wy lo ch bd) H := by
  intro k x hx
  by_cases hk : k = 10
  · subst hk
    cases hx
    have h1 := pF_congr (D := D) (cl := vwCl) (H := H) (qa := g 10) (cI := cI) (nn := 10) h (hP.sub (ws' := pF (g 10) cI 10 fa) [10] rfl)
    exact h1 0 _ rfl
  · have key : (pM g cI cB th n en le ro sn ar rt oh cn no ot cu lim fa wy lo ch bd)[k]? = some x := by
      have h15 : k < 15 := (List.getElem?_eq_some_iff.mp hx).1
      rw [← hx]
      rcases (show k = 0 ∨ k = 1 ∨ k = 2 ∨ k = 3 ∨ k = 4 ∨ k = 5 ∨ k = 6 ∨ k = 7 ∨ k = 8 ∨ k = 9 ∨ k = 11 ∨ k = 12 ∨ k = 13 ∨ k = 14 by omega) with rfl | rfl | rfl | rfl | rfl | rfl | rfl | rfl | rfl | rfl | rfl | rfl | rfl | rfl <;> rfl
    exact hP k x key
theorem pM_farD {A : Nat → Prop} {g : Nat → Nat} {cI cB : ClassId} {th n : Nat} {en le ro : Nat → Nat} {sn : Nat} {ar rt oh : Nat → Nat} {cn : Nat} {no ot cu : Nat → Nat} {lim : Nat} {fa wy lo ch bd fa' : Nat → Nat} (hD : va_D A (pM g cI cB th n en le ro sn ar rt oh cn no ot cu lim fa wy lo ch bd)) : va_D A (pM g cI cB th n en le ro sn ar rt oh cn no ot cu lim fa' wy lo ch bd) := hD.set (p := 10) (e := .inl (cI, 10, .inl (fun j => nI (fa' j)))) rfl
set_option maxHeartbeats 4000000 in
set_option maxRecDepth 100000 in
/-- measure -/
theorem kX5_measure (l : Launch) (D : va_G) (cI cG cL cB : ClassId) (g : Nat → Nat) (th n : Nat) (en le ro : Nat → Nat) (sn : Nat) (ar rt oh : Nat → Nat) (cn : Nat) (no ot cu : Nat → Nat) (lim : Nat) (fa wy lo ch bd : Nat → Nat) (v : Nat) (hv : v < 10) (hn : n ≤ 15) (hok : cw_ok n (fun t => en (2 * t)) (fun t => en (2 * t + 1)) le) (hen : ∀ j, en j < 10) (hl0 : ∀ j, le j ≤ 100) : ct_v l yX5_measure (.code yX5_measure cX5_measure 6 none :: bw) ({ frames := 0, cells := 0, slots := 0, locals := 0 }) (EN D (tyL cI cG cL cB)) D vwCl (pM g cI cB th n en le ro sn ar rt oh cn no ot cu lim fa wy lo ch bd) [.ref (g 0), .int (nI v)] (fun W => ∃ d, W = (pM g cI cB th n en le ro sn ar rt oh cn no ot cu lim d wy lo ch bd) ∧ cw_ds n (fun t => en (2 * t)) (fun t => en (2 * t + 1)) le v 1000000 d) 0 0 := by
  refine ct_ofv (by decide) (Nat.le_of_ble_eq_true rfl) ?_
  intro p e s m below meth cd A H locs av Q ls hx hb hr hml hown hlocks hnm hbw hEN hQ hP hD hS hA hl
  have hown : s.vm.findClass RX5 = some m.cls := hown
  have hK := hEN.1
  have hl : lv_has ls 6 [(0, .ref (g 0)), (1, .int (nI v))] := hl
  refine lv_iconst (v := nI 0) hx hb dX5_measure_0 (by decide) ?_
  refine lv_istore_n (lv' := [(2, .int (nI 0)), (0, .ref (g 0)), (1, .int (nI v))]) hx hb dX5_measure_1 rfl hl (by decide) rfl (fun ls hl => ?_)
  have lp : ∀ (k : Nat) (i : Nat) (fa : Nat → Nat), (hk : 10 < i + k) → (hi : i ≤ 10) → (hf : ∀ j, j < i → fa j = if j = v then 0 else 1000000) → ∀ (H : Heap) (locs : List Loc) (ls : Array Slot), va_P D vwCl (pM g cI cB th n en le ro sn ar rt oh cn no ot cu lim fa wy lo ch bd) H → va_D A (pM g cI cB th n en le ro sn ar rt oh cn no ot cu lim fa wy lo ch bd) → va_S A s.heap H locs → lv_has ls 6 [(0, .ref (g 0)), (1, .int (nI v)), (2, .int (nI i))] → W p l e ({ frames := 0, cells := 0, slots := 0, locals := 0 }) s m av below meth cd H locs 0 0 Q (F0 m 2 ls []) := by
    intro k
    induction k with
    | zero => intro i fa hk hi hf; exact absurd hk (by omega)
    | succ k ih =>
      intro i fa hk hi hf H locs ls hP hD hS hl
      refine lv_iload_n hx hb dX5_measure_2 rfl (lv_at hl 2 rfl) ?_
      refine lv_bipush (v := nI 10) hx hb dX5_measure_3 (by decide) ?_
      refine nr_icmp_ge (x := i) (y := 10) (tgt := 31) hx hb (by omega) (by omega) dX5_measure_5 (by decide) (fun h1 => ?_) (fun h1 => ?_)
      · obtain rfl : i = 10 := by omega
        have hP : va_P D vwCl (pM g cI cB th n en le ro sn ar rt oh cn no ot cu lim (nr_up (fun _ => 1000000) v 0) wy lo ch bd) H := pM_far (fun j hj => by rw [hf j hj]; rfl) hP
        have hD : va_D A (pM g cI cB th n en le ro sn ar rt oh cn no ot cu lim (nr_up (fun _ => 1000000) v 0) wy lo ch bd) := pM_farD hD
        refine lv_iconst (v := nI 0) hx hb dX5_measure_31 (by decide) ?_
        refine lv_istore_n (lv' := [(2, .int (nI 0)), (0, .ref (g 0)), (1, .int (nI v))]) hx hb dX5_measure_32 rfl hl (by decide) rfl (fun ls hl => ?_)
        have lq : ∀ (k : Nat) (rd : Nat) (d : Nat → Nat), (hk2 : 10 < rd + k) → (hi2 : rd ≤ 10) → (hd : cw_rd n (fun t => en (2 * t)) (fun t => en (2 * t + 1)) le v 1000000 rd true d) → ∀ (H : Heap) (locs : List Loc) (ls : Array Slot), va_P D vwCl (pM g cI cB th n en le ro sn ar rt oh cn no ot cu lim d wy lo ch bd) H → va_D A (pM g cI cB th n en le ro sn ar rt oh cn no ot cu lim d wy lo ch bd) → va_S A s.heap H locs → lv_has ls 6 [(0, .ref (g 0)), (1, .int (nI v)), (2, .int (nI rd))] → W p l e ({ frames := 0, cells := 0, slots := 0, locals := 0 }) s m av below meth cd H locs 0 0 Q (F0 m 33 ls []) := by
          intro k
          induction k with
          | zero => intro rd d hk2 hi2 hd; exact absurd hk2 (by omega)
          | succ k ih2 =>
            intro rd d hk2 hi2 hd H locs ls hP hD hS hl
            refine lv_iload_n hx hb dX5_measure_33 rfl (lv_at hl 2 rfl) ?_
            refine lv_bipush (v := nI 10) hx hb dX5_measure_34 (by decide) ?_
            refine nr_icmp_ge (x := rd) (y := 10) (tgt := 193) hx hb (by omega) (by omega) dX5_measure_36 (by decide) (fun h2 => ?_) (fun h2 => ?_)
            · rw [hQ]
              exact ct_vret hx hb hr hlocks hP hD hS dX5_measure_193 ⟨d, rfl, cw_rd_10 hok hv (show 9 ≤ rd by omega) hd⟩
            · refine lv_iconst (v := nI 0) hx hb dX5_measure_39 (by decide) ?_
              refine lv_istore_n (lv' := [(3, .int (nI 0)), (0, .ref (g 0)), (1, .int (nI v)), (2, .int (nI rd))]) hx hb dX5_measure_40 rfl hl (by decide) rfl (fun ls hl => ?_)
              have l3 : ∀ (k : Nat) (t : Nat) (gg : Bool) (d : Nat → Nat), (hk3 : n < t + k) → (ht : t ≤ n) → (hd : cw_in n (fun t => en (2 * t)) (fun t => en (2 * t + 1)) le v 1000000 rd t gg d) → ∀ (H : Heap) (locs : List Loc) (ls : Array Slot), va_P D vwCl (pM g cI cB th n en le ro sn ar rt oh cn no ot cu lim d wy lo ch bd) H → va_D A (pM g cI cB th n en le ro sn ar rt oh cn no ot cu lim d wy lo ch bd) → va_S A s.heap H locs → lv_has ls 6 [(0, .ref (g 0)), (1, .int (nI v)), (2, .int (nI rd)), (3, .int (nI t))] → W p l e ({ frames := 0, cells := 0, slots := 0, locals := 0 }) s m av below meth cd H locs 0 0 Q (F0 m 41 ls []) := by
                intro k
                induction k with
                | zero => intro t gg d hk3 ht hd; exact absurd hk3 (by omega)
                | succ k ih3 =>
                  intro t gg d hk3 ht hd H locs ls hP hD hS hl
                  have hd0 : ∀ j, d j ≤ 1000000 := hd.1.1
                  refine lv_iload_n hx hb dX5_measure_41 rfl (lv_at hl 3 rfl) ?_
                  refine lv_aload_n hx hb dX5_measure_42 rfl (lv_at hl 0 rfl) ?_
                  refine va_get (ci := 5) (v := .int (nI n)) (C := RX5) (T := TX5) (N := 19) hx hb hbw in_X5 hown hK hP 0 rfl rfl 1 (by decide) (hbw _ m_489) (fun _ h9 => h9) rfl dX5_measure_43 ?_
                  refine nr_icmp_ge (x := t) (y := n) (tgt := 187) hx hb (by omega) (by omega) dX5_measure_46 (by decide) (fun h3 => ?_) (fun h3 => ?_)
                  · have e9 : t = n := by omega
                    rw [e9] at hd
                    refine lv_iinc (v := nI (rd + 1)) (lv' := [(2, .int (nI (rd + 1))), (0, .ref (g 0)), (1, .int (nI v)), (3, .int (nI t))]) hx hb dX5_measure_187 hl (k := 2) rfl (nI_1 _) (by decide) rfl (fun ls hl => ?_)
                    refine lv_goto (tgt := 33) hx hb dX5_measure_190 (by decide) ?_
                    exact ih2 (rd + 1) d (by omega) (by omega) (cw_rd_any (cw_in_end hd)) _ _ _ hP hD hS (lv_sub hl [1, 2, 0] rfl)
                  · have hs := cw_in_s hok h3 hd
                    refine lv_aload_n hx hb dX5_measure_49 rfl (lv_at hl 0 rfl) ?_
                    refine va_get (ci := 5) (v := .ref (g 1)) (C := RX5) (T := TX5) (N := 19) hx hb hbw in_X5 hown hK hP 0 rfl rfl 2 (by decide) (hbw _ m_490) (fun _ h9 => h9) rfl dX5_measure_50 ?_
                    refine lv_iconst (v := nI 2) hx hb dX5_measure_53 (by decide) ?_
                    refine lv_iload_n hx hb dX5_measure_54 rfl (lv_at hl 3 rfl) ?_
                    refine nr_imul hx hb dX5_measure_55 ?_
                    refine nr_iald hx hb hK hP 1 0 rfl rfl (k := 2 * t) (by omega) (by omega) dX5_measure_56 ?_
                    have b_1 := hen (2 * t)
                    refine lv_istore (lv' := [(4, .int (nI (en (2 * t)))), (0, .ref (g 0)), (1, .int (nI v)), (2, .int (nI rd)), (3, .int (nI t))]) hx hb dX5_measure_57 hl (by decide) rfl (fun ls hl => ?_)
                    refine lv_aload_n hx hb dX5_measure_59 rfl (lv_at hl 1 rfl) ?_
                    refine va_get (ci := 5) (v := .ref (g 1)) (C := RX5) (T := TX5) (N := 19) hx hb hbw in_X5 hown hK hP 0 rfl rfl 2 (by decide) (hbw _ m_490) (fun _ h9 => h9) rfl dX5_measure_60 ?_
                    refine lv_iconst (v := nI 2) hx hb dX5_measure_63 (by decide) ?_
                    refine lv_iload_n hx hb dX5_measure_64 rfl (lv_at hl 4 rfl) ?_
                    refine nr_imul hx hb dX5_measure_65 ?_
                    refine lv_iconst (v := nI 1) hx hb dX5_measure_66 (by decide) ?_
                    refine nr_iadd hx hb dX5_measure_67 ?_
                    refine nr_iald hx hb hK hP 1 0 rfl rfl (k := (2 * t) + 1) (by omega) (by omega) dX5_measure_68 ?_
                    have b_2 := hen ((2 * t) + 1)
                    refine lv_istore (lv' := [(5, .int (nI (en ((2 * t) + 1)))), (4, .int (nI (en (2 * t)))), (0, .ref (g 0)), (1, .int (nI v)), (2, .int (nI rd)), (3, .int (nI t))]) hx hb dX5_measure_69 hl (by decide) rfl (fun ls hl => ?_)
                    refine lv_aload_n hx hb dX5_measure_71 rfl (lv_at hl 2 rfl) ?_
                    refine va_get (ci := 5) (v := .ref (g 10)) (C := RX5) (T := TX5) (N := 19) hx hb hbw in_X5 hown hK hP 0 rfl rfl 14 (by decide) (hbw _ m_502) (fun _ h9 => h9) rfl dX5_measure_72 ?_
                    refine lv_iload hx hb dX5_measure_75 (lv_at hl 1 rfl) ?_
                    refine lv_aload_n hx hb dX5_measure_77 rfl (lv_at hl 2 rfl) ?_
                    refine va_get (ci := 5) (v := .ref (g 10)) (C := RX5) (T := TX5) (N := 19) hx hb hbw in_X5 hown hK hP 0 rfl rfl 14 (by decide) (hbw _ m_502) (fun _ h9 => h9) rfl dX5_measure_78 ?_
                    refine lv_iload hx hb dX5_measure_81 (lv_at hl 0 rfl) ?_
                    refine nr_iald hx hb hK hP 10 0 rfl rfl (k := en ((2 * t) + 1)) (by omega) (by omega) dX5_measure_83 ?_
                    have b_3 := hd0 (en ((2 * t) + 1))
                    refine lv_aload_n hx hb dX5_measure_84 rfl (lv_at hl 2 rfl) ?_
                    refine va_get (ci := 5) (v := .ref (g 2)) (C := RX5) (T := TX5) (N := 19) hx hb hbw in_X5 hown hK hP 0 rfl rfl 3 (by decide) (hbw _ m_491) (fun _ h9 => h9) rfl dX5_measure_85 ?_
                    refine lv_iload_n hx hb dX5_measure_88 rfl (lv_at hl 5 rfl) ?_
                    refine nr_iald hx hb hK hP 2 0 rfl rfl (k := t) (by omega) (by omega) dX5_measure_89 ?_
                    have b_4 := hl0 t
                    refine nr_iadd hx hb dX5_measure_90 ?_
                    refine lv_aload_n hx hb dX5_measure_91 rfl (lv_at hl 2 rfl) ?_
                    refine va_get (ci := 5) (v := .ref (g 10)) (C := RX5) (T := TX5) (N := 19) hx hb hbw in_X5 hown hK hP 0 rfl rfl 14 (by decide) (hbw _ m_502) (fun _ h9 => h9) rfl dX5_measure_92 ?_
                    refine lv_iload hx hb dX5_measure_95 (lv_at hl 1 rfl) ?_
                    refine nr_iald hx hb hK hP 10 0 rfl rfl (k := en (2 * t)) (by omega) (by omega) dX5_measure_97 ?_
                    have b_5 := hd0 (en (2 * t))
                    refine nr_icmp_ge (x := (d (en ((2 * t) + 1))) + (le t)) (y := d (en (2 * t))) (tgt := 118) hx hb (by omega) (by omega) dX5_measure_98 (by decide) (fun h4 => ?_) (fun h4 => ?_)
                    · refine lv_aload_n hx hb dX5_measure_118 rfl (lv_at hl 2 rfl) ?_
                      refine va_get (ci := 5) (v := .ref (g 10)) (C := RX5) (T := TX5) (N := 19) hx hb hbw in_X5 hown hK hP 0 rfl rfl 14 (by decide) (hbw _ m_502) (fun _ h9 => h9) rfl dX5_measure_119 ?_
                      refine lv_iload hx hb dX5_measure_122 (lv_at hl 1 rfl) ?_
                      refine nr_iald hx hb hK hP 10 0 rfl rfl (k := en (2 * t)) (by omega) (by omega) dX5_measure_124 ?_
                      have b_6 := hd0 (en (2 * t))
                      refine nr_iast hx hb hK hP hD hS 10 0 rfl rfl (k := en (2 * t)) (v := d (en (2 * t))) (by omega) (by omega) dX5_measure_125 (fun H locs hP hD hS => ?_)
                      have hP : va_P D vwCl (pM g cI cB th n en le ro sn ar rt oh cn no ot cu lim (nr_up d (en (2 * t)) (d (en (2 * t)))) wy lo ch bd) H := hP
                      have hD : va_D A (pM g cI cB th n en le ro sn ar rt oh cn no ot cu lim (nr_up d (en (2 * t)) (d (en (2 * t)))) wy lo ch bd) := hD
                      have e7 : cw_sh d (en (2 * t)) (en (2 * t + 1)) (le t) = d := cw_sh_neg (by omega)
                      rw [nr_up_same, ← e7] at hP hD
                      have hd1 : ∀ j, cw_sh d (en (2 * t)) (en (2 * t + 1)) (le t) j ≤ 1000000 := fun j => Nat.le_trans (cw_sh_le d _ _ _ j) (hd0 j)
                      have hP : va_P D vwCl (pM g cI cB th n en le ro sn ar rt oh cn no ot cu lim (cw_sh d (en (2 * t)) (en (2 * t + 1)) (le t)) wy lo ch bd) H := hP
                      have hD : va_D A (pM g cI cB th n en le ro sn ar rt oh cn no ot cu lim (cw_sh d (en (2 * t)) (en (2 * t + 1)) (le t)) wy lo ch bd) := hD
                      refine lv_aload_n hx hb dX5_measure_126 rfl (lv_at hl 2 rfl) ?_
                      refine va_get (ci := 5) (v := .ref (g 10)) (C := RX5) (T := TX5) (N := 19) hx hb hbw in_X5 hown hK hP 0 rfl rfl 14 (by decide) (hbw _ m_502) (fun _ h9 => h9) rfl dX5_measure_127 ?_
                      refine lv_iload hx hb dX5_measure_130 (lv_at hl 0 rfl) ?_
                      refine lv_aload_n hx hb dX5_measure_132 rfl (lv_at hl 2 rfl) ?_
                      refine va_get (ci := 5) (v := .ref (g 10)) (C := RX5) (T := TX5) (N := 19) hx hb hbw in_X5 hown hK hP 0 rfl rfl 14 (by decide) (hbw _ m_502) (fun _ h9 => h9) rfl dX5_measure_133 ?_
                      refine lv_iload hx hb dX5_measure_136 (lv_at hl 1 rfl) ?_
                      refine nr_iald hx hb hK hP 10 0 rfl rfl (k := en (2 * t)) (by omega) (by omega) dX5_measure_138 ?_
                      have b_7 := hd1 (en (2 * t))
                      refine lv_aload_n hx hb dX5_measure_139 rfl (lv_at hl 2 rfl) ?_
                      refine va_get (ci := 5) (v := .ref (g 2)) (C := RX5) (T := TX5) (N := 19) hx hb hbw in_X5 hown hK hP 0 rfl rfl 3 (by decide) (hbw _ m_491) (fun _ h9 => h9) rfl dX5_measure_140 ?_
                      refine lv_iload_n hx hb dX5_measure_143 rfl (lv_at hl 5 rfl) ?_
                      refine nr_iald hx hb hK hP 2 0 rfl rfl (k := t) (by omega) (by omega) dX5_measure_144 ?_
                      have b_8 := hl0 t
                      refine nr_iadd hx hb dX5_measure_145 ?_
                      refine lv_aload_n hx hb dX5_measure_146 rfl (lv_at hl 2 rfl) ?_
                      refine va_get (ci := 5) (v := .ref (g 10)) (C := RX5) (T := TX5) (N := 19) hx hb hbw in_X5 hown hK hP 0 rfl rfl 14 (by decide) (hbw _ m_502) (fun _ h9 => h9) rfl dX5_measure_147 ?_
                      refine lv_iload hx hb dX5_measure_150 (lv_at hl 0 rfl) ?_
                      refine nr_iald hx hb hK hP 10 0 rfl rfl (k := en ((2 * t) + 1)) (by omega) (by omega) dX5_measure_152 ?_
                      have b_9 := hd1 (en ((2 * t) + 1))
                      refine nr_icmp_ge (x := ((cw_sh d (en (2 * t)) (en (2 * t + 1)) (le t)) (en (2 * t))) + (le t)) (y := (cw_sh d (en (2 * t)) (en (2 * t + 1)) (le t)) (en ((2 * t) + 1))) (tgt := 173) hx hb (by omega) (by omega) dX5_measure_153 (by decide) (fun h5 => ?_) (fun h5 => ?_)
                      · refine lv_aload_n hx hb dX5_measure_173 rfl (lv_at hl 2 rfl) ?_
                        refine va_get (ci := 5) (v := .ref (g 10)) (C := RX5) (T := TX5) (N := 19) hx hb hbw in_X5 hown hK hP 0 rfl rfl 14 (by decide) (hbw _ m_502) (fun _ h9 => h9) rfl dX5_measure_174 ?_
                        refine lv_iload hx hb dX5_measure_177 (lv_at hl 0 rfl) ?_
                        refine nr_iald hx hb hK hP 10 0 rfl rfl (k := en ((2 * t) + 1)) (by omega) (by omega) dX5_measure_179 ?_
                        have b_10 := hd1 (en ((2 * t) + 1))
                        refine nr_iast hx hb hK hP hD hS 10 0 rfl rfl (k := en ((2 * t) + 1)) (v := (cw_sh d (en (2 * t)) (en (2 * t + 1)) (le t)) (en ((2 * t) + 1))) (by omega) (by omega) dX5_measure_180 (fun H locs hP hD hS => ?_)
                        have hP : va_P D vwCl (pM g cI cB th n en le ro sn ar rt oh cn no ot cu lim (nr_up (cw_sh d (en (2 * t)) (en (2 * t + 1)) (le t)) (en ((2 * t) + 1)) ((cw_sh d (en (2 * t)) (en (2 * t + 1)) (le t)) (en ((2 * t) + 1)))) wy lo ch bd) H := hP
                        have hD : va_D A (pM g cI cB th n en le ro sn ar rt oh cn no ot cu lim (nr_up (cw_sh d (en (2 * t)) (en (2 * t + 1)) (le t)) (en ((2 * t) + 1)) ((cw_sh d (en (2 * t)) (en (2 * t + 1)) (le t)) (en ((2 * t) + 1)))) wy lo ch bd) := hD
                        have e8 : cw_sh (cw_sh d (en (2 * t)) (en (2 * t + 1)) (le t)) (en (2 * t + 1)) (en (2 * t)) (le t) = cw_sh d (en (2 * t)) (en (2 * t + 1)) (le t) := cw_sh_neg (by omega)
                        rw [nr_up_same, ← e8] at hP hD
                        have hP : va_P D vwCl (pM g cI cB th n en le ro sn ar rt oh cn no ot cu lim (cw_sh (cw_sh d (en (2 * t)) (en (2 * t + 1)) (le t)) (en (2 * t + 1)) (en (2 * t)) (le t)) wy lo ch bd) H := hP
                        have hD : va_D A (pM g cI cB th n en le ro sn ar rt oh cn no ot cu lim (cw_sh (cw_sh d (en (2 * t)) (en (2 * t + 1)) (le t)) (en (2 * t + 1)) (en (2 * t)) (le t)) wy lo ch bd) := hD
                        refine lv_iinc (v := nI (t + 1)) (lv' := [(3, .int (nI (t + 1))), (5, .int (nI (en ((2 * t) + 1)))), (4, .int (nI (en (2 * t)))), (0, .ref (g 0)), (1, .int (nI v)), (2, .int (nI rd))]) hx hb dX5_measure_181 hl (k := 5) rfl (nI_1 _) (by decide) rfl (fun ls hl => ?_)
                        refine lv_goto (tgt := 41) hx hb dX5_measure_184 (by decide) ?_
                        exact ih3 (t + 1) _ _ (by omega) (by omega) hs _ _ _ hP hD hS (lv_sub hl [3, 4, 5, 0] rfl)
                      · refine lv_aload_n hx hb dX5_measure_156 rfl (lv_at hl 2 rfl) ?_
                        refine va_get (ci := 5) (v := .ref (g 10)) (C := RX5) (T := TX5) (N := 19) hx hb hbw in_X5 hown hK hP 0 rfl rfl 14 (by decide) (hbw _ m_502) (fun _ h9 => h9) rfl dX5_measure_157 ?_
                        refine lv_iload hx hb dX5_measure_160 (lv_at hl 1 rfl) ?_
                        refine nr_iald hx hb hK hP 10 0 rfl rfl (k := en (2 * t)) (by omega) (by omega) dX5_measure_162 ?_
                        have b_11 := hd1 (en (2 * t))
                        refine lv_aload_n hx hb dX5_measure_163 rfl (lv_at hl 2 rfl) ?_
                        refine va_get (ci := 5) (v := .ref (g 2)) (C := RX5) (T := TX5) (N := 19) hx hb hbw in_X5 hown hK hP 0 rfl rfl 3 (by decide) (hbw _ m_491) (fun _ h9 => h9) rfl dX5_measure_164 ?_
                        refine lv_iload_n hx hb dX5_measure_167 rfl (lv_at hl 5 rfl) ?_
                        refine nr_iald hx hb hK hP 2 0 rfl rfl (k := t) (by omega) (by omega) dX5_measure_168 ?_
                        have b_12 := hl0 t
                        refine nr_iadd hx hb dX5_measure_169 ?_
                        refine lv_goto (tgt := 180) hx hb dX5_measure_170 (by decide) ?_
                        refine nr_iast hx hb hK hP hD hS 10 0 rfl rfl (k := en ((2 * t) + 1)) (v := ((cw_sh d (en (2 * t)) (en (2 * t + 1)) (le t)) (en (2 * t))) + (le t)) (by omega) (by omega) dX5_measure_180 (fun H locs hP hD hS => ?_)
                        have hP : va_P D vwCl (pM g cI cB th n en le ro sn ar rt oh cn no ot cu lim (nr_up (cw_sh d (en (2 * t)) (en (2 * t + 1)) (le t)) (en ((2 * t) + 1)) (((cw_sh d (en (2 * t)) (en (2 * t + 1)) (le t)) (en (2 * t))) + (le t))) wy lo ch bd) H := hP
                        have hD : va_D A (pM g cI cB th n en le ro sn ar rt oh cn no ot cu lim (nr_up (cw_sh d (en (2 * t)) (en (2 * t + 1)) (le t)) (en ((2 * t) + 1)) (((cw_sh d (en (2 * t)) (en (2 * t + 1)) (le t)) (en (2 * t))) + (le t))) wy lo ch bd) := hD
                        rw [← cw_sh_pos (by omega)] at hP hD
                        have hP : va_P D vwCl (pM g cI cB th n en le ro sn ar rt oh cn no ot cu lim (cw_sh (cw_sh d (en (2 * t)) (en (2 * t + 1)) (le t)) (en (2 * t + 1)) (en (2 * t)) (le t)) wy lo ch bd) H := hP
                        have hD : va_D A (pM g cI cB th n en le ro sn ar rt oh cn no ot cu lim (cw_sh (cw_sh d (en (2 * t)) (en (2 * t + 1)) (le t)) (en (2 * t + 1)) (en (2 * t)) (le t)) wy lo ch bd) := hD
                        refine lv_iinc (v := nI (t + 1)) (lv' := [(3, .int (nI (t + 1))), (5, .int (nI (en ((2 * t) + 1)))), (4, .int (nI (en (2 * t)))), (0, .ref (g 0)), (1, .int (nI v)), (2, .int (nI rd))]) hx hb dX5_measure_181 hl (k := 5) rfl (nI_1 _) (by decide) rfl (fun ls hl => ?_)
                        refine lv_goto (tgt := 41) hx hb dX5_measure_184 (by decide) ?_
                        exact ih3 (t + 1) _ _ (by omega) (by omega) hs _ _ _ hP hD hS (lv_sub hl [3, 4, 5, 0] rfl)
                    · refine lv_aload_n hx hb dX5_measure_101 rfl (lv_at hl 2 rfl) ?_
                      refine va_get (ci := 5) (v := .ref (g 10)) (C := RX5) (T := TX5) (N := 19) hx hb hbw in_X5 hown hK hP 0 rfl rfl 14 (by decide) (hbw _ m_502) (fun _ h9 => h9) rfl dX5_measure_102 ?_
                      refine lv_iload hx hb dX5_measure_105 (lv_at hl 0 rfl) ?_
                      refine nr_iald hx hb hK hP 10 0 rfl rfl (k := en ((2 * t) + 1)) (by omega) (by omega) dX5_measure_107 ?_
                      have b_13 := hd0 (en ((2 * t) + 1))
                      refine lv_aload_n hx hb dX5_measure_108 rfl (lv_at hl 2 rfl) ?_
                      refine va_get (ci := 5) (v := .ref (g 2)) (C := RX5) (T := TX5) (N := 19) hx hb hbw in_X5 hown hK hP 0 rfl rfl 3 (by decide) (hbw _ m_491) (fun _ h9 => h9) rfl dX5_measure_109 ?_
                      refine lv_iload_n hx hb dX5_measure_112 rfl (lv_at hl 5 rfl) ?_
                      refine nr_iald hx hb hK hP 2 0 rfl rfl (k := t) (by omega) (by omega) dX5_measure_113 ?_
                      have b_14 := hl0 t
                      refine nr_iadd hx hb dX5_measure_114 ?_
                      refine lv_goto (tgt := 125) hx hb dX5_measure_115 (by decide) ?_
                      refine nr_iast hx hb hK hP hD hS 10 0 rfl rfl (k := en (2 * t)) (v := (d (en ((2 * t) + 1))) + (le t)) (by omega) (by omega) dX5_measure_125 (fun H locs hP hD hS => ?_)
                      have hP : va_P D vwCl (pM g cI cB th n en le ro sn ar rt oh cn no ot cu lim (nr_up d (en (2 * t)) ((d (en ((2 * t) + 1))) + (le t))) wy lo ch bd) H := hP
                      have hD : va_D A (pM g cI cB th n en le ro sn ar rt oh cn no ot cu lim (nr_up d (en (2 * t)) ((d (en ((2 * t) + 1))) + (le t))) wy lo ch bd) := hD
                      rw [← cw_sh_pos (by omega)] at hP hD
                      have hd1 : ∀ j, cw_sh d (en (2 * t)) (en (2 * t + 1)) (le t) j ≤ 1000000 := fun j => Nat.le_trans (cw_sh_le d _ _ _ j) (hd0 j)
                      have hP : va_P D vwCl (pM g cI cB th n en le ro sn ar rt oh cn no ot cu lim (cw_sh d (en (2 * t)) (en (2 * t + 1)) (le t)) wy lo ch bd) H := hP
                      have hD : va_D A (pM g cI cB th n en le ro sn ar rt oh cn no ot cu lim (cw_sh d (en (2 * t)) (en (2 * t + 1)) (le t)) wy lo ch bd) := hD
                      refine lv_aload_n hx hb dX5_measure_126 rfl (lv_at hl 2 rfl) ?_
                      refine va_get (ci := 5) (v := .ref (g 10)) (C := RX5) (T := TX5) (N := 19) hx hb hbw in_X5 hown hK hP 0 rfl rfl 14 (by decide) (hbw _ m_502) (fun _ h9 => h9) rfl dX5_measure_127 ?_
                      refine lv_iload hx hb dX5_measure_130 (lv_at hl 0 rfl) ?_
                      refine lv_aload_n hx hb dX5_measure_132 rfl (lv_at hl 2 rfl) ?_
                      refine va_get (ci := 5) (v := .ref (g 10)) (C := RX5) (T := TX5) (N := 19) hx hb hbw in_X5 hown hK hP 0 rfl rfl 14 (by decide) (hbw _ m_502) (fun _ h9 => h9) rfl dX5_measure_133 ?_
                      refine lv_iload hx hb dX5_measure_136 (lv_at hl 1 rfl) ?_
                      refine nr_iald hx hb hK hP 10 0 rfl rfl (k := en (2 * t)) (by omega) (by omega) dX5_measure_138 ?_
                      have b_15 := hd1 (en (2 * t))
                      refine lv_aload_n hx hb dX5_measure_139 rfl (lv_at hl 2 rfl) ?_
                      refine va_get (ci := 5) (v := .ref (g 2)) (C := RX5) (T := TX5) (N := 19) hx hb hbw in_X5 hown hK hP 0 rfl rfl 3 (by decide) (hbw _ m_491) (fun _ h9 => h9) rfl dX5_measure_140 ?_
                      refine lv_iload_n hx hb dX5_measure_143 rfl (lv_at hl 5 rfl) ?_
                      refine nr_iald hx hb hK hP 2 0 rfl rfl (k := t) (by omega) (by omega) dX5_measure_144 ?_
                      have b_16 := hl0 t
                      refine nr_iadd hx hb dX5_measure_145 ?_
                      refine lv_aload_n hx hb dX5_measure_146 rfl (lv_at hl 2 rfl) ?_
                      refine va_get (ci := 5) (v := .ref (g 10)) (C := RX5) (T := TX5) (N := 19) hx hb hbw in_X5 hown hK hP 0 rfl rfl 14 (by decide) (hbw _ m_502) (fun _ h9 => h9) rfl dX5_measure_147 ?_
                      refine lv_iload hx hb dX5_measure_150 (lv_at hl 0 rfl) ?_
                      refine nr_iald hx hb hK hP 10 0 rfl rfl (k := en ((2 * t) + 1)) (by omega) (by omega) dX5_measure_152 ?_
                      have b_17 := hd1 (en ((2 * t) + 1))
                      refine nr_icmp_ge (x := ((cw_sh d (en (2 * t)) (en (2 * t + 1)) (le t)) (en (2 * t))) + (le t)) (y := (cw_sh d (en (2 * t)) (en (2 * t + 1)) (le t)) (en ((2 * t) + 1))) (tgt := 173) hx hb (by omega) (by omega) dX5_measure_153 (by decide) (fun h5 => ?_) (fun h5 => ?_)
                      · refine lv_aload_n hx hb dX5_measure_173 rfl (lv_at hl 2 rfl) ?_
                        refine va_get (ci := 5) (v := .ref (g 10)) (C := RX5) (T := TX5) (N := 19) hx hb hbw in_X5 hown hK hP 0 rfl rfl 14 (by decide) (hbw _ m_502) (fun _ h9 => h9) rfl dX5_measure_174 ?_
                        refine lv_iload hx hb dX5_measure_177 (lv_at hl 0 rfl) ?_
                        refine nr_iald hx hb hK hP 10 0 rfl rfl (k := en ((2 * t) + 1)) (by omega) (by omega) dX5_measure_179 ?_
                        have b_18 := hd1 (en ((2 * t) + 1))
                        refine nr_iast hx hb hK hP hD hS 10 0 rfl rfl (k := en ((2 * t) + 1)) (v := (cw_sh d (en (2 * t)) (en (2 * t + 1)) (le t)) (en ((2 * t) + 1))) (by omega) (by omega) dX5_measure_180 (fun H locs hP hD hS => ?_)
                        have hP : va_P D vwCl (pM g cI cB th n en le ro sn ar rt oh cn no ot cu lim (nr_up (cw_sh d (en (2 * t)) (en (2 * t + 1)) (le t)) (en ((2 * t) + 1)) ((cw_sh d (en (2 * t)) (en (2 * t + 1)) (le t)) (en ((2 * t) + 1)))) wy lo ch bd) H := hP
                        have hD : va_D A (pM g cI cB th n en le ro sn ar rt oh cn no ot cu lim (nr_up (cw_sh d (en (2 * t)) (en (2 * t + 1)) (le t)) (en ((2 * t) + 1)) ((cw_sh d (en (2 * t)) (en (2 * t + 1)) (le t)) (en ((2 * t) + 1)))) wy lo ch bd) := hD
                        have e8 : cw_sh (cw_sh d (en (2 * t)) (en (2 * t + 1)) (le t)) (en (2 * t + 1)) (en (2 * t)) (le t) = cw_sh d (en (2 * t)) (en (2 * t + 1)) (le t) := cw_sh_neg (by omega)
                        rw [nr_up_same, ← e8] at hP hD
                        have hP : va_P D vwCl (pM g cI cB th n en le ro sn ar rt oh cn no ot cu lim (cw_sh (cw_sh d (en (2 * t)) (en (2 * t + 1)) (le t)) (en (2 * t + 1)) (en (2 * t)) (le t)) wy lo ch bd) H := hP
                        have hD : va_D A (pM g cI cB th n en le ro sn ar rt oh cn no ot cu lim (cw_sh (cw_sh d (en (2 * t)) (en (2 * t + 1)) (le t)) (en (2 * t + 1)) (en (2 * t)) (le t)) wy lo ch bd) := hD
                        refine lv_iinc (v := nI (t + 1)) (lv' := [(3, .int (nI (t + 1))), (5, .int (nI (en ((2 * t) + 1)))), (4, .int (nI (en (2 * t)))), (0, .ref (g 0)), (1, .int (nI v)), (2, .int (nI rd))]) hx hb dX5_measure_181 hl (k := 5) rfl (nI_1 _) (by decide) rfl (fun ls hl => ?_)
                        refine lv_goto (tgt := 41) hx hb dX5_measure_184 (by decide) ?_
                        exact ih3 (t + 1) _ _ (by omega) (by omega) hs _ _ _ hP hD hS (lv_sub hl [3, 4, 5, 0] rfl)
                      · refine lv_aload_n hx hb dX5_measure_156 rfl (lv_at hl 2 rfl) ?_
                        refine va_get (ci := 5) (v := .ref (g 10)) (C := RX5) (T := TX5) (N := 19) hx hb hbw in_X5 hown hK hP 0 rfl rfl 14 (by decide) (hbw _ m_502) (fun _ h9 => h9) rfl dX5_measure_157 ?_
                        refine lv_iload hx hb dX5_measure_160 (lv_at hl 1 rfl) ?_
                        refine nr_iald hx hb hK hP 10 0 rfl rfl (k := en (2 * t)) (by omega) (by omega) dX5_measure_162 ?_
                        have b_19 := hd1 (en (2 * t))
                        refine lv_aload_n hx hb dX5_measure_163 rfl (lv_at hl 2 rfl) ?_
                        refine va_get (ci := 5) (v := .ref (g 2)) (C := RX5) (T := TX5) (N := 19) hx hb hbw in_X5 hown hK hP 0 rfl rfl 3 (by decide) (hbw _ m_491) (fun _ h9 => h9) rfl dX5_measure_164 ?_
                        refine lv_iload_n hx hb dX5_measure_167 rfl (lv_at hl 5 rfl) ?_
                        refine nr_iald hx hb hK hP 2 0 rfl rfl (k := t) (by omega) (by omega) dX5_measure_168 ?_
                        have b_20 := hl0 t
                        refine nr_iadd hx hb dX5_measure_169 ?_
                        refine lv_goto (tgt := 180) hx hb dX5_measure_170 (by decide) ?_
                        refine nr_iast hx hb hK hP hD hS 10 0 rfl rfl (k := en ((2 * t) + 1)) (v := ((cw_sh d (en (2 * t)) (en (2 * t + 1)) (le t)) (en (2 * t))) + (le t)) (by omega) (by omega) dX5_measure_180 (fun H locs hP hD hS => ?_)
                        have hP : va_P D vwCl (pM g cI cB th n en le ro sn ar rt oh cn no ot cu lim (nr_up (cw_sh d (en (2 * t)) (en (2 * t + 1)) (le t)) (en ((2 * t) + 1)) (((cw_sh d (en (2 * t)) (en (2 * t + 1)) (le t)) (en (2 * t))) + (le t))) wy lo ch bd) H := hP
                        have hD : va_D A (pM g cI cB th n en le ro sn ar rt oh cn no ot cu lim (nr_up (cw_sh d (en (2 * t)) (en (2 * t + 1)) (le t)) (en ((2 * t) + 1)) (((cw_sh d (en (2 * t)) (en (2 * t + 1)) (le t)) (en (2 * t))) + (le t))) wy lo ch bd) := hD
                        rw [← cw_sh_pos (by omega)] at hP hD
                        have hP : va_P D vwCl (pM g cI cB th n en le ro sn ar rt oh cn no ot cu lim (cw_sh (cw_sh d (en (2 * t)) (en (2 * t + 1)) (le t)) (en (2 * t + 1)) (en (2 * t)) (le t)) wy lo ch bd) H := hP
                        have hD : va_D A (pM g cI cB th n en le ro sn ar rt oh cn no ot cu lim (cw_sh (cw_sh d (en (2 * t)) (en (2 * t + 1)) (le t)) (en (2 * t + 1)) (en (2 * t)) (le t)) wy lo ch bd) := hD
                        refine lv_iinc (v := nI (t + 1)) (lv' := [(3, .int (nI (t + 1))), (5, .int (nI (en ((2 * t) + 1)))), (4, .int (nI (en (2 * t)))), (0, .ref (g 0)), (1, .int (nI v)), (2, .int (nI rd))]) hx hb dX5_measure_181 hl (k := 5) rfl (nI_1 _) (by decide) rfl (fun ls hl => ?_)
                        refine lv_goto (tgt := 41) hx hb dX5_measure_184 (by decide) ?_
                        exact ih3 (t + 1) _ _ (by omega) (by omega) hs _ _ _ hP hD hS (lv_sub hl [3, 4, 5, 0] rfl)
              exact l3 (n + 1) 0 false d (by omega) (Nat.zero_le n) (cw_in_0 hd) _ _ _ hP hD hS (lv_sub hl [1, 2, 3, 0] rfl)
        exact lq 11 0 _ (by omega) (by omega) (cw_rd_0 (by omega)) _ _ _ hP hD hS (lv_sub hl [1, 2, 0] rfl)
      · refine lv_aload_n hx hb dX5_measure_8 rfl (lv_at hl 0 rfl) ?_
        refine va_get (ci := 5) (v := .ref (g 10)) (C := RX5) (T := TX5) (N := 19) hx hb hbw in_X5 hown hK hP 0 rfl rfl 14 (by decide) (hbw _ m_502) (fun _ h9 => h9) rfl dX5_measure_9 ?_
        refine lv_iload_n hx hb dX5_measure_12 rfl (lv_at hl 2 rfl) ?_
        refine lv_iload_n hx hb dX5_measure_13 rfl (lv_at hl 2 rfl) ?_
        refine lv_iload_n hx hb dX5_measure_14 rfl (lv_at hl 1 rfl) ?_
        refine nr_icmp_ne (x := i) (y := v) (tgt := 22) hx hb (by omega) (by omega) dX5_measure_15 (by decide) (fun h6 => ?_) (fun h6 => ?_)
        · refine lv_ldc (v := nI 1000000) hx hb hown (hbw _ m_604) dX5_measure_22 ?_
          refine nr_iast hx hb hK hP hD hS 10 0 rfl rfl (k := i) (v := 1000000) (by omega) (by omega) dX5_measure_24 (fun H locs hP hD hS => ?_)
          have hP : va_P D vwCl (pM g cI cB th n en le ro sn ar rt oh cn no ot cu lim (nr_up fa i 1000000) wy lo ch bd) H := hP
          have hD : va_D A (pM g cI cB th n en le ro sn ar rt oh cn no ot cu lim (nr_up fa i 1000000) wy lo ch bd) := hD
          refine lv_iinc (v := nI (i + 1)) (lv' := [(2, .int (nI (i + 1))), (0, .ref (g 0)), (1, .int (nI v))]) hx hb dX5_measure_25 hl (k := 2) rfl (nI_1 _) (by decide) rfl (fun ls hl => ?_)
          refine lv_goto (tgt := 2) hx hb dX5_measure_28 (by decide) ?_
          exact ih (i + 1) _ (by omega) (by omega) (fun j hj => by by_cases e : j = i; rw [e, nr_up_s, if_neg h6]; rw [nr_up_n _ _ e]; exact hf j (by omega)) _ _ _ hP hD hS (lv_sub hl [1, 2, 0] rfl)
        · refine lv_iconst (v := nI 0) hx hb dX5_measure_18 (by decide) ?_
          refine lv_goto (tgt := 24) hx hb dX5_measure_19 (by decide) ?_
          refine nr_iast hx hb hK hP hD hS 10 0 rfl rfl (k := i) (v := 0) (by omega) (by omega) dX5_measure_24 (fun H locs hP hD hS => ?_)
          have hP : va_P D vwCl (pM g cI cB th n en le ro sn ar rt oh cn no ot cu lim (nr_up fa i 0) wy lo ch bd) H := hP
          have hD : va_D A (pM g cI cB th n en le ro sn ar rt oh cn no ot cu lim (nr_up fa i 0) wy lo ch bd) := hD
          refine lv_iinc (v := nI (i + 1)) (lv' := [(2, .int (nI (i + 1))), (0, .ref (g 0)), (1, .int (nI v))]) hx hb dX5_measure_25 hl (k := 2) rfl (nI_1 _) (by decide) rfl (fun ls hl => ?_)
          refine lv_goto (tgt := 2) hx hb dX5_measure_28 (by decide) ?_
          exact ih (i + 1) _ (by omega) (by omega) (fun j hj => by by_cases e : j = i; rw [e, nr_up_s, if_pos h6]; rw [nr_up_n _ _ e]; exact hf j (by omega)) _ _ _ hP hD hS (lv_sub hl [1, 2, 0] rfl)
  exact lp 11 0 fa (by omega) (by omega) (lt_0) H locs ls hP hD hS (lv_sub hl [1, 2, 0] rfl)
end
section
/-- the reference's rows say the ways wc, wt, wl of cable c -/
def enc (wc : Nat → Nat) (wt : Nat → Nat → Nat) (wl wy lo : Nat → Nat) (c : Nat) : Prop := (∀ i, i < wc c → wy (16 * c + i) = wt c i + 1) ∧ wy (16 * c + wc c) = 0 ∧ ((wc c = 0 ∧ lo c = 0 ∧ wl c = 0) ∨ (0 < wc c ∧ lo c = wl c + 1))
theorem enc_keep {wc : Nat → Nat} {wt : Nat → Nat → Nat} {wl wy lo wy' lo' : Nat → Nat} {c c' : Nat} (h : enc wc wt wl wy lo c) (hc : c < c') (hw : wc c ≤ 9) (h1 : ∀ j, j < 16 * c' → wy' j = wy j) (h2 : ∀ j, j < c' → lo' j = lo j) : enc wc wt wl wy' lo' c := by
  obtain ⟨e1, e2, e3⟩ := h
  refine ⟨fun i hi => ?_, ?_, ?_⟩
  · rw [h1 _ (by omega)]; exact e1 i hi
  · rw [h1 _ (by omega)]; exact e2
  · rw [h2 c hc]; exact e3
set_option maxHeartbeats 4000000 in
set_option maxRecDepth 100000 in
/-- goAll -/
theorem kX5_goAll (l : Launch) (D : va_G) (cI cG cL cB : ClassId) (g : Nat → Nat) (th n : Nat) (en le ro : Nat → Nat) (sn : Nat) (ar rt oh : Nat → Nat) (cn : Nat) (no ot cu : Nat → Nat) (lim : Nat) (fa wy lo ch bd : Nat → Nat) (wc wl : Nat → Nat) (wt : Nat → Nat → Nat) (hn : n ≤ 15) (hok : cw_ok n (fun t => en (2 * t)) (fun t => en (2 * t + 1)) le) (hen : ∀ j, en j < 10) (hl0 : ∀ j, le j ≤ 100) (hcn : cn ≤ 20) (hno : ∀ j, no j < 10) (hot : ∀ j, ot j < 10) (hwc : ∀ j, wc j ≤ 9) (hwt : ∀ i j, wt i j < 15) (hwl : ∀ j, wl j ≤ 900) (hne : ∀ c, c < cn → no c ≠ ot c) (hW : ∀ c, c < cn → cw_W n (fun t => en (2 * t)) (fun t => en (2 * t + 1)) le (no c) (ot c) (wc c) (wt c) (wl c)) : ct_v l yX5_goAll (.code yX5_goAll cX5_goAll 5 none :: bw) ({ frames := 1, cells := 0, slots := 0, locals := 25 }) (EN D (tyL cI cG cL cB)) D vwCl (pM g cI cB th n en le ro sn ar rt oh cn no ot cu lim fa wy lo ch bd) [.ref (g 0)] (fun W => ∃ fa' wy' lo', W = (pM g cI cB th n en le ro sn ar rt oh cn no ot cu lim fa' wy' lo' ch bd) ∧ ∀ c, c < cn → enc wc wt wl wy' lo' c) 0 0 := by
  refine ct_ofv (by decide) (Nat.le_of_ble_eq_true rfl) ?_
  intro p e s m below meth cd A H locs av Q ls hx hb hr hml hown hlocks hnm hbw hEN hQ hP hD hS hA hl
  have hown : s.vm.findClass RX5 = some m.cls := hown
  have hK := hEN.1
  have hl : lv_has ls 5 [(0, .ref (g 0))] := hl
  refine lv_iconst (v := nI 0) hx hb dX5_goAll_0 (by decide) ?_
  refine lv_istore_n (lv' := [(1, .int (nI 0)), (0, .ref (g 0))]) hx hb dX5_goAll_1 rfl hl (by decide) rfl (fun ls hl => ?_)
  have lp : ∀ (k : Nat) (c : Nat) (fa : Nat → Nat) (wy : Nat → Nat) (lo : Nat → Nat), (hk : cn < c + k) → (hi : c ≤ cn) → (he : ∀ j, j < c → enc wc wt wl wy lo j) → ∀ (H : Heap) (locs : List Loc) (ls : Array Slot), va_P D vwCl (pM g cI cB th n en le ro sn ar rt oh cn no ot cu lim fa wy lo ch bd) H → va_D A (pM g cI cB th n en le ro sn ar rt oh cn no ot cu lim fa wy lo ch bd) → va_S A s.heap H locs → lv_has ls 5 [(0, .ref (g 0)), (1, .int (nI c))] → W p l e ({ frames := 1, cells := 0, slots := 0, locals := 25 }) s m av below meth cd H locs 0 0 Q (F0 m 2 ls []) := by
    intro k
    induction k with
    | zero => intro c fa wy lo hk hi he; exact absurd hk (by omega)
    | succ k ih =>
      intro c fa wy lo hk hi he H locs ls hP hD hS hl
      refine lv_iload_n hx hb dX5_goAll_2 rfl (lv_at hl 1 rfl) ?_
      refine lv_aload_n hx hb dX5_goAll_3 rfl (lv_at hl 0 rfl) ?_
      refine va_get (ci := 5) (v := .int (nI cn)) (C := RX5) (T := TX5) (N := 19) hx hb hbw in_X5 hown hK hP 0 rfl rfl 9 (by decide) (hbw _ m_497) (fun _ h9 => h9) rfl dX5_goAll_4 ?_
      refine nr_icmp_ge (x := c) (y := cn) (tgt := 170) hx hb (by omega) (by omega) dX5_goAll_7 (by decide) (fun h1 => ?_) (fun h1 => ?_)
      · have e9 : c = cn := by omega
        rw [e9] at he
        rw [hQ]
        exact ct_vret hx hb hr hlocks hP hD hS dX5_goAll_170 ⟨fa, wy, lo, rfl, he⟩
      · refine lv_aload_n hx hb dX5_goAll_10 rfl (lv_at hl 0 rfl) ?_
        refine lv_aload_n hx hb dX5_goAll_11 rfl (lv_at hl 0 rfl) ?_
        refine va_get (ci := 5) (v := .ref (g 8)) (C := RX5) (T := TX5) (N := 19) hx hb hbw in_X5 hown hK hP 0 rfl rfl 11 (by decide) (hbw _ m_499) (fun _ h9 => h9) rfl dX5_goAll_12 ?_
        refine lv_iload_n hx hb dX5_goAll_15 rfl (lv_at hl 1 rfl) ?_
        refine nr_iald hx hb hK hP 8 0 rfl rfl (k := c) (by omega) (by omega) dX5_goAll_16 ?_
        have b_1 := hot c
        refine ct_Vv (wc := (pM g cI cB th n en le ro sn ar rt oh cn no ot cu lim fa wy lo ch bd)) (wr := ([] : va_W)) (As := [.int (nI (ot c))]) (rest := []) ⟨hx, hb, hml, hown, hbw⟩ (EN_E D _) hEN (kX5_measure l D cI cG cL cB g th n en le ro sn ar rt oh cn no ot cu lim fa wy lo ch bd (ot c) (hot c) hn hok hen hl0) (cwV (C := "CableSizesModel") 1 hbw (gV m_600 m_602 m_8 m_23 m_603) rfl rfl rfl (by decide +kernel) ⟨Nat.le_of_ble_eq_true rfl, Nat.le_of_ble_eq_true rfl⟩) (va_recv hK hP (ci := 5) (q0 := 0) rfl rfl) hP hD hS hA [0, 1, 2, 3, 4, 5, 6, 7, 8, 9, 10, 11, 12, 13, 14] [] rfl rfl (by decide) (by decide) (by decide) rfl hl.1 rfl (Nat.le_of_ble_eq_true rfl) dX5_goAll_17 ⟨Nat.le_of_ble_eq_true rfl, Nat.le_of_ble_eq_true rfl⟩ (fun w_2 H locs hw hP hD hS => ?_)
        obtain ⟨d, rfl, hds⟩ := hw
        have hP := hP.sub (ws' := (pM g cI cB th n en le ro sn ar rt oh cn no ot cu lim d wy lo ch bd)) [0, 1, 2, 3, 4, 5, 6, 7, 8, 9, 10, 11, 12, 13, 14] rfl
        have hD := hD.sub (ws' := (pM g cI cB th n en le ro sn ar rt oh cn no ot cu lim d wy lo ch bd)) [0, 1, 2, 3, 4, 5, 6, 7, 8, 9, 10, 11, 12, 13, 14] (by decide) rfl
        obtain ⟨d', hds', hcase⟩ := hW c h1
        obtain rfl := cw_ds_uniq hds hds'
        have hd0 : ∀ j, d j ≤ 1000000 := hds.1.1
        have b_w := hwc c
        have b_n := hno c
        refine lv_aload_n hx hb dX5_goAll_20 rfl (lv_at hl 0 rfl) ?_
        refine va_get (ci := 5) (v := .ref (g 7)) (C := RX5) (T := TX5) (N := 19) hx hb hbw in_X5 hown hK hP 0 rfl rfl 10 (by decide) (hbw _ m_498) (fun _ h9 => h9) rfl dX5_goAll_21 ?_
        refine lv_iload_n hx hb dX5_goAll_24 rfl (lv_at hl 1 rfl) ?_
        refine nr_iald hx hb hK hP 7 0 rfl rfl (k := c) (by omega) (by omega) dX5_goAll_25 ?_
        have b_3 := hno c
        refine lv_istore_n (lv' := [(2, .int (nI (no c))), (0, .ref (g 0)), (1, .int (nI c))]) hx hb dX5_goAll_26 rfl hl (by decide) rfl (fun ls hl => ?_)
        refine lv_aload_n hx hb dX5_goAll_27 rfl (lv_at hl 1 rfl) ?_
        refine va_get (ci := 5) (v := .ref (g 12)) (C := RX5) (T := TX5) (N := 19) hx hb hbw in_X5 hown hK hP 0 rfl rfl 16 (by decide) (hbw _ m_504) (fun _ h9 => h9) rfl dX5_goAll_28 ?_
        refine lv_iload_n hx hb dX5_goAll_31 rfl (lv_at hl 2 rfl) ?_
        refine lv_aload_n hx hb dX5_goAll_32 rfl (lv_at hl 1 rfl) ?_
        refine va_get (ci := 5) (v := .ref (g 10)) (C := RX5) (T := TX5) (N := 19) hx hb hbw in_X5 hown hK hP 0 rfl rfl 14 (by decide) (hbw _ m_502) (fun _ h9 => h9) rfl dX5_goAll_33 ?_
        refine lv_iload_n hx hb dX5_goAll_36 rfl (lv_at hl 0 rfl) ?_
        refine nr_iald hx hb hK hP 10 0 rfl rfl (k := no c) (by omega) (by omega) dX5_goAll_37 ?_
        have b_4 := hd0 (no c)
        refine lv_ldc (v := nI 1000000) hx hb hown (hbw _ m_604) dX5_goAll_38 ?_
        refine nr_icmp_lt (x := d (no c)) (y := 1000000) (tgt := 47) hx hb (by omega) (by omega) dX5_goAll_40 (by decide) (fun h2 => ?_) (fun h2 => ?_)
        · refine lv_aload_n hx hb dX5_goAll_47 rfl (lv_at hl 1 rfl) ?_
          refine va_get (ci := 5) (v := .ref (g 10)) (C := RX5) (T := TX5) (N := 19) hx hb hbw in_X5 hown hK hP 0 rfl rfl 14 (by decide) (hbw _ m_502) (fun _ h9 => h9) rfl dX5_goAll_48 ?_
          refine lv_iload_n hx hb dX5_goAll_51 rfl (lv_at hl 0 rfl) ?_
          refine nr_iald hx hb hK hP 10 0 rfl rfl (k := no c) (by omega) (by omega) dX5_goAll_52 ?_
          have b_5 := hd0 (no c)
          refine nr_mast hx hb hK hP hD hS 12 0 rfl rfl (k := c) ((d (no c)) + 1) rfl (by omega) (by omega) dX5_goAll_53 (fun H locs hP hD hS => ?_)
          have hP : va_P D vwCl (pM g cI cB th n en le ro sn ar rt oh cn no ot cu lim d wy (nr_up lo c ((d (no c)) + 1)) ch bd) H := hP
          have hD : va_D A (pM g cI cB th n en le ro sn ar rt oh cn no ot cu lim d wy (nr_up lo c ((d (no c)) + 1)) ch bd) := hD
          refine lv_iconst (v := nI 0) hx hb dX5_goAll_54 (by decide) ?_
          refine lv_istore_n (lv' := [(3, .int (nI 0)), (2, .int (nI (no c))), (0, .ref (g 0)), (1, .int (nI c))]) hx hb dX5_goAll_55 rfl hl (by decide) rfl (fun ls hl => ?_)
          obtain ⟨hk9, hgr, hL⟩ : wc c ≤ 9 ∧ cw_gr n (fun t => en (2 * t)) (fun t => en (2 * t + 1)) le d ((List.range (wc c)).map (wt c)) (no c) (ot c) ∧ wl c = d (no c) := by
            rcases hcase with ⟨h, -, -⟩ | ⟨-, h3, h4, h5⟩
            · omega
            · exact ⟨h3, h4, h5⟩
          have hgs := cw_gs_of (f := wt c) (wc c) 0 (no c) (ot c) (by rw [← List.range_eq_range']; exact hgr)
          have lq : ∀ (k : Nat) (i : Nat) (nd : Nat) (wz : Nat → Nat), (hk2 : 9 < i + k) → (hi2 : i ≤ wc c) → (hnd : nd < 10) → (hg2 : cw_gs n (fun t => en (2 * t)) (fun t => en (2 * t + 1)) le d (wt c) (wc c - i) i nd (ot c)) → (hz1 : ∀ j, j < i → wz (16 * c + j) = wt c j + 1) → (hz2 : ∀ j, j < 16 * c → wz j = wy j) → ∀ (H : Heap) (locs : List Loc) (ls : Array Slot), va_P D vwCl (pM g cI cB th n en le ro sn ar rt oh cn no ot cu lim d wz (nr_up lo c (d (no c) + 1)) ch bd) H → va_D A (pM g cI cB th n en le ro sn ar rt oh cn no ot cu lim d wz (nr_up lo c (d (no c) + 1)) ch bd) → va_S A s.heap H locs → lv_has ls 5 [(0, .ref (g 0)), (1, .int (nI c)), (2, .int (nI nd)), (3, .int (nI i))] → W p l e ({ frames := 1, cells := 0, slots := 0, locals := 25 }) s m av below meth cd H locs 0 0 Q (F0 m 56 ls []) := by
            intro k
            induction k with
            | zero => intro i nd wz hk2 hi2 hnd hg2 hz1 hz2; exact absurd hk2 (by omega)
            | succ k ih2 =>
              intro i nd wz hk2 hi2 hnd hg2 hz1 hz2 H locs ls hP hD hS hl
              have hend : nd = ot c ↔ i = wc c := by
                constructor
                · intro e
                  rcases Nat.lt_or_ge i (wc c) with q | q
                  · obtain ⟨r, hr⟩ : ∃ r, wc c - i = r + 1 := ⟨wc c - i - 1, by omega⟩
                    rw [hr] at hg2
                    obtain ⟨q1, ⟨w0, -, q3, -⟩, -⟩ := hg2
                    have q4 := (hok _ q1).2.2.2
                    have q5 := cw_ds_v hds
                    rw [← e] at q5
                    omega
                  · omega
                · intro e
                  rw [e, Nat.sub_self] at hg2
                  exact hg2
              have b_f := hd0 (no c)
              refine lv_aload_n hx hb dX5_goAll_56 rfl (lv_at hl 0 rfl) ?_
              refine va_get (ci := 5) (v := .ref (g 12)) (C := RX5) (T := TX5) (N := 19) hx hb hbw in_X5 hown hK hP 0 rfl rfl 16 (by decide) (hbw _ m_504) (fun _ h9 => h9) rfl dX5_goAll_57 ?_
              refine lv_iload_n hx hb dX5_goAll_60 rfl (lv_at hl 1 rfl) ?_
              refine nr_mald1 hx hb hK hP 12 0 rfl rfl (k := c) (v := d (no c)) (by omega) (by omega) (nr_up_s _ _ _) dX5_goAll_61 ?_
              refine lv_iconst (v := (-1)) hx hb dX5_goAll_62 (by decide) ?_
              refine lv_icmp_eq (tgt := 152) hx hb dX5_goAll_63 (by decide) (fun h => absurd h (nI_nm1 (by omega))) (fun _ => ?_)
              refine lv_iload_n hx hb dX5_goAll_66 rfl (lv_at hl 2 rfl) ?_
              refine lv_aload_n hx hb dX5_goAll_67 rfl (lv_at hl 0 rfl) ?_
              refine va_get (ci := 5) (v := .ref (g 8)) (C := RX5) (T := TX5) (N := 19) hx hb hbw in_X5 hown hK hP 0 rfl rfl 11 (by decide) (hbw _ m_499) (fun _ h9 => h9) rfl dX5_goAll_68 ?_
              refine lv_iload_n hx hb dX5_goAll_71 rfl (lv_at hl 1 rfl) ?_
              refine nr_iald hx hb hK hP 8 0 rfl rfl (k := c) (by omega) (by omega) dX5_goAll_72 ?_
              have b_6 := hot c
              refine nr_icmp_eq (x := nd) (y := ot c) (tgt := 152) hx hb (by omega) (by omega) dX5_goAll_73 (by decide) (fun h3 => ?_) (fun h3 => ?_)
              · have e3 := hend.mp h3
                refine lv_aload_n hx hb dX5_goAll_152 rfl (lv_at hl 0 rfl) ?_
                refine va_get (ci := 5) (v := .ref (g 11)) (C := RX5) (T := TX5) (N := 19) hx hb hbw in_X5 hown hK hP 0 rfl rfl 15 (by decide) (hbw _ m_503) (fun _ h9 => h9) rfl dX5_goAll_153 ?_
                refine lv_bipush (v := nI 16) hx hb dX5_goAll_156 (by decide) ?_
                refine lv_iload_n hx hb dX5_goAll_158 rfl (lv_at hl 1 rfl) ?_
                refine nr_imul hx hb dX5_goAll_159 ?_
                refine lv_iload_n hx hb dX5_goAll_160 rfl (lv_at hl 3 rfl) ?_
                refine nr_iadd hx hb dX5_goAll_161 ?_
                refine lv_iconst (v := (-1)) hx hb dX5_goAll_162 (by decide) ?_
                refine nr_mast hx hb hK hP hD hS 11 0 rfl rfl (k := (16 * c) + i) (0) rfl (by omega) (by omega) dX5_goAll_163 (fun H locs hP hD hS => ?_)
                have hP : va_P D vwCl (pM g cI cB th n en le ro sn ar rt oh cn no ot cu lim d (nr_up wz ((16 * c) + i) 0) (nr_up lo c (d (no c) + 1)) ch bd) H := hP
                have hD : va_D A (pM g cI cB th n en le ro sn ar rt oh cn no ot cu lim d (nr_up wz ((16 * c) + i) 0) (nr_up lo c (d (no c) + 1)) ch bd) := hD
                refine lv_iinc (v := nI (c + 1)) (lv' := [(1, .int (nI (c + 1))), (0, .ref (g 0)), (2, .int (nI nd)), (3, .int (nI i))]) hx hb dX5_goAll_164 hl (k := 1) rfl (nI_1 _) (by decide) rfl (fun ls hl => ?_)
                refine lv_goto (tgt := 2) hx hb dX5_goAll_167 (by decide) ?_
                exact ih (c + 1) d (nr_up wz ((16 * c) + i) 0) (nr_up lo c (d (no c) + 1)) (by omega) (by omega) (lt_s (fun j hj => enc_keep (he j hj) hj (hwc j) (fun k hk => by rw [nr_up_n _ _ (by omega)]; exact hz2 k hk) (fun k hk => nr_up_n _ _ (Nat.ne_of_lt hk))) ⟨fun j hj => by rw [nr_up_n _ _ (by omega)]; exact hz1 j (by omega), by rw [← e3]; exact nr_up_s _ _ _, Or.inr ⟨by rcases Nat.eq_zero_or_pos (wc c) with q | q; rw [q] at hgr; exact absurd hgr (hne c h1); exact q, by rw [nr_up_s, hL]⟩⟩) _ _ _ hP hD hS (lv_sub hl [1, 0] rfl)
              · have hlt : i < wc c := by
                  rcases Nat.lt_or_ge i (wc c) with q | q
                  · exact q
                  · exact absurd (hend.mpr (by omega)) h3
                obtain ⟨r, hr⟩ : ∃ r, wc c - i = r + 1 := ⟨wc c - i - 1, by omega⟩
                rw [hr] at hg2
                obtain ⟨hfT, ⟨w0, hw0, hdw0, hg3⟩, hmin⟩ := hg2
                have hw10 := (cw_nx_lt hok hfT hw0).2.1
                have b_nd := hd0 nd
                refine lv_iconst (v := nI 0) hx hb dX5_goAll_76 (by decide) ?_
                refine lv_istore (lv' := [(4, .int (nI 0)), (0, .ref (g 0)), (1, .int (nI c)), (2, .int (nI nd)), (3, .int (nI i))]) hx hb dX5_goAll_77 hl (by decide) rfl (fun ls hl => ?_)
                have l3 : ∀ (k : Nat) (t : Nat), (hk3 : wt c i < t + k) → (ht : t ≤ wt c i) → ∀ (H : Heap) (locs : List Loc) (ls : Array Slot), va_P D vwCl (pM g cI cB th n en le ro sn ar rt oh cn no ot cu lim d wz (nr_up lo c (d (no c) + 1)) ch bd) H → va_D A (pM g cI cB th n en le ro sn ar rt oh cn no ot cu lim d wz (nr_up lo c (d (no c) + 1)) ch bd) → va_S A s.heap H locs → lv_has ls 5 [(0, .ref (g 0)), (1, .int (nI c)), (2, .int (nI nd)), (3, .int (nI i)), (4, .int (nI t))] → W p l e ({ frames := 1, cells := 0, slots := 0, locals := 25 }) s m av below meth cd H locs 0 0 Q (F0 m 79 ls []) := by
                  intro k
                  induction k with
                  | zero => intro t hk3 ht; exact absurd hk3 (by omega)
                  | succ k ih3 =>
                    intro t hk3 ht H locs ls hP hD hS hl
                    have b_t := hl0 t
                    refine lv_aload_n hx hb dX5_goAll_79 rfl (lv_at hl 0 rfl) ?_
                    refine lv_iload hx hb dX5_goAll_80 (lv_at hl 4 rfl) ?_
                    refine lv_iload_n hx hb dX5_goAll_82 rfl (lv_at hl 2 rfl) ?_
                    refine ct_Vi (wc := (pM g cI cB th n en le ro sn ar rt oh cn no ot cu lim d wz (nr_up lo c (d (no c) + 1)) ch bd)) (wr := ([] : va_W)) (As := [.int (nI t), .int (nI nd)]) (rest := []) ⟨hx, hb, hml, hown, hbw⟩ (EN_E D _) hEN (kX5_behind l D cI cG cL cB g th n en le ro sn ar rt oh cn no ot cu lim d wz (nr_up lo c (d (no c) + 1)) ch bd t nd (by omega) hnd hen) (cwV (C := "CableSizesModel") 2 hbw (gV m_605 m_607 m_9 m_23 m_608) rfl rfl rfl (by decide +kernel) ⟨Nat.le_of_ble_eq_true rfl, Nat.le_of_ble_eq_true rfl⟩) (va_recv hK hP (ci := 5) (q0 := 0) rfl rfl) hP hD hS hA [0, 1, 2, 3, 4, 5, 6, 7, 8, 9, 10, 11, 12, 13, 14] [] rfl rfl (by decide) (by decide) (by decide) rfl hl.1 rfl (Nat.le_of_ble_eq_true rfl) dX5_goAll_83 ⟨Nat.le_of_ble_eq_true rfl, Nat.le_of_ble_eq_true rfl⟩ (fun r_7 w_7 H locs hw hP hD hS => ?_)
                    obtain ⟨rfl, hr1⟩ := hw
                    have hP := hP.sub (ws' := (pM g cI cB th n en le ro sn ar rt oh cn no ot cu lim d wz (nr_up lo c (d (no c) + 1)) ch bd)) [0, 1, 2, 3, 4, 5, 6, 7, 8, 9, 10, 11, 12, 13, 14] rfl
                    have hD := hD.sub (ws' := (pM g cI cB th n en le ro sn ar rt oh cn no ot cu lim d wz (nr_up lo c (d (no c) + 1)) ch bd)) [0, 1, 2, 3, 4, 5, 6, 7, 8, 9, 10, 11, 12, 13, 14] (by decide) rfl
                    refine lv_iconst (v := (-1)) hx hb dX5_goAll_86 (by decide) ?_
                    by_cases htf : t = wt c i
                    · have hw1 : cw_nx (fun t => en (2 * t)) (fun t => en (2 * t + 1)) t nd = some w0 := by rw [htf]; exact hw0
                      have hd1 : d w0 + le t = d nd := by rw [htf]; exact hdw0
                      have hr2 : r_7 = nI w0 := by rw [hr1, hw1]; rfl
                      subst hr2
                      have b_v := hd0 w0
                      have b_10 : w0 < 10 := hw10
                      refine lv_icmp_eq (tgt := 119) hx hb dX5_goAll_87 (by decide) (fun h => absurd h (nI_nm1 (by omega))) (fun _ => ?_)
                      refine lv_aload_n hx hb dX5_goAll_90 rfl (lv_at hl 0 rfl) ?_
                      refine va_get (ci := 5) (v := .ref (g 10)) (C := RX5) (T := TX5) (N := 19) hx hb hbw in_X5 hown hK hP 0 rfl rfl 14 (by decide) (hbw _ m_502) (fun _ h9 => h9) rfl dX5_goAll_91 ?_
                      refine lv_aload_n hx hb dX5_goAll_94 rfl (lv_at hl 0 rfl) ?_
                      refine lv_iload hx hb dX5_goAll_95 (lv_at hl 4 rfl) ?_
                      refine lv_iload_n hx hb dX5_goAll_97 rfl (lv_at hl 2 rfl) ?_
                      refine ct_Vi (wc := (pM g cI cB th n en le ro sn ar rt oh cn no ot cu lim d wz (nr_up lo c (d (no c) + 1)) ch bd)) (wr := ([] : va_W)) (As := [.int (nI t), .int (nI nd)]) (rest := [.ref (g 10)]) ⟨hx, hb, hml, hown, hbw⟩ (EN_E D _) hEN (kX5_behind l D cI cG cL cB g th n en le ro sn ar rt oh cn no ot cu lim d wz (nr_up lo c (d (no c) + 1)) ch bd t nd (by omega) hnd hen) (cwV (C := "CableSizesModel") 2 hbw (gV m_605 m_607 m_9 m_23 m_608) rfl rfl rfl (by decide +kernel) ⟨Nat.le_of_ble_eq_true rfl, Nat.le_of_ble_eq_true rfl⟩) (va_recv hK hP (ci := 5) (q0 := 0) rfl rfl) hP hD hS hA [0, 1, 2, 3, 4, 5, 6, 7, 8, 9, 10, 11, 12, 13, 14] [] rfl rfl (by decide) (by decide) (by decide) rfl hl.1 rfl (Nat.le_of_ble_eq_true rfl) dX5_goAll_98 ⟨Nat.le_of_ble_eq_true rfl, Nat.le_of_ble_eq_true rfl⟩ (fun r_8 w_8 H locs hw hP hD hS => ?_)
                      obtain ⟨rfl, hr3⟩ := hw
                      have hP := hP.sub (ws' := (pM g cI cB th n en le ro sn ar rt oh cn no ot cu lim d wz (nr_up lo c (d (no c) + 1)) ch bd)) [0, 1, 2, 3, 4, 5, 6, 7, 8, 9, 10, 11, 12, 13, 14] rfl
                      have hD := hD.sub (ws' := (pM g cI cB th n en le ro sn ar rt oh cn no ot cu lim d wz (nr_up lo c (d (no c) + 1)) ch bd)) [0, 1, 2, 3, 4, 5, 6, 7, 8, 9, 10, 11, 12, 13, 14] (by decide) rfl
                      have hr4 : r_8 = nI w0 := by rw [hr3, hw1]; rfl
                      subst hr4
                      refine nr_iald hx hb hK hP 10 0 rfl rfl (k := w0) (by omega) (by omega) dX5_goAll_101 ?_
                      have b_9 := hd0 w0
                      refine lv_aload_n hx hb dX5_goAll_102 rfl (lv_at hl 0 rfl) ?_
                      refine va_get (ci := 5) (v := .ref (g 2)) (C := RX5) (T := TX5) (N := 19) hx hb hbw in_X5 hown hK hP 0 rfl rfl 3 (by decide) (hbw _ m_491) (fun _ h9 => h9) rfl dX5_goAll_103 ?_
                      refine lv_iload hx hb dX5_goAll_106 (lv_at hl 4 rfl) ?_
                      refine nr_iald hx hb hK hP 2 0 rfl rfl (k := t) (by omega) (by omega) dX5_goAll_108 ?_
                      have b_10 := hl0 t
                      refine nr_iadd hx hb dX5_goAll_109 ?_
                      refine lv_aload_n hx hb dX5_goAll_110 rfl (lv_at hl 0 rfl) ?_
                      refine va_get (ci := 5) (v := .ref (g 10)) (C := RX5) (T := TX5) (N := 19) hx hb hbw in_X5 hown hK hP 0 rfl rfl 14 (by decide) (hbw _ m_502) (fun _ h9 => h9) rfl dX5_goAll_111 ?_
                      refine lv_iload_n hx hb dX5_goAll_114 rfl (lv_at hl 2 rfl) ?_
                      refine nr_iald hx hb hK hP 10 0 rfl rfl (k := nd) (by omega) (by omega) dX5_goAll_115 ?_
                      have b_11 := hd0 nd
                      refine nr_icmp_eq (x := (d w0) + (le t)) (y := d nd) (tgt := 125) hx hb (by omega) (by omega) dX5_goAll_116 (by decide) (fun _ => ?_) (fun h => absurd h (by omega))
                      refine lv_aload_n hx hb dX5_goAll_125 rfl (lv_at hl 0 rfl) ?_
                      refine va_get (ci := 5) (v := .ref (g 11)) (C := RX5) (T := TX5) (N := 19) hx hb hbw in_X5 hown hK hP 0 rfl rfl 15 (by decide) (hbw _ m_503) (fun _ h9 => h9) rfl dX5_goAll_126 ?_
                      refine lv_bipush (v := nI 16) hx hb dX5_goAll_129 (by decide) ?_
                      refine lv_iload_n hx hb dX5_goAll_131 rfl (lv_at hl 1 rfl) ?_
                      refine nr_imul hx hb dX5_goAll_132 ?_
                      refine lv_iload_n hx hb dX5_goAll_133 rfl (lv_at hl 3 rfl) ?_
                      refine nr_iadd hx hb dX5_goAll_134 ?_
                      refine lv_iload hx hb dX5_goAll_135 (lv_at hl 4 rfl) ?_
                      refine nr_mast hx hb hK hP hD hS 11 0 rfl rfl (k := (16 * c) + i) (t + 1) rfl (by omega) (by omega) dX5_goAll_137 (fun H locs hP hD hS => ?_)
                      have hP : va_P D vwCl (pM g cI cB th n en le ro sn ar rt oh cn no ot cu lim d (nr_up wz ((16 * c) + i) (t + 1)) (nr_up lo c (d (no c) + 1)) ch bd) H := hP
                      have hD : va_D A (pM g cI cB th n en le ro sn ar rt oh cn no ot cu lim d (nr_up wz ((16 * c) + i) (t + 1)) (nr_up lo c (d (no c) + 1)) ch bd) := hD
                      refine lv_iinc (v := nI (i + 1)) (lv' := [(3, .int (nI (i + 1))), (0, .ref (g 0)), (1, .int (nI c)), (2, .int (nI nd)), (4, .int (nI t))]) hx hb dX5_goAll_138 hl (k := 3) rfl (nI_1 _) (by decide) rfl (fun ls hl => ?_)
                      refine lv_aload_n hx hb dX5_goAll_141 rfl (lv_at hl 1 rfl) ?_
                      refine lv_iload hx hb dX5_goAll_142 (lv_at hl 4 rfl) ?_
                      refine lv_iload_n hx hb dX5_goAll_144 rfl (lv_at hl 3 rfl) ?_
                      refine ct_Vi (wc := (pM g cI cB th n en le ro sn ar rt oh cn no ot cu lim d (nr_up wz ((16 * c) + i) (t + 1)) (nr_up lo c (d (no c) + 1)) ch bd)) (wr := ([] : va_W)) (As := [.int (nI t), .int (nI nd)]) (rest := []) ⟨hx, hb, hml, hown, hbw⟩ (EN_E D _) hEN (kX5_behind l D cI cG cL cB g th n en le ro sn ar rt oh cn no ot cu lim d (nr_up wz (16 * c + i) (t + 1)) (nr_up lo c (d (no c) + 1)) ch bd t nd (by omega) hnd hen) (cwV (C := "CableSizesModel") 2 hbw (gV m_605 m_607 m_9 m_23 m_608) rfl rfl rfl (by decide +kernel) ⟨Nat.le_of_ble_eq_true rfl, Nat.le_of_ble_eq_true rfl⟩) (va_recv hK hP (ci := 5) (q0 := 0) rfl rfl) hP hD hS hA [0, 1, 2, 3, 4, 5, 6, 7, 8, 9, 10, 11, 12, 13, 14] [] rfl rfl (by decide) (by decide) (by decide) rfl hl.1 rfl (Nat.le_of_ble_eq_true rfl) dX5_goAll_145 ⟨Nat.le_of_ble_eq_true rfl, Nat.le_of_ble_eq_true rfl⟩ (fun r_12 w_12 H locs hw hP hD hS => ?_)
                      obtain ⟨rfl, hr5⟩ := hw
                      have hP := hP.sub (ws' := (pM g cI cB th n en le ro sn ar rt oh cn no ot cu lim d (nr_up wz ((16 * c) + i) (t + 1)) (nr_up lo c (d (no c) + 1)) ch bd)) [0, 1, 2, 3, 4, 5, 6, 7, 8, 9, 10, 11, 12, 13, 14] rfl
                      have hD := hD.sub (ws' := (pM g cI cB th n en le ro sn ar rt oh cn no ot cu lim d (nr_up wz ((16 * c) + i) (t + 1)) (nr_up lo c (d (no c) + 1)) ch bd)) [0, 1, 2, 3, 4, 5, 6, 7, 8, 9, 10, 11, 12, 13, 14] (by decide) rfl
                      have hr6 : r_12 = nI w0 := by rw [hr5, hw1]; rfl
                      subst hr6
                      refine lv_istore_n (lv' := [(2, .int (nI w0)), (3, .int (nI (i + 1))), (0, .ref (g 0)), (1, .int (nI c)), (4, .int (nI t))]) hx hb dX5_goAll_148 rfl hl (by decide) rfl (fun ls hl => ?_)
                      refine lv_goto (tgt := 56) hx hb dX5_goAll_149 (by decide) ?_
                      exact ih2 (i + 1) w0 _ (by omega) (by omega) hw10 (by rw [show wc c - (i + 1) = r by omega]; exact hg3) (lt_s (fun j hj => by rw [nr_up_n _ _ (by omega)]; exact hz1 j hj) (by rw [nr_up_s, htf])) (fun j hj => by rw [nr_up_n _ _ (by omega)]; exact hz2 j hj) _ _ _ hP hD hS (lv_sub hl [2, 3, 0, 1] rfl)
                    · have hng := hmin t (by omega)
                      cases hn1 : cw_nx (fun t => en (2 * t)) (fun t => en (2 * t + 1)) t nd with
                      | none =>
                        have hr2 : r_7 = -1 := by rw [hr1, hn1]; rfl
                        subst hr2
                        refine lv_icmp_eq (tgt := 119) hx hb dX5_goAll_87 (by decide) (fun _ => ?_) (fun h => absurd rfl h)
                        refine lv_iinc (v := nI (t + 1)) (lv' := [(4, .int (nI (t + 1))), (0, .ref (g 0)), (1, .int (nI c)), (2, .int (nI nd)), (3, .int (nI i))]) hx hb dX5_goAll_119 hl (k := 4) rfl (nI_1 _) (by decide) rfl (fun ls hl => ?_)
                        refine lv_goto (tgt := 79) hx hb dX5_goAll_122 (by decide) ?_
                        exact ih3 (t + 1) (by omega) (by omega) _ _ _ hP hD hS (lv_sub hl [1, 2, 3, 4, 0] rfl)
                      | some v0 =>
                        have hr2 : r_7 = nI v0 := by rw [hr1, hn1]; rfl
                        subst hr2
                        have b_v := hd0 v0
                        have b_10 : v0 < 10 := (cw_nx_lt hok (show t < n by omega) hn1).2.1
                        refine lv_icmp_eq (tgt := 119) hx hb dX5_goAll_87 (by decide) (fun h => absurd h (nI_nm1 (by omega))) (fun _ => ?_)
                        refine lv_aload_n hx hb dX5_goAll_90 rfl (lv_at hl 0 rfl) ?_
                        refine va_get (ci := 5) (v := .ref (g 10)) (C := RX5) (T := TX5) (N := 19) hx hb hbw in_X5 hown hK hP 0 rfl rfl 14 (by decide) (hbw _ m_502) (fun _ h9 => h9) rfl dX5_goAll_91 ?_
                        refine lv_aload_n hx hb dX5_goAll_94 rfl (lv_at hl 0 rfl) ?_
                        refine lv_iload hx hb dX5_goAll_95 (lv_at hl 4 rfl) ?_
                        refine lv_iload_n hx hb dX5_goAll_97 rfl (lv_at hl 2 rfl) ?_
                        refine ct_Vi (wc := (pM g cI cB th n en le ro sn ar rt oh cn no ot cu lim d wz (nr_up lo c (d (no c) + 1)) ch bd)) (wr := ([] : va_W)) (As := [.int (nI t), .int (nI nd)]) (rest := [.ref (g 10)]) ⟨hx, hb, hml, hown, hbw⟩ (EN_E D _) hEN (kX5_behind l D cI cG cL cB g th n en le ro sn ar rt oh cn no ot cu lim d wz (nr_up lo c (d (no c) + 1)) ch bd t nd (by omega) hnd hen) (cwV (C := "CableSizesModel") 2 hbw (gV m_605 m_607 m_9 m_23 m_608) rfl rfl rfl (by decide +kernel) ⟨Nat.le_of_ble_eq_true rfl, Nat.le_of_ble_eq_true rfl⟩) (va_recv hK hP (ci := 5) (q0 := 0) rfl rfl) hP hD hS hA [0, 1, 2, 3, 4, 5, 6, 7, 8, 9, 10, 11, 12, 13, 14] [] rfl rfl (by decide) (by decide) (by decide) rfl hl.1 rfl (Nat.le_of_ble_eq_true rfl) dX5_goAll_98 ⟨Nat.le_of_ble_eq_true rfl, Nat.le_of_ble_eq_true rfl⟩ (fun r_13 w_13 H locs hw hP hD hS => ?_)
                        obtain ⟨rfl, hr3⟩ := hw
                        have hP := hP.sub (ws' := (pM g cI cB th n en le ro sn ar rt oh cn no ot cu lim d wz (nr_up lo c (d (no c) + 1)) ch bd)) [0, 1, 2, 3, 4, 5, 6, 7, 8, 9, 10, 11, 12, 13, 14] rfl
                        have hD := hD.sub (ws' := (pM g cI cB th n en le ro sn ar rt oh cn no ot cu lim d wz (nr_up lo c (d (no c) + 1)) ch bd)) [0, 1, 2, 3, 4, 5, 6, 7, 8, 9, 10, 11, 12, 13, 14] (by decide) rfl
                        have hr4 : r_13 = nI v0 := by rw [hr3, hn1]; rfl
                        subst hr4
                        refine nr_iald hx hb hK hP 10 0 rfl rfl (k := v0) (by omega) (by omega) dX5_goAll_101 ?_
                        have b_14 := hd0 v0
                        refine lv_aload_n hx hb dX5_goAll_102 rfl (lv_at hl 0 rfl) ?_
                        refine va_get (ci := 5) (v := .ref (g 2)) (C := RX5) (T := TX5) (N := 19) hx hb hbw in_X5 hown hK hP 0 rfl rfl 3 (by decide) (hbw _ m_491) (fun _ h9 => h9) rfl dX5_goAll_103 ?_
                        refine lv_iload hx hb dX5_goAll_106 (lv_at hl 4 rfl) ?_
                        refine nr_iald hx hb hK hP 2 0 rfl rfl (k := t) (by omega) (by omega) dX5_goAll_108 ?_
                        have b_15 := hl0 t
                        refine nr_iadd hx hb dX5_goAll_109 ?_
                        refine lv_aload_n hx hb dX5_goAll_110 rfl (lv_at hl 0 rfl) ?_
                        refine va_get (ci := 5) (v := .ref (g 10)) (C := RX5) (T := TX5) (N := 19) hx hb hbw in_X5 hown hK hP 0 rfl rfl 14 (by decide) (hbw _ m_502) (fun _ h9 => h9) rfl dX5_goAll_111 ?_
                        refine lv_iload_n hx hb dX5_goAll_114 rfl (lv_at hl 2 rfl) ?_
                        refine nr_iald hx hb hK hP 10 0 rfl rfl (k := nd) (by omega) (by omega) dX5_goAll_115 ?_
                        have b_16 := hd0 nd
                        refine nr_icmp_eq (x := (d v0) + (le t)) (y := d nd) (tgt := 125) hx hb (by omega) (by omega) dX5_goAll_116 (by decide) (fun h5 => ?_) (fun h5 => ?_)
                        · exact absurd ⟨v0, hn1, h5⟩ hng
                        · refine lv_iinc (v := nI (t + 1)) (lv' := [(4, .int (nI (t + 1))), (0, .ref (g 0)), (1, .int (nI c)), (2, .int (nI nd)), (3, .int (nI i))]) hx hb dX5_goAll_119 hl (k := 4) rfl (nI_1 _) (by decide) rfl (fun ls hl => ?_)
                          refine lv_goto (tgt := 79) hx hb dX5_goAll_122 (by decide) ?_
                          exact ih3 (t + 1) (by omega) (by omega) _ _ _ hP hD hS (lv_sub hl [1, 2, 3, 4, 0] rfl)
                have hf15 := hwt c i
                exact l3 (wt c i + 1) 0 (by omega) (Nat.zero_le _) _ _ _ hP hD hS (lv_sub hl [1, 2, 3, 4, 0] rfl)
          exact lq 10 0 (no c) wy (by omega) (Nat.zero_le _) (hno c) (by rw [Nat.sub_zero]; exact hgs) (lt_0) (fun _ _ => rfl) _ _ _ hP hD hS (lv_sub hl [2, 3, 1, 0] rfl)
        · obtain ⟨hk0, hL0⟩ : wc c = 0 ∧ wl c = 0 := by
            rcases hcase with ⟨-, h3, h4⟩ | ⟨h, -, -, -⟩
            · exact ⟨h3, h4⟩
            · omega
          refine lv_iconst (v := (-1)) hx hb dX5_goAll_43 (by decide) ?_
          refine lv_goto (tgt := 53) hx hb dX5_goAll_44 (by decide) ?_
          refine nr_mast hx hb hK hP hD hS 12 0 rfl rfl (k := c) (0) rfl (by omega) (by omega) dX5_goAll_53 (fun H locs hP hD hS => ?_)
          have hP : va_P D vwCl (pM g cI cB th n en le ro sn ar rt oh cn no ot cu lim d wy (nr_up lo c 0) ch bd) H := hP
          have hD : va_D A (pM g cI cB th n en le ro sn ar rt oh cn no ot cu lim d wy (nr_up lo c 0) ch bd) := hD
          refine lv_iconst (v := nI 0) hx hb dX5_goAll_54 (by decide) ?_
          refine lv_istore_n (lv' := [(3, .int (nI 0)), (2, .int (nI (no c))), (0, .ref (g 0)), (1, .int (nI c))]) hx hb dX5_goAll_55 rfl hl (by decide) rfl (fun ls hl => ?_)
          refine lv_aload_n hx hb dX5_goAll_56 rfl (lv_at hl 2 rfl) ?_
          refine va_get (ci := 5) (v := .ref (g 12)) (C := RX5) (T := TX5) (N := 19) hx hb hbw in_X5 hown hK hP 0 rfl rfl 16 (by decide) (hbw _ m_504) (fun _ h9 => h9) rfl dX5_goAll_57 ?_
          refine lv_iload_n hx hb dX5_goAll_60 rfl (lv_at hl 3 rfl) ?_
          refine nr_mald0 hx hb hK hP 12 0 rfl rfl (k := c) (by omega) (by omega) (nr_up_s _ _ _) dX5_goAll_61 ?_
          refine lv_iconst (v := (-1)) hx hb dX5_goAll_62 (by decide) ?_
          refine lv_icmp_eq (tgt := 152) hx hb dX5_goAll_63 (by decide) (fun _ => ?_) (fun h => absurd rfl h)
          refine lv_aload_n hx hb dX5_goAll_152 rfl (lv_at hl 2 rfl) ?_
          refine va_get (ci := 5) (v := .ref (g 11)) (C := RX5) (T := TX5) (N := 19) hx hb hbw in_X5 hown hK hP 0 rfl rfl 15 (by decide) (hbw _ m_503) (fun _ h9 => h9) rfl dX5_goAll_153 ?_
          refine lv_bipush (v := nI 16) hx hb dX5_goAll_156 (by decide) ?_
          refine lv_iload_n hx hb dX5_goAll_158 rfl (lv_at hl 3 rfl) ?_
          refine nr_imul hx hb dX5_goAll_159 ?_
          refine lv_iload_n hx hb dX5_goAll_160 rfl (lv_at hl 0 rfl) ?_
          refine nr_iadd hx hb dX5_goAll_161 ?_
          refine lv_iconst (v := (-1)) hx hb dX5_goAll_162 (by decide) ?_
          refine nr_mast hx hb hK hP hD hS 11 0 rfl rfl (k := (16 * c) + 0) (0) rfl (by omega) (by omega) dX5_goAll_163 (fun H locs hP hD hS => ?_)
          have hP : va_P D vwCl (pM g cI cB th n en le ro sn ar rt oh cn no ot cu lim d (nr_up wy ((16 * c) + 0) 0) (nr_up lo c 0) ch bd) H := hP
          have hD : va_D A (pM g cI cB th n en le ro sn ar rt oh cn no ot cu lim d (nr_up wy ((16 * c) + 0) 0) (nr_up lo c 0) ch bd) := hD
          refine lv_iinc (v := nI (c + 1)) (lv' := [(1, .int (nI (c + 1))), (3, .int (nI 0)), (2, .int (nI (no c))), (0, .ref (g 0))]) hx hb dX5_goAll_164 hl (k := 3) rfl (nI_1 _) (by decide) rfl (fun ls hl => ?_)
          refine lv_goto (tgt := 2) hx hb dX5_goAll_167 (by decide) ?_
          exact ih (c + 1) d (nr_up wy ((16 * c) + 0) 0) (nr_up lo c 0) (by omega) (by omega) (lt_s (fun j hj => enc_keep (he j hj) hj (hwc j) (fun k hk => nr_up_n _ _ (by omega)) (fun k hk => nr_up_n _ _ (Nat.ne_of_lt hk))) ⟨fun j hj => by omega, by rw [hk0]; exact nr_up_s _ _ _, Or.inl ⟨hk0, nr_up_s _ _ _, hL0⟩⟩) _ _ _ hP hD hS (lv_sub hl [3, 0] rfl)
  exact lp (cn + 1) 0 fa wy lo (by omega) (Nat.zero_le cn) (lt_0) H locs ls hP hD hS (lv_sub hl [1, 0] rfl)
end
section
def okY (n : Nat) (ro : Nat → Nat) (cn : Nat) (wc : Nat → Nat) (wt : Nat → Nat → Nat) : Prop := n ≤ 15 ∧ (∀ j, ro j ≤ 1000) ∧ (∀ j, j < n → 1 ≤ ro j) ∧ (∀ c, c < cn → ∀ i, i < wc c → wt c i < n) ∧ ∀ c, c < cn → ∀ i j, i < wc c → j < wc c → wt c i = wt c j → i = j
theorem occ_0 {wt : Nat → Nat → Nat} {c t : Nat} : ∀ {k : Nat}, (∀ i, i < k → wt c i ≠ t) → cz_sum (fun i => if wt c i = t then 1 else 0) k = 0
  | 0, _ => rfl
  | k + 1, h => by
    show cz_sum _ k + (if wt c k = t then 1 else 0) = 0
    rw [occ_0 (fun i hi => h i (Nat.lt_succ_of_lt hi)), if_neg (h k (Nat.lt_succ_self k))]
theorem occ_1 {wt : Nat → Nat → Nat} {c t i0 : Nat} (h0 : wt c i0 = t) : ∀ {k : Nat}, i0 < k → (∀ i, i < k → wt c i = t → i = i0) → cz_sum (fun i => if wt c i = t then 1 else 0) k = 1
  | 0, h, _ => absurd h (Nat.not_lt_zero _)
  | k + 1, h, hu => by
    show cz_sum _ k + (if wt c k = t then 1 else 0) = 1
    by_cases e : k = i0
    · rw [occ_0 (fun i hi q => by have := hu i (Nat.lt_succ_of_lt hi) q; omega), if_pos (by rw [e]; exact h0)]
    · rw [occ_1 h0 (by omega) (fun i hi q => hu i (Nat.lt_succ_of_lt hi) q), if_neg (fun q => e (hu k (Nat.lt_succ_self k) q))]
theorem occ_le {wc : Nat → Nat} {wt : Nat → Nat → Nat} {c t : Nat} (hu : ∀ i j, i < wc c → j < wc c → wt c i = wt c j → i = j) : cz_occ wc wt c t ≤ 1 := by
  by_cases h : ∃ i, i < wc c ∧ wt c i = t
  · obtain ⟨i, hi, e⟩ := h
    exact Nat.le_of_eq (occ_1 e hi (fun j hj q => hu j i hj hi (q.trans e.symm)))
  · have e : cz_occ wc wt c t = 0 := occ_0 (fun i hi q => h ⟨i, hi, q⟩)
    omega
set_option maxHeartbeats 4000000 in
set_option maxRecDepth 100000 in
/-- isOn -/
theorem kX5_isOn (l : Launch) (D : va_G) (cI cG cL cB : ClassId) (g : Nat → Nat) (th n : Nat) (en le ro : Nat → Nat) (sn : Nat) (ar rt oh : Nat → Nat) (cn : Nat) (no ot cu : Nat → Nat) (lim : Nat) (fa wy lo ch bd : Nat → Nat) (wc wl : Nat → Nat) (wt : Nat → Nat → Nat) (c t : Nat) (hc : c < cn) (ht : t < 15) (hz : okZ sn ar rt oh cn cu wc wl wt) (hy : okY n ro cn wc wt) (hch : ∀ j, ch j < 6) (hlim : lim ≤ 1000000) (he : ∀ c, c < cn → enc wc wt wl wy lo c) : ct_i l yX5_isOn (.code yX5_isOn cX5_isOn 4 (some .boolean) :: bw) ({ frames := 0, cells := 0, slots := 0, locals := 0 }) (EN D (tyL cI cG cL cB)) D vwCl (pM g cI cB th n en le ro sn ar rt oh cn no ot cu lim fa wy lo ch bd) [.ref (g 0), .int (nI c), .int (nI t)] (fun v W => W = (pM g cI cB th n en le ro sn ar rt oh cn no ot cu lim fa wy lo ch bd) ∧ v = nI (cz_occ wc wt c t)) 0 0 := by
  refine ct_ofi (by decide) (Nat.le_of_ble_eq_true rfl) ?_
  intro p e s m below meth cd A H locs av Q ls hx hb hr hml hown hlocks hnm hbw hEN hQ hP hD hS hA hl
  have hown : s.vm.findClass RX5 = some m.cls := hown
  have hK := hEN.1
  have hl : lv_has ls 4 [(0, .ref (g 0)), (1, .int (nI c)), (2, .int (nI t))] := hl
  obtain ⟨hsn, har, hrt, hoh, hcn, hcu, hwc, hwl, hwt⟩ := id hz
  obtain ⟨hn, hro, hro1, hway, hnd⟩ := id hy
  obtain ⟨e1, e2, e3⟩ := he c hc
  have b_w := hwc c
  refine lv_iconst (v := nI 0) hx hb dX5_isOn_0 (by decide) ?_
  refine lv_istore_n (lv' := [(3, .int (nI 0)), (0, .ref (g 0)), (1, .int (nI c)), (2, .int (nI t))]) hx hb dX5_isOn_1 rfl hl (by decide) rfl (fun ls hl => ?_)
  have lp : ∀ (k : Nat) (i : Nat), (hk : 9 < i + k) → (hi : i ≤ wc c) → (hv : ∀ j, j < i → wt c j ≠ t) → ∀ (H : Heap) (locs : List Loc) (ls : Array Slot), va_P D vwCl (pM g cI cB th n en le ro sn ar rt oh cn no ot cu lim fa wy lo ch bd) H → va_D A (pM g cI cB th n en le ro sn ar rt oh cn no ot cu lim fa wy lo ch bd) → va_S A s.heap H locs → lv_has ls 4 [(0, .ref (g 0)), (1, .int (nI c)), (2, .int (nI t)), (3, .int (nI i))] → W p l e ({ frames := 0, cells := 0, slots := 0, locals := 0 }) s m av below meth cd H locs 0 0 Q (F0 m 2 ls []) := by
    intro k
    induction k with
    | zero => intro i hk hi hv; exact absurd hk (by omega)
    | succ k ih =>
      intro i hk hi hv H locs ls hP hD hS hl
      by_cases hlt : i < wc c
      · have b_t := hwt c i
        refine lv_aload_n hx hb dX5_isOn_2 rfl (lv_at hl 0 rfl) ?_
        refine va_get (ci := 5) (v := .ref (g 11)) (C := RX5) (T := TX5) (N := 19) hx hb hbw in_X5 hown hK hP 0 rfl rfl 15 (by decide) (hbw _ m_503) (fun _ h9 => h9) rfl dX5_isOn_3 ?_
        refine lv_bipush (v := nI 16) hx hb dX5_isOn_6 (by decide) ?_
        refine lv_iload_n hx hb dX5_isOn_8 rfl (lv_at hl 1 rfl) ?_
        refine nr_imul hx hb dX5_isOn_9 ?_
        refine lv_iload_n hx hb dX5_isOn_10 rfl (lv_at hl 3 rfl) ?_
        refine nr_iadd hx hb dX5_isOn_11 ?_
        refine nr_mald1 hx hb hK hP 11 0 rfl rfl (k := (16 * c) + i) (v := wt c i) (by omega) (by omega) (e1 i hlt) dX5_isOn_12 ?_
        refine lv_iconst (v := (-1)) hx hb dX5_isOn_13 (by decide) ?_
        refine lv_icmp_eq (tgt := 40) hx hb dX5_isOn_14 (by decide) (fun h => absurd h (nI_nm1 (by omega))) (fun _ => ?_)
        refine lv_aload_n hx hb dX5_isOn_17 rfl (lv_at hl 0 rfl) ?_
        refine va_get (ci := 5) (v := .ref (g 11)) (C := RX5) (T := TX5) (N := 19) hx hb hbw in_X5 hown hK hP 0 rfl rfl 15 (by decide) (hbw _ m_503) (fun _ h9 => h9) rfl dX5_isOn_18 ?_
        refine lv_bipush (v := nI 16) hx hb dX5_isOn_21 (by decide) ?_
        refine lv_iload_n hx hb dX5_isOn_23 rfl (lv_at hl 1 rfl) ?_
        refine nr_imul hx hb dX5_isOn_24 ?_
        refine lv_iload_n hx hb dX5_isOn_25 rfl (lv_at hl 3 rfl) ?_
        refine nr_iadd hx hb dX5_isOn_26 ?_
        refine nr_mald1 hx hb hK hP 11 0 rfl rfl (k := (16 * c) + i) (v := wt c i) (by omega) (by omega) (e1 i hlt) dX5_isOn_27 ?_
        refine lv_iload_n hx hb dX5_isOn_28 rfl (lv_at hl 2 rfl) ?_
        refine nr_icmp_ne (x := wt c i) (y := t) (tgt := 34) hx hb (by omega) (by omega) dX5_isOn_29 (by decide) (fun h1 => ?_) (fun h1 => ?_)
        · refine lv_iinc (v := nI (i + 1)) (lv' := [(3, .int (nI (i + 1))), (0, .ref (g 0)), (1, .int (nI c)), (2, .int (nI t))]) hx hb dX5_isOn_34 hl (k := 3) rfl (nI_1 _) (by decide) rfl (fun ls hl => ?_)
          refine lv_goto (tgt := 2) hx hb dX5_isOn_37 (by decide) ?_
          exact ih (i + 1) (by omega) (by omega) (lt_s hv h1) _ _ _ hP hD hS (lv_sub hl [1, 2, 3, 0] rfl)
        · refine lv_iconst (v := nI 1) hx hb dX5_isOn_32 (by decide) ?_
          have e9 : cz_occ wc wt c t = 1 := occ_1 h1 hlt (fun j hj q => hnd c hc j i hj hlt (q.trans h1.symm))
          rw [hQ]
          exact ct_zret hx hb hr hlocks hP hD hS dX5_isOn_33 (by first | exact Or.inl rfl | exact Or.inr rfl) ⟨rfl, by rw [e9]⟩
      · have ei : i = wc c := by omega
        refine lv_aload_n hx hb dX5_isOn_2 rfl (lv_at hl 0 rfl) ?_
        refine va_get (ci := 5) (v := .ref (g 11)) (C := RX5) (T := TX5) (N := 19) hx hb hbw in_X5 hown hK hP 0 rfl rfl 15 (by decide) (hbw _ m_503) (fun _ h9 => h9) rfl dX5_isOn_3 ?_
        refine lv_bipush (v := nI 16) hx hb dX5_isOn_6 (by decide) ?_
        refine lv_iload_n hx hb dX5_isOn_8 rfl (lv_at hl 1 rfl) ?_
        refine nr_imul hx hb dX5_isOn_9 ?_
        refine lv_iload_n hx hb dX5_isOn_10 rfl (lv_at hl 3 rfl) ?_
        refine nr_iadd hx hb dX5_isOn_11 ?_
        refine nr_mald0 hx hb hK hP 11 0 rfl rfl (k := (16 * c) + i) (by omega) (by omega) (by rw [ei]; exact e2) dX5_isOn_12 ?_
        refine lv_iconst (v := (-1)) hx hb dX5_isOn_13 (by decide) ?_
        refine lv_icmp_eq (tgt := 40) hx hb dX5_isOn_14 (by decide) (fun _ => ?_) (fun h => absurd rfl h)
        refine lv_iconst (v := nI 0) hx hb dX5_isOn_40 (by decide) ?_
        have e9 : cz_occ wc wt c t = 0 := occ_0 (fun j hj => hv j (by omega))
        rw [hQ]
        exact ct_zret hx hb hr hlocks hP hD hS dX5_isOn_41 (by first | exact Or.inl rfl | exact Or.inr rfl) ⟨rfl, by rw [e9]⟩
  exact lp 10 0 (by omega) (Nat.zero_le _) (lt_0) H locs ls hP hD hS (lv_sub hl [1, 2, 3, 0] rfl)
set_option maxHeartbeats 4000000 in
set_option maxRecDepth 100000 in
/-- fill -/
theorem kX5_fill (l : Launch) (D : va_G) (cI cG cL cB : ClassId) (g : Nat → Nat) (th n : Nat) (en le ro : Nat → Nat) (sn : Nat) (ar rt oh : Nat → Nat) (cn : Nat) (no ot cu : Nat → Nat) (lim : Nat) (fa wy lo ch bd : Nat → Nat) (wc wl : Nat → Nat) (wt : Nat → Nat → Nat) (t : Nat) (ht : t < n) (hz : okZ sn ar rt oh cn cu wc wl wt) (hy : okY n ro cn wc wt) (hch : ∀ j, ch j < 6) (hlim : lim ≤ 1000000) (he : ∀ c, c < cn → enc wc wt wl wy lo c) : ct_i l yX5_fill (.code yX5_fill cX5_fill 4 (some .int) :: bw) ({ frames := 1, cells := 0, slots := 0, locals := 23 }) (EN D (tyL cI cG cL cB)) D vwCl (pM g cI cB th n en le ro sn ar rt oh cn no ot cu lim fa wy lo ch bd) [.ref (g 0), .int (nI t)] (fun v W => W = (pM g cI cB th n en le ro sn ar rt oh cn no ot cu lim fa wy lo ch bd) ∧ v = nI (cz_fill cn ar wc ro wt ch t)) 0 0 := by
  refine ct_ofi (by decide) (Nat.le_of_ble_eq_true rfl) ?_
  intro p e s m below meth cd A H locs av Q ls hx hb hr hml hown hlocks hnm hbw hEN hQ hP hD hS hA hl
  have hown : s.vm.findClass RX5 = some m.cls := hown
  have hK := hEN.1
  have hl : lv_has ls 4 [(0, .ref (g 0)), (1, .int (nI t))] := hl
  obtain ⟨hsn, har, hrt, hoh, hcn, hcu, hwc, hwl, hwt⟩ := id hz
  obtain ⟨hn, hro, hro1, hway, hnd⟩ := id hy
  have b_r := hro1 t ht
  refine lv_iconst (v := nI 0) hx hb dX5_fill_0 (by decide) ?_
  refine lv_istore_n (lv' := [(2, .int (nI 0)), (0, .ref (g 0)), (1, .int (nI t))]) hx hb dX5_fill_1 rfl hl (by decide) rfl (fun ls hl => ?_)
  refine lv_iconst (v := nI 0) hx hb dX5_fill_2 (by decide) ?_
  refine lv_istore_n (lv' := [(3, .int (nI 0)), (2, .int (nI 0)), (0, .ref (g 0)), (1, .int (nI t))]) hx hb dX5_fill_3 rfl hl (by decide) rfl (fun ls hl => ?_)
  have lp : ∀ (k : Nat) (c : Nat), (hk : cn < c + k) → (hi : c ≤ cn) → ∀ (H : Heap) (locs : List Loc) (ls : Array Slot), va_P D vwCl (pM g cI cB th n en le ro sn ar rt oh cn no ot cu lim fa wy lo ch bd) H → va_D A (pM g cI cB th n en le ro sn ar rt oh cn no ot cu lim fa wy lo ch bd) → va_S A s.heap H locs → lv_has ls 4 [(0, .ref (g 0)), (1, .int (nI t)), (2, .int (nI (cz_sum (fun c => cz_occ wc wt c t * ar (ch c)) c))), (3, .int (nI c))] → W p l e ({ frames := 1, cells := 0, slots := 0, locals := 23 }) s m av below meth cd H locs 0 0 Q (F0 m 4 ls []) := by
    intro k
    induction k with
    | zero => intro c hk hi; exact absurd hk (by omega)
    | succ k ih =>
      intro c hk hi H locs ls hP hD hS hl
      refine lv_iload_n hx hb dX5_fill_4 rfl (lv_at hl 3 rfl) ?_
      refine lv_aload_n hx hb dX5_fill_5 rfl (lv_at hl 0 rfl) ?_
      refine va_get (ci := 5) (v := .int (nI cn)) (C := RX5) (T := TX5) (N := 19) hx hb hbw in_X5 hown hK hP 0 rfl rfl 9 (by decide) (hbw _ m_497) (fun _ h9 => h9) rfl dX5_fill_6 ?_
      refine nr_icmp_ge (x := c) (y := cn) (tgt := 45) hx hb (by omega) (by omega) dX5_fill_9 (by decide) (fun h1 => ?_) (fun h1 => ?_)
      · have ec : c = cn := by omega
        have b_l : cz_load cn ar wc wt ch t ≤ 18000 := cz_load_bd hcn har hwc
        have hl : lv_has ls 4 [(0, .ref (g 0)), (1, .int (nI t)), (2, .int (nI (cz_load cn ar wc wt ch t))), (3, .int (nI c))] := by rw [ec] at hl ⊢; exact hl
        refine lv_sipush (v := nI 1000) hx hb dX5_fill_45 (by decide) ?_
        refine lv_iload_n hx hb dX5_fill_48 rfl (lv_at hl 2 rfl) ?_
        refine nr_imul hx hb dX5_fill_49 ?_
        refine lv_aload_n hx hb dX5_fill_50 rfl (lv_at hl 0 rfl) ?_
        refine va_get (ci := 5) (v := .ref (g 3)) (C := RX5) (T := TX5) (N := 19) hx hb hbw in_X5 hown hK hP 0 rfl rfl 4 (by decide) (hbw _ m_492) (fun _ h9 => h9) rfl dX5_fill_51 ?_
        refine lv_iload_n hx hb dX5_fill_54 rfl (lv_at hl 1 rfl) ?_
        refine nr_iald hx hb hK hP 3 0 rfl rfl (k := t) (by omega) (by omega) dX5_fill_55 ?_
        have b_1 := hro t
        refine nr_idiv hx hb (by omega) (by omega) (by omega) dX5_fill_56 ?_
        rw [hQ]
        exact ct_iret hx hb hr hlocks hP hD hS dX5_fill_57 ⟨rfl, by unfold cz_fill; rw [Nat.mul_comm]⟩
      · refine lv_aload_n hx hb dX5_fill_12 rfl (lv_at hl 0 rfl) ?_
        refine lv_iload_n hx hb dX5_fill_13 rfl (lv_at hl 3 rfl) ?_
        refine lv_iload_n hx hb dX5_fill_14 rfl (lv_at hl 1 rfl) ?_
        refine ct_Vi (wc := (pM g cI cB th n en le ro sn ar rt oh cn no ot cu lim fa wy lo ch bd)) (wr := ([] : va_W)) (As := [.int (nI c), .int (nI t)]) (rest := []) ⟨hx, hb, hml, hown, hbw⟩ (EN_E D _) hEN (kX5_isOn l D cI cG cL cB g th n en le ro sn ar rt oh cn no ot cu lim fa wy lo ch bd wc wl wt c t h1 (by omega) hz hy hch hlim he) (cwV (C := "CableSizesModel") 2 hbw (gV m_637 m_639 m_15 m_23 m_640) rfl rfl rfl (by decide +kernel) ⟨Nat.le_of_ble_eq_true rfl, Nat.le_of_ble_eq_true rfl⟩) (va_recv hK hP (ci := 5) (q0 := 0) rfl rfl) hP hD hS hA [0, 1, 2, 3, 4, 5, 6, 7, 8, 9, 10, 11, 12, 13, 14] [] rfl rfl (by decide) (by decide) (by decide) rfl hl.1 rfl (Nat.le_of_ble_eq_true rfl) dX5_fill_15 ⟨Nat.le_of_ble_eq_true rfl, Nat.le_of_ble_eq_true rfl⟩ (fun r_2 w_2 H locs hw hP hD hS => ?_)
        obtain ⟨rfl, rfl⟩ := hw
        have hP := hP.sub (ws' := (pM g cI cB th n en le ro sn ar rt oh cn no ot cu lim fa wy lo ch bd)) [0, 1, 2, 3, 4, 5, 6, 7, 8, 9, 10, 11, 12, 13, 14] rfl
        have hD := hD.sub (ws' := (pM g cI cB th n en le ro sn ar rt oh cn no ot cu lim fa wy lo ch bd)) [0, 1, 2, 3, 4, 5, 6, 7, 8, 9, 10, 11, 12, 13, 14] (by decide) rfl
        have b_o := occ_le (wc := wc) (wt := wt) (c := c) (t := t) (hnd c h1)
        refine nr_if_eq (x := cz_occ wc wt c t) (tgt := 37) hx hb (by omega) dX5_fill_18 (by decide) (fun h2 => ?_) (fun h2 => ?_)
        · refine lv_iload_n hx hb dX5_fill_37 rfl (lv_at hl 2 rfl) ?_
          refine lv_istore_n (lv' := [(2, .int (nI (cz_sum (fun c => cz_occ wc wt c t * ar (ch c)) c))), (0, .ref (g 0)), (1, .int (nI t)), (3, .int (nI c))]) hx hb dX5_fill_38 rfl hl (by decide) rfl (fun ls hl => ?_)
          refine lv_iinc (v := nI (c + 1)) (lv' := [(3, .int (nI (c + 1))), (2, .int (nI (cz_sum (fun c => cz_occ wc wt c t * ar (ch c)) c))), (0, .ref (g 0)), (1, .int (nI t))]) hx hb dX5_fill_39 hl (k := 3) rfl (nI_1 _) (by decide) rfl (fun ls hl => ?_)
          refine lv_goto (tgt := 4) hx hb dX5_fill_42 (by decide) ?_
          have hl : lv_has ls 4 [(3, .int (nI (c + 1))), (2, .int (nI (cz_sum (fun c => cz_occ wc wt c t * ar (ch c)) c))), (0, .ref (g 0)), (1, .int (nI t))] := hl
          have e9 : cz_sum (fun c => cz_occ wc wt c t * ar (ch c)) (c + 1) = cz_sum (fun c => cz_occ wc wt c t * ar (ch c)) c := by show cz_sum (fun c => cz_occ wc wt c t * ar (ch c)) c + cz_occ wc wt c t * ar (ch c) = _; rw [show cz_occ wc wt c t = 0 by omega]; omega
          rw [← e9] at hl
          exact ih (c + 1) (by omega) (by omega) _ _ _ hP hD hS (lv_sub hl [2, 3, 1, 0] rfl)
        · refine lv_iload_n hx hb dX5_fill_21 rfl (lv_at hl 2 rfl) ?_
          refine lv_aload_n hx hb dX5_fill_22 rfl (lv_at hl 0 rfl) ?_
          refine va_get (ci := 5) (v := .ref (g 4)) (C := RX5) (T := TX5) (N := 19) hx hb hbw in_X5 hown hK hP 0 rfl rfl 6 (by decide) (hbw _ m_494) (fun _ h9 => h9) rfl dX5_fill_23 ?_
          refine lv_aload_n hx hb dX5_fill_26 rfl (lv_at hl 0 rfl) ?_
          refine va_get (ci := 5) (v := .ref (g 13)) (C := RX5) (T := TX5) (N := 19) hx hb hbw in_X5 hown hK hP 0 rfl rfl 17 (by decide) (hbw _ m_505) (fun _ h9 => h9) rfl dX5_fill_27 ?_
          refine lv_iload_n hx hb dX5_fill_30 rfl (lv_at hl 3 rfl) ?_
          refine nr_iald hx hb hK hP 13 0 rfl rfl (k := c) (by omega) (by omega) dX5_fill_31 ?_
          have b_3 := hch c
          refine nr_iald hx hb hK hP 4 0 rfl rfl (k := ch c) (by omega) (by omega) dX5_fill_32 ?_
          have b_4 := har (ch c)
          refine nr_iadd hx hb dX5_fill_33 ?_
          refine lv_goto (tgt := 38) hx hb dX5_fill_34 (by decide) ?_
          refine lv_istore_n (lv' := [(2, .int (nI ((cz_sum (fun c => cz_occ wc wt c t * ar (ch c)) c) + (ar (ch c))))), (0, .ref (g 0)), (1, .int (nI t)), (3, .int (nI c))]) hx hb dX5_fill_38 rfl hl (by decide) rfl (fun ls hl => ?_)
          refine lv_iinc (v := nI (c + 1)) (lv' := [(3, .int (nI (c + 1))), (2, .int (nI ((cz_sum (fun c => cz_occ wc wt c t * ar (ch c)) c) + (ar (ch c))))), (0, .ref (g 0)), (1, .int (nI t))]) hx hb dX5_fill_39 hl (k := 3) rfl (nI_1 _) (by decide) rfl (fun ls hl => ?_)
          refine lv_goto (tgt := 4) hx hb dX5_fill_42 (by decide) ?_
          have hl : lv_has ls 4 [(3, .int (nI (c + 1))), (2, .int (nI ((cz_sum (fun c => cz_occ wc wt c t * ar (ch c)) c) + (ar (ch c))))), (0, .ref (g 0)), (1, .int (nI t))] := hl
          have e9 : cz_sum (fun c => cz_occ wc wt c t * ar (ch c)) (c + 1) = (cz_sum (fun c => cz_occ wc wt c t * ar (ch c)) c) + (ar (ch c)) := by show cz_sum (fun c => cz_occ wc wt c t * ar (ch c)) c + cz_occ wc wt c t * ar (ch c) = _; rw [show cz_occ wc wt c t = 1 by omega]; omega
          rw [← e9] at hl
          exact ih (c + 1) (by omega) (by omega) _ _ _ hP hD hS (lv_sub hl [2, 3, 1, 0] rfl)
  exact lp (cn + 1) 0 (by omega) (Nat.zero_le cn) H locs ls hP hD hS (lv_sub hl [2, 3, 1, 0] rfl)
theorem cz_fill_bd {C : Nat} {ar wc rm pk : Nat → Nat} {wt : Nat → Nat → Nat} {t : Nat} (h1 : C ≤ 20) (h2 : ∀ j, ar j ≤ 100) (h3 : ∀ j, wc j ≤ 9) : cz_fill C ar wc rm wt pk t ≤ 18000000 := by
  have h4 : cz_load C ar wc wt pk t ≤ 18000 := cz_load_bd h1 h2 h3
  unfold cz_fill
  exact Nat.le_trans (Nat.div_le_self _ _) (by omega)
set_option maxHeartbeats 4000000 in
set_option maxRecDepth 100000 in
/-- factor -/
theorem kX5_factor (l : Launch) (D : va_G) (cI cG cL cB : ClassId) (g : Nat → Nat) (th n : Nat) (en le ro : Nat → Nat) (sn : Nat) (ar rt oh : Nat → Nat) (cn : Nat) (no ot cu : Nat → Nat) (lim : Nat) (fa wy lo ch bd : Nat → Nat) (wc wl : Nat → Nat) (wt : Nat → Nat → Nat) (t : Nat) (ht : t < n) (hz : okZ sn ar rt oh cn cu wc wl wt) (hy : okY n ro cn wc wt) (hch : ∀ j, ch j < 6) (hlim : lim ≤ 1000000) (he : ∀ c, c < cn → enc wc wt wl wy lo c) : ct_i l yX5_factor (.code yX5_factor cX5_factor 3 (some .int) :: bw) ({ frames := 2, cells := 0, slots := 0, locals := 46 }) (EN D (tyL cI cG cL cB)) D vwCl (pM g cI cB th n en le ro sn ar rt oh cn no ot cu lim fa wy lo ch bd) [.ref (g 0), .int (nI t)] (fun v W => W = (pM g cI cB th n en le ro sn ar rt oh cn no ot cu lim fa wy lo ch bd) ∧ v = nI (cz_fac (cz_fill cn ar wc ro wt ch t))) 0 0 := by
  refine ct_ofi (by decide) (Nat.le_of_ble_eq_true rfl) ?_
  intro p e s m below meth cd A H locs av Q ls hx hb hr hml hown hlocks hnm hbw hEN hQ hP hD hS hA hl
  have hown : s.vm.findClass RX5 = some m.cls := hown
  have hK := hEN.1
  have hl : lv_has ls 3 [(0, .ref (g 0)), (1, .int (nI t))] := hl
  obtain ⟨hsn, har, hrt, hoh, hcn, hcu, hwc, hwl, hwt⟩ := id hz
  obtain ⟨hn, hro, hro1, hway, hnd⟩ := id hy
  refine lv_aload_n hx hb dX5_factor_0 rfl (lv_at hl 0 rfl) ?_
  refine lv_iload_n hx hb dX5_factor_1 rfl (lv_at hl 1 rfl) ?_
  refine ct_Vi (wc := (pM g cI cB th n en le ro sn ar rt oh cn no ot cu lim fa wy lo ch bd)) (wr := ([] : va_W)) (As := [.int (nI t)]) (rest := []) ⟨hx, hb, hml, hown, hbw⟩ (EN_E D _) hEN (kX5_fill l D cI cG cL cB g th n en le ro sn ar rt oh cn no ot cu lim fa wy lo ch bd wc wl wt t ht hz hy hch hlim he) (cwV (C := "CableSizesModel") 1 hbw (gV m_633 m_635 m_14 m_23 m_636) rfl rfl rfl (by decide +kernel) ⟨Nat.le_of_ble_eq_true rfl, Nat.le_of_ble_eq_true rfl⟩) (va_recv hK hP (ci := 5) (q0 := 0) rfl rfl) hP hD hS hA [0, 1, 2, 3, 4, 5, 6, 7, 8, 9, 10, 11, 12, 13, 14] [] rfl rfl (by decide) (by decide) (by decide) rfl hl.1 rfl (Nat.le_of_ble_eq_true rfl) dX5_factor_2 ⟨Nat.le_of_ble_eq_true rfl, Nat.le_of_ble_eq_true rfl⟩ (fun r_1 w_1 H locs hw hP hD hS => ?_)
  obtain ⟨rfl, rfl⟩ := hw
  have hP := hP.sub (ws' := (pM g cI cB th n en le ro sn ar rt oh cn no ot cu lim fa wy lo ch bd)) [0, 1, 2, 3, 4, 5, 6, 7, 8, 9, 10, 11, 12, 13, 14] rfl
  have hD := hD.sub (ws' := (pM g cI cB th n en le ro sn ar rt oh cn no ot cu lim fa wy lo ch bd)) [0, 1, 2, 3, 4, 5, 6, 7, 8, 9, 10, 11, 12, 13, 14] (by decide) rfl
  have b_l : cz_fill cn ar wc ro wt ch t ≤ 18000000 := cz_fill_bd hcn har hwc
  refine lv_istore_n (lv' := [(2, .int (nI (cz_fill cn ar wc ro wt ch t))), (0, .ref (g 0)), (1, .int (nI t))]) hx hb dX5_factor_5 rfl hl (by decide) rfl (fun ls hl => ?_)
  refine lv_iload_n hx hb dX5_factor_6 rfl (lv_at hl 0 rfl) ?_
  refine lv_sipush (v := nI 200) hx hb dX5_factor_7 (by decide) ?_
  refine nr_icmp_gt (x := cz_fill cn ar wc ro wt ch t) (y := 200) (tgt := 19) hx hb (by omega) (by omega) dX5_factor_10 (by decide) (fun h0 => ?_) (fun h0 => ?_)
  · refine lv_iload_n hx hb dX5_factor_19 rfl (lv_at hl 0 rfl) ?_
    refine lv_sipush (v := nI 400) hx hb dX5_factor_20 (by decide) ?_
    refine nr_icmp_gt (x := cz_fill cn ar wc ro wt ch t) (y := 400) (tgt := 32) hx hb (by omega) (by omega) dX5_factor_23 (by decide) (fun h1 => ?_) (fun h1 => ?_)
    · refine lv_iload_n hx hb dX5_factor_32 rfl (lv_at hl 0 rfl) ?_
      refine lv_sipush (v := nI 600) hx hb dX5_factor_33 (by decide) ?_
      refine nr_icmp_gt (x := cz_fill cn ar wc ro wt ch t) (y := 600) (tgt := 45) hx hb (by omega) (by omega) dX5_factor_36 (by decide) (fun h2 => ?_) (fun h2 => ?_)
      · refine lv_iload_n hx hb dX5_factor_45 rfl (lv_at hl 0 rfl) ?_
        refine lv_sipush (v := nI 800) hx hb dX5_factor_46 (by decide) ?_
        refine nr_icmp_gt (x := cz_fill cn ar wc ro wt ch t) (y := 800) (tgt := 58) hx hb (by omega) (by omega) dX5_factor_49 (by decide) (fun h3 => ?_) (fun h3 => ?_)
        · refine lv_iload_n hx hb dX5_factor_58 rfl (lv_at hl 0 rfl) ?_
          refine lv_sipush (v := nI 1000) hx hb dX5_factor_59 (by decide) ?_
          refine nr_icmp_gt (x := cz_fill cn ar wc ro wt ch t) (y := 1000) (tgt := 71) hx hb (by omega) (by omega) dX5_factor_62 (by decide) (fun h4 => ?_) (fun h4 => ?_)
          · refine lv_iconst (v := nI 0) hx hb dX5_factor_71 (by decide) ?_
            have e1 : cz_fac (cz_fill cn ar wc ro wt ch t) = 0 := by unfold cz_fac; rw [if_neg (by omega), if_neg (by omega), if_neg (by omega), if_neg (by omega), if_neg (by omega)]
            rw [hQ]
            exact ct_iret hx hb hr hlocks hP hD hS dX5_factor_72 ⟨rfl, by rw [e1]⟩
          · refine lv_sipush (v := nI 500) hx hb dX5_factor_65 (by decide) ?_
            refine lv_goto (tgt := 72) hx hb dX5_factor_68 (by decide) ?_
            have e1 : cz_fac (cz_fill cn ar wc ro wt ch t) = 500 := by unfold cz_fac; rw [if_neg (by omega), if_neg (by omega), if_neg (by omega), if_neg (by omega), if_pos (by omega)]
            rw [hQ]
            exact ct_iret hx hb hr hlocks hP hD hS dX5_factor_72 ⟨rfl, by rw [e1]⟩
        · refine lv_sipush (v := nI 550) hx hb dX5_factor_52 (by decide) ?_
          refine lv_goto (tgt := 72) hx hb dX5_factor_55 (by decide) ?_
          have e1 : cz_fac (cz_fill cn ar wc ro wt ch t) = 550 := by unfold cz_fac; rw [if_neg (by omega), if_neg (by omega), if_neg (by omega), if_pos (by omega)]
          rw [hQ]
          exact ct_iret hx hb hr hlocks hP hD hS dX5_factor_72 ⟨rfl, by rw [e1]⟩
      · refine lv_sipush (v := nI 650) hx hb dX5_factor_39 (by decide) ?_
        refine lv_goto (tgt := 72) hx hb dX5_factor_42 (by decide) ?_
        have e1 : cz_fac (cz_fill cn ar wc ro wt ch t) = 650 := by unfold cz_fac; rw [if_neg (by omega), if_neg (by omega), if_pos (by omega)]
        rw [hQ]
        exact ct_iret hx hb hr hlocks hP hD hS dX5_factor_72 ⟨rfl, by rw [e1]⟩
    · refine lv_sipush (v := nI 800) hx hb dX5_factor_26 (by decide) ?_
      refine lv_goto (tgt := 72) hx hb dX5_factor_29 (by decide) ?_
      have e1 : cz_fac (cz_fill cn ar wc ro wt ch t) = 800 := by unfold cz_fac; rw [if_neg (by omega), if_pos (by omega)]
      rw [hQ]
      exact ct_iret hx hb hr hlocks hP hD hS dX5_factor_72 ⟨rfl, by rw [e1]⟩
  · refine lv_sipush (v := nI 1000) hx hb dX5_factor_13 (by decide) ?_
    refine lv_goto (tgt := 72) hx hb dX5_factor_16 (by decide) ?_
    have e1 : cz_fac (cz_fill cn ar wc ro wt ch t) = 1000 := by unfold cz_fac; rw [if_pos (by omega)]
    rw [hQ]
    exact ct_iret hx hb hr hlocks hP hD hS dX5_factor_72 ⟨rfl, by rw [e1]⟩
set_option maxHeartbeats 4000000 in
set_option maxRecDepth 100000 in
/-- carries -/
theorem kX5_carries (l : Launch) (D : va_G) (cI cG cL cB : ClassId) (g : Nat → Nat) (th n : Nat) (en le ro : Nat → Nat) (sn : Nat) (ar rt oh : Nat → Nat) (cn : Nat) (no ot cu : Nat → Nat) (lim : Nat) (fa wy lo ch bd : Nat → Nat) (wc wl : Nat → Nat) (wt : Nat → Nat → Nat) (c : Nat) (hc : c < cn) (hz : okZ sn ar rt oh cn cu wc wl wt) (hy : okY n ro cn wc wt) (hch : ∀ j, ch j < 6) (hlim : lim ≤ 1000000) (he : ∀ c, c < cn → enc wc wt wl wy lo c) : ct_i l yX5_carries (.code yX5_carries cX5_carries 5 (some .int) :: bw) ({ frames := 3, cells := 0, slots := 0, locals := 68 }) (EN D (tyL cI cG cL cB)) D vwCl (pM g cI cB th n en le ro sn ar rt oh cn no ot cu lim fa wy lo ch bd) [.ref (g 0), .int (nI c)] (fun v W => W = (pM g cI cB th n en le ro sn ar rt oh cn no ot cu lim fa wy lo ch bd) ∧ v = nI (cy_carry rt wc ch (cz_fill cn ar wc ro wt ch) wt c)) 0 0 := by
  refine ct_ofi (by decide) (Nat.le_of_ble_eq_true rfl) ?_
  intro p e s m below meth cd A H locs av Q ls hx hb hr hml hown hlocks hnm hbw hEN hQ hP hD hS hA hl
  have hown : s.vm.findClass RX5 = some m.cls := hown
  have hK := hEN.1
  have hl : lv_has ls 5 [(0, .ref (g 0)), (1, .int (nI c))] := hl
  obtain ⟨hsn, har, hrt, hoh, hcn, hcu, hwc, hwl, hwt⟩ := id hz
  obtain ⟨hn, hro, hro1, hway, hnd⟩ := id hy
  obtain ⟨e1, e2, e3⟩ := he c hc
  have b_w := hwc c
  have hb9 := cy_carry_bd (rt := rt) (wc := wc) (pk := ch) (fi := cz_fill cn ar wc ro wt ch) (wt := wt) (c := c) (hrt (ch c))
  refine lv_sipush (v := nI 1000) hx hb dX5_carries_0 (by decide) ?_
  refine lv_istore_n (lv' := [(2, .int (nI 1000)), (0, .ref (g 0)), (1, .int (nI c))]) hx hb dX5_carries_3 rfl hl (by decide) rfl (fun ls hl => ?_)
  refine lv_iconst (v := nI 0) hx hb dX5_carries_4 (by decide) ?_
  refine lv_istore_n (lv' := [(3, .int (nI 0)), (2, .int (nI 1000)), (0, .ref (g 0)), (1, .int (nI c))]) hx hb dX5_carries_5 rfl hl (by decide) rfl (fun ls hl => ?_)
  have lp : ∀ (k : Nat) (i : Nat), (hk : 9 < i + k) → (hi : i ≤ wc c) → ∀ (H : Heap) (locs : List Loc) (ls : Array Slot), va_P D vwCl (pM g cI cB th n en le ro sn ar rt oh cn no ot cu lim fa wy lo ch bd) H → va_D A (pM g cI cB th n en le ro sn ar rt oh cn no ot cu lim fa wy lo ch bd) → va_S A s.heap H locs → lv_has ls 5 [(0, .ref (g 0)), (1, .int (nI c)), (2, .int (nI (cz_mg (cz_fill cn ar wc ro wt ch) wt c i))), (3, .int (nI i))] → W p l e ({ frames := 3, cells := 0, slots := 0, locals := 68 }) s m av below meth cd H locs 0 0 Q (F0 m 6 ls []) := by
    intro k
    induction k with
    | zero => intro i hk hi; exact absurd hk (by omega)
    | succ k ih =>
      intro i hk hi H locs ls hP hD hS hl
      have b_m := cz_mg_le (cz_fill cn ar wc ro wt ch) wt c i
      by_cases hlt : i < wc c
      · have b_t := hwt c i
        refine lv_aload_n hx hb dX5_carries_6 rfl (lv_at hl 0 rfl) ?_
        refine va_get (ci := 5) (v := .ref (g 11)) (C := RX5) (T := TX5) (N := 19) hx hb hbw in_X5 hown hK hP 0 rfl rfl 15 (by decide) (hbw _ m_503) (fun _ h9 => h9) rfl dX5_carries_7 ?_
        refine lv_bipush (v := nI 16) hx hb dX5_carries_10 (by decide) ?_
        refine lv_iload_n hx hb dX5_carries_12 rfl (lv_at hl 1 rfl) ?_
        refine nr_imul hx hb dX5_carries_13 ?_
        refine lv_iload_n hx hb dX5_carries_14 rfl (lv_at hl 3 rfl) ?_
        refine nr_iadd hx hb dX5_carries_15 ?_
        refine nr_mald1 hx hb hK hP 11 0 rfl rfl (k := (16 * c) + i) (v := wt c i) (by omega) (by omega) (e1 i hlt) dX5_carries_16 ?_
        refine lv_iconst (v := (-1)) hx hb dX5_carries_17 (by decide) ?_
        refine lv_icmp_eq (tgt := 57) hx hb dX5_carries_18 (by decide) (fun h => absurd h (nI_nm1 (by omega))) (fun _ => ?_)
        refine lv_aload_n hx hb dX5_carries_21 rfl (lv_at hl 0 rfl) ?_
        refine lv_aload_n hx hb dX5_carries_22 rfl (lv_at hl 0 rfl) ?_
        refine va_get (ci := 5) (v := .ref (g 11)) (C := RX5) (T := TX5) (N := 19) hx hb hbw in_X5 hown hK hP 0 rfl rfl 15 (by decide) (hbw _ m_503) (fun _ h9 => h9) rfl dX5_carries_23 ?_
        refine lv_bipush (v := nI 16) hx hb dX5_carries_26 (by decide) ?_
        refine lv_iload_n hx hb dX5_carries_28 rfl (lv_at hl 1 rfl) ?_
        refine nr_imul hx hb dX5_carries_29 ?_
        refine lv_iload_n hx hb dX5_carries_30 rfl (lv_at hl 3 rfl) ?_
        refine nr_iadd hx hb dX5_carries_31 ?_
        refine nr_mald1 hx hb hK hP 11 0 rfl rfl (k := (16 * c) + i) (v := wt c i) (by omega) (by omega) (e1 i hlt) dX5_carries_32 ?_
        refine ct_Vi (wc := (pM g cI cB th n en le ro sn ar rt oh cn no ot cu lim fa wy lo ch bd)) (wr := ([] : va_W)) (As := [.int (nI (wt c i))]) (rest := []) ⟨hx, hb, hml, hown, hbw⟩ (EN_E D _) hEN (kX5_factor l D cI cG cL cB g th n en le ro sn ar rt oh cn no ot cu lim fa wy lo ch bd wc wl wt (wt c i) (hway c hc i hlt) hz hy hch hlim he) (cwV (C := "CableSizesModel") 1 hbw (gV m_629 m_631 m_13 m_23 m_632) rfl rfl rfl (by decide +kernel) ⟨Nat.le_of_ble_eq_true rfl, Nat.le_of_ble_eq_true rfl⟩) (va_recv hK hP (ci := 5) (q0 := 0) rfl rfl) hP hD hS hA [0, 1, 2, 3, 4, 5, 6, 7, 8, 9, 10, 11, 12, 13, 14] [] rfl rfl (by decide) (by decide) (by decide) rfl hl.1 rfl (Nat.le_of_ble_eq_true rfl) dX5_carries_33 ⟨Nat.le_of_ble_eq_true rfl, Nat.le_of_ble_eq_true rfl⟩ (fun r_1 w_1 H locs hw hP hD hS => ?_)
        obtain ⟨rfl, rfl⟩ := hw
        have hP := hP.sub (ws' := (pM g cI cB th n en le ro sn ar rt oh cn no ot cu lim fa wy lo ch bd)) [0, 1, 2, 3, 4, 5, 6, 7, 8, 9, 10, 11, 12, 13, 14] rfl
        have hD := hD.sub (ws' := (pM g cI cB th n en le ro sn ar rt oh cn no ot cu lim fa wy lo ch bd)) [0, 1, 2, 3, 4, 5, 6, 7, 8, 9, 10, 11, 12, 13, 14] (by decide) rfl
        have b_f := cz_fac_le (cz_fill cn ar wc ro wt ch (wt c i))
        refine lv_istore (lv' := [(4, .int (nI (cz_fac (cz_fill cn ar wc ro wt ch (wt c i))))), (0, .ref (g 0)), (1, .int (nI c)), (2, .int (nI (cz_mg (cz_fill cn ar wc ro wt ch) wt c i))), (3, .int (nI i))]) hx hb dX5_carries_36 hl (by decide) rfl (fun ls hl => ?_)
        refine lv_iload hx hb dX5_carries_38 (lv_at hl 0 rfl) ?_
        refine lv_iload_n hx hb dX5_carries_40 rfl (lv_at hl 3 rfl) ?_
        refine nr_icmp_ge (x := cz_fac (cz_fill cn ar wc ro wt ch (wt c i))) (y := cz_mg (cz_fill cn ar wc ro wt ch) wt c i) (tgt := 49) hx hb (by omega) (by omega) dX5_carries_41 (by decide) (fun h1 => ?_) (fun h1 => ?_)
        · refine lv_iload_n hx hb dX5_carries_49 rfl (lv_at hl 3 rfl) ?_
          refine lv_istore_n (lv' := [(2, .int (nI (cz_mg (cz_fill cn ar wc ro wt ch) wt c i))), (4, .int (nI (cz_fac (cz_fill cn ar wc ro wt ch (wt c i))))), (0, .ref (g 0)), (1, .int (nI c)), (3, .int (nI i))]) hx hb dX5_carries_50 rfl hl (by decide) rfl (fun ls hl => ?_)
          refine lv_iinc (v := nI (i + 1)) (lv' := [(3, .int (nI (i + 1))), (2, .int (nI (cz_mg (cz_fill cn ar wc ro wt ch) wt c i))), (4, .int (nI (cz_fac (cz_fill cn ar wc ro wt ch (wt c i))))), (0, .ref (g 0)), (1, .int (nI c))]) hx hb dX5_carries_51 hl (k := 4) rfl (nI_1 _) (by decide) rfl (fun ls hl => ?_)
          refine lv_goto (tgt := 6) hx hb dX5_carries_54 (by decide) ?_
          have e9 : cz_mg (cz_fill cn ar wc ro wt ch) wt c (i + 1) = cz_mg (cz_fill cn ar wc ro wt ch) wt c i := by show min _ _ = _; omega
          rw [← e9] at hl
          exact ih (i + 1) (by omega) (by omega) _ _ _ hP hD hS (lv_sub hl [3, 4, 1, 0] rfl)
        · refine lv_iload hx hb dX5_carries_44 (lv_at hl 0 rfl) ?_
          refine lv_goto (tgt := 50) hx hb dX5_carries_46 (by decide) ?_
          refine lv_istore_n (lv' := [(2, .int (nI (cz_fac (cz_fill cn ar wc ro wt ch (wt c i))))), (4, .int (nI (cz_fac (cz_fill cn ar wc ro wt ch (wt c i))))), (0, .ref (g 0)), (1, .int (nI c)), (3, .int (nI i))]) hx hb dX5_carries_50 rfl hl (by decide) rfl (fun ls hl => ?_)
          refine lv_iinc (v := nI (i + 1)) (lv' := [(3, .int (nI (i + 1))), (2, .int (nI (cz_fac (cz_fill cn ar wc ro wt ch (wt c i))))), (4, .int (nI (cz_fac (cz_fill cn ar wc ro wt ch (wt c i))))), (0, .ref (g 0)), (1, .int (nI c))]) hx hb dX5_carries_51 hl (k := 4) rfl (nI_1 _) (by decide) rfl (fun ls hl => ?_)
          refine lv_goto (tgt := 6) hx hb dX5_carries_54 (by decide) ?_
          have e9 : cz_mg (cz_fill cn ar wc ro wt ch) wt c (i + 1) = cz_fac (cz_fill cn ar wc ro wt ch (wt c i)) := by show min _ _ = _; omega
          rw [← e9] at hl
          exact ih (i + 1) (by omega) (by omega) _ _ _ hP hD hS (lv_sub hl [3, 4, 1, 0] rfl)
      · have ei : i = wc c := by omega
        refine lv_aload_n hx hb dX5_carries_6 rfl (lv_at hl 0 rfl) ?_
        refine va_get (ci := 5) (v := .ref (g 11)) (C := RX5) (T := TX5) (N := 19) hx hb hbw in_X5 hown hK hP 0 rfl rfl 15 (by decide) (hbw _ m_503) (fun _ h9 => h9) rfl dX5_carries_7 ?_
        refine lv_bipush (v := nI 16) hx hb dX5_carries_10 (by decide) ?_
        refine lv_iload_n hx hb dX5_carries_12 rfl (lv_at hl 1 rfl) ?_
        refine nr_imul hx hb dX5_carries_13 ?_
        refine lv_iload_n hx hb dX5_carries_14 rfl (lv_at hl 3 rfl) ?_
        refine nr_iadd hx hb dX5_carries_15 ?_
        refine nr_mald0 hx hb hK hP 11 0 rfl rfl (k := (16 * c) + i) (by omega) (by omega) (by rw [ei]; exact e2) dX5_carries_16 ?_
        refine lv_iconst (v := (-1)) hx hb dX5_carries_17 (by decide) ?_
        refine lv_icmp_eq (tgt := 57) hx hb dX5_carries_18 (by decide) (fun _ => ?_) (fun h => absurd rfl h)
        have hl : lv_has ls 5 [(0, .ref (g 0)), (1, .int (nI c)), (2, .int (nI (cz_mg (cz_fill cn ar wc ro wt ch) wt c (wc c)))), (3, .int (nI i))] := by rw [← ei]; exact hl
        refine lv_aload_n hx hb dX5_carries_57 rfl (lv_at hl 0 rfl) ?_
        refine va_get (ci := 5) (v := .ref (g 5)) (C := RX5) (T := TX5) (N := 19) hx hb hbw in_X5 hown hK hP 0 rfl rfl 7 (by decide) (hbw _ m_495) (fun _ h9 => h9) rfl dX5_carries_58 ?_
        refine lv_aload_n hx hb dX5_carries_61 rfl (lv_at hl 0 rfl) ?_
        refine va_get (ci := 5) (v := .ref (g 13)) (C := RX5) (T := TX5) (N := 19) hx hb hbw in_X5 hown hK hP 0 rfl rfl 17 (by decide) (hbw _ m_505) (fun _ h9 => h9) rfl dX5_carries_62 ?_
        refine lv_iload_n hx hb dX5_carries_65 rfl (lv_at hl 1 rfl) ?_
        refine nr_iald hx hb hK hP 13 0 rfl rfl (k := c) (by omega) (by omega) dX5_carries_66 ?_
        have b_2 := hch c
        refine nr_iald hx hb hK hP 5 0 rfl rfl (k := ch c) (by omega) (by omega) dX5_carries_67 ?_
        have b_3 := hrt (ch c)
        refine lv_iload_n hx hb dX5_carries_68 rfl (lv_at hl 2 rfl) ?_
        refine nr_imul hx hb dX5_carries_69 ?_
        refine lv_sipush (v := nI 1000) hx hb dX5_carries_70 (by decide) ?_
        refine nr_idiv hx hb (by omega) (by omega) (by omega) dX5_carries_73 ?_
        rw [hQ]
        exact ct_iret hx hb hr hlocks hP hD hS dX5_carries_74 ⟨rfl, rfl⟩
  exact lp 10 0 (by omega) (Nat.zero_le _) H locs ls hP hD hS (lv_sub hl [2, 3, 1, 0] rfl)
set_option maxHeartbeats 4000000 in
set_option maxRecDepth 100000 in
/-- drop -/
theorem kX5_drop (l : Launch) (D : va_G) (cI cG cL cB : ClassId) (g : Nat → Nat) (th n : Nat) (en le ro : Nat → Nat) (sn : Nat) (ar rt oh : Nat → Nat) (cn : Nat) (no ot cu : Nat → Nat) (lim : Nat) (fa wy lo ch bd : Nat → Nat) (wc wl : Nat → Nat) (wt : Nat → Nat → Nat) (c : Nat) (hc : c < cn) (hz : okZ sn ar rt oh cn cu wc wl wt) (hy : okY n ro cn wc wt) (hch : ∀ j, ch j < 6) (hlim : lim ≤ 1000000) (he : ∀ c, c < cn → enc wc wt wl wy lo c) : ct_i l yX5_drop (.code yX5_drop cX5_drop 2 (some .int) :: bw) ({ frames := 0, cells := 0, slots := 0, locals := 0 }) (EN D (tyL cI cG cL cB)) D vwCl (pM g cI cB th n en le ro sn ar rt oh cn no ot cu lim fa wy lo ch bd) [.ref (g 0), .int (nI c)] (fun v W => W = (pM g cI cB th n en le ro sn ar rt oh cn no ot cu lim fa wy lo ch bd) ∧ v = nI (cz_drop oh cu wl ch c)) 0 0 := by
  refine ct_ofi (by decide) (Nat.le_of_ble_eq_true rfl) ?_
  intro p e s m below meth cd A H locs av Q ls hx hb hr hml hown hlocks hnm hbw hEN hQ hP hD hS hA hl
  have hown : s.vm.findClass RX5 = some m.cls := hown
  have hK := hEN.1
  have hl : lv_has ls 2 [(0, .ref (g 0)), (1, .int (nI c))] := hl
  obtain ⟨hsn, har, hrt, hoh, hcn, hcu, hwc, hwl, hwt⟩ := id hz
  obtain ⟨hn, hro, hro1, hway, hnd⟩ := id hy
  obtain ⟨e1, e2, e3⟩ := he c hc
  have b_w := hwl c
  have hb8 := cz_drop_bd (oh := oh) (cu := cu) (wl := wl) (pk := ch) (c := c) (hcu c) (hoh (ch c)) (hwl c)
  rcases e3 with ⟨e3, e4, e5⟩ | ⟨e3, e4⟩
  · refine lv_aload_n hx hb dX5_drop_0 rfl (lv_at hl 0 rfl) ?_
    refine va_get (ci := 5) (v := .ref (g 12)) (C := RX5) (T := TX5) (N := 19) hx hb hbw in_X5 hown hK hP 0 rfl rfl 16 (by decide) (hbw _ m_504) (fun _ h9 => h9) rfl dX5_drop_1 ?_
    refine lv_iload_n hx hb dX5_drop_4 rfl (lv_at hl 1 rfl) ?_
    refine nr_mald0 hx hb hK hP 12 0 rfl rfl (k := c) (by omega) (by omega) e4 dX5_drop_5 ?_
    refine lv_iconst (v := (-1)) hx hb dX5_drop_6 (by decide) ?_
    refine lv_icmp_ne (tgt := 14) hx hb dX5_drop_7 (by decide) (fun h => absurd rfl h) (fun _ => ?_)
    refine lv_iconst (v := nI 0) hx hb dX5_drop_10 (by decide) ?_
    refine lv_goto (tgt := 47) hx hb dX5_drop_11 (by decide) ?_
    have e9 : cz_drop oh cu wl ch c = 0 := by unfold cz_drop; rw [e5, Nat.mul_zero]
    rw [hQ]
    exact ct_iret hx hb hr hlocks hP hD hS dX5_drop_47 ⟨rfl, by rw [e9]⟩
  · refine lv_aload_n hx hb dX5_drop_0 rfl (lv_at hl 0 rfl) ?_
    refine va_get (ci := 5) (v := .ref (g 12)) (C := RX5) (T := TX5) (N := 19) hx hb hbw in_X5 hown hK hP 0 rfl rfl 16 (by decide) (hbw _ m_504) (fun _ h9 => h9) rfl dX5_drop_1 ?_
    refine lv_iload_n hx hb dX5_drop_4 rfl (lv_at hl 1 rfl) ?_
    refine nr_mald1 hx hb hK hP 12 0 rfl rfl (k := c) (v := wl c) (by omega) (by omega) e4 dX5_drop_5 ?_
    refine lv_iconst (v := (-1)) hx hb dX5_drop_6 (by decide) ?_
    refine lv_icmp_ne (tgt := 14) hx hb dX5_drop_7 (by decide) (fun _ => ?_) (fun h => absurd h (nI_nm1 (by omega)))
    refine lv_aload_n hx hb dX5_drop_14 rfl (lv_at hl 0 rfl) ?_
    refine va_get (ci := 5) (v := .ref (g 9)) (C := RX5) (T := TX5) (N := 19) hx hb hbw in_X5 hown hK hP 0 rfl rfl 12 (by decide) (hbw _ m_500) (fun _ h9 => h9) rfl dX5_drop_15 ?_
    refine lv_iload_n hx hb dX5_drop_18 rfl (lv_at hl 1 rfl) ?_
    refine nr_iald hx hb hK hP 9 0 rfl rfl (k := c) (by omega) (by omega) dX5_drop_19 ?_
    have b_1 := hcu c
    refine lv_i2l (v := lN (cu c)) hx hb dX5_drop_20 (nI_l (by omega)) ?_
    refine lv_aload_n hx hb dX5_drop_21 rfl (lv_at hl 0 rfl) ?_
    refine va_get (ci := 5) (v := .ref (g 6)) (C := RX5) (T := TX5) (N := 19) hx hb hbw in_X5 hown hK hP 0 rfl rfl 8 (by decide) (hbw _ m_496) (fun _ h9 => h9) rfl dX5_drop_22 ?_
    refine lv_aload_n hx hb dX5_drop_25 rfl (lv_at hl 0 rfl) ?_
    refine va_get (ci := 5) (v := .ref (g 13)) (C := RX5) (T := TX5) (N := 19) hx hb hbw in_X5 hown hK hP 0 rfl rfl 17 (by decide) (hbw _ m_505) (fun _ h9 => h9) rfl dX5_drop_26 ?_
    refine lv_iload_n hx hb dX5_drop_29 rfl (lv_at hl 1 rfl) ?_
    refine nr_iald hx hb hK hP 13 0 rfl rfl (k := c) (by omega) (by omega) dX5_drop_30 ?_
    have b_2 := hch c
    refine nr_iald hx hb hK hP 6 0 rfl rfl (k := ch c) (by omega) (by omega) dX5_drop_31 ?_
    have b_3 := hoh (ch c)
    refine lv_i2l (v := lN (oh (ch c))) hx hb dX5_drop_32 (nI_l (by omega)) ?_
    refine nr_lmul hx hb dX5_drop_33 ?_
    refine lv_aload_n hx hb dX5_drop_34 rfl (lv_at hl 0 rfl) ?_
    refine va_get (ci := 5) (v := .ref (g 12)) (C := RX5) (T := TX5) (N := 19) hx hb hbw in_X5 hown hK hP 0 rfl rfl 16 (by decide) (hbw _ m_504) (fun _ h9 => h9) rfl dX5_drop_35 ?_
    refine lv_iload_n hx hb dX5_drop_38 rfl (lv_at hl 1 rfl) ?_
    refine nr_mald1 hx hb hK hP 12 0 rfl rfl (k := c) (v := wl c) (by omega) (by omega) e4 dX5_drop_39 ?_
    refine lv_i2l (v := lN (wl c)) hx hb dX5_drop_40 (nI_l (by omega)) ?_
    refine nr_lmul hx hb dX5_drop_41 ?_
    refine lv_ldc2 (v := lN 1000) hx hb hown (hbw _ m_562) dX5_drop_42 ?_
    refine nr_ldiv hx hb (by omega) (by omega) (by omega) dX5_drop_45 ?_
    refine lv_l2i (v := nI ((((cu c) * (oh (ch c))) * (wl c)) / 1000)) hx hb dX5_drop_46 (lN_i _) ?_
    rw [hQ]
    exact ct_iret hx hb hr hlocks hP hD hS dX5_drop_47 ⟨rfl, rfl⟩
set_option maxHeartbeats 4000000 in
set_option maxRecDepth 100000 in
/-- isRight -/
theorem kX5_isRight (l : Launch) (D : va_G) (cI cG cL cB : ClassId) (g : Nat → Nat) (th n : Nat) (en le ro : Nat → Nat) (sn : Nat) (ar rt oh : Nat → Nat) (cn : Nat) (no ot cu : Nat → Nat) (lim : Nat) (fa wy lo ch bd : Nat → Nat) (wc wl : Nat → Nat) (wt : Nat → Nat → Nat) (c : Nat) (hc : c < cn) (hz : okZ sn ar rt oh cn cu wc wl wt) (hy : okY n ro cn wc wt) (hch : ∀ j, ch j < 6) (hlim : lim ≤ 1000000) (he : ∀ c, c < cn → enc wc wt wl wy lo c) : ct_i l yX5_isRight (.code yX5_isRight cX5_isRight 2 (some .boolean) :: bw) ({ frames := 4, cells := 0, slots := 0, locals := 92 }) (EN D (tyL cI cG cL cB)) D vwCl (pM g cI cB th n en le ro sn ar rt oh cn no ot cu lim fa wy lo ch bd) [.ref (g 0), .int (nI c)] (fun v W => W = (pM g cI cB th n en le ro sn ar rt oh cn no ot cu lim fa wy lo ch bd) ∧ v = nI (bN (cs_rg cn ar rt oh cu wc wl ro wt lim ch c))) 0 0 := by
  refine ct_ofi (by decide) (Nat.le_of_ble_eq_true rfl) ?_
  intro p e s m below meth cd A H locs av Q ls hx hb hr hml hown hlocks hnm hbw hEN hQ hP hD hS hA hl
  have hown : s.vm.findClass RX5 = some m.cls := hown
  have hK := hEN.1
  have hl : lv_has ls 2 [(0, .ref (g 0)), (1, .int (nI c))] := hl
  obtain ⟨hsn, har, hrt, hoh, hcn, hcu, hwc, hwl, hwt⟩ := id hz
  obtain ⟨hn, hro, hro1, hway, hnd⟩ := id hy
  obtain ⟨e1, e2, e3⟩ := he c hc
  have b_w := hwl c
  have hb8 := cz_drop_bd (oh := oh) (cu := cu) (wl := wl) (pk := ch) (c := c) (hcu c) (hoh (ch c)) (hwl c)
  have hb9 := cy_carry_bd (rt := rt) (wc := wc) (pk := ch) (fi := cz_fill cn ar wc ro wt ch) (wt := wt) (c := c) (hrt (ch c))
  rcases e3 with ⟨e3, e4, e5⟩ | ⟨e3, e4⟩
  · refine lv_aload_n hx hb dX5_isRight_0 rfl (lv_at hl 0 rfl) ?_
    refine va_get (ci := 5) (v := .ref (g 12)) (C := RX5) (T := TX5) (N := 19) hx hb hbw in_X5 hown hK hP 0 rfl rfl 16 (by decide) (hbw _ m_504) (fun _ h9 => h9) rfl dX5_isRight_1 ?_
    refine lv_iload_n hx hb dX5_isRight_4 rfl (lv_at hl 1 rfl) ?_
    refine nr_mald0 hx hb hK hP 12 0 rfl rfl (k := c) (by omega) (by omega) e4 dX5_isRight_5 ?_
    refine lv_iconst (v := (-1)) hx hb dX5_isRight_6 (by decide) ?_
    refine lv_icmp_eq (tgt := 36) hx hb dX5_isRight_7 (by decide) (fun _ => ?_) (fun h => absurd rfl h)
    refine lv_iconst (v := nI 1) hx hb dX5_isRight_36 (by decide) ?_
    refine lv_goto (tgt := 41) hx hb dX5_isRight_37 (by decide) ?_
    have e9 : cs_rg cn ar rt oh cu wc wl ro wt lim ch c = true := decide_eq_true (Or.inl e3)
    rw [hQ]
    exact ct_zret hx hb hr hlocks hP hD hS dX5_isRight_41 (by first | exact Or.inl rfl | exact Or.inr rfl) ⟨rfl, by rw [e9]; rfl⟩
  · refine lv_aload_n hx hb dX5_isRight_0 rfl (lv_at hl 0 rfl) ?_
    refine va_get (ci := 5) (v := .ref (g 12)) (C := RX5) (T := TX5) (N := 19) hx hb hbw in_X5 hown hK hP 0 rfl rfl 16 (by decide) (hbw _ m_504) (fun _ h9 => h9) rfl dX5_isRight_1 ?_
    refine lv_iload_n hx hb dX5_isRight_4 rfl (lv_at hl 1 rfl) ?_
    refine nr_mald1 hx hb hK hP 12 0 rfl rfl (k := c) (v := wl c) (by omega) (by omega) e4 dX5_isRight_5 ?_
    refine lv_iconst (v := (-1)) hx hb dX5_isRight_6 (by decide) ?_
    refine lv_icmp_eq (tgt := 36) hx hb dX5_isRight_7 (by decide) (fun h => absurd h (nI_nm1 (by omega))) (fun _ => ?_)
    refine lv_aload_n hx hb dX5_isRight_10 rfl (lv_at hl 0 rfl) ?_
    refine lv_iload_n hx hb dX5_isRight_11 rfl (lv_at hl 1 rfl) ?_
    refine ct_Vi (wc := (pM g cI cB th n en le ro sn ar rt oh cn no ot cu lim fa wy lo ch bd)) (wr := ([] : va_W)) (As := [.int (nI c)]) (rest := []) ⟨hx, hb, hml, hown, hbw⟩ (EN_E D _) hEN (kX5_carries l D cI cG cL cB g th n en le ro sn ar rt oh cn no ot cu lim fa wy lo ch bd wc wl wt c hc hz hy hch hlim he) (cwV (C := "CableSizesModel") 1 hbw (gV m_625 m_627 m_12 m_23 m_628) rfl rfl rfl (by decide +kernel) ⟨Nat.le_of_ble_eq_true rfl, Nat.le_of_ble_eq_true rfl⟩) (va_recv hK hP (ci := 5) (q0 := 0) rfl rfl) hP hD hS hA [0, 1, 2, 3, 4, 5, 6, 7, 8, 9, 10, 11, 12, 13, 14] [] rfl rfl (by decide) (by decide) (by decide) rfl hl.1 rfl (Nat.le_of_ble_eq_true rfl) dX5_isRight_12 ⟨Nat.le_of_ble_eq_true rfl, Nat.le_of_ble_eq_true rfl⟩ (fun r_1 w_1 H locs hw hP hD hS => ?_)
    obtain ⟨rfl, rfl⟩ := hw
    have hP := hP.sub (ws' := (pM g cI cB th n en le ro sn ar rt oh cn no ot cu lim fa wy lo ch bd)) [0, 1, 2, 3, 4, 5, 6, 7, 8, 9, 10, 11, 12, 13, 14] rfl
    have hD := hD.sub (ws' := (pM g cI cB th n en le ro sn ar rt oh cn no ot cu lim fa wy lo ch bd)) [0, 1, 2, 3, 4, 5, 6, 7, 8, 9, 10, 11, 12, 13, 14] (by decide) rfl
    refine lv_aload_n hx hb dX5_isRight_15 rfl (lv_at hl 0 rfl) ?_
    refine va_get (ci := 5) (v := .ref (g 9)) (C := RX5) (T := TX5) (N := 19) hx hb hbw in_X5 hown hK hP 0 rfl rfl 12 (by decide) (hbw _ m_500) (fun _ h9 => h9) rfl dX5_isRight_16 ?_
    refine lv_iload_n hx hb dX5_isRight_19 rfl (lv_at hl 1 rfl) ?_
    refine nr_iald hx hb hK hP 9 0 rfl rfl (k := c) (by omega) (by omega) dX5_isRight_20 ?_
    have b_2 := hcu c
    refine nr_icmp_lt (x := cy_carry rt wc ch (cz_fill cn ar wc ro wt ch) wt c) (y := cu c) (tgt := 40) hx hb (by omega) (by omega) dX5_isRight_21 (by decide) (fun h1 => ?_) (fun h1 => ?_)
    · refine lv_iconst (v := nI 0) hx hb dX5_isRight_40 (by decide) ?_
      have e9 : cs_rg cn ar rt oh cu wc wl ro wt lim ch c = false := decide_eq_false (by omega)
      rw [hQ]
      exact ct_zret hx hb hr hlocks hP hD hS dX5_isRight_41 (by first | exact Or.inl rfl | exact Or.inr rfl) ⟨rfl, by rw [e9]; rfl⟩
    · refine lv_aload_n hx hb dX5_isRight_24 rfl (lv_at hl 0 rfl) ?_
      refine lv_iload_n hx hb dX5_isRight_25 rfl (lv_at hl 1 rfl) ?_
      refine ct_Vi (wc := (pM g cI cB th n en le ro sn ar rt oh cn no ot cu lim fa wy lo ch bd)) (wr := ([] : va_W)) (As := [.int (nI c)]) (rest := []) ⟨hx, hb, hml, hown, hbw⟩ (EN_E D _) hEN (kX5_drop l D cI cG cL cB g th n en le ro sn ar rt oh cn no ot cu lim fa wy lo ch bd wc wl wt c hc hz hy hch hlim he) (cwV (C := "CableSizesModel") 1 hbw (gV m_641 m_643 m_16 m_23 m_644) rfl rfl rfl (by decide +kernel) ⟨Nat.le_of_ble_eq_true rfl, Nat.le_of_ble_eq_true rfl⟩) (va_recv hK hP (ci := 5) (q0 := 0) rfl rfl) hP hD hS hA [0, 1, 2, 3, 4, 5, 6, 7, 8, 9, 10, 11, 12, 13, 14] [] rfl rfl (by decide) (by decide) (by decide) rfl hl.1 rfl (Nat.le_of_ble_eq_true rfl) dX5_isRight_26 ⟨Nat.le_of_ble_eq_true rfl, Nat.le_of_ble_eq_true rfl⟩ (fun r_3 w_3 H locs hw hP hD hS => ?_)
      obtain ⟨rfl, rfl⟩ := hw
      have hP := hP.sub (ws' := (pM g cI cB th n en le ro sn ar rt oh cn no ot cu lim fa wy lo ch bd)) [0, 1, 2, 3, 4, 5, 6, 7, 8, 9, 10, 11, 12, 13, 14] rfl
      have hD := hD.sub (ws' := (pM g cI cB th n en le ro sn ar rt oh cn no ot cu lim fa wy lo ch bd)) [0, 1, 2, 3, 4, 5, 6, 7, 8, 9, 10, 11, 12, 13, 14] (by decide) rfl
      refine lv_aload_n hx hb dX5_isRight_29 rfl (lv_at hl 0 rfl) ?_
      refine va_get (ci := 5) (v := .int (nI lim)) (C := RX5) (T := TX5) (N := 19) hx hb hbw in_X5 hown hK hP 0 rfl rfl 13 (by decide) (hbw _ m_501) (fun _ h9 => h9) rfl dX5_isRight_30 ?_
      refine nr_icmp_gt (x := cz_drop oh cu wl ch c) (y := lim) (tgt := 40) hx hb (by omega) (by omega) dX5_isRight_33 (by decide) (fun h2 => ?_) (fun h2 => ?_)
      · refine lv_iconst (v := nI 0) hx hb dX5_isRight_40 (by decide) ?_
        have e9 : cs_rg cn ar rt oh cu wc wl ro wt lim ch c = false := decide_eq_false (by omega)
        rw [hQ]
        exact ct_zret hx hb hr hlocks hP hD hS dX5_isRight_41 (by first | exact Or.inl rfl | exact Or.inr rfl) ⟨rfl, by rw [e9]; rfl⟩
      · refine lv_iconst (v := nI 1) hx hb dX5_isRight_36 (by decide) ?_
        refine lv_goto (tgt := 41) hx hb dX5_isRight_37 (by decide) ?_
        have e9 : cs_rg cn ar rt oh cu wc wl ro wt lim ch c = true := decide_eq_true (Or.inr ⟨h1, h2⟩)
        rw [hQ]
        exact ct_zret hx hb hr hlocks hP hD hS dX5_isRight_41 (by first | exact Or.inl rfl | exact Or.inr rfl) ⟨rfl, by rw [e9]; rfl⟩
end
section
theorem cz_load_congr {C : Nat} {ar wc p p' : Nat → Nat} {wt : Nat → Nat → Nat} {t : Nat} (h : ∀ c, c < C → p c = p' c) : cz_load C ar wc wt p t = cz_load C ar wc wt p' t := cz_sum_eq (fun c hc => by rw [h c hc])
theorem cs_rg_congr {C : Nat} {ar rt oh cu wc wl rm : Nat → Nat} {wt : Nat → Nat → Nat} {lim : Nat} {p p' : Nat → Nat} (h : ∀ c, c < C → p c = p' c) {c : Nat} (hc : c < C) : cs_rg C ar rt oh cu wc wl rm wt lim p c = cs_rg C ar rt oh cu wc wl rm wt lim p' c := by
  unfold cs_rg
  rw [cy_right_congr (h c hc)]
  apply cy_right_fi
  intro i _
  unfold cz_fill
  rw [cz_load_congr h]
set_option maxHeartbeats 4000000 in
set_option maxRecDepth 100000 in
/-- choose -/
theorem kX5_choose (l : Launch) (D : va_G) (cI cG cL cB : ClassId) (g : Nat → Nat) (th n : Nat) (en le ro : Nat → Nat) (sn : Nat) (ar rt oh : Nat → Nat) (cn : Nat) (no ot cu : Nat → Nat) (lim : Nat) (fa wy lo ch bd : Nat → Nat) (wc wl : Nat → Nat) (wt : Nat → Nat → Nat) (hok : cw_ok n (fun t => en (2 * t)) (fun t => en (2 * t + 1)) le) (hen : ∀ j, en j < 10) (hl0 : ∀ j, le j ≤ 100) (hno : ∀ j, no j < 10) (hot : ∀ j, ot j < 10) (hne : ∀ c, c < cn → no c ≠ ot c) (hW : ∀ c, c < cn → cw_W n (fun t => en (2 * t)) (fun t => en (2 * t + 1)) le (no c) (ot c) (wc c) (wt c) (wl c)) (hz : okZ sn ar rt oh cn cu wc wl wt) (hy : okY n ro cn wc wt) (hch : ∀ j, ch j < 6) (hlim : lim ≤ 1000000) : ct_i l yX5_choose (.code yX5_choose cX5_choose 3 (some .boolean) :: bw) ({ frames := 5, cells := 0, slots := 0, locals := 113 }) (EN D (tyL cI cG cL cB)) D vwCl (pM g cI cB th n en le ro sn ar rt oh cn no ot cu lim fa wy lo ch bd) [.ref (g 0)] (fun v W => ∃ fa' wy' lo' ch' bd', W = (pM g cI cB th n en le ro sn ar rt oh cn no ot cu lim fa' wy' lo' ch' bd') ∧ (∀ c, c < cn → enc wc wt wl wy' lo' c) ∧ (∀ j, ch' j < 6) ∧ ((v = nI 1 ∧ (cn = 0 ∨ 0 < sn) ∧ ∃ m, (∀ c, c < cn → ch' c = cs_it cn ar rt oh cu wc wl ro wt lim m c) ∧ cs_go cn sn ar rt oh cu wc wl ro wt lim m ∧ cs_good cn ar rt oh cu wc wl ro wt lim (cs_it cn ar rt oh cu wc wl ro wt lim m)) ∨ (v = nI 0 ∧ ((0 < cn ∧ sn = 0) ∨ ((cn = 0 ∨ 0 < sn) ∧ ∃ m, cs_go cn sn ar rt oh cu wc wl ro wt lim m ∧ cs_stuck cn sn ar rt oh cu wc wl ro wt lim (cs_it cn ar rt oh cu wc wl ro wt lim m)))))) 0 0 := by
  refine ct_ofi (by decide) (Nat.le_of_ble_eq_true rfl) ?_
  intro p e s m below meth cd A H locs av Q ls hx hb hr hml hown hlocks hnm hbw hEN hQ hP hD hS hA hl
  have hown : s.vm.findClass RX5 = some m.cls := hown
  have hK := hEN.1
  have hl : lv_has ls 3 [(0, .ref (g 0))] := hl
  obtain ⟨hsn, har, hrt, hoh, hcn, hcu, hwc, hwl, hwt⟩ := id hz
  obtain ⟨hn, hro, hro1, hway, hnd⟩ := id hy
  refine lv_aload_n hx hb dX5_choose_0 rfl (lv_at hl 0 rfl) ?_
  refine ct_Vv (wc := (pM g cI cB th n en le ro sn ar rt oh cn no ot cu lim fa wy lo ch bd)) (wr := ([] : va_W)) (As := []) (rest := []) ⟨hx, hb, hml, hown, hbw⟩ (EN_E D _) hEN (kX5_goAll l D cI cG cL cB g th n en le ro sn ar rt oh cn no ot cu lim fa wy lo ch bd wc wl wt hn hok hen hl0 hcn hno hot hwc hwt hwl hne hW) (cwV (C := "CableSizesModel") 0 hbw (gV m_596 m_598 m_7 m_23 m_599) rfl rfl rfl (by decide +kernel) ⟨Nat.le_of_ble_eq_true rfl, Nat.le_of_ble_eq_true rfl⟩) (va_recv hK hP (ci := 5) (q0 := 0) rfl rfl) hP hD hS hA [0, 1, 2, 3, 4, 5, 6, 7, 8, 9, 10, 11, 12, 13, 14] [] rfl rfl (by decide) (by decide) (by decide) rfl hl.1 rfl (Nat.le_of_ble_eq_true rfl) dX5_choose_1 ⟨Nat.le_of_ble_eq_true rfl, Nat.le_of_ble_eq_true rfl⟩ (fun w_1 H locs hw hP hD hS => ?_)
  obtain ⟨fa, wy, lo, rfl, he⟩ := hw
  have hP := hP.sub (ws' := (pM g cI cB th n en le ro sn ar rt oh cn no ot cu lim fa wy lo ch bd)) [0, 1, 2, 3, 4, 5, 6, 7, 8, 9, 10, 11, 12, 13, 14] rfl
  have hD := hD.sub (ws' := (pM g cI cB th n en le ro sn ar rt oh cn no ot cu lim fa wy lo ch bd)) [0, 1, 2, 3, 4, 5, 6, 7, 8, 9, 10, 11, 12, 13, 14] (by decide) rfl
  refine lv_aload_n hx hb dX5_choose_4 rfl (lv_at hl 0 rfl) ?_
  refine va_get (ci := 5) (v := .int (nI sn)) (C := RX5) (T := TX5) (N := 19) hx hb hbw in_X5 hown hK hP 0 rfl rfl 5 (by decide) (hbw _ m_493) (fun _ h9 => h9) rfl dX5_choose_5 ?_
  refine nr_if_ne (x := sn) (tgt := 24) hx hb (by omega) dX5_choose_8 (by decide) (fun h1 => ?_) (fun h1 => ?_)
  · refine lv_iconst (v := nI 0) hx hb dX5_choose_24 (by decide) ?_
    refine lv_istore_n (lv' := [(1, .int (nI 0)), (0, .ref (g 0))]) hx hb dX5_choose_25 rfl hl (by decide) rfl (fun ls hl => ?_)
    have l0 : ∀ (k : Nat) (i : Nat) (ch : Nat → Nat), (hk0 : cn < i + k) → (hi : i ≤ cn) → (hc0 : ∀ j, j < i → ch j = 0) → (hch : ∀ j, ch j < 6) → ∀ (H : Heap) (locs : List Loc) (ls : Array Slot), va_P D vwCl (pM g cI cB th n en le ro sn ar rt oh cn no ot cu lim fa wy lo ch bd) H → va_D A (pM g cI cB th n en le ro sn ar rt oh cn no ot cu lim fa wy lo ch bd) → va_S A s.heap H locs → lv_has ls 3 [(0, .ref (g 0)), (1, .int (nI i))] → W p l e ({ frames := 5, cells := 0, slots := 0, locals := 113 }) s m av below meth cd H locs 0 0 Q (F0 m 26 ls []) := by
      intro k
      induction k with
      | zero => intro i ch hk0 hi hc0 hch; exact absurd hk0 (by omega)
      | succ k ih0 =>
        intro i ch hk0 hi hc0 hch H locs ls hP hD hS hl
        refine lv_iload_n hx hb dX5_choose_26 rfl (lv_at hl 1 rfl) ?_
        refine lv_aload_n hx hb dX5_choose_27 rfl (lv_at hl 0 rfl) ?_
        refine va_get (ci := 5) (v := .int (nI cn)) (C := RX5) (T := TX5) (N := 19) hx hb hbw in_X5 hown hK hP 0 rfl rfl 9 (by decide) (hbw _ m_497) (fun _ h9 => h9) rfl dX5_choose_28 ?_
        refine nr_icmp_ge (x := i) (y := cn) (tgt := 47) hx hb (by omega) (by omega) dX5_choose_31 (by decide) (fun h2 => ?_) (fun h2 => ?_)
        · have ei : i = cn := by omega
          rw [ei] at hc0
          refine lv_iconst (v := nI 1) hx hb dX5_choose_47 (by decide) ?_
          refine lv_istore_n (lv' := [(1, .int (nI 1)), (0, .ref (g 0))]) hx hb dX5_choose_48 rfl hl (by decide) rfl (fun ls hl => ?_)
          have lp : ∀ (k : Nat) (rd : Nat) (mo : Nat) (ch : Nat → Nat) (bd : Nat → Nat), (hk : 101 < (rd + 1 - mo) + k) → (hrd : rd ≤ 100) → (hgo : cs_go cn sn ar rt oh cu wc wl ro wt lim rd) → (hag : ∀ c, c < cn → ch c = cs_it cn ar rt oh cu wc wl ro wt lim rd c) → (hch : ∀ j, ch j < 6) → (hmo : mo = 1 ∨ (mo = 0 ∧ cs_good cn ar rt oh cu wc wl ro wt lim (cs_it cn ar rt oh cu wc wl ro wt lim rd))) → ∀ (H : Heap) (locs : List Loc) (ls : Array Slot), va_P D vwCl (pM g cI cB th n en le ro sn ar rt oh cn no ot cu lim fa wy lo ch bd) H → va_D A (pM g cI cB th n en le ro sn ar rt oh cn no ot cu lim fa wy lo ch bd) → va_S A s.heap H locs → lv_has ls 3 [(0, .ref (g 0)), (1, .int (nI mo))] → W p l e ({ frames := 5, cells := 0, slots := 0, locals := 113 }) s m av below meth cd H locs 0 0 Q (F0 m 49 ls []) := by
            intro k
            induction k with
            | zero => intro rd mo ch bd hk hrd hgo hag hch hmo; exact absurd hk (by omega)
            | succ k ih =>
              intro rd mo ch bd hk hrd hgo hag hch hmo H locs ls hP hD hS hl
              refine lv_iload_n hx hb dX5_choose_49 rfl (lv_at hl 1 rfl) ?_
              refine nr_if_eq (x := mo) (tgt := 186) hx hb (by omega) dX5_choose_50 (by decide) (fun h3 => ?_) (fun h3 => ?_)
              · refine lv_iconst (v := nI 1) hx hb dX5_choose_186 (by decide) ?_
                rw [hQ]
                exact ct_zret hx hb hr hlocks hP hD hS dX5_choose_187 (by first | exact Or.inl rfl | exact Or.inr rfl) ⟨_, _, _, ch, bd, rfl, he, hch, Or.inl ⟨rfl, Or.inr h1, rd, hag, hgo, by rcases hmo with h | ⟨-, h⟩; omega; exact h⟩⟩
              · have hm1 : mo = 1 := by omega
                have hrg : ∀ c, c < cn → cs_rg cn ar rt oh cu wc wl ro wt lim ch c = cs_rg cn ar rt oh cu wc wl ro wt lim (cs_it cn ar rt oh cu wc wl ro wt lim rd) c := fun c hc => cs_rg_congr hag hc
                refine lv_iconst (v := nI 0) hx hb dX5_choose_53 (by decide) ?_
                refine lv_istore_n (lv' := [(1, .int (nI 0)), (0, .ref (g 0))]) hx hb dX5_choose_54 rfl hl (by decide) rfl (fun ls hl => ?_)
                refine lv_iconst (v := nI 0) hx hb dX5_choose_55 (by decide) ?_
                refine lv_istore_n (lv' := [(2, .int (nI 0)), (1, .int (nI 0)), (0, .ref (g 0))]) hx hb dX5_choose_56 rfl hl (by decide) rfl (fun ls hl => ?_)
                have lq : ∀ (k : Nat) (i : Nat) (m1 : Nat) (bd : Nat → Nat), (hk2 : cn < i + k) → (hi2 : i ≤ cn) → (hbd : ∀ c, c < i → bd c = bN (!(cs_rg cn ar rt oh cu wc wl ro wt lim ch c))) → (hm2 : (m1 = 0 ∧ ∀ c, c < i → cs_rg cn ar rt oh cu wc wl ro wt lim ch c = true) ∨ (m1 = 1 ∧ ∃ c, c < i ∧ cs_rg cn ar rt oh cu wc wl ro wt lim ch c = false)) → ∀ (H : Heap) (locs : List Loc) (ls : Array Slot), va_P D vwCl (pM g cI cB th n en le ro sn ar rt oh cn no ot cu lim fa wy lo ch bd) H → va_D A (pM g cI cB th n en le ro sn ar rt oh cn no ot cu lim fa wy lo ch bd) → va_S A s.heap H locs → lv_has ls 3 [(0, .ref (g 0)), (1, .int (nI m1)), (2, .int (nI i))] → W p l e ({ frames := 5, cells := 0, slots := 0, locals := 113 }) s m av below meth cd H locs 0 0 Q (F0 m 57 ls []) := by
                  intro k
                  induction k with
                  | zero => intro i m1 bd hk2 hi2 hbd hm2; exact absurd hk2 (by omega)
                  | succ k ih2 =>
                    intro i m1 bd hk2 hi2 hbd hm2 H locs ls hP hD hS hl
                    refine lv_iload_n hx hb dX5_choose_57 rfl (lv_at hl 2 rfl) ?_
                    refine lv_aload_n hx hb dX5_choose_58 rfl (lv_at hl 0 rfl) ?_
                    refine va_get (ci := 5) (v := .int (nI cn)) (C := RX5) (T := TX5) (N := 19) hx hb hbw in_X5 hown hK hP 0 rfl rfl 9 (by decide) (hbw _ m_497) (fun _ h9 => h9) rfl dX5_choose_59 ?_
                    refine nr_icmp_ge (x := i) (y := cn) (tgt := 109) hx hb (by omega) (by omega) dX5_choose_62 (by decide) (fun h4 => ?_) (fun h4 => ?_)
                    · have ei2 : i = cn := by omega
                      rw [ei2] at hbd hm2
                      refine lv_iconst (v := nI 0) hx hb dX5_choose_109 (by decide) ?_
                      refine lv_istore_n (lv' := [(2, .int (nI 0)), (0, .ref (g 0)), (1, .int (nI m1))]) hx hb dX5_choose_110 rfl hl (by decide) rfl (fun ls hl => ?_)
                      have l3 : ∀ (k : Nat) (k2 : Nat) (c2 : Nat → Nat), (hk3 : cn < k2 + k) → (hi3 : k2 ≤ cn) → (hc2 : ∀ j, j < k2 → c2 j = if cs_rg cn ar rt oh cu wc wl ro wt lim ch j = false then ch j + 1 else ch j) → (hc3 : ∀ j, k2 ≤ j → c2 j = ch j) → (hns : ∀ c, c < k2 → cs_rg cn ar rt oh cu wc wl ro wt lim ch c = false → ch c + 1 < sn) → (hc6 : ∀ j, c2 j < 6) → ∀ (H : Heap) (locs : List Loc) (ls : Array Slot), va_P D vwCl (pM g cI cB th n en le ro sn ar rt oh cn no ot cu lim fa wy lo c2 bd) H → va_D A (pM g cI cB th n en le ro sn ar rt oh cn no ot cu lim fa wy lo c2 bd) → va_S A s.heap H locs → lv_has ls 3 [(0, .ref (g 0)), (1, .int (nI m1)), (2, .int (nI k2))] → W p l e ({ frames := 5, cells := 0, slots := 0, locals := 113 }) s m av below meth cd H locs 0 0 Q (F0 m 111 ls []) := by
                        intro k
                        induction k with
                        | zero => intro k2 c2 hk3 hi3 hc2 hc3 hns hc6; exact absurd hk3 (by omega)
                        | succ k ih3 =>
                          intro k2 c2 hk3 hi3 hc2 hc3 hns hc6 H locs ls hP hD hS hl
                          refine lv_iload_n hx hb dX5_choose_111 rfl (lv_at hl 2 rfl) ?_
                          refine lv_aload_n hx hb dX5_choose_112 rfl (lv_at hl 0 rfl) ?_
                          refine va_get (ci := 5) (v := .int (nI cn)) (C := RX5) (T := TX5) (N := 19) hx hb hbw in_X5 hown hK hP 0 rfl rfl 9 (by decide) (hbw _ m_497) (fun _ h9 => h9) rfl dX5_choose_113 ?_
                          refine nr_icmp_ge (x := k2) (y := cn) (tgt := 183) hx hb (by omega) (by omega) dX5_choose_116 (by decide) (fun h5 => ?_) (fun h5 => ?_)
                          · have ek : k2 = cn := by omega
                            rw [ek] at hc2 hns
                            refine lv_goto (tgt := 49) hx hb dX5_choose_183 (by decide) ?_
                            rcases hm2 with ⟨hm3, hall⟩ | ⟨hm3, c0, hc0c, hc0w⟩
                            · exact ih rd m1 c2 bd (by omega) hrd hgo (fun c hc => by rw [hc2 c hc, if_neg (by rw [hall c hc]; simp)]; exact hag c hc) hc6 (Or.inr ⟨hm3, fun c hc => by rw [← hrg c hc]; exact hall c hc⟩) _ _ _ hP hD hS (lv_sub hl [0, 1] rfl)
                            · have hgo2 : cs_go cn sn ar rt oh cu wc wl ro wt lim (rd + 1) := lt_s hgo ⟨fun hg => (by have := hg c0 hc0c; rw [← hrg c0 hc0c, hc0w] at this; cases this), fun ⟨c, hc, q1, q2⟩ => (by have q3 := hns c hc ((hrg c hc).trans q1); rw [hag c hc] at q3; omega)⟩
                              have hrd2 := cs_rounds (Or.inr h1) hcn hsn hgo2
                              exact ih (rd + 1) m1 c2 bd (by omega) hrd2 hgo2 (fun c hc => by
                                rw [hc2 c hc]
                                show _ = cy_up _ _ _ c
                                unfold cy_up
                                rw [← hrg c hc, hag c hc]
                                by_cases q : cs_rg cn ar rt oh cu wc wl ro wt lim ch c = false
                                · rw [if_pos q, if_pos ⟨hc, q⟩]
                                · rw [if_neg q, if_neg (fun q2 => q q2.2)]) hc6 (Or.inl hm3) _ _ _ hP hD hS (lv_sub hl [0, 1] rfl)
                          · have hbk := hbd k2 h5
                            have hck := hc3 k2 (Nat.le_refl _)
                            have hlt6 : ch k2 < sn := by rw [hag k2 h5]; exact (cs_bound (Or.inr h1) rd hgo).1 k2 h5
                            have b_6 := hc6 k2
                            cases hq : cs_rg cn ar rt oh cu wc wl ro wt lim ch k2 with
                            | true =>
                              rw [hq] at hbk
                              have hbk : bd k2 = 0 := hbk
                              refine lv_aload_n hx hb dX5_choose_119 rfl (lv_at hl 0 rfl) ?_
                              refine va_get (ci := 5) (v := .ref (g 14)) (C := RX5) (T := TX5) (N := 19) hx hb hbw in_X5 hown hK hP 0 rfl rfl 18 (by decide) (hbw _ m_506) (fun _ h9 => h9) rfl dX5_choose_120 ?_
                              refine lv_iload_n hx hb dX5_choose_123 rfl (lv_at hl 2 rfl) ?_
                              refine nr_zald hx hb hK hP 14 3 rfl rfl (k := k2) (by omega) (by omega) dX5_choose_124 ?_
                              refine nr_if_eq (x := bd k2) (tgt := 145) hx hb (by omega) dX5_choose_125 (by decide) (fun _ => ?_) (fun h => absurd h (by omega))
                              refine lv_aload_n hx hb dX5_choose_145 rfl (lv_at hl 0 rfl) ?_
                              refine va_get (ci := 5) (v := .ref (g 13)) (C := RX5) (T := TX5) (N := 19) hx hb hbw in_X5 hown hK hP 0 rfl rfl 17 (by decide) (hbw _ m_505) (fun _ h9 => h9) rfl dX5_choose_146 ?_
                              refine lv_iload_n hx hb dX5_choose_149 rfl (lv_at hl 2 rfl) ?_
                              refine lv_aload_n hx hb dX5_choose_150 rfl (lv_at hl 0 rfl) ?_
                              refine va_get (ci := 5) (v := .ref (g 14)) (C := RX5) (T := TX5) (N := 19) hx hb hbw in_X5 hown hK hP 0 rfl rfl 18 (by decide) (hbw _ m_506) (fun _ h9 => h9) rfl dX5_choose_151 ?_
                              refine lv_iload_n hx hb dX5_choose_154 rfl (lv_at hl 2 rfl) ?_
                              refine nr_zald hx hb hK hP 14 3 rfl rfl (k := k2) (by omega) (by omega) dX5_choose_155 ?_
                              refine nr_if_eq (x := bd k2) (tgt := 170) hx hb (by omega) dX5_choose_156 (by decide) (fun _ => ?_) (fun h => absurd h (by omega))
                              refine lv_aload_n hx hb dX5_choose_170 rfl (lv_at hl 0 rfl) ?_
                              refine va_get (ci := 5) (v := .ref (g 13)) (C := RX5) (T := TX5) (N := 19) hx hb hbw in_X5 hown hK hP 0 rfl rfl 17 (by decide) (hbw _ m_505) (fun _ h9 => h9) rfl dX5_choose_171 ?_
                              refine lv_iload_n hx hb dX5_choose_174 rfl (lv_at hl 2 rfl) ?_
                              refine nr_iald hx hb hK hP 13 0 rfl rfl (k := k2) (by omega) (by omega) dX5_choose_175 ?_
                              have b_2 := hc6 k2
                              refine nr_iast hx hb hK hP hD hS 13 0 rfl rfl (k := k2) (v := c2 k2) (by omega) (by omega) dX5_choose_176 (fun H locs hP hD hS => ?_)
                              have hP : va_P D vwCl (pM g cI cB th n en le ro sn ar rt oh cn no ot cu lim fa wy lo (nr_up c2 k2 (c2 k2)) bd) H := hP
                              have hD : va_D A (pM g cI cB th n en le ro sn ar rt oh cn no ot cu lim fa wy lo (nr_up c2 k2 (c2 k2)) bd) := hD
                              rw [nr_up_same] at hP hD
                              have hP : va_P D vwCl (pM g cI cB th n en le ro sn ar rt oh cn no ot cu lim fa wy lo c2 bd) H := hP
                              have hD : va_D A (pM g cI cB th n en le ro sn ar rt oh cn no ot cu lim fa wy lo c2 bd) := hD
                              refine lv_iinc (v := nI (k2 + 1)) (lv' := [(2, .int (nI (k2 + 1))), (0, .ref (g 0)), (1, .int (nI m1))]) hx hb dX5_choose_177 hl (k := 2) rfl (nI_1 _) (by decide) rfl (fun ls hl => ?_)
                              refine lv_goto (tgt := 111) hx hb dX5_choose_180 (by decide) ?_
                              exact ih3 (k2 + 1) c2 (by omega) (by omega) (lt_s hc2 (by rw [hq, hck]; rfl)) (fun j hj => hc3 j (by omega)) (lt_s hns (fun h => by rw [hq] at h; cases h)) hc6 _ _ _ hP hD hS (lv_sub hl [1, 2, 0] rfl)
                            | false =>
                              rw [hq] at hbk
                              have hbk : bd k2 = 1 := hbk
                              refine lv_aload_n hx hb dX5_choose_119 rfl (lv_at hl 0 rfl) ?_
                              refine va_get (ci := 5) (v := .ref (g 14)) (C := RX5) (T := TX5) (N := 19) hx hb hbw in_X5 hown hK hP 0 rfl rfl 18 (by decide) (hbw _ m_506) (fun _ h9 => h9) rfl dX5_choose_120 ?_
                              refine lv_iload_n hx hb dX5_choose_123 rfl (lv_at hl 2 rfl) ?_
                              refine nr_zald hx hb hK hP 14 3 rfl rfl (k := k2) (by omega) (by omega) dX5_choose_124 ?_
                              refine nr_if_eq (x := bd k2) (tgt := 145) hx hb (by omega) dX5_choose_125 (by decide) (fun h => absurd h (by omega)) (fun _ => ?_)
                              refine lv_aload_n hx hb dX5_choose_128 rfl (lv_at hl 0 rfl) ?_
                              refine va_get (ci := 5) (v := .ref (g 13)) (C := RX5) (T := TX5) (N := 19) hx hb hbw in_X5 hown hK hP 0 rfl rfl 17 (by decide) (hbw _ m_505) (fun _ h9 => h9) rfl dX5_choose_129 ?_
                              refine lv_iload_n hx hb dX5_choose_132 rfl (lv_at hl 2 rfl) ?_
                              refine nr_iald hx hb hK hP 13 0 rfl rfl (k := k2) (by omega) (by omega) dX5_choose_133 ?_
                              have b_3 := hc6 k2
                              refine lv_aload_n hx hb dX5_choose_134 rfl (lv_at hl 0 rfl) ?_
                              refine va_get (ci := 5) (v := .int (nI sn)) (C := RX5) (T := TX5) (N := 19) hx hb hbw in_X5 hown hK hP 0 rfl rfl 5 (by decide) (hbw _ m_493) (fun _ h9 => h9) rfl dX5_choose_135 ?_
                              refine lv_iconst (v := nI 1) hx hb dX5_choose_138 (by decide) ?_
                              refine nr_isub hx hb (by omega) dX5_choose_139 ?_
                              refine nr_icmp_ne (x := c2 k2) (y := sn - 1) (tgt := 145) hx hb (by omega) (by omega) dX5_choose_140 (by decide) (fun h6 => ?_) (fun h6 => ?_)
                              · refine lv_aload_n hx hb dX5_choose_145 rfl (lv_at hl 0 rfl) ?_
                                refine va_get (ci := 5) (v := .ref (g 13)) (C := RX5) (T := TX5) (N := 19) hx hb hbw in_X5 hown hK hP 0 rfl rfl 17 (by decide) (hbw _ m_505) (fun _ h9 => h9) rfl dX5_choose_146 ?_
                                refine lv_iload_n hx hb dX5_choose_149 rfl (lv_at hl 2 rfl) ?_
                                refine lv_aload_n hx hb dX5_choose_150 rfl (lv_at hl 0 rfl) ?_
                                refine va_get (ci := 5) (v := .ref (g 14)) (C := RX5) (T := TX5) (N := 19) hx hb hbw in_X5 hown hK hP 0 rfl rfl 18 (by decide) (hbw _ m_506) (fun _ h9 => h9) rfl dX5_choose_151 ?_
                                refine lv_iload_n hx hb dX5_choose_154 rfl (lv_at hl 2 rfl) ?_
                                refine nr_zald hx hb hK hP 14 3 rfl rfl (k := k2) (by omega) (by omega) dX5_choose_155 ?_
                                refine nr_if_eq (x := bd k2) (tgt := 170) hx hb (by omega) dX5_choose_156 (by decide) (fun h => absurd h (by omega)) (fun _ => ?_)
                                refine lv_aload_n hx hb dX5_choose_159 rfl (lv_at hl 0 rfl) ?_
                                refine va_get (ci := 5) (v := .ref (g 13)) (C := RX5) (T := TX5) (N := 19) hx hb hbw in_X5 hown hK hP 0 rfl rfl 17 (by decide) (hbw _ m_505) (fun _ h9 => h9) rfl dX5_choose_160 ?_
                                refine lv_iload_n hx hb dX5_choose_163 rfl (lv_at hl 2 rfl) ?_
                                refine nr_iald hx hb hK hP 13 0 rfl rfl (k := k2) (by omega) (by omega) dX5_choose_164 ?_
                                have b_4 := hc6 k2
                                refine lv_iconst (v := nI 1) hx hb dX5_choose_165 (by decide) ?_
                                refine nr_iadd hx hb dX5_choose_166 ?_
                                refine lv_goto (tgt := 176) hx hb dX5_choose_167 (by decide) ?_
                                refine nr_iast hx hb hK hP hD hS 13 0 rfl rfl (k := k2) (v := (c2 k2) + 1) (by omega) (by omega) dX5_choose_176 (fun H locs hP hD hS => ?_)
                                have hP : va_P D vwCl (pM g cI cB th n en le ro sn ar rt oh cn no ot cu lim fa wy lo (nr_up c2 k2 ((c2 k2) + 1)) bd) H := hP
                                have hD : va_D A (pM g cI cB th n en le ro sn ar rt oh cn no ot cu lim fa wy lo (nr_up c2 k2 ((c2 k2) + 1)) bd) := hD
                                refine lv_iinc (v := nI (k2 + 1)) (lv' := [(2, .int (nI (k2 + 1))), (0, .ref (g 0)), (1, .int (nI m1))]) hx hb dX5_choose_177 hl (k := 2) rfl (nI_1 _) (by decide) rfl (fun ls hl => ?_)
                                refine lv_goto (tgt := 111) hx hb dX5_choose_180 (by decide) ?_
                                exact ih3 (k2 + 1) _ (by omega) (by omega) (lt_s (fun j hj => by rw [nr_up_n _ _ (Nat.ne_of_lt hj)]; exact hc2 j hj) (by rw [nr_up_s, hq, hck]; rfl)) (fun j hj => by rw [nr_up_n _ _ (by omega)]; exact hc3 j (by omega)) (lt_s hns (fun _ => by omega)) (fun j => by by_cases e : j = k2; rw [e, nr_up_s]; omega; rw [nr_up_n _ _ e]; exact hc6 j) _ _ _ hP hD hS (lv_sub hl [1, 2, 0] rfl)
                              · refine lv_iconst (v := nI 0) hx hb dX5_choose_143 (by decide) ?_
                                rw [hQ]
                                exact ct_zret hx hb hr hlocks hP hD hS dX5_choose_144 (by first | exact Or.inl rfl | exact Or.inr rfl) ⟨_, _, _, c2, bd, rfl, he, hc6, Or.inr ⟨rfl, Or.inr ⟨Or.inr h1, rd, hgo, k2, h5, by rw [← hrg k2 h5]; exact hq, by rw [← hag k2 h5]; omega⟩⟩⟩
                      exact l3 (cn + 1) 0 ch (by omega) (Nat.zero_le cn) (lt_0) (fun _ _ => rfl) (lt_0) hch _ _ _ hP hD hS (lv_sub hl [1, 2, 0] rfl)
                    · refine lv_aload_n hx hb dX5_choose_65 rfl (lv_at hl 0 rfl) ?_
                      refine va_get (ci := 5) (v := .ref (g 14)) (C := RX5) (T := TX5) (N := 19) hx hb hbw in_X5 hown hK hP 0 rfl rfl 18 (by decide) (hbw _ m_506) (fun _ h9 => h9) rfl dX5_choose_66 ?_
                      refine lv_iload_n hx hb dX5_choose_69 rfl (lv_at hl 2 rfl) ?_
                      refine lv_aload_n hx hb dX5_choose_70 rfl (lv_at hl 0 rfl) ?_
                      refine lv_iload_n hx hb dX5_choose_71 rfl (lv_at hl 2 rfl) ?_
                      refine ct_Vi (wc := (pM g cI cB th n en le ro sn ar rt oh cn no ot cu lim fa wy lo ch bd)) (wr := ([] : va_W)) (As := [.int (nI i)]) (rest := [.int (nI i), .ref (g 14)]) ⟨hx, hb, hml, hown, hbw⟩ (EN_E D _) hEN (kX5_isRight l D cI cG cL cB g th n en le ro sn ar rt oh cn no ot cu lim fa wy lo ch bd wc wl wt i h4 hz hy hch hlim he) (cwV (C := "CableSizesModel") 1 hbw (gV m_621 m_623 m_11 m_23 m_624) rfl rfl rfl (by decide +kernel) ⟨Nat.le_of_ble_eq_true rfl, Nat.le_of_ble_eq_true rfl⟩) (va_recv hK hP (ci := 5) (q0 := 0) rfl rfl) hP hD hS hA [0, 1, 2, 3, 4, 5, 6, 7, 8, 9, 10, 11, 12, 13, 14] [] rfl rfl (by decide) (by decide) (by decide) rfl hl.1 rfl (Nat.le_of_ble_eq_true rfl) dX5_choose_72 ⟨Nat.le_of_ble_eq_true rfl, Nat.le_of_ble_eq_true rfl⟩ (fun r_5 w_5 H locs hw hP hD hS => ?_)
                      obtain ⟨rfl, rfl⟩ := hw
                      have hP := hP.sub (ws' := (pM g cI cB th n en le ro sn ar rt oh cn no ot cu lim fa wy lo ch bd)) [0, 1, 2, 3, 4, 5, 6, 7, 8, 9, 10, 11, 12, 13, 14] rfl
                      have hD := hD.sub (ws' := (pM g cI cB th n en le ro sn ar rt oh cn no ot cu lim fa wy lo ch bd)) [0, 1, 2, 3, 4, 5, 6, 7, 8, 9, 10, 11, 12, 13, 14] (by decide) rfl
                      refine nr_if_ne (x := bN (cs_rg cn ar rt oh cu wc wl ro wt lim ch i)) (tgt := 82) hx hb (by unfold bN; split <;> omega) dX5_choose_75 (by decide) (fun h6 => ?_) (fun h6 => ?_)
                      · refine lv_iconst (v := nI 0) hx hb dX5_choose_82 (by decide) ?_
                        have hq : cs_rg cn ar rt oh cu wc wl ro wt lim ch i = true := bN_t h6
                        have b_s := nr_up_s bd i 0
                        refine nr_zast hx hb hK hP hD hS 14 3 rfl rfl (k := i) (v := 0) (by omega) (by omega) (by omega) dX5_choose_83 (fun H locs hP hD hS => ?_)
                        have hP : va_P D vwCl (pM g cI cB th n en le ro sn ar rt oh cn no ot cu lim fa wy lo ch (nr_up bd i 0)) H := hP
                        have hD : va_D A (pM g cI cB th n en le ro sn ar rt oh cn no ot cu lim fa wy lo ch (nr_up bd i 0)) := hD
                        refine lv_iload_n hx hb dX5_choose_84 rfl (lv_at hl 1 rfl) ?_
                        refine nr_if_ne (x := m1) (tgt := 97) hx hb (by omega) dX5_choose_85 (by decide) (fun h7 => ?_) (fun h7 => ?_)
                        · refine lv_iconst (v := nI 1) hx hb dX5_choose_97 (by decide) ?_
                          refine lv_goto (tgt := 102) hx hb dX5_choose_98 (by decide) ?_
                          refine lv_istore_n (lv' := [(1, .int (nI 1)), (0, .ref (g 0)), (2, .int (nI i))]) hx hb dX5_choose_102 rfl hl (by decide) rfl (fun ls hl => ?_)
                          refine lv_iinc (v := nI (i + 1)) (lv' := [(2, .int (nI (i + 1))), (1, .int (nI 1)), (0, .ref (g 0))]) hx hb dX5_choose_103 hl (k := 2) rfl (nI_1 _) (by decide) rfl (fun ls hl => ?_)
                          refine lv_goto (tgt := 57) hx hb dX5_choose_106 (by decide) ?_
                          exact ih2 (i + 1) 1 _ (by omega) (by omega) (lt_s (fun j hj => by rw [nr_up_n _ _ (Nat.ne_of_lt hj)]; exact hbd j hj) (by rw [nr_up_s, hq]; rfl)) (by rcases hm2 with ⟨q1, q2⟩ | ⟨q1, c0, q2, q3⟩; exact Or.inl ⟨by omega, lt_s q2 hq⟩; exact Or.inr ⟨rfl, c0, by omega, q3⟩) _ _ _ hP hD hS (lv_sub hl [2, 1, 0] rfl)
                        · refine lv_aload_n hx hb dX5_choose_88 rfl (lv_at hl 0 rfl) ?_
                          refine va_get (ci := 5) (v := .ref (g 14)) (C := RX5) (T := TX5) (N := 19) hx hb hbw in_X5 hown hK hP 0 rfl rfl 18 (by decide) (hbw _ m_506) (fun _ h9 => h9) rfl dX5_choose_89 ?_
                          refine lv_iload_n hx hb dX5_choose_92 rfl (lv_at hl 2 rfl) ?_
                          refine nr_zald hx hb hK hP 14 3 rfl rfl (k := i) (by omega) (by omega) dX5_choose_93 ?_
                          refine nr_if_eq (x := (nr_up bd i 0) i) (tgt := 101) hx hb (by omega) dX5_choose_94 (by decide) (fun _ => ?_) (fun h => absurd h (by omega))
                          refine lv_iconst (v := nI 0) hx hb dX5_choose_101 (by decide) ?_
                          refine lv_istore_n (lv' := [(1, .int (nI 0)), (0, .ref (g 0)), (2, .int (nI i))]) hx hb dX5_choose_102 rfl hl (by decide) rfl (fun ls hl => ?_)
                          refine lv_iinc (v := nI (i + 1)) (lv' := [(2, .int (nI (i + 1))), (1, .int (nI 0)), (0, .ref (g 0))]) hx hb dX5_choose_103 hl (k := 2) rfl (nI_1 _) (by decide) rfl (fun ls hl => ?_)
                          refine lv_goto (tgt := 57) hx hb dX5_choose_106 (by decide) ?_
                          exact ih2 (i + 1) 0 _ (by omega) (by omega) (lt_s (fun j hj => by rw [nr_up_n _ _ (Nat.ne_of_lt hj)]; exact hbd j hj) (by rw [nr_up_s, hq]; rfl)) (by rcases hm2 with ⟨q1, q2⟩ | ⟨q1, c0, q2, q3⟩; exact Or.inl ⟨rfl, lt_s q2 hq⟩; omega) _ _ _ hP hD hS (lv_sub hl [2, 1, 0] rfl)
                      · refine lv_iconst (v := nI 1) hx hb dX5_choose_78 (by decide) ?_
                        refine lv_goto (tgt := 83) hx hb dX5_choose_79 (by decide) ?_
                        have hq : cs_rg cn ar rt oh cu wc wl ro wt lim ch i = false := bN_f h6
                        have b_s := nr_up_s bd i 1
                        refine nr_zast hx hb hK hP hD hS 14 3 rfl rfl (k := i) (v := 1) (by omega) (by omega) (by omega) dX5_choose_83 (fun H locs hP hD hS => ?_)
                        have hP : va_P D vwCl (pM g cI cB th n en le ro sn ar rt oh cn no ot cu lim fa wy lo ch (nr_up bd i 1)) H := hP
                        have hD : va_D A (pM g cI cB th n en le ro sn ar rt oh cn no ot cu lim fa wy lo ch (nr_up bd i 1)) := hD
                        refine lv_iload_n hx hb dX5_choose_84 rfl (lv_at hl 1 rfl) ?_
                        refine nr_if_ne (x := m1) (tgt := 97) hx hb (by omega) dX5_choose_85 (by decide) (fun h7 => ?_) (fun h7 => ?_)
                        · refine lv_iconst (v := nI 1) hx hb dX5_choose_97 (by decide) ?_
                          refine lv_goto (tgt := 102) hx hb dX5_choose_98 (by decide) ?_
                          refine lv_istore_n (lv' := [(1, .int (nI 1)), (0, .ref (g 0)), (2, .int (nI i))]) hx hb dX5_choose_102 rfl hl (by decide) rfl (fun ls hl => ?_)
                          refine lv_iinc (v := nI (i + 1)) (lv' := [(2, .int (nI (i + 1))), (1, .int (nI 1)), (0, .ref (g 0))]) hx hb dX5_choose_103 hl (k := 2) rfl (nI_1 _) (by decide) rfl (fun ls hl => ?_)
                          refine lv_goto (tgt := 57) hx hb dX5_choose_106 (by decide) ?_
                          exact ih2 (i + 1) 1 _ (by omega) (by omega) (lt_s (fun j hj => by rw [nr_up_n _ _ (Nat.ne_of_lt hj)]; exact hbd j hj) (by rw [nr_up_s, hq]; rfl)) (Or.inr ⟨rfl, i, by omega, hq⟩) _ _ _ hP hD hS (lv_sub hl [2, 1, 0] rfl)
                        · refine lv_aload_n hx hb dX5_choose_88 rfl (lv_at hl 0 rfl) ?_
                          refine va_get (ci := 5) (v := .ref (g 14)) (C := RX5) (T := TX5) (N := 19) hx hb hbw in_X5 hown hK hP 0 rfl rfl 18 (by decide) (hbw _ m_506) (fun _ h9 => h9) rfl dX5_choose_89 ?_
                          refine lv_iload_n hx hb dX5_choose_92 rfl (lv_at hl 2 rfl) ?_
                          refine nr_zald hx hb hK hP 14 3 rfl rfl (k := i) (by omega) (by omega) dX5_choose_93 ?_
                          refine nr_if_eq (x := (nr_up bd i 1) i) (tgt := 101) hx hb (by omega) dX5_choose_94 (by decide) (fun h => absurd h (by omega)) (fun _ => ?_)
                          refine lv_iconst (v := nI 1) hx hb dX5_choose_97 (by decide) ?_
                          refine lv_goto (tgt := 102) hx hb dX5_choose_98 (by decide) ?_
                          refine lv_istore_n (lv' := [(1, .int (nI 1)), (0, .ref (g 0)), (2, .int (nI i))]) hx hb dX5_choose_102 rfl hl (by decide) rfl (fun ls hl => ?_)
                          refine lv_iinc (v := nI (i + 1)) (lv' := [(2, .int (nI (i + 1))), (1, .int (nI 1)), (0, .ref (g 0))]) hx hb dX5_choose_103 hl (k := 2) rfl (nI_1 _) (by decide) rfl (fun ls hl => ?_)
                          refine lv_goto (tgt := 57) hx hb dX5_choose_106 (by decide) ?_
                          exact ih2 (i + 1) 1 _ (by omega) (by omega) (lt_s (fun j hj => by rw [nr_up_n _ _ (Nat.ne_of_lt hj)]; exact hbd j hj) (by rw [nr_up_s, hq]; rfl)) (Or.inr ⟨rfl, i, by omega, hq⟩) _ _ _ hP hD hS (lv_sub hl [2, 1, 0] rfl)
                exact lq (cn + 1) 0 0 bd (by omega) (Nat.zero_le cn) (lt_0) (Or.inl ⟨rfl, lt_0⟩) _ _ _ hP hD hS (lv_sub hl [2, 1, 0] rfl)
          exact lp 102 0 1 ch bd (by omega) (by omega) (lt_0) (fun c hc => by rw [hc0 c hc]; rfl) hch (Or.inl rfl) _ _ _ hP hD hS (lv_sub hl [1, 0] rfl)
        · refine lv_aload_n hx hb dX5_choose_34 rfl (lv_at hl 0 rfl) ?_
          refine va_get (ci := 5) (v := .ref (g 13)) (C := RX5) (T := TX5) (N := 19) hx hb hbw in_X5 hown hK hP 0 rfl rfl 17 (by decide) (hbw _ m_505) (fun _ h9 => h9) rfl dX5_choose_35 ?_
          refine lv_iload_n hx hb dX5_choose_38 rfl (lv_at hl 1 rfl) ?_
          refine lv_iconst (v := nI 0) hx hb dX5_choose_39 (by decide) ?_
          refine nr_iast hx hb hK hP hD hS 13 0 rfl rfl (k := i) (v := 0) (by omega) (by omega) dX5_choose_40 (fun H locs hP hD hS => ?_)
          have hP : va_P D vwCl (pM g cI cB th n en le ro sn ar rt oh cn no ot cu lim fa wy lo (nr_up ch i 0) bd) H := hP
          have hD : va_D A (pM g cI cB th n en le ro sn ar rt oh cn no ot cu lim fa wy lo (nr_up ch i 0) bd) := hD
          refine lv_iinc (v := nI (i + 1)) (lv' := [(1, .int (nI (i + 1))), (0, .ref (g 0))]) hx hb dX5_choose_41 hl (k := 1) rfl (nI_1 _) (by decide) rfl (fun ls hl => ?_)
          refine lv_goto (tgt := 26) hx hb dX5_choose_44 (by decide) ?_
          exact ih0 (i + 1) _ (by omega) (by omega) (lt_s (fun j hj => by rw [nr_up_n _ _ (Nat.ne_of_lt hj)]; exact hc0 j hj) (nr_up_s _ _ _)) (fun j => by by_cases e : j = i; rw [e, nr_up_s]; omega; rw [nr_up_n _ _ e]; exact hch j) _ _ _ hP hD hS (lv_sub hl [1, 0] rfl)
    exact l0 (cn + 1) 0 ch (by omega) (Nat.zero_le cn) (lt_0) hch _ _ _ hP hD hS (lv_sub hl [1, 0] rfl)
  · refine lv_aload_n hx hb dX5_choose_11 rfl (lv_at hl 0 rfl) ?_
    refine va_get (ci := 5) (v := .int (nI cn)) (C := RX5) (T := TX5) (N := 19) hx hb hbw in_X5 hown hK hP 0 rfl rfl 9 (by decide) (hbw _ m_497) (fun _ h9 => h9) rfl dX5_choose_12 ?_
    refine nr_if_ne (x := cn) (tgt := 22) hx hb (by omega) dX5_choose_15 (by decide) (fun h8 => ?_) (fun h8 => ?_)
    · refine lv_iconst (v := nI 0) hx hb dX5_choose_22 (by decide) ?_
      rw [hQ]
      exact ct_zret hx hb hr hlocks hP hD hS dX5_choose_23 (by first | exact Or.inl rfl | exact Or.inr rfl) ⟨_, _, _, ch, bd, rfl, he, hch, Or.inr ⟨rfl, Or.inl ⟨h8, h1⟩⟩⟩
    · refine lv_iconst (v := nI 1) hx hb dX5_choose_18 (by decide) ?_
      refine lv_goto (tgt := 23) hx hb dX5_choose_19 (by decide) ?_
      rw [hQ]
      exact ct_zret hx hb hr hlocks hP hD hS dX5_choose_23 (by first | exact Or.inl rfl | exact Or.inr rfl) ⟨_, _, _, ch, bd, rfl, he, hch, Or.inl ⟨rfl, Or.inl h8, 0, fun c hc => by omega, lt_0, fun c hc => by omega⟩⟩
end
