/-! the reference: its cells; arrays that may hold NONE (coded: 0 is NONE, k + 1 is k); ways as rows with an end -/
def mI (k : Nat) : Int32 := match k with
  | 0 => -1
  | j + 1 => nI j
abbrev mA (q : Nat) (cI : ClassId) (n : Nat) (g : Nat → Nat) : Nat × va_E := (q, .inl (cI, n, .inl (fun j => mI (g j))))
def pM (g : Nat → Nat) (cI cB : ClassId) (th n : Nat) (en le ro : Nat → Nat) (sn : Nat) (ar rt oh : Nat → Nat) (cn : Nat) (no ot cu : Nat → Nat) (lim : Nat) (fa wy lo ch bd : Nat → Nat) : va_W :=
  [(g 0, .inr (5, [.int (nI th), .int (nI n), .ref (g 1), .ref (g 2), .ref (g 3), .int (nI sn), .ref (g 4), .ref (g 5), .ref (g 6), .int (nI cn), .ref (g 7), .ref (g 8), .ref (g 9), .int (nI lim), .ref (g 10), .ref (g 11), .ref (g 12), .ref (g 13), .ref (g 14)])),
   iA (g 1) cI 30 en, iA (g 2) cI 15 le, iA (g 3) cI 15 ro, iA (g 4) cI 6 ar, iA (g 5) cI 6 rt, iA (g 6) cI 6 oh, iA (g 7) cI 20 no, iA (g 8) cI 20 ot, iA (g 9) cI 20 cu, iA (g 10) cI 10 fa, mA (g 11) cI 320 wy, mA (g 12) cI 20 lo, iA (g 13) cI 20 ch, iA (g 14) cB 20 bd]
section MR
variable {p : Program} {l : Launch} {e : Env} {R : Room} {s : State} {m : MethodId} {args : Array Value} {below : List Frame} {meth : Method} {c : Code} {H : Heap} {locs : List Loc} {cells slots : Nat} {Q : State → Prop}
variable {cc : ByteArray} {pc : Nat} {ls : Array Slot} {rest : List Value} {D : va_G} {cl : List vw_C} {A : Nat → Prop} {a : Nat} {tys : List (ClassId × FieldType)} {ws : va_W} {H0 : Heap}
theorem nr_mald (hx : p.tables.exec = Jvm.exec) (hb : c.code = cc) (hK : va_K D cl tys s) (hP : va_P D cl ws H) (q0 t0 : Nat) {cA : ClassId} {n : Nat} {g : Nat → Nat} (ha : ws[q0]? = some (a, .inl (cA, n, .inl (fun j => mI (g j))))) (ht : tys[t0]? = some (cA, .int)) {k : Nat} (hk : k < n) (hn : n < 2 ^ 31) (hd : decode cc pc = .ok (.iaload, 1))
    (kk : W p l e R s m args below meth c H locs cells slots Q (F0 m (pc + 1) ls (.int (mI (g k)) :: rest))) : W p l e R s m args below meth c H locs cells slots Q (F0 m pc ls (.int (nI k) :: .ref a :: rest)) := by
  refine va_iald hx hb hK hP q0 t0 ha ht (vp_in_nI hk hn) hd ?_
  rw [nI_clamp (by omega)]
  exact kk
theorem nr_mald0 (hx : p.tables.exec = Jvm.exec) (hb : c.code = cc) (hK : va_K D cl tys s) (hP : va_P D cl ws H) (q0 t0 : Nat) {cA : ClassId} {n : Nat} {g : Nat → Nat} (ha : ws[q0]? = some (a, .inl (cA, n, .inl (fun j => mI (g j))))) (ht : tys[t0]? = some (cA, .int)) {k : Nat} (hk : k < n) (hn : n < 2 ^ 31) (hv : g k = 0) (hd : decode cc pc = .ok (.iaload, 1))
    (kk : W p l e R s m args below meth c H locs cells slots Q (F0 m (pc + 1) ls (.int (-1) :: rest))) : W p l e R s m args below meth c H locs cells slots Q (F0 m pc ls (.int (nI k) :: .ref a :: rest)) := by
  refine nr_mald hx hb hK hP q0 t0 ha ht hk hn hd ?_
  rw [hv]
  exact kk
theorem nr_mald1 (hx : p.tables.exec = Jvm.exec) (hb : c.code = cc) (hK : va_K D cl tys s) (hP : va_P D cl ws H) (q0 t0 : Nat) {cA : ClassId} {n : Nat} {g : Nat → Nat} (ha : ws[q0]? = some (a, .inl (cA, n, .inl (fun j => mI (g j))))) (ht : tys[t0]? = some (cA, .int)) {k v : Nat} (hk : k < n) (hn : n < 2 ^ 31) (hv : g k = v + 1) (hd : decode cc pc = .ok (.iaload, 1))
    (kk : W p l e R s m args below meth c H locs cells slots Q (F0 m (pc + 1) ls (.int (nI v) :: rest))) : W p l e R s m args below meth c H locs cells slots Q (F0 m pc ls (.int (nI k) :: .ref a :: rest)) := by
  refine nr_mald hx hb hK hP q0 t0 ha ht hk hn hd ?_
  rw [hv]
  exact kk
theorem nr_mast (hx : p.tables.exec = Jvm.exec) (hb : c.code = cc) (hK : va_K D cl tys s) (hP : va_P D cl ws H) (hD : va_D A ws) (hS : va_S A H0 H locs) (q0 t0 : Nat) {cA : ClassId} {n : Nat} {g : Nat → Nat} (ha : ws[q0]? = some (a, .inl (cA, n, .inl (fun j => mI (g j))))) (ht : tys[t0]? = some (cA, .int)) {x : Int32} {k : Nat} (v : Nat) (hv : x = mI v) (hk : k < n) (hn : n < 2 ^ 31) (hd : decode cc pc = .ok (.iastore, 1))
    (kk : ∀ (H : Heap) (locs : List Loc), va_P D cl (ws.set q0 (a, .inl (cA, n, .inl (fun j => mI (nr_up g k v j))))) H → va_D A (ws.set q0 (a, .inl (cA, n, .inl (fun j => mI (nr_up g k v j))))) → va_S A H0 H locs → W p l e R s m args below meth c H locs cells slots Q (F0 m (pc + 1) ls rest)) : W p l e R s m args below meth c H locs cells slots Q (F0 m pc ls (.int x :: .int (nI k) :: .ref a :: rest)) := by
  subst hv
  refine va_iast hx hb hK hP hD hS q0 t0 ha ht (vp_in_nI hk hn) hd (fun H1 locs1 h1 h2 h3 => ?_)
  have e : upd (fun j => mI (g j)) k (mI v) = fun j => mI (nr_up g k v j) := by
    funext j
    unfold nr_up
    by_cases h : j = k
    · subst h; rw [pk_us, if_pos rfl]
    · rw [pk_un h, if_neg h]
  rw [nI_clamp (by omega), e] at h1 h2
  exact kk H1 locs1 h1 h2 h3
theorem nr_zald (hx : p.tables.exec = Jvm.exec) (hb : c.code = cc) (hK : va_K D cl tys s) (hP : va_P D cl ws H) (q0 t0 : Nat) {cA : ClassId} {n : Nat} {g : Nat → Nat} (ha : ws[q0]? = some (a, .inl (cA, n, .inl (fun j => nI (g j))))) (ht : tys[t0]? = some (cA, .boolean)) {k : Nat} (hk : k < n) (hn : n < 2 ^ 31) (hd : decode cc pc = .ok (.baload, 1))
    (kk : W p l e R s m args below meth c H locs cells slots Q (F0 m (pc + 1) ls (.int (nI (g k)) :: rest))) : W p l e R s m args below meth c H locs cells slots Q (F0 m pc ls (.int (nI k) :: .ref a :: rest)) := by
  refine va_zald hx hb hK hP q0 t0 ha ht (vp_in_nI hk hn) hd ?_
  rw [nI_clamp (by omega)]
  exact kk
theorem nr_zast (hx : p.tables.exec = Jvm.exec) (hb : c.code = cc) (hK : va_K D cl tys s) (hP : va_P D cl ws H) (hD : va_D A ws) (hS : va_S A H0 H locs) (q0 t0 : Nat) {cA : ClassId} {n : Nat} {g : Nat → Nat} (ha : ws[q0]? = some (a, .inl (cA, n, .inl (fun j => nI (g j))))) (ht : tys[t0]? = some (cA, .boolean)) {k v : Nat} (hv : v = 0 ∨ v = 1) (hk : k < n) (hn : n < 2 ^ 31) (hd : decode cc pc = .ok (.bastore, 1))
    (kk : ∀ (H : Heap) (locs : List Loc), va_P D cl (ws.set q0 (a, .inl (cA, n, .inl (fun j => nI (nr_up g k v j))))) H → va_D A (ws.set q0 (a, .inl (cA, n, .inl (fun j => nI (nr_up g k v j))))) → va_S A H0 H locs → W p l e R s m args below meth c H locs cells slots Q (F0 m (pc + 1) ls rest)) : W p l e R s m args below meth c H locs cells slots Q (F0 m pc ls (.int (nI v) :: .int (nI k) :: .ref a :: rest)) := by
  refine va_zast hx hb hK hP hD hS q0 t0 ha ht (vp_in_nI hk hn) hd (fun H1 locs1 h1 h2 h3 => ?_)
  have e : vp_nar .boolean (nI v) = nI v := by rcases hv with rfl | rfl <;> rfl
  rw [nI_clamp (by omega), e, nr_up_eq] at h1 h2
  exact kk H1 locs1 h1 h2 h3
/-- a long compared, then 'less' or 'greater' -/
theorem nr_cmplt (hx : p.tables.exec = Jvm.exec) (hb : c.code = cc) {x y : Int64} {off : Int} {tgt : Nat} (hd1 : decode cc pc = .ok (.lcmp, 1)) (hd2 : decode cc (pc + 1) = .ok (.ifCond .lt off, 3)) (ht : ((pc + 1 : Nat) : Int) + off = (tgt : Int))
    (kt : x < y → W p l e R s m args below meth c H locs cells slots Q (F0 m tgt ls rest)) (kf : ¬ x < y → W p l e R s m args below meth c H locs cells slots Q (F0 m (pc + 1 + 3) ls rest)) : W p l e R s m args below meth c H locs cells slots Q (F0 m pc ls (.long y :: .long x :: rest)) := by
  refine W.lcmp hx hb hd1 ?_
  refine lv_if_lt hx hb hd2 ht (fun h => kt ?_) (fun h => kf ?_)
  · by_cases q : x < y
    · exact q
    · exfalso
      by_cases h1 : y < x
      · simp [lg_cmp, h1] at h
      · by_cases h2 : x = y
        · simp [lg_cmp, h2] at h
        · exact absurd (Int64.lt_of_le_of_ne (Int64.not_lt.mp h1) h2) q
  · intro q
    have h1 : ¬ y < x := Int64.lt_asymm q
    have h2 : x ≠ y := fun e => by subst e; exact Int64.lt_irrefl q
    exact h (by simp [lg_cmp, h1, h2])
theorem nr_cmpgt (hx : p.tables.exec = Jvm.exec) (hb : c.code = cc) {x y : Int64} {off : Int} {tgt : Nat} (hd1 : decode cc pc = .ok (.lcmp, 1)) (hd2 : decode cc (pc + 1) = .ok (.ifCond .gt off, 3)) (ht : ((pc + 1 : Nat) : Int) + off = (tgt : Int))
    (kt : y < x → W p l e R s m args below meth c H locs cells slots Q (F0 m tgt ls rest)) (kf : ¬ y < x → W p l e R s m args below meth c H locs cells slots Q (F0 m (pc + 1 + 3) ls rest)) : W p l e R s m args below meth c H locs cells slots Q (F0 m pc ls (.long y :: .long x :: rest)) := by
  refine W.lcmp hx hb hd1 ?_
  refine lv_if_gt hx hb hd2 ht (fun h => kt ?_) (fun h => kf ?_)
  · by_cases q : y < x
    · exact q
    · exfalso
      by_cases h2 : x = y
      · simp [lg_cmp, h2] at h
        try exact absurd h (by decide)
      · simp [lg_cmp, q, h2] at h
        try exact absurd h (by decide)
  · intro q
    exact h (by simp [lg_cmp, q])
theorem nr_cmpne (hx : p.tables.exec = Jvm.exec) (hb : c.code = cc) {x y : Int64} {off : Int} {tgt : Nat} (hd1 : decode cc pc = .ok (.lcmp, 1)) (hd2 : decode cc (pc + 1) = .ok (.ifCond .ne off, 3)) (ht : ((pc + 1 : Nat) : Int) + off = (tgt : Int))
    (kt : x ≠ y → W p l e R s m args below meth c H locs cells slots Q (F0 m tgt ls rest)) (kf : x = y → W p l e R s m args below meth c H locs cells slots Q (F0 m (pc + 1 + 3) ls rest)) : W p l e R s m args below meth c H locs cells slots Q (F0 m pc ls (.long y :: .long x :: rest)) := by
  refine W.lcmp hx hb hd1 ?_
  refine lv_if_ne hx hb hd2 ht (fun h => kt ?_) (fun h => kf ?_)
  · intro q
    subst q
    exact h (by simp [lg_cmp])
  · by_cases h1 : y < x
    · simp [lg_cmp, h1] at h
    · by_cases h2 : x = y
      · exact h2
      · simp [lg_cmp, h1, h2] at h
end MR
/-- the trays f i, f (i + 1) .. of a walk are always the lowest ones: r of them, from u to v -/
def cw_gs (T : Nat) (a b ln d f : Nat → Nat) : Nat → Nat → Nat → Nat → Prop
  | 0, _, u, v => u = v
  | r + 1, i, u, v => f i < T ∧ (∃ w, cw_nx a b (f i) u = some w ∧ d w + ln (f i) = d u ∧ cw_gs T a b ln d f r (i + 1) w v) ∧ ∀ t', t' < f i → ¬ cw_gd a b ln d u t'
theorem cw_gs_of {T : Nat} {a b ln d f : Nat → Nat} : ∀ (r i u v : Nat), cw_gr T a b ln d ((List.range' i r).map f) u v → cw_gs T a b ln d f r i u v
  | 0, _, _, _, h => h
  | r + 1, i, u, v, h => by
    rw [List.range'_succ, List.map_cons] at h
    obtain ⟨h1, ⟨w, h2, h3, h4⟩, h5⟩ := h
    exact ⟨h1, ⟨w, h2, h3, cw_gs_of r (i + 1) w v h4⟩, h5⟩
theorem cw_ds_uniq {T : Nat} {a b ln : Nat → Nat} {v F : Nat} {d d' : Nat → Nat} (h : cw_ds T a b ln v F d) (h' : cw_ds T a b ln v F d') : d = d' := by
  have key : ∀ {d d' : Nat → Nat}, cw_ds T a b ln v F d → cw_ds T a b ln v F d' → ∀ u, d' u ≤ d u := by
    intro d d' h h' u
    by_cases hF : d u < F
    · obtain ⟨p, hp, e⟩ := h.1.2 u hF
      rw [← e]
      exact h'.2 p u hp
    · exact Nat.le_trans (h'.1.1 u) (by omega)
  funext u
  exact Nat.le_antisymm (key h' h u) (key h h' u)
theorem nI_nm1 {k : Nat} (h : k < 2 ^ 31) : ¬ nI k = -1 := by
  intro e
  have h1 := congrArg Int32.toInt e
  rw [nI_toInt h] at h1
  have h2 : (k : Int) = -1 := h1
  omega
section LR
variable {p : Program} {l : Launch} {e : Env} {R : Room} {s : State} {m : MethodId} {args : Array Value} {below : List Frame} {meth : Method} {c : Code} {H : Heap} {locs : List Loc} {cells slots : Nat} {Q : State → Prop}
variable {cc : ByteArray} {pc : Nat} {ls : Array Slot} {rest : List Value}
theorem nr_lmul (hx : p.tables.exec = Jvm.exec) (hb : c.code = cc) {x y : Nat} (hd : decode cc pc = .ok (.lmul, 1))
    (k : W p l e R s m args below meth c H locs cells slots Q (F0 m (pc + 1) ls (.long (lN (x * y)) :: rest))) : W p l e R s m args below meth c H locs cells slots Q (F0 m pc ls (.long (lN y) :: .long (lN x) :: rest)) := by
  refine lv_lmul hx hb hd ?_
  rw [lN_mul]
  exact k
theorem lN_ne0 {y : Nat} (h0 : 0 < y) (hy : y < 2 ^ 63) : ¬ lN y = 0 := fun e => by
  have h : lN y = lN 0 := e
  exact absurd ((pk_lEQ hy (by omega)).mp h) (by omega)
theorem nr_ldiv (hx : p.tables.exec = Jvm.exec) (hb : c.code = cc) {x y : Nat} (h0 : 0 < y) (hy : y < 2 ^ 63) (hxx : x < 2 ^ 63) (hd : decode cc pc = .ok (.ldiv, 1))
    (k : W p l e R s m args below meth c H locs cells slots Q (F0 m (pc + 1) ls (.long (lN (x / y)) :: rest))) : W p l e R s m args below meth c H locs cells slots Q (F0 m pc ls (.long (lN y) :: .long (lN x) :: rest)) := by
  refine lv_ldiv hx hb hd (lN_ne0 h0 hy) ?_
  rw [pk_lDiv hxx h0 hy]
  exact k
theorem nr_lrem (hx : p.tables.exec = Jvm.exec) (hb : c.code = cc) {x y : Nat} (h0 : 0 < y) (hy : y < 2 ^ 63) (hxx : x < 2 ^ 63) (hd : decode cc pc = .ok (.lrem, 1))
    (k : W p l e R s m args below meth c H locs cells slots Q (F0 m (pc + 1) ls (.long (lN (x % y)) :: rest))) : W p l e R s m args below meth c H locs cells slots Q (F0 m pc ls (.long (lN y) :: .long (lN x) :: rest)) := by
  refine lv_lrem hx hb hd (lN_ne0 h0 hy) ?_
  rw [pk_lRem hxx h0 hy]
  exact k
end LR
theorem x64_lt (x : Int32) {k : Nat} (hk : k < 2 ^ 31) : (x.toInt64 < lN k ↔ x.toInt < k) ∧ (lN k < x.toInt64 ↔ (k : Int) < x.toInt) := by
  rw [Int64.lt_iff_toInt_lt, Int64.lt_iff_toInt_lt, lN_toInt hk, Int32.toInt_toInt64]
  exact ⟨Iff.rfl, Iff.rfl⟩
/-- a number is in bounds -/
def inB (x : Int32) (lo hi : Nat) : Prop := ∃ k : Nat, x = nI k ∧ lo ≤ k ∧ k ≤ hi
theorem inB_of {x : Int32} {lo hi : Nat} (hh : hi < 2 ^ 31) (h1 : (lo : Int) ≤ x.toInt) (h2 : x.toInt ≤ hi) : inB x lo hi := by
  refine ⟨x.toInt.toNat, ?_, by omega, by omega⟩
  apply Int32.toInt_inj.mp
  rw [nI_toInt (by omega)]
  omega
theorem inB_toInt {x : Int32} {lo hi : Nat} (hh : hi < 2 ^ 31) (h : inB x lo hi) : (lo : Int) ≤ x.toInt ∧ x.toInt ≤ hi := by
  obtain ⟨k, rfl, h1, h2⟩ := h
  rw [nI_toInt (by omega)]
  omega
