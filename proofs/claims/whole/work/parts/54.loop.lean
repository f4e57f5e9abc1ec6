/-! the law's loop -/
def R_law : String := "CableSizesLaw"
def lw_P (b : Addr) (xs : List Int32) (args : Array Value) (s : State) : Prop := args = #[.ref b] ∧ s.IntsAt b xs ∧ xs.length ≤ 2560 ∧ (Jvm.Cond.and given_1 narrow_1).before args s = true
def lw_Q (_ : Array Value) (s : State) (o : Outcome) (t : State) : Prop := o = .returned (some (.int 1)) ∧ Framed s o t [] 620713 7233965
def lw_Z (below : List Frame) (a : Array Value) (s : State) : State → Prop := fun t => ∃ o, t.status = .running ∧ Ended t below o ∧ lw_Q a s o t
/-- the law's own end, with 1 on the stack, nothing written that was there before, its room as the claim has it -/
theorem lw_ret {p : Program} {l : Launch} {e : Env} {s : State} {m : MethodId} {below : List Frame} {meth : Method} {c : Code} {b : Nat} (hx : p.tables.exec = Jvm.exec) (hb : c.code = code) (hr : meth.sig.returnType = ret) (hlocks : meth.locks = false) {pc : Nat} {H : Heap} {ls : Array Slot} (hdg : decode code pc = .ok (.ireturn, 1)) : W p l e room_1 s m #[Value.ref b] below meth c H [] 620713 7233965 (lw_Z below #[Value.ref b] s) (F0 m pc ls [.int 1]) := by
  intro T hT X
  obtain ⟨fs, hret, hrun, hended, hW, hframe⟩ := X.leave (v := some (.int 1)) (hlocks := hlocks) (fun h => by rw [hr] at h; cases h)
  have hmeth' : T.vm.method? m = some meth := X.method'
  refine ⟨T.setFrames fs, ?_, .returned (some (.int 1)), hrun, hended, rfl, ⟨_, rfl⟩, hW, hframe⟩
  jvm_step X.here [X.here.top, hx, hb, hdg, hmeth', hr, ret, narrow_b1]
  (try refine ⟨rfl, ?_⟩); (try refine ⟨rfl, ?_⟩)
  first | (intro acts; rw [hret _ acts rfl rfl rfl]) | rw [hret _ _ rfl rfl rfl]
  exact Steps.refl _
/-- what holds at the law's entry: the machine, the code, the tables' words (any of lw_tbl by 'hts w (by decide +kernel)'), the script of L ints xs at the cell b, what the Statement gives of the start (any of its parts by flat_of_before) -/
def lw_At (p : Program) (s : State) (m : MethodId) (meth : Method) (c : Code) (b L : Nat) (xs : Nat → Int32) : Prop :=
  p.tables.exec = Jvm.exec ∧ c.code = code ∧ meth.sig.returnType = ret ∧ c.maxLocals = 7 ∧ s.vm.findClass R_law = some m.cls ∧ (∀ w ∈ lw_tbl, w.before #[Value.ref b] s = true) ∧ va_X b L xs s s.heap ∧ b < s.heap.size ∧ meth.locks = false ∧ (Jvm.Cond.and given_1 narrow_1).before #[Value.ref b] s = true
theorem lw_le {L i : Nat} (hL : L ≤ 2560) (hi : i ≤ L) (h : ¬ (nI L - nI 5 < nI i)) : i + 5 ≤ L := by
  rw [Int32.lt_iff_toInt_lt, pk_sub_toInt (by omega) (by omega), nI_toInt (by omega)] at h
  omega
theorem lw_and (y : Int32) : ∃ k : Nat, k < 16 ∧ y &&& nI 15 = nI k := by
  refine ⟨y.toBitVec.toNat % 16, Nat.mod_lt _ (by omega), ?_⟩
  apply Int32.toBitVec_inj.mp
  apply BitVec.eq_of_toNat_eq
  have h1 : (y &&& nI 15).toBitVec = y.toBitVec &&& 15#32 := rfl
  have h2 : (nI (y.toBitVec.toNat % 16)).toBitVec = BitVec.ofNat 32 (y.toBitVec.toNat % 16) := rfl
  have h3 : y.toBitVec.toNat &&& 15 = y.toBitVec.toNat % 16 := Nat.and_two_pow_sub_one_eq_mod y.toBitVec.toNat 4
  rw [h1, h2, BitVec.toNat_and]
  show y.toBitVec.toNat &&& 15 = _
  rw [h3, BitVec.toNat_ofNat]
  omega
set_option maxHeartbeats 4000000 in
set_option maxRecDepth 100000 in
/-- the law's loop, from its head -/
theorem lw_loop {p : Program} {l : Launch} {e : Env} {s : State} {m : MethodId} {below : List Frame} {meth : Method} {c : Code} {b L : Nat} {xs : Nat → Int32} {D : va_G} {cI cG cL cB : ClassId} {o0 g0 oo : Nat} (C0 : lw_C p l s m c b L xs D cI cG cL cB) (hr : meth.sig.returnType = ret) (hlocks : meth.locks = false) :
    ∀ (k i th cells slots : Nat) (f : Nat → Int64) (wx wm : va_W) (H : Heap) (locs : List Loc) (ls : Array Slot), L < i + k → i ≤ L → 5 * cells + 6 * (L - i) ≤ 3103565 → 5 * slots + 36 * (L - i) ≤ 36169825 → lw_I o0 g0 cI cG cB th wx wm → va_P D vwCl ((lA oo cL f :: wx) ++ wm) H → va_D (fun q : Nat => s.heap.size ≤ q) ((lA oo cL f :: wx) ++ wm) → va_S (fun q : Nat => s.heap.size ≤ q) s.heap H locs → lv_has ls 7 [(0, .ref b), (1, .ref o0), (2, .ref g0), (3, .ref oo), (4, .int (nI i))] →
      W p l e room_1 s m #[Value.ref b] below meth c H locs cells slots (lw_Z below #[Value.ref b] s) (F0 m 23 ls []) := by
  intro k
  induction k with
  | zero => intro i th cells slots f wx wm H locs ls hk hiL; exact absurd hk (by omega)
  | succ k ih =>
    intro i th cells slots f wx wm H locs ls hk hiL hc hs hI hP hD hS hl
    obtain ⟨hx, hb, hml, hown, hbw, hX, hbl, hEW, hZ, hl9, hL⟩ := id C0
    have hbA : ¬ (fun q : Nat => s.heap.size ≤ q) b := Nat.not_le.mpr hbl
    refine lv_iload hx hb dL_law_23 (lv_at hl 4 rfl) ?_
    refine lv_aload_n hx hb dL_law_25 rfl (lv_at hl 0 rfl) ?_
    refine va_slen hx hb hX hbl hbA hS dL_law_26 ?_
    refine lv_iconst (v := nI 5) hx hb dL_law_27 (by decide) ?_
    refine lv_isub hx hb dL_law_28 ?_
    refine lv_icmp_gt (tgt := 995) hx hb dL_law_29 (by decide) (fun h => ?_) (fun h => ?_)
    · refine lv_iconst (v := 1) hx hb dL_law_995 (by decide) ?_
      refine va_forget hS.2.2 ?_
      refine W.widen (k := 620713) (n := 7233965) (by omega) (by omega) ?_
      exact lw_ret hx hb hr hlocks dL_law_996
    · have hi : i + 5 ≤ L := lw_le hL hiL h
      have hf : cells + 6 ≤ 620713 ∧ slots + 36 ≤ 7233965 := ⟨by omega, by omega⟩
      have kk : lw_G p l e s m below meth c b D cI cG cL cB o0 g0 oo i (cells + 6) (slots + 36) (lw_Z below #[Value.ref b] s) := by
        intro th f wx wm H locs ls hI hP hD hS hl
        refine lv_iinc (v := nI (i + 5)) (lv' := [(4, .int (nI (i + 5))), (0, .ref b), (1, .ref o0), (2, .ref g0), (3, .ref oo)]) hx hb dL_law_989 hl (k := 4) rfl (nI_add i 5) (by decide) rfl (fun ls hl => ?_)
        refine lv_goto (tgt := 23) hx hb dL_law_992 (by decide) ?_
        exact ih (i + 5) th (cells + 6) (slots + 36) f wx wm _ _ _ (by omega) (by omega) (by omega) (by omega) hI hP hD hS (lv_sub hl [1, 2, 3, 4, 0] rfl)
      refine lv_aload_n hx hb dL_law_32 rfl (lv_at hl 0 rfl) ?_
      refine lv_iload hx hb dL_law_33 (lv_at hl 4 rfl) ?_
      refine va_sld hx hb hX hbl hbA hS (i := nI i) (vp_in_nI (by omega) (by omega)) dL_law_35 ?_
      refine lv_bipush (v := nI 15) hx hb dL_law_36 (by decide) ?_
      refine lv_iand hx hb dL_law_38 ?_
      obtain ⟨j, hj, ej⟩ := lw_and (xs (nI i).toNatClampNeg)
      rw [ej]
      rcases (show j = 0 ∨ j = 1 ∨ j = 2 ∨ j = 3 ∨ j = 4 ∨ j = 5 ∨ j = 6 ∨ j = 7 ∨ j = 8 ∨ j = 9 ∨ j = 10 ∨ j = 11 ∨ j = 12 ∨ j = 13 ∨ j = 14 ∨ j = 15 by omega) with rfl | rfl | rfl | rfl | rfl | rfl | rfl | rfl | rfl | rfl | rfl | rfl | rfl | rfl | rfl | rfl
      · refine lv_tableIn (off := 69) (tgt := 108) hx hb dL_law_39 (by decide) (by decide) (by decide) (by decide) ?_
        exact lc_tray C0 hi hf hI hP hD hS hl kk
      · refine lv_tableIn (off := 161) (tgt := 200) hx hb dL_law_39 (by decide) (by decide) (by decide) (by decide) ?_
        exact lc_size C0 hi hf hI hP hD hS hl kk
      · refine lv_tableIn (off := 241) (tgt := 280) hx hb dL_law_39 (by decide) (by decide) (by decide) (by decide) ?_
        exact lc_cable C0 hi hf hI hP hD hS hl kk
      · refine lv_tableIn (off := 321) (tgt := 360) hx hb dL_law_39 (by decide) (by decide) (by decide) (by decide) ?_
        exact lc_current C0 hi hf hI hP hD hS hl kk
      · refine lv_tableIn (off := 389) (tgt := 428) hx hb dL_law_39 (by decide) (by decide) (by decide) (by decide) ?_
        exact lc_room C0 hi hf hI hP hD hS hl kk
      · refine lv_tableIn (off := 457) (tgt := 496) hx hb dL_law_39 (by decide) (by decide) (by decide) (by decide) ?_
        exact lc_limit C0 hi hf hI hP hD hS hl kk
      · refine lv_tableIn (off := 513) (tgt := 552) hx hb dL_law_39 (by decide) (by decide) (by decide) (by decide) ?_
        exact lc_way C0 hi hf hI hP hD hS hl kk
      · refine lv_tableIn (off := 569) (tgt := 608) hx hb dL_law_39 (by decide) (by decide) (by decide) (by decide) ?_
        exact lc_way2 C0 hi hf hI hP hD hS hl kk
      · refine lv_tableIn (off := 637) (tgt := 676) hx hb dL_law_39 (by decide) (by decide) (by decide) (by decide) ?_
        exact lc_settled C0 hi hf hI hP hD hS hl kk
      · refine lv_tableIn (off := 650) (tgt := 689) hx hb dL_law_39 (by decide) (by decide) (by decide) (by decide) ?_
        exact lc_chosen C0 hi hf hI hP hD hS hl kk
      · refine lv_tableIn (off := 706) (tgt := 745) hx hb dL_law_39 (by decide) (by decide) (by decide) (by decide) ?_
        exact lc_told C0 hi hf hI hP hD hS hl kk
      · refine lv_tableIn (off := 774) (tgt := 813) hx hb dL_law_39 (by decide) (by decide) (by decide) (by decide) ?_
        exact lc_cableAt C0 hi hf hI hP hD hS hl kk
      · refine lv_tableIn (off := 842) (tgt := 881) hx hb dL_law_39 (by decide) (by decide) (by decide) (by decide) ?_
        exact lc_copper C0 hi hf hI hP hD hS hl kk
      · refine lv_tableIn (off := 855) (tgt := 894) hx hb dL_law_39 (by decide) (by decide) (by decide) (by decide) ?_
        exact lc_right C0 hi hf hI hP hD hS hl kk
      · refine lv_tableOut (tgt := 989) hx hb dL_law_39 (Or.inr (by decide)) (by decide) ?_
        refine W.widen (k := cells + 6) (n := slots + 36) (by omega) (by omega) ?_
        exact kk th f wx wm _ _ _ hI hP hD hS hl
      · refine lv_tableOut (tgt := 989) hx hb dL_law_39 (Or.inr (by decide)) (by decide) ?_
        refine W.widen (k := cells + 6) (n := slots + 36) (by omega) (by omega) ?_
        exact kk th f wx wm _ _ _ hI hP hD hS hl
