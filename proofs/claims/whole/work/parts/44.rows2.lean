section CR2
variable {p : Program} {l : Launch} {e : Env} {R : Room} {s : State} {m : MethodId} {args : Array Value} {below : List Frame} {meth : Method} {c : Code} {H : Heap} {locs : List Loc} {cells slots : Nat} {Q : State → Prop}
variable {cc : ByteArray} {pc : Nat} {ls : Array Slot} {rest : List Value}
theorem nr_cmpge (hx : p.tables.exec = Jvm.exec) (hb : c.code = cc) {x y : Int64} {off : Int} {tgt : Nat} (hd1 : decode cc pc = .ok (.lcmp, 1)) (hd2 : decode cc (pc + 1) = .ok (.ifCond .ge off, 3)) (ht : ((pc + 1 : Nat) : Int) + off = (tgt : Int))
    (kt : ¬ x < y → W p l e R s m args below meth c H locs cells slots Q (F0 m tgt ls rest)) (kf : x < y → W p l e R s m args below meth c H locs cells slots Q (F0 m (pc + 1 + 3) ls rest)) : W p l e R s m args below meth c H locs cells slots Q (F0 m pc ls (.long y :: .long x :: rest)) := by
  refine W.lcmp hx hb hd1 ?_
  have key : x < y ↔ lg_cmp x y < 0 := by
    constructor
    · intro q
      have h1 : ¬ y < x := Int64.lt_asymm q
      have h2 : x ≠ y := fun e => by subst e; exact Int64.lt_irrefl q
      simp [lg_cmp, h1, h2]
    · intro h
      by_cases q : x < y
      · exact q
      · exfalso
        by_cases h1 : y < x
        · simp [lg_cmp, h1] at h
        · by_cases h2 : x = y
          · simp [lg_cmp, h2] at h
          · exact absurd (Int64.lt_of_le_of_ne (Int64.not_lt.mp h1) h2) q
  refine lv_if_ge hx hb hd2 ht (fun h => kt (fun q => ?_)) (fun h => kf (key.mpr (Int32.not_le.mp h)))
  exact absurd (key.mp q) (Int32.not_lt.mpr h)
theorem nr_cmpeq (hx : p.tables.exec = Jvm.exec) (hb : c.code = cc) {x y : Int64} {off : Int} {tgt : Nat} (hd1 : decode cc pc = .ok (.lcmp, 1)) (hd2 : decode cc (pc + 1) = .ok (.ifCond .eq off, 3)) (ht : ((pc + 1 : Nat) : Int) + off = (tgt : Int))
    (kt : x = y → W p l e R s m args below meth c H locs cells slots Q (F0 m tgt ls rest)) (kf : x ≠ y → W p l e R s m args below meth c H locs cells slots Q (F0 m (pc + 1 + 3) ls rest)) : W p l e R s m args below meth c H locs cells slots Q (F0 m pc ls (.long y :: .long x :: rest)) := by
  refine W.lcmp hx hb hd1 ?_
  refine lv_if_eq hx hb hd2 ht (fun h => kt ?_) (fun h => kf ?_)
  · by_cases h1 : y < x
    · simp [lg_cmp, h1] at h
    · by_cases h2 : x = y
      · exact h2
      · simp [lg_cmp, h1, h2] at h
  · intro q
    subst q
    exact h (by simp [lg_cmp])
end CR2
theorem okT_add {n : Nat} {a b le ro : Nat → Nat} (h : okT n a b le ro) {u v L R : Nat} (hn : n < 15) (hu : u < 10) (hv : v < 10) (huv : u ≠ v) (h1 : 1 ≤ L) (h2 : L ≤ 100) (h3 : 1 ≤ R) (h4 : R ≤ 1000) : okT (n + 1) (nr_up a n u) (nr_up b n v) (nr_up le n L) (nr_up ro n R) := by
  obtain ⟨t1, t2, t3, t4, t5, t6, t7⟩ := h
  have up : ∀ (g : Nat → Nat) (x : Nat) (P : Nat → Prop), P x → (∀ j, P (g j)) → ∀ j, P (nr_up g n x j) := fun g x P hx hg j => by
    by_cases e : j = n
    · rw [e, nr_up_s]; exact hx
    · rw [nr_up_n _ _ e]; exact hg j
  refine ⟨by omega, fun t ht => ?_, up a u (· < 10) hu t3, up b v (· < 10) hv t4, up le L (· ≤ 100) h2 t5, up ro R (· ≤ 1000) h4 t6, fun t ht => ?_⟩
  · by_cases e : t = n
    · rw [e, nr_up_s, nr_up_s, nr_up_s]; exact ⟨hu, hv, huv, h1⟩
    · rw [nr_up_n _ _ e, nr_up_n _ _ e, nr_up_n _ _ e]; exact t2 t (by omega)
  · by_cases e : t = n
    · rw [e, nr_up_s]; exact h3
    · rw [nr_up_n _ _ e]; exact t7 t (by omega)
