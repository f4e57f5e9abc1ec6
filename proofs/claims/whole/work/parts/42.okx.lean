/-! what a way says of its trays; the object CableSizes -/
theorem cw_gs_later {T : Nat} {a b ln d f : Nat → Nat} : ∀ (r i u v : Nat), cw_gs T a b ln d f r i u v → ∀ j, i ≤ j → j < i + r → ∃ x y, f j < T ∧ cw_nx a b (f j) x = some y ∧ d y + ln (f j) = d x ∧ d x ≤ d u
  | 0, i, u, v, _, j, h1, h2 => by omega
  | r + 1, i, u, v, h, j, h1, h2 => by
    obtain ⟨q1, ⟨w, q2, q3, q4⟩, -⟩ := h
    by_cases e : j = i
    · subst e
      exact ⟨u, w, q1, q2, q3, Nat.le_refl _⟩
    · obtain ⟨x, y, e1, e2, e3, e4⟩ := cw_gs_later r (i + 1) w v q4 j (by omega) (by omega)
      exact ⟨x, y, e1, e2, e3, by omega⟩
theorem cw_gs_apart {T : Nat} {a b ln d f : Nat → Nat} (ok : cw_ok T a b ln) : ∀ (r i u v : Nat), cw_gs T a b ln d f r i u v → ∀ i0 j0, i ≤ i0 → i0 < j0 → j0 < i + r → f i0 ≠ f j0
  | 0, i, u, v, _, i0, j0, h1, h2, h3 => by omega
  | r + 1, i, u, v, h, i0, j0, h1, h2, h3 => by
    obtain ⟨q1, ⟨w, q2, q3, q4⟩, -⟩ := h
    by_cases e : i0 = i
    · subst e
      intro ef
      obtain ⟨x, y, e1, e2, e3, e4⟩ := cw_gs_later r (i0 + 1) w v q4 j0 (by omega) (by omega)
      rw [← ef] at e1 e2 e3
      have hl := (ok _ e1).2.2.2
      rcases cw_nx_cases q2 with ⟨a1, a2⟩ | ⟨a1, a2⟩ <;> rcases cw_nx_cases e2 with ⟨b1, b2⟩ | ⟨b1, b2⟩
      · rw [b1, ← a1] at e4; omega
      · rw [b1, ← a2, b2, ← a1] at e3; omega
      · rw [b1, ← a2, b2, ← a1] at e3; omega
      · rw [b1, ← a1] at e4; omega
    · exact cw_gs_apart ok r (i + 1) w v q4 i0 j0 (by omega) h2 (by omega)
theorem cw_ln_bd {T : Nat} {a b ln : Nat → Nat} {M : Nat} (hM : ∀ j, ln j ≤ M) : ∀ {p : List Nat}, cw_ln ln p ≤ p.length * M
  | [] => Nat.zero_le _
  | t :: p => by
    have q1 := cw_ln_bd (T := T) (a := a) (b := b) hM (p := p)
    have q2 := hM t
    show ln t + cw_ln ln p ≤ (p.length + 1) * M
    rw [Nat.add_mul, Nat.one_mul]; omega
/-- of a way: at most nine trays, at most 900 long, trays that there are, none twice -/
theorem cw_W_facts {n : Nat} {a b le : Nat → Nat} (ok : cw_ok n a b le) (hl : ∀ j, le j ≤ 100) {u v k : Nat} {f : Nat → Nat} {L : Nat} (h : cw_W n a b le u v k f L) : k ≤ 9 ∧ L ≤ 900 ∧ (∀ i, i < k → f i < n) ∧ ∀ i j, i < k → j < k → f i = f j → i = j := by
  obtain ⟨d, hds, ⟨-, rfl, rfl⟩ | ⟨-, h2, h3, h4⟩⟩ := h
  · exact ⟨by omega, by omega, fun i hi => by omega, fun i j hi => by omega⟩
  · have hgs := cw_gs_of (f := f) k 0 u v (by rw [← List.range_eq_range']; exact h3)
    have hv := cw_ds_v hds
    have h5 := (cw_gr_wk h3).2
    have h6 := cw_ln_bd (T := n) (a := a) (b := b) (ln := le) hl (p := (List.range k).map f)
    rw [List.length_map, List.length_range] at h6
    have h7 : k * 100 ≤ 9 * 100 := Nat.mul_le_mul_right _ h2
    refine ⟨h2, by omega, fun i hi => ?_, fun i j hi hj e => ?_⟩
    · obtain ⟨x, y, q, -⟩ := cw_gs_later k 0 u v hgs i (by omega) (by omega)
      exact q
    · rcases Nat.lt_trichotomy i j with q | q | q
      · exact absurd e (cw_gs_apart ok k 0 u v hgs i j (by omega) q (by omega))
      · exact q
      · exact absurd e.symm (cw_gs_apart ok k 0 u v hgs j i (by omega) q (by omega))
/-- the object -/
def pO (o0 z0 y0 : Nat) (q : Nat → Nat) (lim kn ex : Nat) : va_W := [(o0, .inr (4, [.ref (q 1), .ref (q 7), .ref (q 11), .ref z0, .ref y0, .int (nI lim), .int (nI kn), .int (nI ex)]))]
/-- trays, sizes and cables are as they may be -/
def okT (n : Nat) (a b le ro : Nat → Nat) : Prop := n ≤ 15 ∧ cw_ok n a b le ∧ (∀ j, a j < 10) ∧ (∀ j, b j < 10) ∧ (∀ j, le j ≤ 100) ∧ (∀ j, ro j ≤ 1000) ∧ ∀ j, j < n → 1 ≤ ro j
def okC (n : Nat) (a b le : Nat → Nat) (cn : Nat) (no ot wc wl : Nat → Nat) (wt : Nat → Nat → Nat) : Prop := (∀ j, no j < 10) ∧ (∀ j, ot j < 10) ∧ (∀ c, c < cn → no c ≠ ot c) ∧ ∀ c, c < cn → cw_W n a b le (no c) (ot c) (wc c) (wt c) (wl c)
theorem okY_of {n : Nat} {a b le ro : Nat → Nat} {cn : Nat} {no ot wc wl : Nat → Nat} {wt : Nat → Nat → Nat} (h : okT n a b le ro) (h2 : okC n a b le cn no ot wc wl wt) : okY n ro cn wc wt := by
  obtain ⟨t1, t2, t3, t4, t5, t6, t7⟩ := h
  exact ⟨t1, t6, t7, fun c hc => (cw_W_facts t2 t5 (h2.2.2.2 c hc)).2.2.1, fun c hc => (cw_W_facts t2 t5 (h2.2.2.2 c hc)).2.2.2⟩
/-- what is kept of the least sizes -/
def okL (n : Nat) (ro : Nat → Nat) (sn : Nat) (ar rt oh : Nat → Nat) (cn : Nat) (cu wc wl : Nat → Nat) (wt : Nat → Nat → Nat) (lim kn ex : Nat) (pk fi : Nat → Nat) : Prop := kn ≤ 1 ∧ (∀ j, pk j < 6) ∧ (∀ j, fi j ≤ 18000000) ∧ (kn = 1 → ∃ bb, ex = bN bb ∧ cs_ans cn sn ar rt oh cu wc wl ro wt lim bb pk ∧ (bb = true → ∀ t, t < n → fi t = cz_fill cn ar wc ro wt pk t))
