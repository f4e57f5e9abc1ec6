/-! Walks over trays: pure rows, no machine. T trays, tray t lies between the nodes a t and b t and is ln t long. -/
/-- the node behind tray t, seen from u -/
def cw_nx (a b : Nat → Nat) (t u : Nat) : Option Nat := if a t = u then some (b t) else if b t = u then some (a t) else none
/-- the trays p lead from u to v -/
def cw_wk (T : Nat) (a b : Nat → Nat) : List Nat → Nat → Nat → Prop
  | [], u, v => u = v
  | t :: p, u, v => t < T ∧ ∃ w, cw_nx a b t u = some w ∧ cw_wk T a b p w v
def cw_ln (ln : Nat → Nat) : List Nat → Nat
  | [] => 0
  | t :: p => ln t + cw_ln ln p
/-- tray by tray, the lower number first -/
def cw_le : List Nat → List Nat → Prop
  | [], _ => True
  | _ :: _, [] => False
  | t :: p, s :: q => t < s ∨ (t = s ∧ cw_le p q)
/-- what the document calls a way -/
def cw_way (T : Nat) (a b ln : Nat → Nat) (u v : Nat) (p : List Nat) : Prop :=
  cw_wk T a b p u v ∧ ∀ q, cw_wk T a b q u v → cw_ln ln p ≤ cw_ln ln q ∧ (cw_ln ln q = cw_ln ln p → cw_le p q)
theorem cw_le_anti : ∀ (p q : List Nat), cw_le p q → cw_le q p → p = q
  | [], [], _, _ => rfl
  | [], _ :: _, _, h => absurd h (fun h => h)
  | _ :: _, [], h, _ => absurd h (fun h => h)
  | t :: p, s :: q, h1, h2 => by
    have h1 : t < s ∨ (t = s ∧ cw_le p q) := h1
    have h2 : s < t ∨ (s = t ∧ cw_le q p) := h2
    rcases h1 with h1 | ⟨e, h1⟩
    · rcases h2 with h2 | ⟨e2, -⟩ <;> omega
    · rcases h2 with h2 | ⟨-, h2⟩
      · omega
      · rw [e, cw_le_anti p q h1 h2]
theorem cw_way_uniq {T : Nat} {a b ln : Nat → Nat} {u v : Nat} {p q : List Nat} (hp : cw_way T a b ln u v p) (hq : cw_way T a b ln u v q) : p = q := by
  have h1 := hp.2 q hq.1
  have h2 := hq.2 p hp.1
  have e : cw_ln ln q = cw_ln ln p := by omega
  exact cw_le_anti p q (h1.2 e) (h2.2 e.symm)
/-- n + 1 numbers below n: two are the same -/
theorem cw_pigeon : ∀ (n : Nat) (f : Nat → Nat), (∀ i, i ≤ n → f i < n) → ∃ i j, i < j ∧ j ≤ n ∧ f i = f j
  | 0, f, h => absurd (h 0 (Nat.le_refl 0)) (Nat.not_lt_zero _)
  | n + 1, f, h => by
    by_cases hc : ∃ i, i ≤ n ∧ f i = f (n + 1)
    · obtain ⟨i, hi, e⟩ := hc
      exact ⟨i, n + 1, by omega, Nat.le_refl _, e⟩
    · have hne : ∀ i, i ≤ n → f i ≠ f (n + 1) := fun i hi e => hc ⟨i, hi, e⟩
      obtain ⟨i, j, h1, h2, h3⟩ := cw_pigeon n (fun i => if f i = n then f (n + 1) else f i) (fun i hi => by
        have h4 := h i (by omega)
        have h5 := h (n + 1) (Nat.le_refl _)
        have h6 := hne i hi
        show (if f i = n then f (n + 1) else f i) < n
        split <;> omega)
      refine ⟨i, j, h1, by omega, ?_⟩
      have h3 : (if f i = n then f (n + 1) else f i) = (if f j = n then f (n + 1) else f j) := h3
      have h6 := hne i (by omega)
      have h7 := hne j h2
      split at h3 <;> split at h3 <;> omega
theorem cw_wk_app {T : Nat} {a b : Nat → Nat} : ∀ {p q : List Nat} {u w v : Nat}, cw_wk T a b p u w → cw_wk T a b q w v → cw_wk T a b (p ++ q) u v
  | [], q, u, w, v, h1, h2 => by
    have h1 : u = w := h1
    rw [h1]; exact h2
  | t :: p, q, u, w, v, h1, h2 => by
    obtain ⟨ht, x, hx, h⟩ := h1
    exact ⟨ht, x, hx, cw_wk_app h h2⟩
theorem cw_wk_split {T : Nat} {a b : Nat → Nat} : ∀ {p q : List Nat} {u v : Nat}, cw_wk T a b (p ++ q) u v → ∃ w, cw_wk T a b p u w ∧ cw_wk T a b q w v
  | [], q, u, v, h => ⟨u, rfl, h⟩
  | t :: p, q, u, v, h => by
    obtain ⟨ht, x, hx, h⟩ := h
    obtain ⟨w, h1, h2⟩ := cw_wk_split h
    exact ⟨w, ⟨ht, x, hx, h1⟩, h2⟩
theorem cw_wk_det {T : Nat} {a b : Nat → Nat} : ∀ {p : List Nat} {u v w : Nat}, cw_wk T a b p u v → cw_wk T a b p u w → v = w
  | [], u, v, w, h1, h2 => Eq.trans (Eq.symm (show u = v from h1)) (show u = w from h2)
  | t :: p, u, v, w, h1, h2 => by
    obtain ⟨-, x, hx, h1⟩ := h1
    obtain ⟨-, y, hy, h2⟩ := h2
    rw [hx] at hy
    cases hy
    exact cw_wk_det h1 h2
theorem cw_ln_app (ln : Nat → Nat) : ∀ (p q : List Nat), cw_ln ln (p ++ q) = cw_ln ln p + cw_ln ln q
  | [], q => by show cw_ln ln q = 0 + cw_ln ln q; omega
  | t :: p, q => by
    show ln t + cw_ln ln (p ++ q) = ln t + cw_ln ln p + cw_ln ln q
    rw [cw_ln_app ln p q]; omega
/-- every tray below T lies between two nodes below 10, and is at least 1 long -/
def cw_ok (T : Nat) (a b ln : Nat → Nat) : Prop := ∀ t, t < T → a t < 10 ∧ b t < 10 ∧ a t ≠ b t ∧ 1 ≤ ln t
theorem cw_nx_lt {T : Nat} {a b ln : Nat → Nat} (ok : cw_ok T a b ln) {t u w : Nat} (ht : t < T) (h : cw_nx a b t u = some w) : u < 10 ∧ w < 10 ∧ u ≠ w := by
  obtain ⟨h1, h2, h3, -⟩ := ok t ht
  unfold cw_nx at h
  split at h
  · cases h; omega
  · split at h
    · cases h; omega
    · cases h
theorem cw_ln_pos {T : Nat} {a b ln : Nat → Nat} (ok : cw_ok T a b ln) : ∀ {p : List Nat} {u v : Nat}, cw_wk T a b p u v → p.length ≤ cw_ln ln p
  | [], _, _, _ => Nat.le_refl 0
  | t :: p, u, v, h => by
    obtain ⟨ht, x, hx, h⟩ := h
    have h1 := cw_ln_pos ok h
    have h2 := (ok t ht).2.2.2
    show p.length + 1 ≤ ln t + cw_ln ln p
    omega
/-- a walk of ten trays or more is not of the least length -/
theorem cw_long {T : Nat} {a b ln : Nat → Nat} (ok : cw_ok T a b ln) {p : List Nat} {u v : Nat} (h : cw_wk T a b p u v) (hl : 10 ≤ p.length) (hv : v < 10) : ∃ q, cw_wk T a b q u v ∧ cw_ln ln q < cw_ln ln p := by
  have key : ∀ i : Nat, ∃ w, cw_wk T a b (p.take i) u w ∧ cw_wk T a b (p.drop i) w v := fun i => by
    have h1 : cw_wk T a b (p.take i ++ p.drop i) u v := by rw [List.take_append_drop]; exact h
    exact cw_wk_split h1
  have small : ∀ i w, cw_wk T a b (p.drop i) w v → w < 10 := by
    intro i w hw
    cases hd : p.drop i with
    | nil => rw [hd] at hw; have hw : w = v := hw; omega
    | cons t q =>
      rw [hd] at hw
      obtain ⟨ht, x, hx, -⟩ := hw
      exact (cw_nx_lt ok ht hx).1
  obtain ⟨i, j, hij, hj, e⟩ := cw_pigeon 10 (fun i => (key i).choose) (fun i _ => small i _ (key i).choose_spec.2)
  have e : (key i).choose = (key j).choose := e
  have h1 := (key i).choose_spec.1
  have h2 := (key j).choose_spec.2
  have h3 := (key i).choose_spec.2
  rw [← e] at h2
  generalize (key i).choose = wi at h1 h2 h3
  have hd : p.drop i = (p.drop i).take (j - i) ++ p.drop j := by
    have e1 : p.drop j = (p.drop i).drop (j - i) := by rw [List.drop_drop]; congr 1; omega
    rw [e1, List.take_append_drop]
  refine ⟨p.take i ++ p.drop j, cw_wk_app h1 h2, ?_⟩
  have e2 : cw_ln ln p = cw_ln ln (p.take i) + cw_ln ln (p.drop i) := by rw [← cw_ln_app, List.take_append_drop]
  have e3 : cw_ln ln (p.drop i) = cw_ln ln ((p.drop i).take (j - i)) + cw_ln ln (p.drop j) := by rw [← cw_ln_app, ← hd]
  rw [hd] at h3
  obtain ⟨w, h4, -⟩ := cw_wk_split h3
  have h5 := cw_ln_pos ok h4
  have h6 : ((p.drop i).take (j - i)).length = j - i := by
    rw [List.length_take, List.length_drop]; omega
  rw [cw_ln_app, e2, e3]
  omega
