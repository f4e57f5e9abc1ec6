/-! Distances to the node v: what relaxing tray by tray comes to; the greedy way. F: farther than every way. -/
/-- what is told of d is the length of some walk -/
def cw_sd (T : Nat) (a b ln : Nat → Nat) (v F : Nat) (d : Nat → Nat) : Prop :=
  (∀ u, d u ≤ F) ∧ ∀ u, d u < F → ∃ p, cw_wk T a b p u v ∧ cw_ln ln p = d u
/-- no walk of at most k trays is shorter -/
def cw_hp (T : Nat) (a b ln : Nat → Nat) (v k : Nat) (d : Nat → Nat) : Prop := ∀ p u, p.length ≤ k → cw_wk T a b p u v → d u ≤ cw_ln ln p
/-- d is the distance to v, or F -/
def cw_ds (T : Nat) (a b ln : Nat → Nat) (v F : Nat) (d : Nat → Nat) : Prop :=
  cw_sd T a b ln v F d ∧ ∀ p u, cw_wk T a b p u v → d u ≤ cw_ln ln p
/-- inside a round, trays below t done: g says whether d is as it was at the round's start -/
def cw_in (T : Nat) (a b ln : Nat → Nat) (v F k t : Nat) (g : Bool) (d : Nat → Nat) : Prop :=
  cw_sd T a b ln v F d ∧ d v = 0 ∧ cw_hp T a b ln v k d ∧
  (∀ t', t' < t → ∀ u w, cw_nx a b t' u = some w → ∀ p, p.length ≤ k → cw_wk T a b p w v → d u ≤ ln t' + cw_ln ln p) ∧
  (g = false → ∀ t', t' < t → ∀ u w, cw_nx a b t' u = some w → d u ≤ d w + ln t')
/-- between two rounds -/
def cw_rd (T : Nat) (a b ln : Nat → Nat) (v F k : Nat) (g : Bool) (d : Nat → Nat) : Prop :=
  cw_sd T a b ln v F d ∧ d v = 0 ∧ cw_hp T a b ln v k d ∧ (g = false → ∀ t', t' < T → ∀ u w, cw_nx a b t' u = some w → d u ≤ d w + ln t')
theorem cw_rd_0 {T : Nat} {a b ln : Nat → Nat} {v F : Nat} (hF : 0 < F) : cw_rd T a b ln v F 0 true (nr_up (fun _ => F) v 0) := by
  refine ⟨⟨fun u => ?_, fun u h => ?_⟩, ?_, ?_, fun h => by cases h⟩
  · unfold nr_up; dsimp only; split <;> omega
  · unfold nr_up at h ⊢
    dsimp only at h ⊢
    split at h
    · rename_i e
      refine ⟨[], e, ?_⟩
      rw [if_pos e]; rfl
    · omega
  · unfold nr_up; rw [if_pos rfl]
  · intro p u hp hw
    cases p with
    | nil =>
      have hw : u = v := hw
      unfold nr_up; rw [if_pos hw]; exact Nat.zero_le _
    | cons t p => exact absurd hp (by simp)
theorem cw_in_0 {T : Nat} {a b ln : Nat → Nat} {v F k : Nat} {g : Bool} {d : Nat → Nat} (h : cw_rd T a b ln v F k g d) : cw_in T a b ln v F k 0 false d :=
  ⟨h.1, h.2.1, h.2.2.1, fun t' ht => absurd ht (Nat.not_lt_zero _), fun _ t' ht => absurd ht (Nat.not_lt_zero _)⟩
theorem cw_in_end {T : Nat} {a b ln : Nat → Nat} {v F k : Nat} {g : Bool} {d : Nat → Nat} (h : cw_in T a b ln v F k T g d) : cw_rd T a b ln v F (k + 1) g d := by
  refine ⟨h.1, h.2.1, ?_, h.2.2.2.2⟩
  intro p u hp hw
  cases p with
  | nil =>
    have hw : u = v := hw
    rw [hw, h.2.1]; exact Nat.zero_le _
  | cons t p =>
    obtain ⟨ht, w, hx, hw⟩ := hw
    exact h.2.2.2.1 t ht u w hx p (by simp at hp; omega) hw
/-- the number that a tray of length x from u to w offers, taken where it is less -/
def cw_sh (d : Nat → Nat) (u w x : Nat) : Nat → Nat := if d w + x < d u then nr_up d u (d w + x) else d
theorem cw_sh_le (d : Nat → Nat) (u w x y : Nat) : cw_sh d u w x y ≤ d y := by
  unfold cw_sh
  split
  · unfold nr_up
    split
    · rename_i e; rw [e]; omega
    · exact Nat.le_refl _
  · exact Nat.le_refl _
theorem cw_sh_at (d : Nat → Nat) (u w x : Nat) : cw_sh d u w x u ≤ d w + x := by
  unfold cw_sh
  split
  · unfold nr_up; rw [if_pos rfl]; exact Nat.le_refl _
  · omega
theorem cw_sd_sh {T : Nat} {a b ln : Nat → Nat} {v F t u w : Nat} {d : Nat → Nat} (h : cw_sd T a b ln v F d) (ht : t < T) (hx : cw_nx a b t u = some w) : cw_sd T a b ln v F (cw_sh d u w (ln t)) := by
  unfold cw_sh
  split
  · rename_i hlt
    have h1 := h.1 u
    obtain ⟨p, hp, e⟩ := h.2 w (by omega)
    refine ⟨fun y => ?_, fun y hy => ?_⟩
    · unfold nr_up
      split
      · omega
      · exact h.1 y
    · unfold nr_up at hy ⊢
      split at hy
      · rename_i e2
        rw [if_pos e2, e2]
        refine ⟨t :: p, ⟨ht, w, hx, hp⟩, ?_⟩
        show ln t + cw_ln ln p = d w + ln t
        omega
      · rename_i e2
        rw [if_neg e2]
        exact h.2 y hy
  · exact h
theorem cw_hp_sh {T : Nat} {a b ln : Nat → Nat} {v k u w x : Nat} {d : Nat → Nat} (h : cw_hp T a b ln v k d) : cw_hp T a b ln v k (cw_sh d u w x) :=
  fun p y hp hw => Nat.le_trans (cw_sh_le d u w x y) (h p y hp hw)
theorem cw_nx_a {a b : Nat → Nat} (t : Nat) : cw_nx a b t (a t) = some (b t) := by unfold cw_nx; rw [if_pos rfl]
theorem cw_nx_b {a b : Nat → Nat} {t : Nat} (h : a t ≠ b t) : cw_nx a b t (b t) = some (a t) := by unfold cw_nx; rw [if_neg h, if_pos rfl]
theorem cw_nx_cases {a b : Nat → Nat} {t u w : Nat} (h : cw_nx a b t u = some w) : (u = a t ∧ w = b t) ∨ (u = b t ∧ w = a t) := by
  unfold cw_nx at h
  split at h
  · rename_i e; cases h; exact Or.inl ⟨e.symm, rfl⟩
  · split at h
    · rename_i e; cases h; exact Or.inr ⟨e.symm, rfl⟩
    · cases h
/-- whether the offer was taken -/
def cw_tk (d : Nat → Nat) (u w x : Nat) : Bool := decide (d w + x < d u)
theorem cw_sh_no {d : Nat → Nat} {u w x : Nat} (h : cw_tk d u w x = false) : cw_sh d u w x = d ∧ d u ≤ d w + x := by
  unfold cw_tk at h
  have h : ¬ d w + x < d u := of_decide_eq_false h
  unfold cw_sh
  rw [if_neg h]
  exact ⟨rfl, by omega⟩
/-- one tray, both ways -/
theorem cw_in_s {T : Nat} {a b ln : Nat → Nat} (ok : cw_ok T a b ln) {v F k t : Nat} {g : Bool} {d : Nat → Nat} (ht : t < T) (h : cw_in T a b ln v F k t g d) :
    cw_in T a b ln v F k (t + 1) (g || cw_tk d (a t) (b t) (ln t) || cw_tk (cw_sh d (a t) (b t) (ln t)) (b t) (a t) (ln t)) (cw_sh (cw_sh d (a t) (b t) (ln t)) (b t) (a t) (ln t)) := by
  obtain ⟨h1, h2, h3, h4, h5⟩ := h
  have hne := (ok t ht).2.2.1
  have le1 := cw_sh_le d (a t) (b t) (ln t)
  have le2 := cw_sh_le (cw_sh d (a t) (b t) (ln t)) (b t) (a t) (ln t)
  have s1 := cw_sd_sh h1 ht (cw_nx_a t)
  have s2 := cw_sd_sh s1 ht (cw_nx_b hne)
  refine ⟨s2, ?_, cw_hp_sh (cw_hp_sh h3), ?_, ?_⟩
  · have q1 := le1 v
    have q2 := le2 v
    omega
  · intro t' ht' u w hx p hp hw
    by_cases e : t' = t
    · subst e
      have q3 := h3 p w hp hw
      rcases cw_nx_cases hx with ⟨e1, e2⟩ | ⟨e1, e2⟩
      · subst e1; subst e2
        have q1 := cw_sh_at d (a t') (b t') (ln t')
        have q2 := le2 (a t')
        omega
      · subst e1; subst e2
        have q1 := cw_sh_at (cw_sh d (a t') (b t') (ln t')) (b t') (a t') (ln t')
        have q2 := le1 (a t')
        omega
    · have q := h4 t' (by omega) u w hx p hp hw
      have q1 := le1 u
      have q2 := le2 u
      omega
  · intro hg
    have hg1 : g = false := by
      cases g with
      | false => rfl
      | true => simp at hg
    have hg2 : cw_tk d (a t) (b t) (ln t) = false := by
      cases hq : cw_tk d (a t) (b t) (ln t) with
      | false => rfl
      | true => rw [hq] at hg; simp at hg
    have hg3 : cw_tk (cw_sh d (a t) (b t) (ln t)) (b t) (a t) (ln t) = false := by
      cases hq : cw_tk (cw_sh d (a t) (b t) (ln t)) (b t) (a t) (ln t) with
      | false => rfl
      | true => rw [hq] at hg; simp at hg
    obtain ⟨e1, q1⟩ := cw_sh_no hg2
    obtain ⟨e2, q2⟩ := cw_sh_no hg3
    rw [e2, e1]
    rw [e1] at q2
    intro t' ht' u w hx
    by_cases e : t' = t
    · subst e
      rcases cw_nx_cases hx with ⟨e1, e2⟩ | ⟨e1, e2⟩
      · subst e1; subst e2; exact q1
      · subst e1; subst e2; exact q2
    · exact h5 hg1 t' (by omega) u w hx
theorem cw_rd_calm {T : Nat} {a b ln : Nat → Nat} {v F k : Nat} {d : Nat → Nat} (h : cw_rd T a b ln v F k false d) : cw_ds T a b ln v F d := by
  refine ⟨h.1, ?_⟩
  intro p
  induction p with
  | nil =>
    intro u hw
    have hw : u = v := hw
    rw [hw, h.2.1]; exact Nat.zero_le _
  | cons t p ih =>
    intro u hw
    obtain ⟨ht, w, hx, hw⟩ := hw
    have q1 := ih w hw
    have q2 := h.2.2.2 rfl t ht u w hx
    show d u ≤ ln t + cw_ln ln p
    omega
/-- a least walk has at most nine trays -/
theorem cw_short {T : Nat} {a b ln : Nat → Nat} (ok : cw_ok T a b ln) {v : Nat} (hv : v < 10) : ∀ (n : Nat) (p : List Nat) (u : Nat), cw_ln ln p ≤ n → cw_wk T a b p u v → ∃ q, q.length ≤ 9 ∧ cw_wk T a b q u v ∧ cw_ln ln q ≤ cw_ln ln p := by
  intro n
  induction n with
  | zero =>
    intro p u hn hw
    have h1 := cw_ln_pos ok hw
    exact ⟨p, by omega, hw, Nat.le_refl _⟩
  | succ n ih =>
    intro p u hn hw
    by_cases hl : p.length ≤ 9
    · exact ⟨p, hl, hw, Nat.le_refl _⟩
    · obtain ⟨q, h1, h2⟩ := cw_long ok hw (by omega) hv
      obtain ⟨r, h3, h4, h5⟩ := ih q u (by omega) h1
      exact ⟨r, h3, h4, by omega⟩
theorem cw_rd_10 {T : Nat} {a b ln : Nat → Nat} (ok : cw_ok T a b ln) {v F k : Nat} {g : Bool} {d : Nat → Nat} (hv : v < 10) (hk : 9 ≤ k) (h : cw_rd T a b ln v F k g d) : cw_ds T a b ln v F d := by
  refine ⟨h.1, fun p u hw => ?_⟩
  obtain ⟨q, h1, h2, h3⟩ := cw_short ok hv (cw_ln ln p) p u (Nat.le_refl _) hw
  exact Nat.le_trans (h.2.2.1 q u (by omega) h2) h3
/-! the greedy way -/
/-- tray t leads from u nearer to v by its whole length -/
def cw_gd (a b ln d : Nat → Nat) (u t : Nat) : Prop := ∃ w, cw_nx a b t u = some w ∧ d w + ln t = d u
/-- a shortest walk goes on by such a tray -/
theorem cw_head {T : Nat} {a b ln : Nat → Nat} {v F : Nat} {d : Nat → Nat} (h : cw_ds T a b ln v F d) {t : Nat} {p : List Nat} {u : Nat} (hw : cw_wk T a b (t :: p) u v) (e : cw_ln ln (t :: p) = d u) : t < T ∧ ∃ w, cw_nx a b t u = some w ∧ d w + ln t = d u ∧ cw_wk T a b p w v ∧ cw_ln ln p = d w := by
  have e : ln t + cw_ln ln p = d u := e
  obtain ⟨ht, w, hx, hw⟩ := hw
  have q1 := h.2 p w hw
  refine ⟨ht, w, hx, ?_⟩
  by_cases hF : d w < F
  · obtain ⟨r, hr, er⟩ := h.1.2 w hF
    have q2 := h.2 (t :: r) u ⟨ht, w, hx, hr⟩
    have q2 : d u ≤ ln t + cw_ln ln r := q2
    exact ⟨by omega, hw, by omega⟩
  · have q3 := h.1.1 w
    have q4 := h.1.1 u
    have q5 : d u ≤ F := q4
    by_cases hz : ln t = 0
    · exact ⟨by omega, hw, by omega⟩
    · omega
/-- always the lowest such tray, from u to n -/
def cw_gr (T : Nat) (a b ln d : Nat → Nat) : List Nat → Nat → Nat → Prop
  | [], u, n => u = n
  | t :: p, u, n => t < T ∧ (∃ w, cw_nx a b t u = some w ∧ d w + ln t = d u ∧ cw_gr T a b ln d p w n) ∧ ∀ t', t' < t → ¬ cw_gd a b ln d u t'
theorem cw_gr_wk {T : Nat} {a b ln d : Nat → Nat} : ∀ {p : List Nat} {u n : Nat}, cw_gr T a b ln d p u n → cw_wk T a b p u n ∧ cw_ln ln p + d n = d u
  | [], u, n, h => by
    have h : u = n := h
    exact ⟨h, by show 0 + d n = d u; rw [h]; omega⟩
  | t :: p, u, n, h => by
    obtain ⟨ht, ⟨w, hx, e, h⟩, -⟩ := h
    obtain ⟨h1, h2⟩ := cw_gr_wk h
    exact ⟨⟨ht, w, hx, h1⟩, by show ln t + cw_ln ln p + d n = d u; omega⟩
theorem cw_gr_app {T : Nat} {a b ln d : Nat → Nat} {t w : Nat} : ∀ {p : List Nat} {u n : Nat}, cw_gr T a b ln d p u n → t < T → cw_nx a b t n = some w → d w + ln t = d n → (∀ t', t' < t → ¬ cw_gd a b ln d n t') → cw_gr T a b ln d (p ++ [t]) u w
  | [], u, n, h, ht, hx, e, hl => by
    have h : u = n := h
    subst h
    exact ⟨ht, ⟨w, hx, e, rfl⟩, hl⟩
  | s :: p, u, n, h, ht, hx, e, hl => by
    obtain ⟨hs, ⟨y, hy, e1, h⟩, h2⟩ := h
    exact ⟨hs, ⟨y, hy, e1, cw_gr_app h ht hx e hl⟩, h2⟩
theorem cw_gr_first {T : Nat} {a b ln : Nat → Nat} (ok : cw_ok T a b ln) {v F : Nat} {d : Nat → Nat} (hd : cw_ds T a b ln v F d) : ∀ {p q : List Nat} {u : Nat}, cw_gr T a b ln d p u v → cw_wk T a b q u v → cw_ln ln q = d u → cw_le p q
  | [], _, _, _, _, _ => trivial
  | t :: p, [], u, h, hq, e => by
    obtain ⟨ht, ⟨w, hx, e1, h⟩, -⟩ := h
    have e : 0 = d u := e
    have := (ok t ht).2.2.2
    omega
  | t :: p, s :: q, u, h, hq, e => by
    obtain ⟨ht, ⟨w, hx, e1, h⟩, hl⟩ := h
    obtain ⟨hs, w2, hx2, e2, hq2, e3⟩ := cw_head hd hq e
    by_cases hts : t < s
    · exact Or.inl hts
    · by_cases hst : s < t
      · exact absurd ⟨w2, hx2, e2⟩ (hl s hst)
      · have e4 : t = s := by omega
        subst e4
        rw [hx] at hx2
        cases hx2
        exact Or.inr ⟨rfl, cw_gr_first ok hd h hq2 e3⟩
theorem cw_ds_v {T : Nat} {a b ln : Nat → Nat} {v F : Nat} {d : Nat → Nat} (hd : cw_ds T a b ln v F d) : d v = 0 := by
  have h := hd.2 [] v rfl
  have h : d v ≤ 0 := h
  omega
theorem cw_gr_way {T : Nat} {a b ln : Nat → Nat} (ok : cw_ok T a b ln) {v F : Nat} {d : Nat → Nat} (hd : cw_ds T a b ln v F d) {p : List Nat} {u : Nat} (h : cw_gr T a b ln d p u v) : cw_way T a b ln u v p := by
  obtain ⟨h1, h2⟩ := cw_gr_wk h
  have h3 := cw_ds_v hd
  refine ⟨h1, fun q hq => ⟨?_, fun e => cw_gr_first ok hd h hq (by omega)⟩⟩
  have := hd.2 q u hq
  omega
/-- where the greedy walk isn't at v yet it has at most eight trays, and goes on -/
theorem cw_gr_go {T : Nat} {a b ln : Nat → Nat} (ok : cw_ok T a b ln) {v F : Nat} (hv : v < 10) {d : Nat → Nat} (hd : cw_ds T a b ln v F d) {p : List Nat} {u n : Nat} (h : cw_gr T a b ln d p u n) (hu : d u < F) (hn : n ≠ v) : p.length ≤ 8 ∧ ∃ t, t < T ∧ cw_gd a b ln d n t := by
  obtain ⟨h1, h2⟩ := cw_gr_wk h
  obtain ⟨r, hr, er⟩ := hd.1.2 n (by omega)
  cases r with
  | nil => exact absurd (show n = v from hr) hn
  | cons t r =>
    obtain ⟨ht, w, hx, e, -, -⟩ := cw_head hd hr er
    refine ⟨?_, t, ht, w, hx, e⟩
    have h3 := cw_wk_app h1 hr
    have h4 : cw_ln ln (p ++ t :: r) = d u := by rw [cw_ln_app, er]; omega
    by_cases hl : 10 ≤ (p ++ t :: r).length
    · obtain ⟨q, hq, hlt⟩ := cw_long ok h3 hl hv
      have := hd.2 q u hq
      omega
    · rw [List.length_append, List.length_cons] at hl
      omega
theorem cw_loose {T : Nat} {a b ln : Nat → Nat} (ok : cw_ok T a b ln) {v F M : Nat} (hv : v < 10) (hM : ∀ t, t < T → ln t ≤ M) (hF : 9 * M < F) {d : Nat → Nat} (hd : cw_ds T a b ln v F d) {u : Nat} (h : F ≤ d u) : ¬ ∃ p, cw_wk T a b p u v := by
  rintro ⟨p, hp⟩
  obtain ⟨q, h1, h2, -⟩ := cw_short ok hv (cw_ln ln p) p u (Nat.le_refl _) hp
  have h3 := hd.2 q u h2
  have key : ∀ (q : List Nat) (x y : Nat), cw_wk T a b q x y → cw_ln ln q ≤ q.length * M := by
    intro q
    induction q with
    | nil => intro x y _; exact Nat.zero_le _
    | cons t q ih =>
      intro x y hq
      obtain ⟨ht, w, -, hq⟩ := hq
      have q1 := ih w y hq
      have q2 := hM t ht
      show ln t + cw_ln ln q ≤ (q.length + 1) * M
      rw [Nat.add_mul, Nat.one_mul]; omega
  have h4 := key q u v h2
  have h5 : q.length * M ≤ 9 * M := Nat.mul_le_mul_right M h1
  omega
