/-! The least sizes: pure rows, no machine. C cables; wc c: how many trays cable c's way has, wt c i: its i-th tray, wl c: its length; p: a size for each cable -/
def cz_sum (f : Nat → Nat) : Nat → Nat
  | 0 => 0
  | n + 1 => cz_sum f n + f n
theorem cz_sum_le {f g : Nat → Nat} : ∀ {n : Nat}, (∀ i, i < n → f i ≤ g i) → cz_sum f n ≤ cz_sum g n
  | 0, _ => Nat.le_refl 0
  | n + 1, h => Nat.add_le_add (cz_sum_le (fun i hi => h i (Nat.lt_succ_of_lt hi))) (h n (Nat.lt_succ_self n))
theorem cz_sum_eq {f g : Nat → Nat} : ∀ {n : Nat}, (∀ i, i < n → f i = g i) → cz_sum f n = cz_sum g n
  | 0, _ => rfl
  | n + 1, h => by
    show cz_sum f n + f n = cz_sum g n + g n
    rw [cz_sum_eq (fun i hi => h i (Nat.lt_succ_of_lt hi)), h n (Nat.lt_succ_self n)]
theorem cz_sum_bd {f : Nat → Nat} {M : Nat} : ∀ {n : Nat}, (∀ i, i < n → f i ≤ M) → cz_sum f n ≤ n * M
  | 0, _ => Nat.zero_le _
  | n + 1, h => by
    have h1 := cz_sum_bd (n := n) (fun i hi => h i (Nat.lt_succ_of_lt hi))
    have h2 := h n (Nat.lt_succ_self n)
    show cz_sum f n + f n ≤ (n + 1) * M
    rw [Nat.add_mul, Nat.one_mul]; omega
/-- the factor of a fill -/
def cz_fac (x : Nat) : Nat := if x ≤ 200 then 1000 else if x ≤ 400 then 800 else if x ≤ 600 then 650 else if x ≤ 800 then 550 else if x ≤ 1000 then 500 else 0
theorem cz_fac_anti {x y : Nat} (h : x ≤ y) : cz_fac y ≤ cz_fac x := by
  unfold cz_fac
  repeat' split
  all_goals omega
theorem cz_fac_le (x : Nat) : cz_fac x ≤ 1000 := by
  unfold cz_fac
  repeat' split
  all_goals omega
section cz
variable (C S : Nat) (ar rt oh cu wc wl rm : Nat → Nat) (wt : Nat → Nat → Nat) (lim : Nat)
/-- how often cable c's way has tray t -/
def cz_occ (c t : Nat) : Nat := cz_sum (fun i => if wt c i = t then 1 else 0) (wc c)
/-- the areas in tray t -/
def cz_load (p : Nat → Nat) (t : Nat) : Nat := cz_sum (fun c => cz_occ wc wt c t * ar (p c)) C
def cz_fill (p : Nat → Nat) (t : Nat) : Nat := cz_load C ar wc wt p t * 1000 / rm t
/-- the least factor on the first k trays of cable c's way -/
def cz_mf (p : Nat → Nat) (c : Nat) : Nat → Nat
  | 0 => 1000
  | k + 1 => min (cz_mf p c k) (cz_fac (cz_fill C ar wc rm wt p (wt c k)))
def cz_carry (p : Nat → Nat) (c : Nat) : Nat := rt (p c) * cz_mf C ar wc rm wt p c (wc c) / 1000
def cz_drop (p : Nat → Nat) (c : Nat) : Nat := cu c * oh (p c) * wl c / 1000
def cz_right (p : Nat → Nat) (c : Nat) : Prop := wc c = 0 ∨ (cu c ≤ cz_carry C ar rt wc rm wt p c ∧ cz_drop oh cu wl p c ≤ lim)
/-- sizes with which all are right -/
def cz_all (p : Nat → Nat) : Prop := ∀ c, c < C → p c < S ∧ cz_right C ar rt oh cu wc wl rm wt lim p c
def cz_least (p : Nat → Nat) : Prop := cz_all C S ar rt oh cu wc wl rm wt lim p ∧ ∀ q, cz_all C S ar rt oh cu wc wl rm wt lim q → ∀ c, c < C → p c ≤ q c
/-- later sizes have the greater area and a rating not less -/
def cz_ord : Prop := ∀ i j, i ≤ j → j < S → ar i ≤ ar j ∧ rt i ≤ rt j
end cz
section czt
variable {C S : Nat} {ar rt oh cu wc wl rm : Nat → Nat} {wt : Nat → Nat → Nat} {lim : Nat}
theorem cz_load_mono (ho : cz_ord S ar rt) {p q : Nat → Nat} (h : ∀ c, c < C → p c ≤ q c ∧ q c < S) (t : Nat) : cz_load C ar wc wt p t ≤ cz_load C ar wc wt q t :=
  cz_sum_le (fun c hc => Nat.mul_le_mul_left _ (ho (p c) (q c) (h c hc).1 (h c hc).2).1)
theorem cz_fill_mono (ho : cz_ord S ar rt) {p q : Nat → Nat} (h : ∀ c, c < C → p c ≤ q c ∧ q c < S) (t : Nat) : cz_fill C ar wc rm wt p t ≤ cz_fill C ar wc rm wt q t :=
  Nat.div_le_div_right (Nat.mul_le_mul_right 1000 (cz_load_mono ho h t))
theorem cz_mf_anti (ho : cz_ord S ar rt) {p q : Nat → Nat} (h : ∀ c, c < C → p c ≤ q c ∧ q c < S) (c : Nat) : ∀ k, cz_mf C ar wc rm wt q c k ≤ cz_mf C ar wc rm wt p c k
  | 0 => Nat.le_refl _
  | k + 1 => by
    have h1 := cz_mf_anti ho h c k
    have h2 := cz_fac_anti (cz_fill_mono (wc := wc) (rm := rm) (wt := wt) ho h (wt c k))
    show min _ _ ≤ min _ _
    omega
/-- a cable that is wrong with p is wrong with the same size in greater sizes of all -/
theorem cz_wrong_up (ho : cz_ord S ar rt) {p q : Nat → Nat} (h : ∀ c, c < C → p c ≤ q c ∧ q c < S) {c : Nat} (hc : c < C) (hp : ¬ cz_right C ar rt oh cu wc wl rm wt lim p c) (hq : cz_right C ar rt oh cu wc wl rm wt lim q c) : p c < q c := by
  by_cases hlt : p c < q c
  · exact hlt
  · have e : q c = p c := by have := (h c hc).1; omega
    refine absurd ?_ hp
    rcases hq with hq | ⟨h1, h2⟩
    · exact Or.inl hq
    · refine Or.inr ⟨Nat.le_trans h1 ?_, ?_⟩
      · unfold cz_carry
        rw [e]
        exact Nat.div_le_div_right (Nat.mul_le_mul_left _ (cz_mf_anti ho h c (wc c)))
      · unfold cz_drop at h2 ⊢
        rw [e] at h2
        exact h2
/-- what holds of p at a round's start: it is below all sizes with which all are right -/
def cz_low (C S : Nat) (ar rt oh cu wc wl rm : Nat → Nat) (wt : Nat → Nat → Nat) (lim : Nat) (p : Nat → Nat) : Prop := (∀ c, c < C → p c < S) ∧ ∀ q, cz_all C S ar rt oh cu wc wl rm wt lim q → ∀ c, c < C → p c ≤ q c
theorem cz_low_0 (hS : C = 0 ∨ 0 < S) : cz_low C S ar rt oh cu wc wl rm wt lim (fun _ => 0) :=
  ⟨fun c hc => by rcases hS with h | h <;> omega, fun q _ c _ => Nat.zero_le _⟩
theorem cz_low_least {p : Nat → Nat} (h : cz_low C S ar rt oh cu wc wl rm wt lim p) (hr : ∀ c, c < C → cz_right C ar rt oh cu wc wl rm wt lim p c) : cz_least C S ar rt oh cu wc wl rm wt lim p :=
  ⟨fun c hc => ⟨h.1 c hc, hr c hc⟩, h.2⟩
/-- inside a raising, cables below k done: p0 at the round's start -/
def cz_rs (C S : Nat) (ar rt oh cu wc wl rm : Nat → Nat) (wt : Nat → Nat → Nat) (lim : Nat) (p0 : Nat → Nat) (k : Nat) (p : Nat → Nat) : Prop :=
  cz_low C S ar rt oh cu wc wl rm wt lim p ∧ (∀ c, k ≤ c → p c = p0 c) ∧ (∀ c, c < k → p0 c ≤ p c ∧ (¬ cz_right C ar rt oh cu wc wl rm wt lim p0 c → p0 c < p c))
theorem cz_rs_0 {p0 : Nat → Nat} (h : cz_low C S ar rt oh cu wc wl rm wt lim p0) : cz_rs C S ar rt oh cu wc wl rm wt lim p0 0 p0 :=
  ⟨h, fun _ _ => rfl, fun c hc => absurd hc (Nat.not_lt_zero _)⟩
theorem cz_rs_right {p0 p : Nat → Nat} {k : Nat} (h : cz_rs C S ar rt oh cu wc wl rm wt lim p0 k p) (hr : cz_right C ar rt oh cu wc wl rm wt lim p0 k) : cz_rs C S ar rt oh cu wc wl rm wt lim p0 (k + 1) p := by
  refine ⟨h.1, fun c hc => h.2.1 c (by omega), fun c hc => ?_⟩
  by_cases e : c = k
  · subst e
    have := h.2.1 c (Nat.le_refl _)
    exact ⟨by omega, fun hn => absurd hr hn⟩
  · exact h.2.2 c (by omega)
theorem cz_rs_next (ho : cz_ord S ar rt) {p0 p : Nat → Nat} {k : Nat} (h0 : cz_low C S ar rt oh cu wc wl rm wt lim p0) (h : cz_rs C S ar rt oh cu wc wl rm wt lim p0 k p) (hk : k < C) (hw : ¬ cz_right C ar rt oh cu wc wl rm wt lim p0 k) :
    (S ≤ p k + 1 → ¬ ∃ q, cz_all C S ar rt oh cu wc wl rm wt lim q) ∧ (p k + 1 < S → cz_rs C S ar rt oh cu wc wl rm wt lim p0 (k + 1) (fun j => if j = k then p k + 1 else p j)) := by
  have e : p k = p0 k := h.2.1 k (Nat.le_refl _)
  have up : ∀ q, cz_all C S ar rt oh cu wc wl rm wt lim q → p0 k < q k := fun q hq =>
    cz_wrong_up ho (fun c hc => ⟨h0.2 q hq c hc, (hq c hc).1⟩) hk hw (hq k hk).2
  refine ⟨fun hS => ?_, fun hS => ⟨⟨fun c hc => ?_, fun q hq c hc => ?_⟩, fun c hc => ?_, fun c hc => ?_⟩⟩
  · rintro ⟨q, hq⟩
    have h1 := up q hq
    have h2 := (hq k hk).1
    omega
  · show (if c = k then p k + 1 else p c) < S
    split
    · exact hS
    · exact h.1.1 c hc
  · show (if c = k then p k + 1 else p c) ≤ q c
    split
    · rename_i e2
      subst e2
      have := up q hq
      omega
    · exact h.1.2 q hq c hc
  · show (if c = k then p k + 1 else p c) = p0 c
    rw [if_neg (by omega)]
    exact h.2.1 c (by omega)
  · show p0 c ≤ (if c = k then p k + 1 else p c) ∧ (_ → p0 c < (if c = k then p k + 1 else p c))
    split
    · rename_i e2
      subst e2
      exact ⟨by omega, fun _ => by omega⟩
    · exact h.2.2 c (by omega)
/-- a raising that comes to its end, where one was wrong: the sum has grown -/
theorem cz_rs_sum {p0 p : Nat → Nat} : ∀ {k : Nat}, (∀ c, c < k → p0 c ≤ p c) → (∃ c, c < k ∧ p0 c < p c) → cz_sum p0 k < cz_sum p k
  | 0, _, ⟨c, hc, _⟩ => absurd hc (Nat.not_lt_zero _)
  | k + 1, h, ⟨c, hc, hlt⟩ => by
    have h1 := h k (Nat.lt_succ_self k)
    have h2 : cz_sum p0 k ≤ cz_sum p k := cz_sum_le (fun i hi => h i (Nat.lt_succ_of_lt hi))
    show cz_sum p0 k + p0 k < cz_sum p k + p k
    by_cases e : c = k
    · subst e; omega
    · have h3 := cz_rs_sum (fun i hi => h i (Nat.lt_succ_of_lt hi)) ⟨c, by omega, hlt⟩
      omega
/-- the least sizes are one -/
theorem cz_least_uniq {p q : Nat → Nat} (hp : cz_least C S ar rt oh cu wc wl rm wt lim p) (hq : cz_least C S ar rt oh cu wc wl rm wt lim q) : ∀ c, c < C → p c = q c :=
  fun c hc => Nat.le_antisymm (hp.2 q hq.1 c hc) (hq.2 p hp.1 c hc)
end czt
