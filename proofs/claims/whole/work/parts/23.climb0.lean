/-! the climbing, pure: round by round every wrong cable goes up by one -/
theorem cz_occ_bd {wc : Nat → Nat} {wt : Nat → Nat → Nat} {c t : Nat} (h : wc c ≤ 9) : cz_occ wc wt c t ≤ 9 := by
  have h1 : cz_occ wc wt c t ≤ wc c * 1 := cz_sum_bd (fun j _ => by split <;> omega)
  omega
theorem cz_load_bd {C : Nat} {ar wc pk : Nat → Nat} {wt : Nat → Nat → Nat} {t : Nat} (h1 : C ≤ 20) (h2 : ∀ j, ar j ≤ 100) (h3 : ∀ j, wc j ≤ 9) : cz_load C ar wc wt pk t ≤ 18000 := by
  have h4 : cz_load C ar wc wt pk t ≤ C * (9 * 100) := cz_sum_bd (fun c _ => Nat.mul_le_mul (cz_occ_bd (h3 c)) (h2 (pk c)))
  have h5 : C * (9 * 100) ≤ 20 * (9 * 100) := Nat.mul_le_mul_right _ h1
  omega
theorem cz_mg_congr {fi fi' : Nat → Nat} {wt : Nat → Nat → Nat} {c : Nat} : ∀ {k : Nat}, (∀ i, i < k → fi (wt c i) = fi' (wt c i)) → cz_mg fi wt c k = cz_mg fi' wt c k
  | 0, _ => rfl
  | k + 1, h => by
    show min _ _ = min _ _
    rw [cz_mg_congr (fun i hi => h i (Nat.lt_succ_of_lt hi)), h k (Nat.lt_succ_self k)]
theorem cy_right_fi {rt oh cu wc wl pk fi fi' : Nat → Nat} {wt : Nat → Nat → Nat} {lim c : Nat} (h : ∀ i, i < wc c → fi (wt c i) = fi' (wt c i)) : cy_right rt oh cu wc wl pk fi wt lim c = cy_right rt oh cu wc wl pk fi' wt lim c := by
  unfold cy_right cy_carry
  rw [cz_mg_congr h]
section CS
variable (C S : Nat) (ar rt oh cu wc wl rm : Nat → Nat) (wt : Nat → Nat → Nat) (lim : Nat)
/-- whether cable c is right with the sizes p -/
def cs_rg (p : Nat → Nat) (c : Nat) : Bool := cy_right rt oh cu wc wl p (cz_fill C ar wc rm wt p) wt lim c
/-- the sizes behind m rounds -/
def cs_it : Nat → Nat → Nat
  | 0 => fun _ => 0
  | m + 1 => cy_up (cs_rg C ar rt oh cu wc wl rm wt lim (cs_it m)) (cs_it m) C
def cs_good (p : Nat → Nat) : Prop := ∀ c, c < C → cs_rg C ar rt oh cu wc wl rm wt lim p c = true
def cs_stuck (p : Nat → Nat) : Prop := ∃ c, c < C ∧ cs_rg C ar rt oh cu wc wl rm wt lim p c = false ∧ S ≤ p c + 1
/-- m rounds went up -/
def cs_go (m : Nat) : Prop := ∀ j, j < m → ¬ cs_good C ar rt oh cu wc wl rm wt lim (cs_it C ar rt oh cu wc wl rm wt lim j) ∧ ¬ cs_stuck C S ar rt oh cu wc wl rm wt lim (cs_it C ar rt oh cu wc wl rm wt lim j)
end CS
section CT2
variable {C S : Nat} {ar rt oh cu wc wl rm : Nat → Nat} {wt : Nat → Nat → Nat} {lim : Nat}
theorem cs_bound (hS : C = 0 ∨ 0 < S) : ∀ (m : Nat), cs_go C S ar rt oh cu wc wl rm wt lim m → (∀ c, c < C → cs_it C ar rt oh cu wc wl rm wt lim m c < S) ∧ m ≤ cz_sum (cs_it C ar rt oh cu wc wl rm wt lim m) C
  | 0, _ => ⟨fun c hc => by show 0 < S; omega, Nat.zero_le _⟩
  | m + 1, h => by
    obtain ⟨h1, h2⟩ := cs_bound hS m (fun j hj => h j (Nat.lt_succ_of_lt hj))
    obtain ⟨h3, h4⟩ := h m (Nat.lt_succ_self m)
    have key : ∀ c, c < C → cs_it C ar rt oh cu wc wl rm wt lim m c ≤ cs_it C ar rt oh cu wc wl rm wt lim (m + 1) c ∧ cs_it C ar rt oh cu wc wl rm wt lim (m + 1) c < S ∧ (cs_rg C ar rt oh cu wc wl rm wt lim (cs_it C ar rt oh cu wc wl rm wt lim m) c = false → cs_it C ar rt oh cu wc wl rm wt lim m c < cs_it C ar rt oh cu wc wl rm wt lim (m + 1) c) := by
      intro c hc
      show _ ≤ cy_up _ _ _ c ∧ cy_up _ _ _ c < S ∧ (_ → _ < cy_up _ _ _ c)
      unfold cy_up
      split
      · rename_i e
        refine ⟨by omega, ?_, fun _ => by omega⟩
        exact Nat.lt_of_not_le (fun q => h4 ⟨c, hc, e.2, q⟩)
      · rename_i e
        exact ⟨Nat.le_refl _, h1 c hc, fun q => absurd ⟨hc, q⟩ e⟩
    refine ⟨fun c hc => (key c hc).2.1, ?_⟩
    have h5 : ∃ c, c < C ∧ cs_rg C ar rt oh cu wc wl rm wt lim (cs_it C ar rt oh cu wc wl rm wt lim m) c = false := by
      apply Classical.byContradiction
      intro hn
      refine h3 (fun c hc => ?_)
      cases hq : cs_rg C ar rt oh cu wc wl rm wt lim (cs_it C ar rt oh cu wc wl rm wt lim m) c with
      | true => rfl
      | false => exact absurd ⟨c, hc, hq⟩ hn
    obtain ⟨c, hc, hw⟩ := h5
    have h6 := cz_rs_sum (fun c hc => (key c hc).1) ⟨c, hc, (key c hc).2.2 hw⟩
    omega
theorem cs_rounds (hS : C = 0 ∨ 0 < S) (hC : C ≤ 20) (hS6 : S ≤ 6) {m : Nat} (h : cs_go C S ar rt oh cu wc wl rm wt lim m) : m ≤ 100 := by
  obtain ⟨h1, h2⟩ := cs_bound hS m h
  have h3 : cz_sum (cs_it C ar rt oh cu wc wl rm wt lim m) C ≤ C * 5 := cz_sum_bd (fun c hc => by have := h1 c hc; omega)
  omega
/-- the end is one -/
theorem cs_end_uniq {m m' : Nat} (h : cs_go C S ar rt oh cu wc wl rm wt lim m) (h' : cs_go C S ar rt oh cu wc wl rm wt lim m') (e : cs_good C ar rt oh cu wc wl rm wt lim (cs_it C ar rt oh cu wc wl rm wt lim m) ∨ cs_stuck C S ar rt oh cu wc wl rm wt lim (cs_it C ar rt oh cu wc wl rm wt lim m)) (e' : cs_good C ar rt oh cu wc wl rm wt lim (cs_it C ar rt oh cu wc wl rm wt lim m') ∨ cs_stuck C S ar rt oh cu wc wl rm wt lim (cs_it C ar rt oh cu wc wl rm wt lim m')) : m = m' := by
  rcases Nat.lt_trichotomy m m' with q | q | q
  · have := h' m q
    rcases e with e | e
    · exact absurd e this.1
    · exact absurd e this.2
  · exact q
  · have := h m' q
    rcases e' with e | e
    · exact absurd e this.1
    · exact absurd e this.2
theorem cs_not_both {p : Nat → Nat} (h1 : cs_good C ar rt oh cu wc wl rm wt lim p) (h2 : cs_stuck C S ar rt oh cu wc wl rm wt lim p) : False := by
  obtain ⟨c, hc, h3, -⟩ := h2
  rw [h1 c hc] at h3
  cases h3
end CT2
