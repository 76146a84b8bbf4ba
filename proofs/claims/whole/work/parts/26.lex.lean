/-! the tokens of a text of n bytes b -/
def ep_rn (p : Nat → Bool) (n : Nat) : Nat → Nat → Nat
  | 0, q => q
  | f + 1, q => if q < n ∧ p q = true then ep_rn p n f (q + 1) else q
def ep_run (p : Nat → Bool) (n q : Nat) : Nat := ep_rn p n (n - q) q
theorem ep_run_go {p : Nat → Bool} {n q : Nat} (h1 : q < n) (h2 : p q = true) : ep_run p n q = ep_run p n (q + 1) := by
  unfold ep_run
  rw [show n - q = (n - (q + 1)) + 1 by omega]
  show (if q < n ∧ p q = true then ep_rn p n (n - (q + 1)) (q + 1) else q) = _
  rw [if_pos ⟨h1, h2⟩]
theorem ep_run_st {p : Nat → Bool} {n q : Nat} (h : ¬ (q < n ∧ p q = true)) : ep_run p n q = q := by
  unfold ep_run
  cases hf : n - q with
  | zero => rfl
  | succ f =>
    show (if q < n ∧ p q = true then ep_rn p n f (q + 1) else q) = _
    rw [if_neg h]
theorem ep_rn_in (p : Nat → Bool) (n : Nat) : ∀ (f q : Nat), n - q = f → q ≤ n → q ≤ ep_rn p n f q ∧ ep_rn p n f q ≤ n ∧ (∀ j, q ≤ j → j < ep_rn p n f q → p j = true) ∧ (ep_rn p n f q < n → p (ep_rn p n f q) = false)
  | 0, q, hf, hq => ⟨Nat.le_refl q, hq, fun j h1 h2 => absurd h2 (by show ¬ j < q; omega), fun h => absurd h (by show ¬ q < n; omega)⟩
  | f + 1, q, hf, hq => by
    by_cases h : q < n ∧ p q = true
    · obtain ⟨a1, a2, a3, a4⟩ := ep_rn_in p n f (q + 1) (by omega) (by omega)
      have e : ep_rn p n (f + 1) q = ep_rn p n f (q + 1) := by
        show (if q < n ∧ p q = true then ep_rn p n f (q + 1) else q) = _
        rw [if_pos h]
      rw [e]
      refine ⟨by omega, a2, fun j h1 h2 => ?_, a4⟩
      by_cases hj : j = q
      · rw [hj]; exact h.2
      · exact a3 j (by omega) h2
    · have e : ep_rn p n (f + 1) q = q := by
        show (if q < n ∧ p q = true then ep_rn p n f (q + 1) else q) = _
        rw [if_neg h]
      rw [e]
      refine ⟨Nat.le_refl q, hq, fun j h1 h2 => by omega, fun h2 => ?_⟩
      cases hp : p q with
      | false => rfl
      | true => exact absurd ⟨h2, hp⟩ h
theorem ep_run_in (p : Nat → Bool) {n q : Nat} (hq : q ≤ n) : q ≤ ep_run p n q ∧ ep_run p n q ≤ n ∧ (∀ j, q ≤ j → j < ep_run p n q → p j = true) ∧ (ep_run p n q < n → p (ep_run p n q) = false) := ep_rn_in p n (n - q) q rfl hq
def ep_bl (x : Nat) : Bool := x == 32 || x == 10
def ep_le (x : Nat) : Bool := decide (97 ≤ x) && decide (x ≤ 122)
def ep_di (x : Nat) : Bool := decide (48 ≤ x) && decide (x ≤ 57)
def ep_sg (x : Nat) : Bool := x == 40 || x == 41 || x == 59 || x == 43 || x == 45 || x == 42 || x == 60 || x == 61
def ep_sk (b : Nat → Nat) (n q : Nat) : Nat := ep_run (fun i => ep_bl (b i)) n q
def ep_lE (b : Nat → Nat) (n q : Nat) : Nat := ep_run (fun i => ep_le (b i)) n q
def ep_dE (b : Nat → Nat) (n q : Nat) : Nat := ep_run (fun i => ep_di (b i)) n q
/-- a word's worth, a numeral's -/
def ep_wv (b : Nat → Nat) (q : Nat) : Nat → Nat
  | 0 => 0
  | t + 1 => 27 * ep_wv b q t + (b (q + t) - 96)
def ep_dv (b : Nat → Nat) (q : Nat) : Nat → Nat
  | 0 => 0
  | t + 1 => 10 * ep_dv b q t + (b (q + t) - 48)
def ep_wn : Nat → Nat
  | 10 => 60134
  | 11 => 2432449
  | 12 => 6271583509
  | 13 => 1492
  | 14 => 388708
  | 15 => 212302449
  | 16 => 204
  | 17 => 12251
  | 18 => 394691
  | 19 => 423
  | 20 => 1111
  | _ => 10631
theorem ep_wdn : ∀ c, c < 22 → 10 ≤ c → ep_wd c = lN (ep_wn c) ∧ ep_wn c < 2 ^ 40 := by decide +kernel
def ep_fc (v : Nat) : Nat := if v = 60134 then 10 else if v = 2432449 then 11 else if v = 6271583509 then 12 else if v = 1492 then 13 else if v = 388708 then 14 else if v = 212302449 then 15 else if v = 204 then 16 else if v = 12251 then 17 else if v = 394691 then 18 else if v = 423 then 19 else if v = 1111 then 20 else if v = 10631 then 21 else 1
theorem ep_fc_c : ∀ c, c < 22 → 10 ≤ c → ep_fc (ep_wn c) = c := by decide +kernel
theorem ep_fc_in (v : Nat) : ep_fc v = 1 ∨ (10 ≤ ep_fc v ∧ ep_fc v < 22 ∧ ep_wn (ep_fc v) = v) := by
  unfold ep_fc
  repeat' split
  all_goals first | exact Or.inl rfl | (refine Or.inr ⟨by decide, by decide, ?_⟩; subst_vars; rfl)
def ep_tok (b : Nat → Nat) (n q : Nat) : Nat := if n ≤ q then 0 else if ep_le (b q) = true then (if 8 < ep_lE b n q - q then 1 else ep_fc (ep_wv b q (ep_lE b n q - q))) else if ep_di (b q) = true then (if 4 < ep_dE b n q - q then 1 else 1000 + ep_dv b q (ep_dE b n q - q)) else if ep_sg (b q) = true then b q else 1
def ep_en (b : Nat → Nat) (n q : Nat) : Nat := if n ≤ q then q else if ep_le (b q) = true then ep_lE b n q else if ep_di (b q) = true then ep_dE b n q else if ep_sg (b q) = true then q + 1 else q
def ep_pl (b : Nat → Nat) (n : Nat) : Nat → Nat
  | 0 => ep_sk b n 0
  | k + 1 => ep_sk b n (ep_en b n (ep_pl b n k))
def ep_tk (b : Nat → Nat) (n k : Nat) : Nat := ep_tok b n (ep_pl b n k)
theorem ep_sk_le (b : Nat → Nat) {n q : Nat} (h : q ≤ n) : q ≤ ep_sk b n q ∧ ep_sk b n q ≤ n := ⟨(ep_run_in _ h).1, (ep_run_in _ h).2.1⟩
theorem ep_sg_in {x : Nat} (h : ep_sg x = true) : x = 40 ∨ x = 41 ∨ x = 59 ∨ x = 43 ∨ x = 45 ∨ x = 42 ∨ x = 60 ∨ x = 61 := by
  simpa [ep_sg, or_assoc] using h
theorem ep_en_le (b : Nat → Nat) {n q : Nat} (h : q ≤ n) : q ≤ ep_en b n q ∧ ep_en b n q ≤ n := by
  unfold ep_en
  by_cases h0 : n ≤ q
  · rw [if_pos h0]; omega
  rw [if_neg h0]
  by_cases h1 : ep_le (b q) = true
  · rw [if_pos h1]; exact ⟨(ep_run_in _ h).1, (ep_run_in _ h).2.1⟩
  rw [if_neg h1]
  by_cases h2 : ep_di (b q) = true
  · rw [if_pos h2]; exact ⟨(ep_run_in _ h).1, (ep_run_in _ h).2.1⟩
  rw [if_neg h2]
  by_cases h3 : ep_sg (b q) = true
  · rw [if_pos h3]; omega
  · rw [if_neg h3]; omega
theorem ep_pl_le (b : Nat → Nat) (n : Nat) : ∀ k, ep_pl b n k ≤ n
  | 0 => (ep_sk_le b (Nat.zero_le n)).2
  | k + 1 => (ep_sk_le b (ep_en_le b (ep_pl_le b n k)).2).2
theorem ep_dv_lt (b : Nat → Nat) (q : Nat) : ∀ t, (∀ i, i < t → b (q + i) ≤ 57) → ep_dv b q t < 10 ^ t
  | 0, _ => by show 0 < 10 ^ 0; decide
  | t + 1, h => by
    have h1 := ep_dv_lt b q t (fun i hi => h i (by omega))
    have h2 := h t (by omega)
    show 10 * ep_dv b q t + (b (q + t) - 48) < 10 ^ (t + 1)
    rw [Nat.pow_succ]
    omega
/-- a token that isn't the last is behind its place -/
theorem ep_tok_en {b : Nat → Nat} {n q : Nat} (hq : q ≤ n) (h : 10 ≤ ep_tok b n q) : q < ep_en b n q := by
  unfold ep_tok at h
  unfold ep_en
  by_cases h0 : n ≤ q
  · rw [if_pos h0] at h; omega
  rw [if_neg h0] at h ⊢
  by_cases h1 : ep_le (b q) = true
  · rw [if_pos h1] at h ⊢
    have h2 : ep_lE b n q = ep_run _ n (q + 1) := ep_run_go (by omega) h1
    have h3 := (ep_run_in (fun i => ep_le (b i)) (show q + 1 ≤ n by omega)).1
    rw [h2]
    omega
  rw [if_neg h1] at h ⊢
  by_cases h1 : ep_di (b q) = true
  · rw [if_pos h1] at h ⊢
    have h2 : ep_dE b n q = ep_run _ n (q + 1) := ep_run_go (by omega) h1
    have h3 := (ep_run_in (fun i => ep_di (b i)) (show q + 1 ≤ n by omega)).1
    rw [h2]
    omega
  rw [if_neg h1] at h ⊢
  by_cases h1 : ep_sg (b q) = true
  · rw [if_pos h1]; omega
  · rw [if_neg h1] at h; omega
theorem ep_tok_lt {b : Nat → Nat} {n q : Nat} (hq : q ≤ n) : ep_tok b n q < 11000 := by
  unfold ep_tok
  by_cases h0 : n ≤ q
  · rw [if_pos h0]; omega
  rw [if_neg h0]
  by_cases h1 : ep_le (b q) = true
  · rw [if_pos h1]
    by_cases h2 : 8 < ep_lE b n q - q
    · rw [if_pos h2]; omega
    · rw [if_neg h2]
      rcases ep_fc_in (ep_wv b q (ep_lE b n q - q)) with h | ⟨_, h, _⟩ <;> omega
  rw [if_neg h1]
  by_cases h2 : ep_di (b q) = true
  · rw [if_pos h2]
    by_cases h3 : 4 < ep_dE b n q - q
    · rw [if_pos h3]; omega
    · rw [if_neg h3]
      have ha := ep_run_in (fun i => ep_di (b i)) hq
      have h4 := ep_dv_lt b q (ep_dE b n q - q) (fun i hi => by
        have := ha.2.2.1 (q + i) (by omega) (by show q + i < ep_dE b n q; omega)
        simp only [ep_di, Bool.and_eq_true, decide_eq_true_eq] at this
        exact this.2)
      have h5 : 10 ^ (ep_dE b n q - q) ≤ 10 ^ 4 := Nat.pow_le_pow_right (by decide) (by omega)
      omega
  rw [if_neg h2]
  by_cases h3 : ep_sg (b q) = true
  · rw [if_pos h3]
    rcases ep_sg_in h3 with h | h | h | h | h | h | h | h <;> omega
  · rw [if_neg h3]; omega
/-- the place of the last token -/
theorem ep_last (b : Nat → Nat) (n : Nat) : ∃ N, N ≤ n ∧ ep_tk b n N < 10 ∧ ∀ k, k < N → 10 ≤ ep_tk b n k := by
  have grow : ∀ k, (∀ j, j < k → 10 ≤ ep_tk b n j) → k ≤ ep_pl b n k := by
    intro k
    induction k with
    | zero => intro _; omega
    | succ k ih =>
      intro h
      have h1 := ih (fun j hj => h j (by omega))
      have h2 := ep_tok_en (ep_pl_le b n k) (h k (by omega))
      have h3 := (ep_sk_le b (ep_en_le b (ep_pl_le b n k)).2).1
      show k + 1 ≤ ep_sk b n (ep_en b n (ep_pl b n k))
      omega
  have ex : ∃ k, ep_tk b n k < 10 := by
    by_cases h : ∀ j, j < n → 10 ≤ ep_tk b n j
    · refine ⟨n, ?_⟩
      have h1 := grow n h
      unfold ep_tk ep_tok
      rw [if_pos h1]
      decide
    · obtain ⟨j, hj⟩ := Classical.not_forall.mp h
      obtain ⟨_, hj2⟩ := Classical.not_imp.mp hj
      exact ⟨j, by omega⟩
  obtain ⟨N, h1, h2⟩ := pk_least (fun k => ep_tk b n k < 10) ex
  refine ⟨N, ?_, h1, fun k hk => Nat.not_lt.mp (h2 k hk)⟩
  have h3 := grow N (fun j hj => Nat.not_lt.mp (h2 j hj))
  have := ep_pl_le b n N
  omega
theorem ep_HT {b : Nat → Nat} {n N : Nat} (hn : n ≤ 160) (hN : N ≤ n) (h1 : ep_tk b n N < 10) : HT (ep_tk b n) (ep_pl b n) N := by
  refine ⟨by omega, fun k hk => ⟨ep_tok_lt (ep_pl_le b n k), by have := ep_pl_le b n k; omega⟩, fun k hk h => ?_⟩
  rcases Nat.lt_or_ge k N with h2 | h2
  · exact h2
  · have e : k = N := by omega
    rw [e] at h
    omega
