/-! the grammar of a text, over its tokens: modes 0 or, 1 its tail, 2 and, 3 its tail, 4 not, 5 sum, 6 its tail, 7 term, 8 its tail, 9 one -/
abbrev EpV : Type := (Nat → Int32) → Int32
abbrev EpR : Type := (Nat × List Int32 × EpV) ⊕ Nat
def ep_bd (r : Option EpR) (f : Nat → List Int32 → EpV → Option EpR) : Option EpR := match r with
  | some (.inl q) => f q.1 q.2.1 q.2.2
  | some (.inr e) => some (.inr e)
  | none => none
def ep_tr (p : Prop) [Decidable p] : Int32 := if p then nI 1 else nI 0
def ep_pz (Tk : Nat → Nat) : Nat → Nat → Nat → Nat → List Int32 → EpV → Option EpR
  | 0, _, _, _, _, _ => none
  | n + 1, mode, o, k, c, v =>
    if mode = 0 then ep_bd (ep_pz Tk n 2 o k [] v) (fun k1 c1 v1 => ep_pz Tk n 1 o k1 c1 v1)
    else if mode = 1 then (if Tk k = 19 then ep_bd (ep_pz Tk n 2 o (k + 1) [] v) (fun k1 c1 v1 => ep_pz Tk n 1 o k1 (c ++ c1 ++ [-20]) (fun nm => ep_tr (¬ v nm = 0 ∨ ¬ v1 nm = 0))) else some (.inl (k, c, v)))
    else if mode = 2 then ep_bd (ep_pz Tk n 4 o k [] v) (fun k1 c1 v1 => ep_pz Tk n 3 o k1 c1 v1)
    else if mode = 3 then (if Tk k = 20 then ep_bd (ep_pz Tk n 4 o (k + 1) [] v) (fun k1 c1 v1 => ep_pz Tk n 3 o k1 (c ++ c1 ++ [-21]) (fun nm => ep_tr (¬ v nm = 0 ∧ ¬ v1 nm = 0))) else some (.inl (k, c, v)))
    else if mode = 4 then (if Tk k = 21 then (if 5 ≤ o then some (.inr k) else ep_bd (ep_pz Tk n 4 (o + 1) (k + 1) [] v) (fun k1 c1 v1 => some (.inl (k1, c1 ++ [-22], fun nm => ep_tr (v1 nm = 0)))))
      else ep_bd (ep_pz Tk n 5 o k [] v) (fun k1 c1 v1 => if Tk k1 = 60 then ep_bd (ep_pz Tk n 5 o (k1 + 1) [] v) (fun k2 c2 v2 => some (.inl (k2, c1 ++ c2 ++ [-23], fun nm => ep_tr (v1 nm < v2 nm))))
        else if Tk k1 = 61 then ep_bd (ep_pz Tk n 5 o (k1 + 1) [] v) (fun k2 c2 v2 => some (.inl (k2, c1 ++ c2 ++ [-24], fun nm => ep_tr (v1 nm = v2 nm)))) else some (.inl (k1, c1, v1))))
    else if mode = 5 then ep_bd (ep_pz Tk n 7 o k [] v) (fun k1 c1 v1 => ep_pz Tk n 6 o k1 c1 v1)
    else if mode = 6 then (if Tk k = 43 then ep_bd (ep_pz Tk n 7 o (k + 1) [] v) (fun k1 c1 v1 => ep_pz Tk n 6 o k1 (c ++ c1 ++ [-25]) (fun nm => v nm + v1 nm))
      else if Tk k = 45 then ep_bd (ep_pz Tk n 7 o (k + 1) [] v) (fun k1 c1 v1 => ep_pz Tk n 6 o k1 (c ++ c1 ++ [-26]) (fun nm => v nm - v1 nm)) else some (.inl (k, c, v)))
    else if mode = 7 then ep_bd (ep_pz Tk n 9 o k [] v) (fun k1 c1 v1 => ep_pz Tk n 8 o k1 c1 v1)
    else if mode = 8 then (if Tk k = 42 then ep_bd (ep_pz Tk n 9 o (k + 1) [] v) (fun k1 c1 v1 => ep_pz Tk n 8 o k1 (c ++ c1 ++ [-27]) (fun nm => v nm * v1 nm)) else some (.inl (k, c, v)))
    else (if 1000 ≤ Tk k then some (.inl (k + 1, [nI (Tk k - 1000)], fun _ => nI (Tk k - 1000)))
      else if 10 ≤ Tk k ∧ Tk k < 16 then some (.inl (k + 1, [-10 - nI (Tk k - 10)], fun nm => nm (Tk k - 10)))
      else if Tk k = 45 then (if 5 ≤ o then some (.inr k) else ep_bd (ep_pz Tk n 9 (o + 1) (k + 1) [] v) (fun k1 c1 v1 => some (.inl (k1, c1 ++ [-28], fun nm => - v1 nm))))
      else if Tk k = 40 then (if 5 ≤ o then some (.inr k) else ep_bd (ep_pz Tk n 0 (o + 1) (k + 1) [] v) (fun k1 c1 v1 => if Tk k1 = 41 then some (.inl (k1 + 1, c1, v1)) else some (.inr k1)))
      else some (.inr k))
section PZ
variable {Tk : Nat → Nat} {n o k : Nat} {c : List Int32} {v : EpV}
theorem ep_pz_0 : ep_pz Tk (n + 1) 0 o k c v = ep_bd (ep_pz Tk n 2 o k [] v) (fun k1 c1 v1 => ep_pz Tk n 1 o k1 c1 v1) := rfl
theorem ep_pz_1 : ep_pz Tk (n + 1) 1 o k c v = (if Tk k = 19 then ep_bd (ep_pz Tk n 2 o (k + 1) [] v) (fun k1 c1 v1 => ep_pz Tk n 1 o k1 (c ++ c1 ++ [-20]) (fun nm => ep_tr (¬ v nm = 0 ∨ ¬ v1 nm = 0))) else some (.inl (k, c, v))) := rfl
theorem ep_pz_2 : ep_pz Tk (n + 1) 2 o k c v = ep_bd (ep_pz Tk n 4 o k [] v) (fun k1 c1 v1 => ep_pz Tk n 3 o k1 c1 v1) := rfl
theorem ep_pz_3 : ep_pz Tk (n + 1) 3 o k c v = (if Tk k = 20 then ep_bd (ep_pz Tk n 4 o (k + 1) [] v) (fun k1 c1 v1 => ep_pz Tk n 3 o k1 (c ++ c1 ++ [-21]) (fun nm => ep_tr (¬ v nm = 0 ∧ ¬ v1 nm = 0))) else some (.inl (k, c, v))) := rfl
theorem ep_pz_4 : ep_pz Tk (n + 1) 4 o k c v = (if Tk k = 21 then (if 5 ≤ o then some (.inr k) else ep_bd (ep_pz Tk n 4 (o + 1) (k + 1) [] v) (fun k1 c1 v1 => some (.inl (k1, c1 ++ [-22], fun nm => ep_tr (v1 nm = 0)))))
      else ep_bd (ep_pz Tk n 5 o k [] v) (fun k1 c1 v1 => if Tk k1 = 60 then ep_bd (ep_pz Tk n 5 o (k1 + 1) [] v) (fun k2 c2 v2 => some (.inl (k2, c1 ++ c2 ++ [-23], fun nm => ep_tr (v1 nm < v2 nm))))
        else if Tk k1 = 61 then ep_bd (ep_pz Tk n 5 o (k1 + 1) [] v) (fun k2 c2 v2 => some (.inl (k2, c1 ++ c2 ++ [-24], fun nm => ep_tr (v1 nm = v2 nm)))) else some (.inl (k1, c1, v1)))) := rfl
theorem ep_pz_5 : ep_pz Tk (n + 1) 5 o k c v = ep_bd (ep_pz Tk n 7 o k [] v) (fun k1 c1 v1 => ep_pz Tk n 6 o k1 c1 v1) := rfl
theorem ep_pz_6 : ep_pz Tk (n + 1) 6 o k c v = (if Tk k = 43 then ep_bd (ep_pz Tk n 7 o (k + 1) [] v) (fun k1 c1 v1 => ep_pz Tk n 6 o k1 (c ++ c1 ++ [-25]) (fun nm => v nm + v1 nm))
      else if Tk k = 45 then ep_bd (ep_pz Tk n 7 o (k + 1) [] v) (fun k1 c1 v1 => ep_pz Tk n 6 o k1 (c ++ c1 ++ [-26]) (fun nm => v nm - v1 nm)) else some (.inl (k, c, v))) := rfl
theorem ep_pz_7 : ep_pz Tk (n + 1) 7 o k c v = ep_bd (ep_pz Tk n 9 o k [] v) (fun k1 c1 v1 => ep_pz Tk n 8 o k1 c1 v1) := rfl
theorem ep_pz_8 : ep_pz Tk (n + 1) 8 o k c v = (if Tk k = 42 then ep_bd (ep_pz Tk n 9 o (k + 1) [] v) (fun k1 c1 v1 => ep_pz Tk n 8 o k1 (c ++ c1 ++ [-27]) (fun nm => v nm * v1 nm)) else some (.inl (k, c, v))) := rfl
theorem ep_pz_9 : ep_pz Tk (n + 1) 9 o k c v = (if 1000 ≤ Tk k then some (.inl (k + 1, [nI (Tk k - 1000)], fun _ => nI (Tk k - 1000)))
      else if 10 ≤ Tk k ∧ Tk k < 16 then some (.inl (k + 1, [-10 - nI (Tk k - 10)], fun nm => nm (Tk k - 10)))
      else if Tk k = 45 then (if 5 ≤ o then some (.inr k) else ep_bd (ep_pz Tk n 9 (o + 1) (k + 1) [] v) (fun k1 c1 v1 => some (.inl (k1, c1 ++ [-28], fun nm => - v1 nm))))
      else if Tk k = 40 then (if 5 ≤ o then some (.inr k) else ep_bd (ep_pz Tk n 0 (o + 1) (k + 1) [] v) (fun k1 c1 v1 => if Tk k1 = 41 then some (.inl (k1 + 1, c1, v1)) else some (.inr k1)))
      else some (.inr k)) := rfl
end PZ
/-- a bind that comes to something -/
theorem ep_bd_some {r : Option EpR} {f : Nat → List Int32 → EpV → Option EpR} {x : EpR} (h : ep_bd r f = some x) : (∃ k1 c1 v1, r = some (.inl (k1, c1, v1)) ∧ f k1 c1 v1 = some x) ∨ (∃ e, r = some (.inr e) ∧ x = .inr e) := by
  unfold ep_bd at h
  match r, h with
  | some (.inl (k1, c1, v1)), h => exact Or.inl ⟨k1, c1, v1, rfl, h⟩
  | some (.inr e), h => exact Or.inr ⟨e, rfl, (Option.some.inj h).symm⟩
/-- where a parse ends: tokens below N alone are taken, code grows no faster than tokens -/
def ep_pk (N k : Nat) (c : List Int32) (x : EpR) : Prop := match x with
  | .inl q => k ≤ q.1 ∧ q.1 ≤ N ∧ q.2.1.length + (N - q.1) ≤ c.length + (N - k)
  | .inr e => k ≤ e ∧ e ≤ N
theorem ep_pz_pk {Tk : Nat → Nat} {N : Nat} (hT : ∀ k, k ≤ N → 10 ≤ Tk k → k < N) : ∀ (n mode o k : Nat) (c : List Int32) (v : EpV) (x : EpR), k ≤ N → (mode = 1 ∨ mode = 3 ∨ mode = 6 ∨ mode = 8 ∨ c = []) → ep_pz Tk n mode o k c v = some x → ep_pk N k c x := by
  intro n
  induction n with
  | zero => intro mode o k c v x _ _ h; cases h
  | succ n ih =>
    intro mode o k c v x hk hm h
    have tail : ∀ (m1 m2 : Nat), (m2 = 1 ∨ m2 = 3 ∨ m2 = 6 ∨ m2 = 8) → ∀ (t : Nat) (g : EpV → EpV → EpV) (sg : Int32) (x : EpR), 10 ≤ t → Tk k = t → ep_bd (ep_pz Tk n m1 o (k + 1) [] v) (fun k1 c1 v1 => ep_pz Tk n m2 o k1 (c ++ c1 ++ [sg]) (g v v1)) = some x → ep_pk N k c x := by
      intro m1 m2 hm2 t g sg x ht0 ht h
      have hlt := hT k hk (by omega)
      rcases ep_bd_some h with ⟨k1, c1, v1, h1, h2⟩ | ⟨e, h1, rfl⟩
      · have a := ih _ _ _ _ _ _ (by omega) (Or.inr (Or.inr (Or.inr (Or.inr rfl)))) h1
        obtain ⟨a1, a2, a3⟩ := a
        have b := ih _ _ _ _ _ _ a2 (by rcases hm2 with q | q | q | q <;> simp [q]) h2
        simp only [List.length_nil] at a3
        cases x with
        | inl q =>
          obtain ⟨b1, b2, b3⟩ := b
          simp only [List.length_append, List.length_cons, List.length_nil] at b3
          exact ⟨by omega, b2, by omega⟩
        | inr e =>
          obtain ⟨b1, b2⟩ := b
          exact ⟨by omega, b2⟩
      · have a := ih _ _ _ _ _ _ (by omega) (Or.inr (Or.inr (Or.inr (Or.inr rfl)))) h1
        obtain ⟨a1, a2⟩ := a
        exact ⟨by omega, a2⟩
    have first : ∀ (m1 m2 : Nat), (m2 = 1 ∨ m2 = 3 ∨ m2 = 6 ∨ m2 = 8) → c = [] → ∀ x, ep_bd (ep_pz Tk n m1 o k [] v) (fun k1 c1 v1 => ep_pz Tk n m2 o k1 c1 v1) = some x → ep_pk N k c x := by
      intro m1 m2 hm2 hc xx hh
      subst hc
      rcases ep_bd_some hh with ⟨k1, c1, v1, h1, h2⟩ | ⟨e, h1, rfl⟩
      · have a := ih _ _ _ _ _ _ hk (Or.inr (Or.inr (Or.inr (Or.inr rfl)))) h1
        obtain ⟨a1, a2, a3⟩ := a
        simp only [List.length_nil] at a3
        have b := ih _ _ _ _ _ _ a2 (by rcases hm2 with q | q | q | q <;> simp [q]) h2
        cases xx with
        | inl q =>
          obtain ⟨b1, b2, b3⟩ := b
          exact ⟨by omega, b2, by simp only [List.length_nil]; omega⟩
        | inr e =>
          obtain ⟨b1, b2⟩ := b
          exact ⟨by omega, b2⟩
      · exact ih _ _ _ _ _ _ hk (Or.inr (Or.inr (Or.inr (Or.inr rfl)))) h1
    have self : ∀ x, some (Sum.inl (k, c, v) : EpR) = some x → ep_pk N k c x := by
      intro x h
      cases h
      exact ⟨Nat.le_refl _, hk, Nat.le_refl _⟩
    have here : ∀ x, some (Sum.inr k : EpR) = some x → ep_pk N k c x := by
      intro x h
      cases h
      exact ⟨Nat.le_refl _, hk⟩
    unfold ep_pz at h
    by_cases m0 : mode = 0
    · rw [if_pos m0] at h
      exact first 2 1 (by simp) (by rcases hm with q | q | q | q | q <;> first | omega | exact q) x h
    rw [if_neg m0] at h
    by_cases m1 : mode = 1
    · rw [if_pos m1] at h
      by_cases t : Tk k = 19
      · rw [if_pos t] at h
        exact tail 2 1 (by simp) 19 (fun v v1 nm => ep_tr (¬ v nm = 0 ∨ ¬ v1 nm = 0)) _ x (by omega) t h
      · rw [if_neg t] at h; exact self x h
    rw [if_neg m1] at h
    by_cases m2 : mode = 2
    · rw [if_pos m2] at h
      exact first 4 3 (by simp) (by rcases hm with q | q | q | q | q <;> first | omega | exact q) x h
    rw [if_neg m2] at h
    by_cases m3 : mode = 3
    · rw [if_pos m3] at h
      by_cases t : Tk k = 20
      · rw [if_pos t] at h
        exact tail 4 3 (by simp) 20 (fun v v1 nm => ep_tr (¬ v nm = 0 ∧ ¬ v1 nm = 0)) _ x (by omega) t h
      · rw [if_neg t] at h; exact self x h
    rw [if_neg m3] at h
    by_cases m4 : mode = 4
    · rw [if_pos m4] at h
      have hc : c = [] := by rcases hm with q | q | q | q | q <;> first | omega | exact q
      subst hc
      by_cases t : Tk k = 21
      · rw [if_pos t] at h
        by_cases ho : 5 ≤ o
        · rw [if_pos ho] at h; exact here x h
        rw [if_neg ho] at h
        have hlt := hT k hk (by omega)
        rcases ep_bd_some h with ⟨k1, c1, v1, h1, h2⟩ | ⟨e, h1, rfl⟩
        · obtain ⟨a1, a2, a3⟩ := ih _ _ _ _ _ _ (by omega) (Or.inr (Or.inr (Or.inr (Or.inr rfl)))) h1
          cases h2
          simp only [List.length_nil] at a3
          exact ⟨by omega, a2, by simp only [List.length_append, List.length_cons, List.length_nil]; omega⟩
        · obtain ⟨a1, a2⟩ := ih _ _ _ _ _ _ (by omega) (Or.inr (Or.inr (Or.inr (Or.inr rfl)))) h1
          exact ⟨by omega, a2⟩
      · rw [if_neg t] at h
        rcases ep_bd_some h with ⟨k1, c1, v1, h1, h2⟩ | ⟨e, h1, rfl⟩
        · obtain ⟨a1, a2, a3⟩ := ih _ _ _ _ _ _ hk (Or.inr (Or.inr (Or.inr (Or.inr rfl)))) h1
          simp only [List.length_nil] at a3
          have two : ∀ (tt : Nat) (sg : Int32) (g : EpV → EpV), 10 ≤ tt → Tk k1 = tt → ep_bd (ep_pz Tk n 5 o (k1 + 1) [] v) (fun k2 c2 v2 => some (.inl (k2, c1 ++ c2 ++ [sg], g v2))) = some x → ep_pk N k [] x := by
            intro tt sg g ht0 ht h
            have hlt := hT k1 a2 (by omega)
            rcases ep_bd_some h with ⟨k2, c2, v2, h3, h4⟩ | ⟨e, h3, rfl⟩
            · obtain ⟨b1, b2, b3⟩ := ih _ _ _ _ _ _ (by omega) (Or.inr (Or.inr (Or.inr (Or.inr rfl)))) h3
              simp only [List.length_nil] at b3
              cases h4
              exact ⟨by omega, b2, by simp only [List.length_append, List.length_cons, List.length_nil]; omega⟩
            · obtain ⟨b1, b2⟩ := ih _ _ _ _ _ _ (by omega) (Or.inr (Or.inr (Or.inr (Or.inr rfl)))) h3
              exact ⟨by omega, b2⟩
          by_cases t1 : Tk k1 = 60
          · rw [if_pos t1] at h2
            exact two 60 _ (fun v2 nm => ep_tr (v1 nm < v2 nm)) (by omega) t1 h2
          rw [if_neg t1] at h2
          by_cases t2 : Tk k1 = 61
          · rw [if_pos t2] at h2
            exact two 61 _ (fun v2 nm => ep_tr (v1 nm = v2 nm)) (by omega) t2 h2
          rw [if_neg t2] at h2
          cases h2
          exact ⟨a1, a2, by simp only [List.length_nil]; omega⟩
        · exact ih _ _ _ _ _ _ hk (Or.inr (Or.inr (Or.inr (Or.inr rfl)))) h1
    rw [if_neg m4] at h
    by_cases m5 : mode = 5
    · rw [if_pos m5] at h
      exact first 7 6 (by simp) (by rcases hm with q | q | q | q | q <;> first | omega | exact q) x h
    rw [if_neg m5] at h
    by_cases m6 : mode = 6
    · rw [if_pos m6] at h
      by_cases t : Tk k = 43
      · rw [if_pos t] at h
        exact tail 7 6 (by simp) 43 (fun v v1 nm => v nm + v1 nm) _ x (by omega) t h
      rw [if_neg t] at h
      by_cases t : Tk k = 45
      · rw [if_pos t] at h
        exact tail 7 6 (by simp) 45 (fun v v1 nm => v nm - v1 nm) _ x (by omega) t h
      · rw [if_neg t] at h; exact self x h
    rw [if_neg m6] at h
    by_cases m7 : mode = 7
    · rw [if_pos m7] at h
      exact first 9 8 (by simp) (by rcases hm with q | q | q | q | q <;> first | omega | exact q) x h
    rw [if_neg m7] at h
    by_cases m8 : mode = 8
    · rw [if_pos m8] at h
      by_cases t : Tk k = 42
      · rw [if_pos t] at h
        exact tail 9 8 (by simp) 42 (fun v v1 nm => v nm * v1 nm) _ x (by omega) t h
      · rw [if_neg t] at h; exact self x h
    rw [if_neg m8] at h
    have hc : c = [] := by rcases hm with q | q | q | q | q <;> first | omega | exact q
    subst hc
    by_cases t : 1000 ≤ Tk k
    · rw [if_pos t] at h
      have hlt := hT k hk (by omega)
      cases h
      exact ⟨by omega, by omega, by simp only [List.length_cons, List.length_nil]; omega⟩
    rw [if_neg t] at h
    by_cases t : 10 ≤ Tk k ∧ Tk k < 16
    · rw [if_pos t] at h
      have hlt := hT k hk (by omega)
      cases h
      exact ⟨by omega, by omega, by simp only [List.length_cons, List.length_nil]; omega⟩
    rw [if_neg t] at h
    by_cases t : Tk k = 45
    · rw [if_pos t] at h
      by_cases ho : 5 ≤ o
      · rw [if_pos ho] at h; exact here x h
      rw [if_neg ho] at h
      have hlt := hT k hk (by omega)
      rcases ep_bd_some h with ⟨k1, c1, v1, h1, h2⟩ | ⟨e, h1, rfl⟩
      · obtain ⟨a1, a2, a3⟩ := ih _ _ _ _ _ _ (by omega) (Or.inr (Or.inr (Or.inr (Or.inr rfl)))) h1
        cases h2
        simp only [List.length_nil] at a3
        exact ⟨by omega, a2, by simp only [List.length_append, List.length_cons, List.length_nil]; omega⟩
      · obtain ⟨a1, a2⟩ := ih _ _ _ _ _ _ (by omega) (Or.inr (Or.inr (Or.inr (Or.inr rfl)))) h1
        exact ⟨by omega, a2⟩
    rw [if_neg t] at h
    by_cases t : Tk k = 40
    · rw [if_pos t] at h
      by_cases ho : 5 ≤ o
      · rw [if_pos ho] at h; exact here x h
      rw [if_neg ho] at h
      have hlt := hT k hk (by omega)
      rcases ep_bd_some h with ⟨k1, c1, v1, h1, h2⟩ | ⟨e, h1, rfl⟩
      · obtain ⟨a1, a2, a3⟩ := ih _ _ _ _ _ _ (by omega) (Or.inr (Or.inr (Or.inr (Or.inr rfl)))) h1
        simp only [List.length_nil] at a3
        by_cases t1 : Tk k1 = 41
        · rw [if_pos t1] at h2
          have hl1 := hT k1 a2 (by omega)
          cases h2
          exact ⟨by omega, by omega, by simp only [List.length_nil]; omega⟩
        · rw [if_neg t1] at h2
          cases h2
          exact ⟨by omega, a2⟩
      · obtain ⟨a1, a2⟩ := ih _ _ _ _ _ _ (by omega) (Or.inr (Or.inr (Or.inr (Or.inr rfl)))) h1
        exact ⟨by omega, a2⟩
    rw [if_neg t] at h
    exact here x h
