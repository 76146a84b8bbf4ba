/-! walkers -/
def s_ws (q0 : EpS) (it : Nat → Int32) (f : Nat) : Nat → EpS × Nat
  | 0 => (q0, 0)
  | k + 1 => ((S_walker (s_ws q0 it f k).1 (it (f + 3 * k)) (it (f + 3 * k + 1)) (it (f + 3 * k + 2))).2, (s_ws q0 it f k).2 + if 0 ≤ (S_walker (s_ws q0 it f k).1 (it (f + 3 * k)) (it (f + 3 * k + 1)) (it (f + 3 * k + 2))).1 then 1 else 0)
def S_walkers (q : EpS) (x y z u : Int32) : Int32 × EpS := match ep_ix x 4 with
  | none => (-2, q)
  | some s => match ep_ix y 3 with
    | none => (-2, q)
    | some o => match ep_ix u 9 with
      | none => (-2, q)
      | some n => if q.2.2.2.1.1 s = 0 then (-11, q) else if ¬ q.2.2.2.1.1 s - 1 = o then (-13, q) else if n = 0 then (nI 0, q) else match ep_ix z (q.2.2.2.1.2.1 s + 1) with
        | none => (-12, q)
        | some f => if f + 3 * n ≤ q.2.2.2.1.2.1 s then (nI (s_ws q (q.2.2.2.1.2.2 s) f n).2, (s_ws q (q.2.2.2.1.2.2 s) f n).1) else (-12, (s_ws q (q.2.2.2.1.2.2 s) f ((q.2.2.2.1.2.1 s - f) / 3)).1)
theorem S_walker_sh (q : EpS) (x y z : Int32) : (S_walker q x y z).2.1 = q.1 ∧ (S_walker q x y z).2.2.2 = q.2.2 := by
  unfold S_walker
  split
  · exact ⟨rfl, rfl⟩
  · split
    · exact ⟨rfl, rfl⟩
    · split
      · exact ⟨rfl, rfl⟩
      · split
        · exact ⟨rfl, rfl⟩
        · split
          · exact ⟨rfl, rfl⟩
          · split
            · exact ⟨rfl, rfl⟩
            · exact ⟨rfl, rfl⟩
theorem s_ws_sh (q : EpS) (it : Nat → Int32) (f : Nat) : ∀ k, (s_ws q it f k).1.1 = q.1 ∧ (s_ws q it f k).1.2.2 = q.2.2 ∧ (s_ws q it f k).2 ≤ k
  | 0 => ⟨rfl, rfl, Nat.le_refl _⟩
  | k + 1 => by
    obtain ⟨h1, h2, h3⟩ := s_ws_sh q it f k
    obtain ⟨k1, k2⟩ := S_walker_sh (s_ws q it f k).1 (it (f + 3 * k)) (it (f + 3 * k + 1)) (it (f + 3 * k + 2))
    refine ⟨k1.trans h1, k2.trans h2, ?_⟩
    show (s_ws q it f k).2 + (if 0 ≤ (S_walker (s_ws q it f k).1 (it (f + 3 * k)) (it (f + 3 * k + 1)) (it (f + 3 * k + 2))).1 then 1 else 0) ≤ k + 1
    split <;> omega
theorem WF_nw {q : EpS} {k m r nu bg : Nat} (h : WF q) (h8 : ¬ q.2.1.1 = 8) (hk : k < 6) (hm : m < q.1.1) (hr : r < q.1.2.1 m) (hu : nu ≤ 9) : WF (s_nw q k m r nu bg) := by
  obtain ⟨w1, w2, w3, w4, w5, w6⟩ := h
  have c8 := w2.1
  refine ⟨w1, ⟨by show q.2.1.1 + 1 ≤ 8; omega, fun w hw => ?_⟩, w3, w4, w5, ⟨w6.1, fun hq => ?_⟩⟩
  · have hw' : w < q.2.1.1 + 1 := hw
    show va_up q.2.1.2.1 q.2.1.1 _ w 0 < 6 ∧ va_up q.2.1.2.1 q.2.1.1 _ w 1 < q.1.1 ∧ va_up q.2.1.2.1 q.2.1.1 _ w 2 < q.1.2.1 (va_up q.2.1.2.1 q.2.1.1 _ w 1) ∧ va_up q.2.1.2.1 q.2.1.1 _ w 3 < 4 ∧ va_up q.2.1.2.1 q.2.1.1 _ w 4 ≤ 9 ∧ ∀ r, r < 10 → va_up q.2.1.2.2.2.2 q.2.1.1 _ w r < 16
    by_cases e : w = q.2.1.1
    · subst e
      rw [va_up_self, va_up_self]
      exact ⟨hk, hm, hr, by decide, hu, fun r _ => by decide⟩
    · rw [va_up_ne _ _ e, va_up_ne _ _ e]
      exact w2.2 w (by omega)
  · obtain ⟨i1, i2, i3, i4, i5⟩ := w6.2 hq
    refine ⟨i1, Nat.le_succ_of_le i2, i3, i4, fun v hv => ?_⟩
    have i2' : q.2.2.2.2.2.2.2.1 ≤ q.2.1.1 := i2
    have hv' : v < q.2.2.2.2.2.2.2.1 := hv
    obtain ⟨j0, j1, j2, j3⟩ := i5 v hv
    have e : ¬ v = q.2.1.1 := by omega
    show _ = va_up q.2.1.2.1 q.2.1.1 _ v 0 ∧ _ = va_up q.2.1.2.1 q.2.1.1 _ v 1 ∧ _ = va_up q.2.1.2.1 q.2.1.1 _ v 4 ∧ va_up q.2.1.2.1 q.2.1.1 _ v 1 < _ ∧ _ < q.1.2.1 (va_up q.2.1.2.1 q.2.1.1 _ v 1) ∧ _
    rw [va_up_ne _ _ e]
    exact ⟨j0, j1, j2, j3⟩
theorem ep_rg_in {x : Int32} {a b j : Nat} (h : ep_rg x a b = some j) (ha : a < 2 ^ 31) (hb : b < 2 ^ 31) : a ≤ j ∧ j ≤ b := by
  unfold ep_rg at h
  by_cases q : x < nI a ∨ nI b < x
  · rw [if_pos q] at h; cases h
  · rw [if_neg q] at h
    cases h
    have h1 : ¬ x < nI a := fun z => q (Or.inl z)
    have h2 : ¬ nI b < x := fun z => q (Or.inr z)
    rw [Int32.lt_iff_toInt_lt, nI_toInt ha] at h1
    rw [Int32.lt_iff_toInt_lt, nI_toInt hb] at h2
    unfold Int32.toNatClampNeg
    omega
theorem WF_walker {q : EpS} (h : WF q) (x y z : Int32) : WF (S_walker q x y z).2 := by
  unfold S_walker
  split
  · exact h
  · rename_i k hk
    split
    · exact h
    · rename_i m hm
      split
      · exact h
      · rename_i r hr
        split
        · exact h
        · rename_i nu hu
          split
          · exact h
          · split
            · exact h
            · rename_i h8
              exact WF_nw h h8 (ep_ix_in hk) (ep_ix_in hm) (ep_ix_in hr) (ep_rg_in hu (by decide) (by decide)).2
theorem WF_ws {q : EpS} (h : WF q) (it : Nat → Int32) (f : Nat) : ∀ k, WF (s_ws q it f k).1
  | 0 => h
  | k + 1 => WF_walker (WF_ws h it f k) _ _ _
