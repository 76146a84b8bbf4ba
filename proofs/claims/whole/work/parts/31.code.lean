/-! what a parse prints runs to what it says, in a stack of 64 -/
def EpG (D : Nat) (c : List Int32) (v : EpV) : Prop := ∀ (nm s : Nat → Int32) (t : Nat), t + D ≤ 64 → ∃ s2, ep_xs nm c s t = some (s2, t + 1) ∧ s2 t = v nm ∧ ∀ j, j < t → s2 j = s j
theorem EpG.up {D D2 : Nat} {c : List Int32} {v : EpV} (h : EpG D c v) (hd : D ≤ D2) : EpG D2 c v := fun nm s t ht => h nm s t (by omega)
theorem EpG.two {D D1 : Nat} {c c1 : List Int32} {v v1 : EpV} (it : Int32) (g : Int32 → Int32 → Int32) (h : EpG D c v) (h1 : EpG D1 c1 v1) (hd : D1 + 1 ≤ D) (h0 : it ≤ -20) (h2 : ¬ it = -22) (h3 : ¬ it = -28) (hg : ∀ a b, ep_jn it a b = g a b) : EpG D (c ++ c1 ++ [it]) (fun nm => g (v nm) (v1 nm)) := by
  intro nm s t ht
  obtain ⟨s2, a1, a2, a3⟩ := h nm s t ht
  obtain ⟨s3, b1, b2, b3⟩ := h1 nm s2 (t + 1) (by omega)
  refine ⟨upd s3 t (g (v nm) (v1 nm)), ?_, by simp [upd], fun j hj => ?_⟩
  · rw [ep_xs_app, ep_xs_app, a1]
    show ((ep_xs nm c1 s2 (t + 1)).bind fun q => ep_xs nm [it] q.1 q.2) = _
    rw [b1]
    show (ep_s1 nm it s3 (t + 1 + 1)).bind _ = _
    have e : ep_s1 nm it s3 (t + 1 + 1) = some (upd s3 t (g (v nm) (v1 nm)), t + 1) := by
      unfold ep_s1
      rw [if_pos h0, if_neg (by simp [h2, h3]), if_pos (by omega)]
      rw [show t + 1 + 1 - 2 = t by omega, show t + 1 + 1 - 1 = t + 1 by omega, b2, b3 t (by omega), a2, hg]
    rw [e]
    rfl
  · rw [show upd s3 t (g (v nm) (v1 nm)) j = s3 j by simp [upd, Nat.ne_of_lt hj], b3 j (by omega), a3 j hj]
theorem EpG.one {D : Nat} {c : List Int32} {v : EpV} (it : Int32) (g : Int32 → Int32) (h : EpG D c v) (h0 : it ≤ -20) (h2 : it = -22 ∨ it = -28) (hg : ∀ a, (if it = -28 then - a else ep_tr (a = 0)) = g a) : EpG D (c ++ [it]) (fun nm => g (v nm)) := by
  intro nm s t ht
  obtain ⟨s2, a1, a2, a3⟩ := h nm s t ht
  refine ⟨upd s2 t (g (v nm)), ?_, by simp [upd], fun j hj => ?_⟩
  · rw [ep_xs_app, a1]
    show (ep_s1 nm it s2 (t + 1)).bind _ = _
    have e : ep_s1 nm it s2 (t + 1) = some (upd s2 t (g (v nm)), t + 1) := by
      unfold ep_s1
      rw [if_pos h0, if_pos h2, if_pos (by omega), show t + 1 - 1 = t by omega, a2, hg]
    rw [e]
    rfl
  · rw [show upd s2 t (g (v nm)) j = s2 j by simp [upd, Nat.ne_of_lt hj], a3 j hj]
theorem EpG.lit {D a : Nat} (ha : a < 2 ^ 31) (hD : 1 ≤ D) : EpG D [nI a] (fun _ => nI a) := by
  intro nm s t ht
  refine ⟨upd s t (nI a), ?_, by simp [upd], fun j hj => by simp [upd, Nat.ne_of_lt hj]⟩
  show (ep_s1 nm (nI a) s t).bind _ = _
  have h0 : ¬ nI a < 0 := nI_pos ha
  have h1 : ¬ nI a ≤ -20 := fun q => h0 (by
    rw [Int32.le_iff_toInt_le, show (-20 : Int32).toInt = -20 by decide] at q
    rw [Int32.lt_iff_toInt_lt, show (0 : Int32).toInt = 0 by decide]
    omega)
  have e : ep_s1 nm (nI a) s t = some (upd s t (nI a), t + 1) := by
    unfold ep_s1
    rw [if_neg h1, if_pos (by omega), if_neg h0]
  rw [e]
  rfl
theorem ep_nm6 : ∀ j, j < 6 → ¬ (-10 - nI j) ≤ -20 ∧ (-10 - nI j) < 0 ∧ -10 - (-10 - nI j) = nI j := by decide +kernel
theorem EpG.nam {D j : Nat} (hj : j < 6) (hD : 1 ≤ D) : EpG D [-10 - nI j] (fun nm => nm j) := by
  intro nm s t ht
  refine ⟨upd s t (nm j), ?_, by simp [upd], fun j hj => by simp [upd, Nat.ne_of_lt hj]⟩
  obtain ⟨a1, a2, a3⟩ := ep_nm6 j hj
  show (ep_s1 nm (-10 - nI j) s t).bind _ = _
  have e : ep_s1 nm (-10 - nI j) s t = some (upd s t (nm j), t + 1) := by
    unfold ep_s1
    rw [if_neg a1, if_pos (by omega), if_pos a2, a3, ep_ix_nI hj (by decide)]
  rw [e]
  rfl
def ep_D (mode o : Nat) : Nat := 5 * (5 - o) + (if mode ≤ 1 then 6 else if mode ≤ 3 then 5 else if mode ≤ 4 then 4 else if mode ≤ 6 then 3 else if mode ≤ 8 then 2 else 1)
theorem ep_pz_G {Tk : Nat → Nat} (hT : ∀ k, Tk k < 11000) : ∀ (n mode o k : Nat) (c : List Int32) (v : EpV) (k1 : Nat) (c1 : List Int32) (v1 : EpV), o ≤ 5 → mode ≤ 9 → (mode = 1 ∨ mode = 3 ∨ mode = 6 ∨ mode = 8 → EpG (ep_D mode o) c v) → ep_pz Tk n mode o k c v = some (.inl (k1, c1, v1)) → EpG (ep_D mode o) c1 v1 := by
  intro n
  induction n with
  | zero => intro mode o k c v k1 c1 v1 _ _ _ h; cases h
  | succ n ih =>
    intro mode o k c v k1 c1 v1 ho h9 hm h
    have nn : ∀ (m o k : Nat) (v : EpV) (k1 : Nat) (c1 : List Int32) (v1 : EpV), o ≤ 5 → m ≤ 9 → (m = 0 ∨ m = 2 ∨ m = 4 ∨ m = 5 ∨ m = 7 ∨ m = 9) → ep_pz Tk n m o k [] v = some (.inl (k1, c1, v1)) → EpG (ep_D m o) c1 v1 := fun m o k v k1 c1 v1 a b e f => ih m o k [] v k1 c1 v1 a b (fun q => by omega) f
    have inl : ∀ (r : Option EpR) (f : Nat → List Int32 → EpV → Option EpR) (q : Nat × List Int32 × EpV), ep_bd r f = some (.inl q) → ∃ k1 c1 v1, r = some (.inl (k1, c1, v1)) ∧ f k1 c1 v1 = some (.inl q) := by
      intro r f q hq
      rcases ep_bd_some hq with z | ⟨e, _, z⟩
      · exact z
      · cases z
    have first : ∀ (m1 m2 D2 : Nat), m1 ≤ 9 → (m1 = 0 ∨ m1 = 2 ∨ m1 = 4 ∨ m1 = 5 ∨ m1 = 7 ∨ m1 = 9) → m2 ≤ 9 → ep_D m1 o ≤ ep_D m2 o → ep_D m2 o = D2 → ep_bd (ep_pz Tk n m1 o k [] v) (fun k1 c1 v1 => ep_pz Tk n m2 o k1 c1 v1) = some (.inl (k1, c1, v1)) → EpG D2 c1 v1 := by
      intro m1 m2 D2 hm1 hm1b hm2 hD hD2 hh
      obtain ⟨k2, c2, v2, e1, e2⟩ := inl _ _ _ hh
      rw [← hD2]
      exact ih _ _ _ _ _ _ _ _ ho hm2 (fun _ => (nn _ _ _ _ _ _ _ ho hm1 hm1b e1).up hD) e2
    have tail : ∀ (m1 m2 : Nat) (it : Int32) (g : Int32 → Int32 → Int32), m1 ≤ 9 → (m1 = 0 ∨ m1 = 2 ∨ m1 = 4 ∨ m1 = 5 ∨ m1 = 7 ∨ m1 = 9) → mode = m2 → (mode = 1 ∨ mode = 3 ∨ mode = 6 ∨ mode = 8) → ep_D m1 o + 1 ≤ ep_D m2 o → it ≤ -20 → ¬ it = -22 → ¬ it = -28 → (∀ a b, ep_jn it a b = g a b) → ep_bd (ep_pz Tk n m1 o (k + 1) [] v) (fun k1 c1 v1 => ep_pz Tk n m2 o k1 (c ++ c1 ++ [it]) (fun nm => g (v nm) (v1 nm))) = some (.inl (k1, c1, v1)) → EpG (ep_D mode o) c1 v1 := by
      intro m1 m2 it g hm1 hm1b hm2 hmm hD i1 i2 i3 hg hh
      obtain ⟨k2, c2, v2, e1, e2⟩ := inl _ _ _ hh
      subst hm2
      exact ih _ _ _ _ _ _ _ _ ho h9 (fun _ => EpG.two it g (hm hmm) (nn _ _ _ _ _ _ _ ho hm1 hm1b e1) hD i1 i2 i3 hg) e2
    have self : (mode = 1 ∨ mode = 3 ∨ mode = 6 ∨ mode = 8) → some (Sum.inl (k, c, v) : EpR) = some (.inl (k1, c1, v1)) → EpG (ep_D mode o) c1 v1 := by
      intro hmm e
      cases e
      exact hm hmm
    rcases (show mode = 0 ∨ mode = 1 ∨ mode = 2 ∨ mode = 3 ∨ mode = 4 ∨ mode = 5 ∨ mode = 6 ∨ mode = 7 ∨ mode = 8 ∨ mode = 9 by omega) with rfl | rfl | rfl | rfl | rfl | rfl | rfl | rfl | rfl | rfl
    · rw [ep_pz_0] at h
      exact first 2 1 _ (by omega) (by omega) (by omega) (by simp [ep_D]) (by simp [ep_D]) h
    · rw [ep_pz_1] at h
      by_cases t : Tk k = 19
      · rw [if_pos t] at h
        exact tail 2 1 (-20) (fun a b => ep_tr (¬ a = 0 ∨ ¬ b = 0)) (by omega) (by omega) rfl (by omega) (by simp [ep_D]) (by decide) (by decide) (by decide) (fun a b => by simp [ep_jn]) h
      · rw [if_neg t] at h; exact self (by omega) h
    · rw [ep_pz_2] at h
      exact first 4 3 _ (by omega) (by omega) (by omega) (by simp [ep_D]) (by simp [ep_D]) h
    · rw [ep_pz_3] at h
      by_cases t : Tk k = 20
      · rw [if_pos t] at h
        exact tail 4 3 (-21) (fun a b => ep_tr (¬ a = 0 ∧ ¬ b = 0)) (by omega) (by omega) rfl (by omega) (by simp [ep_D]) (by decide) (by decide) (by decide) (fun a b => by simp [ep_jn]) h
      · rw [if_neg t] at h; exact self (by omega) h
    · rw [ep_pz_4] at h
      by_cases t : Tk k = 21
      · rw [if_pos t] at h
        by_cases o5 : 5 ≤ o
        · rw [if_pos o5] at h; cases h
        rw [if_neg o5] at h
        obtain ⟨k2, c2, v2, e1, e2⟩ := inl _ _ _ h
        cases e2
        have := nn _ _ _ _ _ _ _ (show o + 1 ≤ 5 by omega) (by omega) (by omega) e1
        exact EpG.one (-22) (fun a => ep_tr (a = 0)) (this.up (by simp [ep_D]; omega)) (by decide) (Or.inl rfl) (fun a => by rw [if_neg (by decide)])
      rw [if_neg t] at h
      obtain ⟨k2, c2, v2, e1, e2⟩ := inl _ _ _ h
      have g2 := nn _ _ _ _ _ _ _ ho (by omega) (by omega) e1
      by_cases t1 : Tk k2 = 60
      · rw [if_pos t1] at e2
        obtain ⟨k3, c3, v3, e3, e4⟩ := inl _ _ _ e2
        cases e4
        have g3 := nn _ _ _ _ _ _ _ ho (by omega) (by omega) e3
        exact EpG.two (-23) (fun a b => ep_tr (a < b)) (g2.up (by simp [ep_D])) g3 (by simp [ep_D]) (by decide) (by decide) (by decide) (fun a b => by simp [ep_jn])
      rw [if_neg t1] at e2
      by_cases t2 : Tk k2 = 61
      · rw [if_pos t2] at e2
        obtain ⟨k3, c3, v3, e3, e4⟩ := inl _ _ _ e2
        cases e4
        have g3 := nn _ _ _ _ _ _ _ ho (by omega) (by omega) e3
        exact EpG.two (-24) (fun a b => ep_tr (a = b)) (g2.up (by simp [ep_D])) g3 (by simp [ep_D]) (by decide) (by decide) (by decide) (fun a b => by simp [ep_jn])
      rw [if_neg t2] at e2
      cases e2
      exact g2.up (by simp [ep_D])
    · rw [ep_pz_5] at h
      exact first 7 6 _ (by omega) (by omega) (by omega) (by simp [ep_D]) (by simp [ep_D]) h
    · rw [ep_pz_6] at h
      by_cases t : Tk k = 43
      · rw [if_pos t] at h
        exact tail 7 6 (-25) (fun a b => a + b) (by omega) (by omega) rfl (by omega) (by simp [ep_D]) (by decide) (by decide) (by decide) (fun a b => by simp [ep_jn]) h
      rw [if_neg t] at h
      by_cases t : Tk k = 45
      · rw [if_pos t] at h
        exact tail 7 6 (-26) (fun a b => a - b) (by omega) (by omega) rfl (by omega) (by simp [ep_D]) (by decide) (by decide) (by decide) (fun a b => by simp [ep_jn]) h
      · rw [if_neg t] at h; exact self (by omega) h
    · rw [ep_pz_7] at h
      exact first 9 8 _ (by omega) (by omega) (by omega) (by simp [ep_D]) (by simp [ep_D]) h
    · rw [ep_pz_8] at h
      by_cases t : Tk k = 42
      · rw [if_pos t] at h
        exact tail 9 8 (-27) (fun a b => a * b) (by omega) (by omega) rfl (by omega) (by simp [ep_D]) (by decide) (by decide) (by decide) (fun a b => by simp [ep_jn]) h
      · rw [if_neg t] at h; exact self (by omega) h
    · rw [ep_pz_9] at h
      by_cases t : 1000 ≤ Tk k
      · rw [if_pos t] at h
        cases h
        exact EpG.lit (by have := hT k; omega) (by simp [ep_D])
      rw [if_neg t] at h
      by_cases t : 10 ≤ Tk k ∧ Tk k < 16
      · rw [if_pos t] at h
        cases h
        exact EpG.nam (by omega) (by simp [ep_D])
      rw [if_neg t] at h
      by_cases t : Tk k = 45
      · rw [if_pos t] at h
        by_cases o5 : 5 ≤ o
        · rw [if_pos o5] at h; cases h
        rw [if_neg o5] at h
        obtain ⟨k2, c2, v2, e1, e2⟩ := inl _ _ _ h
        cases e2
        have := nn _ _ _ _ _ _ _ (show o + 1 ≤ 5 by omega) (by omega) (by omega) e1
        exact EpG.one (-28) (fun a => - a) (this.up (by simp [ep_D]; omega)) (by decide) (Or.inr rfl) (fun a => by rw [if_pos rfl])
      rw [if_neg t] at h
      by_cases t : Tk k = 40
      · rw [if_pos t] at h
        by_cases o5 : 5 ≤ o
        · rw [if_pos o5] at h; cases h
        rw [if_neg o5] at h
        obtain ⟨k2, c2, v2, e1, e2⟩ := inl _ _ _ h
        by_cases t1 : Tk k2 = 41
        · rw [if_pos t1] at e2
          cases e2
          have := nn _ _ _ _ _ _ _ (show o + 1 ≤ 5 by omega) (by omega) (by omega) e1
          exact this.up (by simp [ep_D]; omega)
        · rw [if_neg t1] at e2; cases e2
      rw [if_neg t] at h
      cases h
theorem ep_pt_G {Tk : Nat → Nat} (hT : ∀ k, Tk k < 11000) {z key k k1 : Nat} {q : List Int32 × EpV} (h : ep_pt Tk z key k = some (.inl (k1, q))) : EpG 31 q.1 q.2 := by
  unfold ep_pt at h
  by_cases t : Tk k = 16 + key
  · rw [if_pos t] at h
    rcases ep_bd_some h with ⟨k2, c2, v2, e1, e2⟩ | ⟨e, _, e2⟩
    · by_cases t1 : Tk k2 = 59
      · rw [if_pos t1] at e2
        cases e2
        exact ep_pz_G hT _ _ _ _ _ _ _ _ _ (by omega) (by omega) (fun q => by omega) e1
      · rw [if_neg t1] at e2; cases e2
    · cases e2
  · rw [if_neg t] at h; cases h
