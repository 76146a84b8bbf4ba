/-! walkers -/
def s_ws (q0 : EpS) (it : Nat → Int32) (f : Nat) : Nat → EpS × Nat
  | 0 => (q0, 0)
  | k + 1 => ((S_walker (s_ws q0 it f k).1 (it (f + 3 * k)) (it (f + 3 * k + 1)) (it (f + 3 * k + 2))).2, (s_ws q0 it f k).2 + if 0 ≤ (S_walker (s_ws q0 it f k).1 (it (f + 3 * k)) (it (f + 3 * k + 1)) (it (f + 3 * k + 2))).1 then 1 else 0)
def S_walkers (q : EpS) (x y z u : Int32) : Int32 × EpS := match ep_ix x 4 with
  | none => (-2, q)
  | some s => match ep_ix y 3 with
    | none => (-2, q)
    | some o => match ep_ix u 9 with
      | none => (-2, q)
      | some n => if q.2.2.2.1.1 s = 0 then (-11, q) else if ¬ q.2.2.2.1.1 s - 1 = o then (-13, q) else if n = 0 then (nI 0, q) else match ep_ix z (q.2.2.2.1.2.1 s + 1) with
        | none => (-12, q)
        | some f => if f + 3 * n ≤ q.2.2.2.1.2.1 s then (nI (s_ws q (q.2.2.2.1.2.2 s) f n).2, (s_ws q (q.2.2.2.1.2.2 s) f n).1) else (-12, (s_ws q (q.2.2.2.1.2.2 s) f ((q.2.2.2.1.2.1 s - f) / 3)).1)
theorem S_walker_sh (q : EpS) (x y z : Int32) : (S_walker q x y z).2.1 = q.1 ∧ (S_walker q x y z).2.2.2 = q.2.2 := by
  unfold S_walker
  split
  · exact ⟨rfl, rfl⟩
  · split
    · exact ⟨rfl, rfl⟩
    · split
      · exact ⟨rfl, rfl⟩
      · split
        · exact ⟨rfl, rfl⟩
        · split
          · exact ⟨rfl, rfl⟩
          · split
            · exact ⟨rfl, rfl⟩
            · exact ⟨rfl, rfl⟩
theorem s_ws_sh (q : EpS) (it : Nat → Int32) (f : Nat) : ∀ k, (s_ws q it f k).1.1 = q.1 ∧ (s_ws q it f k).1.2.2 = q.2.2 ∧ (s_ws q it f k).2 ≤ k
  | 0 => ⟨rfl, rfl, Nat.le_refl _⟩
  | k + 1 => by
    obtain ⟨h1, h2, h3⟩ := s_ws_sh q it f k
    obtain ⟨k1, k2⟩ := S_walker_sh (s_ws q it f k).1 (it (f + 3 * k)) (it (f + 3 * k + 1)) (it (f + 3 * k + 2))
    refine ⟨k1.trans h1, k2.trans h2, ?_⟩
    show (s_ws q it f k).2 + (if 0 ≤ (S_walker (s_ws q it f k).1 (it (f + 3 * k)) (it (f + 3 * k + 1)) (it (f + 3 * k + 2))).1 then 1 else 0) ≤ k + 1
    split <;> omega
theorem WF_nw {q : EpS} {k m r nu bg : Nat} (h : WF q) (h8 : ¬ q.2.1.1 = 8) (hk : k < 6) (hm : m < q.1.1) (hr : r < q.1.2.1 m) (hu : nu ≤ 9) : WF (s_nw q k m r nu bg) := by
  obtain ⟨w1, w2, w3, w4, w5, w6⟩ := h
  have c8 := w2.1
  refine ⟨w1, ⟨by show q.2.1.1 + 1 ≤ 8; omega, fun w hw => ?_⟩, w3, w4, w5, ⟨w6.1, fun hq => ?_⟩⟩
  · have hw' : w < q.2.1.1 + 1 := hw
    show va_up q.2.1.2.1 q.2.1.1 _ w 0 < 6 ∧ va_up q.2.1.2.1 q.2.1.1 _ w 1 < q.1.1 ∧ va_up q.2.1.2.1 q.2.1.1 _ w 2 < q.1.2.1 (va_up q.2.1.2.1 q.2.1.1 _ w 1) ∧ va_up q.2.1.2.1 q.2.1.1 _ w 3 < 4 ∧ va_up q.2.1.2.1 q.2.1.1 _ w 4 ≤ 9 ∧ ∀ r, r < 10 → va_up q.2.1.2.2.2.2 q.2.1.1 _ w r < 16
    by_cases e : w = q.2.1.1
    · subst e
      rw [va_up_self, va_up_self]
      exact ⟨hk, hm, hr, (by show 0 < 4; decide), hu, fun r _ => (by show 0 < 16; decide)⟩
    · rw [va_up_ne _ _ e, va_up_ne _ _ e]
      exact w2.2 w (by omega)
  · obtain ⟨i1, i2, i3, i4, i5⟩ := w6.2 hq
    refine ⟨i1, Nat.le_succ_of_le i2, i3, i4, fun v hv => ?_⟩
    have i2' : q.2.2.2.2.2.2.2.1 ≤ q.2.1.1 := i2
    have hv' : v < q.2.2.2.2.2.2.2.1 := hv
    obtain ⟨j0, j1, j2, j3⟩ := i5 v hv
    have e : ¬ v = q.2.1.1 := by omega
    show _ = va_up q.2.1.2.1 q.2.1.1 _ v 0 ∧ _ = va_up q.2.1.2.1 q.2.1.1 _ v 1 ∧ _ = va_up q.2.1.2.1 q.2.1.1 _ v 4 ∧ va_up q.2.1.2.1 q.2.1.1 _ v 1 < _ ∧ _ < q.1.2.1 (va_up q.2.1.2.1 q.2.1.1 _ v 1) ∧ _
    rw [va_up_ne _ _ e]
    exact ⟨j0, j1, j2, j3⟩
theorem ep_rg_in {x : Int32} {a b j : Nat} (h : ep_rg x a b = some j) (ha : a < 2 ^ 31) (hb : b < 2 ^ 31) : a ≤ j ∧ j ≤ b := by
  unfold ep_rg at h
  by_cases q : x < nI a ∨ nI b < x
  · rw [if_pos q] at h; cases h
  · rw [if_neg q] at h
    cases h
    have h1 : ¬ x < nI a := fun z => q (Or.inl z)
    have h2 : ¬ nI b < x := fun z => q (Or.inr z)
    rw [Int32.lt_iff_toInt_lt, nI_toInt ha] at h1
    rw [Int32.lt_iff_toInt_lt, nI_toInt hb] at h2
    unfold Int32.toNatClampNeg
    omega
theorem WF_walker {q : EpS} (h : WF q) (x y z : Int32) : WF (S_walker q x y z).2 := by
  unfold S_walker
  split
  · exact h
  · rename_i k hk
    split
    · exact h
    · rename_i m hm
      split
      · exact h
      · rename_i r hr
        split
        · exact h
        · rename_i nu hu
          split
          · exact h
          · split
            · exact h
            · rename_i h8
              exact WF_nw h h8 (ep_ix_in hk) (ep_ix_in hm) (ep_ix_in hr) (ep_rg_in hu (by decide) (by decide)).2
theorem WF_ws {q : EpS} (h : WF q) (it : Nat → Int32) (f : Nat) : ∀ k, WF (s_ws q it f k).1
  | 0 => h
  | k + 1 => WF_walker (WF_ws h it f k) _ _ _
theorem er_has {n a b : Nat} (hn : n < 2 ^ 20) (ha : a < 2 ^ 20) (hb : b < 2 ^ 20) : ep_has (nI n) (nI a) (nI b) = nI (if a + b ≤ n then 1 else 0) := by
  unfold ep_has
  have e0 : (0 : Int32).toInt = 0 := by decide
  have en := nI_toInt (n := n) (by omega)
  have ea := nI_toInt (n := a) (by omega)
  have eb := nI_toInt (n := b) (by omega)
  by_cases q : a + b ≤ n
  · rw [if_neg, if_pos q]
    rintro (z | z | z | z)
    · rw [Int32.lt_iff_toInt_lt, ea, e0] at z; omega
    · rw [Int32.lt_iff_toInt_lt, eb, e0] at z; omega
    · rw [Int32.lt_iff_toInt_lt, eb, en] at z; omega
    · rw [pk_sub (by omega), Int32.lt_iff_toInt_lt, nI_toInt (by omega), ea] at z; omega
  · rw [if_pos, if_neg q]
    by_cases q2 : b ≤ n
    · exact Or.inr (Or.inr (Or.inr (by rw [pk_sub q2, Int32.lt_iff_toInt_lt, nI_toInt (by omega), ea]; omega)))
    · exact Or.inr (Or.inr (Or.inl (by rw [Int32.lt_iff_toInt_lt, eb, en]; omega)))
theorem er_has0 {n : Nat} {z : Int32} (hn : n ≤ 40) (h : ep_ix z (n + 1) = none) : ep_has (nI n) (z + nI 0) (nI 3) = nI 0 := by
  unfold ep_has
  have e0 : (0 : Int32).toInt = 0 := by decide
  have en := nI_toInt (n := n) (by omega)
  have e1 := nI_toInt (n := n + 1) (by omega)
  have e3 : (nI 3).toInt = 3 := by decide
  rw [show z + nI 0 = z from Int32.add_zero z]
  rw [if_pos]
  unfold ep_ix at h
  by_cases a : z < 0 ∨ nI (n + 1) ≤ z
  · rcases a with a | a
    · exact Or.inl a
    · by_cases q : 3 ≤ n
      · refine Or.inr (Or.inr (Or.inr ?_))
        rw [pk_sub q, Int32.lt_iff_toInt_lt, nI_toInt (by omega)]
        rw [Int32.le_iff_toInt_le, e1] at a
        omega
      · exact Or.inr (Or.inr (Or.inl (by rw [Int32.lt_iff_toInt_lt, e3, en]; omega)))
  · rw [if_neg a] at h; cases h
theorem er_le3 {f s a : Nat} (hf : f ≤ 40) (hs : s ≤ 40) (ha : a ≤ 40) : nI f ≤ nI s - nI a - nI 3 ↔ f + a + 3 ≤ s := by
  have e : (nI s - nI a - nI 3).toInt = s - a - 3 := by
    rw [Int32.toInt_sub, Int32.toInt_sub, nI_toInt (by omega), nI_toInt (by omega), show (nI 3).toInt = 3 by decide]
    simp only [Int.bmod_def]
    omega
  rw [Int32.le_iff_toInt_le, e, nI_toInt (by omega)]
  omega
theorem er_le30 {n : Nat} {z : Int32} (hn : n ≤ 40) (h0 : ¬ z < 0) (h : ep_ix z (n + 1) = none) : ¬ z ≤ nI n - nI 0 - nI 3 := by
  have e : (nI n - nI 0 - nI 3).toInt = n - 0 - 3 := by
    rw [Int32.toInt_sub, Int32.toInt_sub, nI_toInt (by omega), show (nI 0).toInt = 0 by decide, show (nI 3).toInt = 3 by decide]
    simp only [Int.bmod_def]
    omega
  have e1 := nI_toInt (n := n + 1) (by omega)
  unfold ep_ix at h
  by_cases a : z < 0 ∨ nI (n + 1) ≤ z
  · rcases a with a | a
    · exact absurd a h0
    · rw [Int32.le_iff_toInt_le, e1] at a
      rw [Int32.le_iff_toInt_le, e]
      omega
  · rw [if_neg a] at h; cases h
theorem ep_ix_some {x : Int32} {n j : Nat} (hn : n < 2 ^ 31) (h : ep_ix x n = some j) : x = nI j := by
  unfold ep_ix at h
  by_cases a : x < 0 ∨ nI n ≤ x
  · rw [if_pos a] at h; cases h
  · rw [if_neg a] at h
    cases h
    rcases pk_ix x hn with z | z | ⟨j, hj, e⟩
    · exact absurd (Or.inl z) a
    · exact absurd (Or.inr z) a
    · rw [e, nI_clamp (by omega)]
set_option maxRecDepth 20000 in
theorem walkers_n0 (G : EzG) (d : Nat) {q : EpS} (s : Nat) (z : Int32) (M : EzM)  : Ez G mX11_walkers d 64 [(7, eI (nI 0)), (6, eI (nI 0)), (5, eR 4 s), (4, eI (nI 0)), (3, eI z), (0, eR 11 0)] [] M (fun r M' => r = some (eI (nI 0)) ∧ M' = M) := by
  refine ez_iload 66 dX11_walkers_64 rfl rfl ?_
  refine ez_iload 68 dX11_walkers_66 rfl rfl ?_
  refine ez_ncmp_ge 71 143 dX11_walkers_68 rfl (by decide) (by omega) (by omega) (fun h68 => ?_) (fun h68 => ?_)
  · refine ez_iload 145 dX11_walkers_143 rfl rfl ?_
    refine ez_iret .int dX11_walkers_145 rfl rfl ?_
    exact ⟨rfl, rfl⟩
  · exact absurd h68 (by decide)
set_option maxRecDepth 20000 in
theorem walkers_bad (G : EzG) (d : Nat) {q : EpS} (s n : Nat) (z : Int32) (M : EzM) (hd : 3 ≤ d) (hW : WF q) (hC : RC q M) (hs : s < 4) (h0 : 0 < q.2.2.2.1.1 s) (hn : 0 < n) (hn8 : n ≤ 8) (hz : ep_ix z (q.2.2.2.1.2.1 s + 1) = none) : Ez G mX11_walkers d 64 [(7, eI (nI 0)), (6, eI (nI 0)), (5, eR 4 s), (4, eI (nI n)), (3, eI z), (0, eR 11 0)] [] M (fun r M' => r = some (eI (-12)) ∧ M' = M) := by
  have q8 := hW.2.1.1
  have q4 := hW.1.1
  have z40 := (hW.2.2.2.1 s hs).2 h0
  refine ez_iload 66 dX11_walkers_64 rfl rfl ?_
  refine ez_iload 68 dX11_walkers_66 rfl rfl ?_
  refine ez_ncmp_ge 71 143 dX11_walkers_68 rfl (by decide) (by omega) (by omega) (fun h68 => ?_) (fun h68 => ?_)
  · omega
  · refine ez_iload_n 72 dX11_walkers_71 rfl rfl ?_
    refine ez_iconst 73 dX11_walkers_72 rfl (nI 3) (by decide) ?_
    refine ez_iload 75 dX11_walkers_73 rfl rfl ?_
    refine ez_imul 76 dX11_walkers_75 rfl ?_
    refine ez_top (nI 0) (by decide) ?_
    refine ez_iadd 77 dX11_walkers_76 rfl ?_
    refine ez_istore 79 [(8, eI (z + (nI 0))), (7, eI (nI 0)), (6, eI (nI 0)), (5, eR 4 s), (4, eI (nI n)), (3, eI z), (0, eR 11 0)] dX11_walkers_77 rfl (by decide) rfl ?_
    refine ez_aload 81 dX11_walkers_79 rfl rfl ?_
    refine ez_iload 83 dX11_walkers_81 rfl rfl ?_
    refine ez_iconst 84 dX11_walkers_83 rfl (nI 3) (by decide) ?_
    refine ez_callV 87 [eI (z + (nI 0)), eI (nI 3)] [] dX11_walkers_84 rfl rfl ok_X4_hasItems in_X4_hasItems (by decide) (by show s < 4; omega) ln_X11_317 (by omega) (Nat.le_of_ble_eq_true rfl) (c_X4_hasItems G (d - 1) s (z + (nI 0)) (nI 3) M hs) (fun r84 M84 q84 => ?_)
    obtain ⟨rfl, e84⟩ := q84
    rw [e84]
    show Ez G mX11_walkers d 87 [(8, eI (z + (nI 0))), (7, eI (nI 0)), (6, eI (nI 0)), (5, eR 4 s), (4, eI (nI n)), (3, eI z), (0, eR 11 0)] [eI (ep_has (M.1 4 s 1) (z + (nI 0)) (nI 3))] M _
    refine ez_top (nI 0) (by rw [((hC.2.2.2.1 s hs).2 h0).2.1]; exact er_has0 z40 hz) ?_
    refine ez_nif_ne 90 93 dX11_walkers_87 rfl (by decide) (by omega) (fun h87 => ?_) (fun h87 => ?_)
    · exact absurd h87 (by decide)
    · refine ez_bipush 92 dX11_walkers_90 rfl (-12) (by decide) ?_
      refine ez_iret .int dX11_walkers_92 rfl rfl ?_
      exact ⟨rfl, rfl⟩
set_option maxRecDepth 20000 in
theorem lp_walkers (G : EzG) (d : Nat) {q : EpS} (s n f : Nat) (M : EzM) (hd : 3 ≤ d) (hW : WF q) (hC : RC q M) (hs : s < 4) (h0 : 0 < q.2.2.2.1.1 s) (hn8 : n ≤ 8) (hf : f ≤ q.2.2.2.1.2.1 s) : ∀ (z : Nat) (k : Nat) (c : Nat) (M1 : EzM), n - k = z → k ≤ n → f + 3 * k ≤ q.2.2.2.1.2.1 s → c = (s_ws q (q.2.2.2.1.2.2 s) f k).2 → RC (s_ws q (q.2.2.2.1.2.2 s) f k).1 M1 → FX CC M M1 → Ez G mX11_walkers d 64 [(7, eI (nI k)), (6, eI (nI c)), (5, eR 4 s), (4, eI (nI n)), (3, eI (nI f)), (0, eR 11 0)] [] M1 (fun r M' => r = some (eI (if f + 3 * n ≤ q.2.2.2.1.2.1 s then (nI (s_ws q (q.2.2.2.1.2.2 s) f n).2, (s_ws q (q.2.2.2.1.2.2 s) f n).1) else (-12, (s_ws q (q.2.2.2.1.2.2 s) f ((q.2.2.2.1.2.1 s - f) / 3)).1)).1) ∧ RC (if f + 3 * n ≤ q.2.2.2.1.2.1 s then (nI (s_ws q (q.2.2.2.1.2.2 s) f n).2, (s_ws q (q.2.2.2.1.2.2 s) f n).1) else (-12, (s_ws q (q.2.2.2.1.2.2 s) f ((q.2.2.2.1.2.1 s - f) / 3)).1)).2 M' ∧ FX CC M M') := by
  intro z
  induction z using Nat.strongRecOn with
  | ind z ih =>
    intro k c M1 hz hk hk2 hc hR hF
    have q8 := hW.2.1.1
    have q4 := hW.1.1
    have z40 := (hW.2.2.2.1 s hs).2 h0
    have ws9 := s_ws_sh q (q.2.2.2.1.2.2 s) f k
    have sh9 := ((hR.2.2.2.1 s hs).2 (by rw [ws9.2.1]; exact h0))
    rw [ws9.2.1] at sh9
    refine ez_iload 66 dX11_walkers_64 rfl rfl ?_
    refine ez_iload 68 dX11_walkers_66 rfl rfl ?_
    refine ez_ncmp_ge 71 143 dX11_walkers_68 rfl (by decide) (by omega) (by omega) (fun h68 => ?_) (fun h68 => ?_)
    · refine ez_iload 145 dX11_walkers_143 rfl rfl ?_
      refine ez_iret .int dX11_walkers_145 rfl rfl ?_
      have e9 : k = n := by omega
      subst e9
      exact ⟨by rw [if_pos hk2, hc], by rw [if_pos hk2]; exact hR, hF⟩
    · refine ez_iload_n 72 dX11_walkers_71 rfl rfl ?_
      refine ez_iconst 73 dX11_walkers_72 rfl (nI 3) (by decide) ?_
      refine ez_iload 75 dX11_walkers_73 rfl rfl ?_
      refine ez_imul 76 dX11_walkers_75 rfl ?_
      refine ez_top (nI (3 * k)) (pk_mul _ _) ?_
      refine ez_iadd 77 dX11_walkers_76 rfl ?_
      refine ez_top (nI (f + 3 * k)) (nI_add _ _) ?_
      refine ez_istore 79 [(8, eI (nI (f + 3 * k))), (7, eI (nI k)), (6, eI (nI c)), (5, eR 4 s), (4, eI (nI n)), (3, eI (nI f)), (0, eR 11 0)] dX11_walkers_77 rfl (by decide) rfl ?_
      refine ez_aload 81 dX11_walkers_79 rfl rfl ?_
      refine ez_iload 83 dX11_walkers_81 rfl rfl ?_
      refine ez_iconst 84 dX11_walkers_83 rfl (nI 3) (by decide) ?_
      refine ez_callV 87 [eI (nI (f + 3 * k)), eI (nI 3)] [] dX11_walkers_84 rfl rfl ok_X4_hasItems in_X4_hasItems (by decide) (by show s < 4; omega) ln_X11_317 (by omega) (Nat.le_of_ble_eq_true rfl) (c_X4_hasItems G (d - 1) s (nI (f + 3 * k)) (nI 3) M1 hs) (fun r84 M84 q84 => ?_)
      obtain ⟨rfl, e84⟩ := q84
      rw [e84]
      show Ez G mX11_walkers d 87 [(8, eI (nI (f + 3 * k))), (7, eI (nI k)), (6, eI (nI c)), (5, eR 4 s), (4, eI (nI n)), (3, eI (nI f)), (0, eR 11 0)] [eI (ep_has (M1.1 4 s 1) (nI (f + 3 * k)) (nI 3))] M1 _
      refine ez_top (nI (if f + 3 * k + 3 ≤ q.2.2.2.1.2.1 s then 1 else 0)) (by rw [sh9.2.1]; exact er_has (by omega) (by omega) (by decide)) ?_
      by_cases hfit : f + 3 * k + 3 ≤ q.2.2.2.1.2.1 s
      · rw [if_pos hfit]
        show Ez G mX11_walkers d 87 [(8, eI (nI (f + 3 * k))), (7, eI (nI k)), (6, eI (nI c)), (5, eR 4 s), (4, eI (nI n)), (3, eI (nI f)), (0, eR 11 0)] [eI (nI 1)] M1 _
        refine ez_nif_ne 90 93 dX11_walkers_87 rfl (by decide) (by omega) (fun h87 => ?_) (fun h87 => ?_)
        · refine ez_aload_n 94 dX11_walkers_93 rfl rfl ?_
          refine ez_aload 96 dX11_walkers_94 rfl rfl ?_
          refine ez_getf 99 (eR 22 s) dX11_walkers_96 rfl fl_X11_308 (by show s < 4; omega) rfl ?_
          refine ez_iload 101 dX11_walkers_99 rfl rfl ?_
          refine ez_callS 104 [eR 22 s, eI (nI (f + 3 * k))] [eR 11 0] dX11_walkers_101 rfl rfl ok_X11_itemAt st_X11_itemAt ln_X11_159 (by omega) (Nat.le_of_ble_eq_true rfl) (c_itemAt_n G (d - 1) 22 s (f + 3 * k) M1 (by decide) (by show s < 4; omega) (by show f + 3 * k < 40; omega)) (fun r101 M101 q101 => ?_)
          obtain ⟨rfl, e101⟩ := q101
          rw [e101, show M1.1 22 s (f + 3 * k) = q.2.2.2.1.2.2 s (f + 3 * k) from (sh9.2.2 _ (by omega))]
          show Ez G mX11_walkers d 104 [(8, eI (nI (f + 3 * k))), (7, eI (nI k)), (6, eI (nI c)), (5, eR 4 s), (4, eI (nI n)), (3, eI (nI f)), (0, eR 11 0)] [eI (q.2.2.2.1.2.2 s (f + 3 * k)), eR 11 0] M1 _
          refine ez_aload 106 dX11_walkers_104 rfl rfl ?_
          refine ez_getf 109 (eR 22 s) dX11_walkers_106 rfl fl_X11_308 (by show s < 4; omega) rfl ?_
          refine ez_iload 111 dX11_walkers_109 rfl rfl ?_
          refine ez_iconst 112 dX11_walkers_111 rfl (nI 1) (by decide) ?_
          refine ez_iadd 113 dX11_walkers_112 rfl ?_
          refine ez_top (nI (f + 3 * k + 1)) (nI_add _ _) ?_
          refine ez_callS 116 [eR 22 s, eI (nI (f + 3 * k + 1))] [eI (q.2.2.2.1.2.2 s (f + 3 * k)), eR 11 0] dX11_walkers_113 rfl rfl ok_X11_itemAt st_X11_itemAt ln_X11_159 (by omega) (Nat.le_of_ble_eq_true rfl) (c_itemAt_n G (d - 1) 22 s (f + 3 * k + 1) M1 (by decide) (by show s < 4; omega) (by show f + 3 * k + 1 < 40; omega)) (fun r113 M113 q113 => ?_)
          obtain ⟨rfl, e113⟩ := q113
          rw [e113, show M1.1 22 s (f + 3 * k + 1) = q.2.2.2.1.2.2 s (f + 3 * k + 1) from (sh9.2.2 _ (by omega))]
          show Ez G mX11_walkers d 116 [(8, eI (nI (f + 3 * k))), (7, eI (nI k)), (6, eI (nI c)), (5, eR 4 s), (4, eI (nI n)), (3, eI (nI f)), (0, eR 11 0)] [eI (q.2.2.2.1.2.2 s (f + 3 * k + 1)), eI (q.2.2.2.1.2.2 s (f + 3 * k)), eR 11 0] M1 _
          refine ez_aload 118 dX11_walkers_116 rfl rfl ?_
          refine ez_getf 121 (eR 22 s) dX11_walkers_118 rfl fl_X11_308 (by show s < 4; omega) rfl ?_
          refine ez_iload 123 dX11_walkers_121 rfl rfl ?_
          refine ez_iconst 124 dX11_walkers_123 rfl (nI 2) (by decide) ?_
          refine ez_iadd 125 dX11_walkers_124 rfl ?_
          refine ez_top (nI (f + 3 * k + 2)) (nI_add _ _) ?_
          refine ez_callS 128 [eR 22 s, eI (nI (f + 3 * k + 2))] [eI (q.2.2.2.1.2.2 s (f + 3 * k + 1)), eI (q.2.2.2.1.2.2 s (f + 3 * k)), eR 11 0] dX11_walkers_125 rfl rfl ok_X11_itemAt st_X11_itemAt ln_X11_159 (by omega) (Nat.le_of_ble_eq_true rfl) (c_itemAt_n G (d - 1) 22 s (f + 3 * k + 2) M1 (by decide) (by show s < 4; omega) (by show f + 3 * k + 2 < 40; omega)) (fun r125 M125 q125 => ?_)
          obtain ⟨rfl, e125⟩ := q125
          rw [e125, show M1.1 22 s (f + 3 * k + 2) = q.2.2.2.1.2.2 s (f + 3 * k + 2) from (sh9.2.2 _ (by omega))]
          show Ez G mX11_walkers d 128 [(8, eI (nI (f + 3 * k))), (7, eI (nI k)), (6, eI (nI c)), (5, eR 4 s), (4, eI (nI n)), (3, eI (nI f)), (0, eR 11 0)] [eI (q.2.2.2.1.2.2 s (f + 3 * k + 2)), eI (q.2.2.2.1.2.2 s (f + 3 * k + 1)), eI (q.2.2.2.1.2.2 s (f + 3 * k)), eR 11 0] M1 _
          refine ez_callV 131 [eI (q.2.2.2.1.2.2 s (f + 3 * k)), eI (q.2.2.2.1.2.2 s (f + 3 * k + 1)), eI (q.2.2.2.1.2.2 s (f + 3 * k + 2))] [] dX11_walkers_128 rfl rfl ok_X11_walker in_X11_walker (by decide) (by show 0 < 1; omega) ln_X11_326 (by omega) (Nat.le_of_ble_eq_true rfl) (c_X11_walker G (d - 1) (q := (s_ws q (q.2.2.2.1.2.2 s) f k).1) (q.2.2.2.1.2.2 s (f + 3 * k)) (q.2.2.2.1.2.2 s (f + 3 * k + 1)) (q.2.2.2.1.2.2 s (f + 3 * k + 2)) M1 (by omega) (WF_ws hW _ _ k) hR) (fun r128 M128 q128 => ?_)
          obtain ⟨rfl, R128, f128⟩ := q128
          show Ez G mX11_walkers d 131 [(8, eI (nI (f + 3 * k))), (7, eI (nI k)), (6, eI (nI c)), (5, eR 4 s), (4, eI (nI n)), (3, eI (nI f)), (0, eR 11 0)] [eI ((S_walker (s_ws q (q.2.2.2.1.2.2 s) f k).1 (q.2.2.2.1.2.2 s (f + 3 * k)) (q.2.2.2.1.2.2 s (f + 3 * k + 1)) (q.2.2.2.1.2.2 s (f + 3 * k + 2))).1)] M128 _
          refine ez_if_lt 134 137 dX11_walkers_131 rfl (by decide) (fun h131 => ?_) (fun h131 => ?_)
          · refine ez_iinc 140 (nI (k + 1)) [(7, eI (nI (k + 1))), (8, eI (nI (f + 3 * k))), (6, eI (nI c)), (5, eR 4 s), (4, eI (nI n)), (3, eI (nI f)), (0, eR 11 0)] dX11_walkers_137 rfl rfl (nI_add k 1) (by decide) rfl ?_
            refine ez_goto 64 dX11_walkers_140 (by decide) ?_
            refine ez_drop [(7, eI (nI (k + 1))), (6, eI (nI c)), (5, eR 4 s), (4, eI (nI n)), (3, eI (nI f)), (0, eR 11 0)] (by simp) ?_
            exact ih (n - (k + 1)) (by omega) (k + 1) c M128 rfl (by omega) (by omega) (by show _ = (s_ws q (q.2.2.2.1.2.2 s) f k).2 + _; rw [if_neg (fun z9 => Int32.not_lt.mpr z9 h131), hc, Nat.add_zero]) R128 (hF.tr f128)
          · refine ez_iinc 137 (nI (c + 1)) [(6, eI (nI (c + 1))), (8, eI (nI (f + 3 * k))), (7, eI (nI k)), (5, eR 4 s), (4, eI (nI n)), (3, eI (nI f)), (0, eR 11 0)] dX11_walkers_134 rfl rfl (nI_add c 1) (by decide) rfl ?_
            refine ez_iinc 140 (nI (k + 1)) [(7, eI (nI (k + 1))), (6, eI (nI (c + 1))), (8, eI (nI (f + 3 * k))), (5, eR 4 s), (4, eI (nI n)), (3, eI (nI f)), (0, eR 11 0)] dX11_walkers_137 rfl rfl (nI_add k 1) (by decide) rfl ?_
            refine ez_goto 64 dX11_walkers_140 (by decide) ?_
            refine ez_drop [(7, eI (nI (k + 1))), (6, eI (nI (c + 1))), (5, eR 4 s), (4, eI (nI n)), (3, eI (nI f)), (0, eR 11 0)] (by simp) ?_
            exact ih (n - (k + 1)) (by omega) (k + 1) (c + 1) M128 rfl (by omega) (by omega) (by show _ = (s_ws q (q.2.2.2.1.2.2 s) f k).2 + _; rw [if_pos (Int32.not_lt.mp h131), hc]) R128 (hF.tr f128)
        · exact absurd h87 (by decide)
      · rw [if_neg hfit]
        show Ez G mX11_walkers d 87 [(8, eI (nI (f + 3 * k))), (7, eI (nI k)), (6, eI (nI c)), (5, eR 4 s), (4, eI (nI n)), (3, eI (nI f)), (0, eR 11 0)] [eI (nI 0)] M1 _
        refine ez_nif_ne 90 93 dX11_walkers_87 rfl (by decide) (by omega) (fun h87 => ?_) (fun h87 => ?_)
        · exact absurd h87 (by decide)
        · refine ez_bipush 92 dX11_walkers_90 rfl (-12) (by decide) ?_
          refine ez_iret .int dX11_walkers_92 rfl rfl ?_
          have e9 : (q.2.2.2.1.2.1 s - f) / 3 = k := by omega
          exact ⟨by rw [if_neg (by omega)], by rw [if_neg (by omega), e9]; exact hR, hF⟩
set_option maxRecDepth 20000 in
theorem c_X11_walkers (G : EzG) (d : Nat) {q : EpS} (x y z u : Int32) (M : EzM) (hd : 3 ≤ d) (hW : WF q) (hC : RC q M) : Ezc G mX11_walkers d [eR 11 0, eI x, eI y, eI z, eI u] M (fun r M' => r = some (eI (S_walkers q x y z u).1) ∧ RC (S_walkers q x y z u).2 M' ∧ FX CC M M') := by
  refine Ezc.of (by decide +kernel) (Nat.le_of_ble_eq_true rfl) ?_
  have q8 := hW.2.1.1
  have q4 := hW.1.1
  have qx := hW.2.2.2.2.1
  show Ez G mX11_walkers d 0 [(0, eR 11 0), (1, eI x), (2, eI y), (3, eI z), (4, eI u)] [] M _
  refine ez_aload_n 1 dX11_walkers_0 rfl rfl ?_
  refine ez_iload_n 2 dX11_walkers_1 rfl rfl ?_
  refine ez_callV 5 [eI x] [] dX11_walkers_2 rfl rfl ok_X11_sheetAt in_X11_sheetAt (by decide) (by show 0 < 1; omega) ln_X11_266 (by omega) (Nat.le_of_ble_eq_true rfl) (c_X11_sheetAt G (d - 1) x M (by omega)) (fun r2 M2 q2 => ?_)
  obtain ⟨e2, ⟨rfl, i2⟩ | ⟨j2, b2, rfl, rfl⟩⟩ := q2
  · rw [e2]
    show Ez G mX11_walkers d 5 [(0, eR 11 0), (1, eI x), (2, eI y), (3, eI z), (4, eI u)] [eN] M _
    refine ez_astore 7 [(5, eN), (0, eR 11 0), (1, eI x), (2, eI y), (3, eI z), (4, eI u)] dX11_walkers_5 rfl (by decide) rfl ?_
    refine ez_aload 9 dX11_walkers_7 rfl rfl ?_
    refine ez_ifnull_n 32 dX11_walkers_9 (by decide) ?_
    refine ez_bipush 34 dX11_walkers_32 rfl (-2) (by decide) ?_
    refine ez_iret .int dX11_walkers_34 rfl rfl ?_
    have eS : S_walkers q x y z u = (-2, q) := by simp [S_walkers, i2]
    exact ⟨by rw [eS], by rw [eS]; exact hC, FX.rf⟩
  · rw [e2]
    have i2 : ep_ix (nI j2) 4 = some j2 := ep_ix_nI b2 (by omega)
    show Ez G mX11_walkers d 5 [(0, eR 11 0), (1, eI (nI j2)), (2, eI y), (3, eI z), (4, eI u)] [eR 4 j2] M _
    refine ez_astore 7 [(5, eR 4 j2), (0, eR 11 0), (1, eI (nI j2)), (2, eI y), (3, eI z), (4, eI u)] dX11_walkers_5 rfl (by decide) rfl ?_
    refine ez_aload 9 dX11_walkers_7 rfl rfl ?_
    refine ez_ifnull_r 12 dX11_walkers_9 rfl ?_
    refine ez_iload_n 13 dX11_walkers_12 rfl rfl ?_
    refine ez_iconst 14 dX11_walkers_13 rfl (nI 3) (by decide) ?_
    refine ez_callS 17 [eI y, eI (nI 3)] [] dX11_walkers_14 rfl rfl ok_X11_isInside st_X11_isInside ln_X11_134 (by omega) (Nat.le_of_ble_eq_true rfl) (c_isInside_c G (d - 1) y 3 M (by omega)) (fun r14 M14 q14 => ?_)
    obtain ⟨e14, ⟨rfl, i14⟩ | ⟨j14, b14, rfl, rfl⟩⟩ := q14
    · rw [e14]
      show Ez G mX11_walkers d 17 [(5, eR 4 j2), (0, eR 11 0), (1, eI (nI j2)), (2, eI y), (3, eI z), (4, eI u)] [eI (nI 0)] M _
      refine ez_nif_eq 20 32 dX11_walkers_17 rfl (by decide) (by omega) (fun h17 => ?_) (fun h17 => ?_)
      · refine ez_bipush 34 dX11_walkers_32 rfl (-2) (by decide) ?_
        refine ez_iret .int dX11_walkers_34 rfl rfl ?_
        have eS : S_walkers q (nI j2) y z u = (-2, q) := by simp [S_walkers, i2, i14]
        exact ⟨by rw [eS], by rw [eS]; exact hC, FX.rf⟩
      · exact absurd h17 (by decide)
    · rw [e14]
      have i14 : ep_ix (nI j14) 3 = some j14 := ep_ix_nI b14 (by omega)
      show Ez G mX11_walkers d 17 [(5, eR 4 j2), (0, eR 11 0), (1, eI (nI j2)), (2, eI (nI j14)), (3, eI z), (4, eI u)] [eI (nI 1)] M _
      refine ez_nif_eq 20 32 dX11_walkers_17 rfl (by decide) (by omega) (fun h17 => ?_) (fun h17 => ?_)
      · exact absurd h17 (by decide)
      · refine ez_iload 22 dX11_walkers_20 rfl rfl ?_
        refine ez_if_lt 25 32 dX11_walkers_22 rfl (by decide) (fun h22 => ?_) (fun h22 => ?_)
        · refine ez_bipush 34 dX11_walkers_32 rfl (-2) (by decide) ?_
          refine ez_iret .int dX11_walkers_34 rfl rfl ?_
          have eS : S_walkers q (nI j2) (nI j14) z u = (-2, q) := by simp [S_walkers, i2, i14, show ep_ix u 9 = none from ep_ix_lo h22]
          exact ⟨by rw [eS], by rw [eS]; exact hC, FX.rf⟩
        · refine ez_iload 27 dX11_walkers_25 rfl rfl ?_
          refine ez_bipush 29 dX11_walkers_27 rfl (nI 8) (by decide) ?_
          refine ez_icmp_le 32 35 dX11_walkers_29 rfl (by decide) (fun h29 => ?_) (fun h29 => ?_)
          · obtain ⟨c, hc, rfl⟩ := ep_ix_rng (n := 8) h22 h29 (by decide)
            have ic := ep_ix_nI hc (show 8 + 1 < 2 ^ 31 by decide)
            refine ez_aload 37 dX11_walkers_35 rfl rfl ?_
            refine ez_callV 40 [] [] dX11_walkers_37 rfl rfl ok_X4_isMissing in_X4_isMissing (by decide) (by show j2 < 4; omega) ln_X11_270 (by omega) (Nat.le_of_ble_eq_true rfl) (c_isMissing_c G (d - 1) j2 q.2.2.2.1.1 q.2.2.2.1.2.1 q.2.2.2.1.2.2 M (by omega) hW.2.2.2.1 hC.2.2.2.1) (fun r37 M37 q37 => ?_)
            obtain ⟨e37, ⟨rfl, s37⟩ | ⟨rfl, s37⟩⟩ := q37
            · rw [e37]
              show Ez G mX11_walkers d 40 [(5, eR 4 j2), (0, eR 11 0), (1, eI (nI j2)), (2, eI (nI j14)), (3, eI z), (4, eI (nI c))] [eI (nI 1)] M _
              refine ez_nif_eq 43 46 dX11_walkers_40 rfl (by decide) (by omega) (fun h40 => ?_) (fun h40 => ?_)
              · exact absurd h40 (by decide)
              · refine ez_bipush 45 dX11_walkers_43 rfl (-11) (by decide) ?_
                refine ez_iret .int dX11_walkers_45 rfl rfl ?_
                have eS : S_walkers q (nI j2) (nI j14) z (nI c) = (-11, q) := by simp only [S_walkers, i2, i14, ic]; rw [if_pos s37]
                exact ⟨by rw [eS], by rw [eS]; exact hC, FX.rf⟩
            · rw [e37]
              have p37 := Nat.pos_of_ne_zero s37
              have z37 := (hW.2.2.2.1 j2 (by omega)).2 p37
              have o37 := (hW.2.2.2.1 j2 (by omega)).1
              show Ez G mX11_walkers d 40 [(5, eR 4 j2), (0, eR 11 0), (1, eI (nI j2)), (2, eI (nI j14)), (3, eI z), (4, eI (nI c))] [eI (nI 0)] M _
              refine ez_nif_eq 43 46 dX11_walkers_40 rfl (by decide) (by omega) (fun h40 => ?_) (fun h40 => ?_)
              · refine ez_aload 48 dX11_walkers_46 rfl rfl ?_
                refine ez_getf 51 (eI (M.1 4 j2 0)) dX11_walkers_48 rfl fl_X11_314 (by show j2 < 4; omega) rfl ?_
                refine ez_top (nI (q.2.2.2.1.1 j2 - 1)) (((hC.2.2.2.1 j2 (by omega)).2 (by omega)).1) ?_
                refine ez_iload_n 52 dX11_walkers_51 rfl rfl ?_
                refine ez_ncmp_eq 55 58 dX11_walkers_52 rfl (by decide) (by omega) (by omega) (fun h52 => ?_) (fun h52 => ?_)
                · refine ez_iconst 59 dX11_walkers_58 rfl (nI 0) (by decide) ?_
                  refine ez_istore 61 [(6, eI (nI 0)), (5, eR 4 j2), (0, eR 11 0), (1, eI (nI j2)), (2, eI (nI j14)), (3, eI z), (4, eI (nI c))] dX11_walkers_59 rfl (by decide) rfl ?_
                  refine ez_iconst 62 dX11_walkers_61 rfl (nI 0) (by decide) ?_
                  refine ez_istore 64 [(7, eI (nI 0)), (6, eI (nI 0)), (5, eR 4 j2), (0, eR 11 0), (1, eI (nI j2)), (2, eI (nI j14)), (3, eI z), (4, eI (nI c))] dX11_walkers_62 rfl (by decide) rfl ?_
                  by_cases n0 : c = 0
                  · subst n0
                    have eS : S_walkers q (nI j2) (nI j14) z (nI 0) = (nI 0, q) := by simp only [S_walkers, i2, i14, ic]; rw [if_neg s37, if_neg (fun z9 => z9 h52), if_pos trivial]
                    rw [eS]
                    refine ez_drop [(7, eI (nI 0)), (6, eI (nI 0)), (5, eR 4 j2), (4, eI (nI 0)), (3, eI z), (0, eR 11 0)] (by simp) ?_
                    exact ez_wk (fun r M' z9 => ⟨z9.1, by rw [z9.2]; exact hC, by rw [z9.2]; exact FX.rf⟩) (walkers_n0 G d (q := q) j2 z M)
                  · cases hz : ep_ix z (q.2.2.2.1.2.1 j2 + 1) with
                    | none =>
                      have eS : S_walkers q (nI j2) (nI j14) z (nI c) = (-12, q) := by simp only [S_walkers, i2, i14, ic]; rw [if_neg s37, if_neg (fun z9 => z9 h52), if_neg n0, hz]
                      rw [eS]
                      refine ez_drop [(7, eI (nI 0)), (6, eI (nI 0)), (5, eR 4 j2), (4, eI (nI c)), (3, eI z), (0, eR 11 0)] (by simp) ?_
                      exact ez_wk (fun r M' z9 => ⟨z9.1, by rw [z9.2]; exact hC, by rw [z9.2]; exact FX.rf⟩) (walkers_bad G d j2 c z M hd hW hC b2 p37 (by omega) (by omega) hz)
                    | some f =>
                      have f9 := ep_ix_in hz
                      have ez := ep_ix_some (by omega) hz
                      subst ez
                      have eS : S_walkers q (nI j2) (nI j14) (nI f) (nI c) = if f + 3 * c ≤ q.2.2.2.1.2.1 j2 then (nI (s_ws q (q.2.2.2.1.2.2 j2) f c).2, (s_ws q (q.2.2.2.1.2.2 j2) f c).1) else (-12, (s_ws q (q.2.2.2.1.2.2 j2) f ((q.2.2.2.1.2.1 j2 - f) / 3)).1) := by simp only [S_walkers, i2, i14, ic]; rw [if_neg s37, if_neg (fun z9 => z9 h52), if_neg n0, hz]
                      rw [eS]
                      refine ez_drop [(7, eI (nI 0)), (6, eI (nI 0)), (5, eR 4 j2), (4, eI (nI c)), (3, eI (nI f)), (0, eR 11 0)] (by simp) ?_
                      exact lp_walkers G d j2 c f M hd hW hC b2 p37 (by omega) (by omega) _ 0 0 M rfl (by omega) (by omega) rfl hC FX.rf
                · refine ez_bipush 57 dX11_walkers_55 rfl (-13) (by decide) ?_
                  refine ez_iret .int dX11_walkers_57 rfl rfl ?_
                  have eS : S_walkers q (nI j2) (nI j14) z (nI c) = (-13, q) := by simp only [S_walkers, i2, i14, ic]; rw [if_neg s37, if_pos h52]
                  exact ⟨by rw [eS], by rw [eS]; exact hC, FX.rf⟩
              · exact absurd h40 (by decide)
          · refine ez_bipush 34 dX11_walkers_32 rfl (-2) (by decide) ?_
            refine ez_iret .int dX11_walkers_34 rfl rfl ?_
            have eS : S_walkers q (nI j2) (nI j14) z u = (-2, q) := by simp [S_walkers, i2, i14, show ep_ix u 9 = none from ep_ix_hi (by decide) h29]
            exact ⟨by rw [eS], by rw [eS]; exact hC, FX.rf⟩
set_option maxRecDepth 20000 in
theorem mwalkers_n0 (g : EzH) (d : Nat) {q : EpS} (s : Nat) (z : Int32) (M : EzM)  : Ez (true, g) mX12_walkers d 75 [(6, eI (nI 0)), (5, eI (nI 0)), (4, eI (nI 0)), (3, eI z), (1, eI (nI s)), (0, eR 12 0)] [] M (fun r M' => r = some (eI (nI 0)) ∧ M' = M) := by
  refine ez_iload 77 dX12_walkers_75 rfl rfl ?_
  refine ez_iload 79 dX12_walkers_77 rfl rfl ?_
  refine ez_ncmp_ge 82 167 dX12_walkers_79 rfl (by decide) (by omega) (by omega) (fun h79 => ?_) (fun h79 => ?_)
  · refine ez_iload 169 dX12_walkers_167 rfl rfl ?_
    refine ez_iret .int dX12_walkers_169 rfl rfl ?_
    exact ⟨rfl, rfl⟩
  · exact absurd h79 (by decide)
set_option maxRecDepth 20000 in
theorem mwalkers_bad (g : EzH) (d : Nat) {q : EpS} (s n : Nat) (z : Int32) (M : EzM) (hd : 4 ≤ d) (hW : WF q) (hC : RM q M) (hs : s < 4) (h0 : 0 < q.2.2.2.1.1 s) (hn : 0 < n) (hn8 : n ≤ 8) (hz : ep_ix z (q.2.2.2.1.2.1 s + 1) = none) : Ez (true, g) mX12_walkers d 75 [(6, eI (nI 0)), (5, eI (nI 0)), (4, eI (nI n)), (3, eI z), (1, eI (nI s)), (0, eR 12 0)] [] M (fun r M' => r = some (eI (-12)) ∧ M' = M) := by
  have q8 := hW.2.1.1
  have q4 := hW.1.1
  have z40 := (hW.2.2.2.1 s hs).2 h0
  refine ez_iload 77 dX12_walkers_75 rfl rfl ?_
  refine ez_iload 79 dX12_walkers_77 rfl rfl ?_
  refine ez_ncmp_ge 82 167 dX12_walkers_79 rfl (by decide) (by omega) (by omega) (fun h79 => ?_) (fun h79 => ?_)
  · omega
  · refine ez_iload_n 83 dX12_walkers_82 rfl rfl ?_
    refine ez_if_lt 86 103 dX12_walkers_83 rfl (by decide) (fun h83 => ?_) (fun h83 => ?_)
    · refine ez_bipush 105 dX12_walkers_103 rfl (-12) (by decide) ?_
      refine ez_iret .int dX12_walkers_105 rfl rfl ?_
      exact ⟨rfl, rfl⟩
    · refine ez_iload_n 87 dX12_walkers_86 rfl rfl ?_
      refine ez_aload_n 88 dX12_walkers_87 rfl rfl ?_
      refine ez_getf 91 (eR 72 0) dX12_walkers_88 rfl fl_X12_105 (by show 0 < 1; omega) rfl ?_
      refine ez_iload_n 92 dX12_walkers_91 rfl rfl ?_
      refine ez_ialdN s 93 dX12_walkers_92 rfl (by decide) (by show 0 < 1; omega) (by show s < 4; omega) ?_
      refine ez_top (nI (q.2.2.2.1.2.1 s)) (((hC.2.2.2.1 s hs).2 h0).2.1) ?_
      refine ez_iconst 94 dX12_walkers_93 rfl (nI 3) (by decide) ?_
      refine ez_iload 96 dX12_walkers_94 rfl rfl ?_
      refine ez_imul 97 dX12_walkers_96 rfl ?_
      refine ez_top (nI 0) (by decide) ?_
      refine ez_isub 98 dX12_walkers_97 rfl ?_
      refine ez_iconst 99 dX12_walkers_98 rfl (nI 3) (by decide) ?_
      refine ez_isub 100 dX12_walkers_99 rfl ?_
      refine ez_icmp_le 103 106 dX12_walkers_100 rfl (by decide) (fun h100 => ?_) (fun h100 => ?_)
      · exact absurd h100 (er_le30 z40 h83 hz)
      · refine ez_bipush 105 dX12_walkers_103 rfl (-12) (by decide) ?_
        refine ez_iret .int dX12_walkers_105 rfl rfl ?_
        exact ⟨rfl, rfl⟩
set_option maxRecDepth 20000 in
theorem lp_mwalkers (g : EzH) (d : Nat) {q : EpS} (s n f : Nat) (M : EzM) (hd : 4 ≤ d) (hW : WF q) (hC : RM q M) (hs : s < 4) (h0 : 0 < q.2.2.2.1.1 s) (hn8 : n ≤ 8) (hf : f ≤ q.2.2.2.1.2.1 s) : ∀ (z : Nat) (k : Nat) (c : Nat) (M1 : EzM), n - k = z → k ≤ n → f + 3 * k ≤ q.2.2.2.1.2.1 s → c = (s_ws q (q.2.2.2.1.2.2 s) f k).2 → RM (s_ws q (q.2.2.2.1.2.2 s) f k).1 M1 → FX CM M M1 → Ez (true, g) mX12_walkers d 75 [(6, eI (nI k)), (5, eI (nI c)), (4, eI (nI n)), (3, eI (nI f)), (1, eI (nI s)), (0, eR 12 0)] [] M1 (fun r M' => r = some (eI (if f + 3 * n ≤ q.2.2.2.1.2.1 s then (nI (s_ws q (q.2.2.2.1.2.2 s) f n).2, (s_ws q (q.2.2.2.1.2.2 s) f n).1) else (-12, (s_ws q (q.2.2.2.1.2.2 s) f ((q.2.2.2.1.2.1 s - f) / 3)).1)).1) ∧ RM (if f + 3 * n ≤ q.2.2.2.1.2.1 s then (nI (s_ws q (q.2.2.2.1.2.2 s) f n).2, (s_ws q (q.2.2.2.1.2.2 s) f n).1) else (-12, (s_ws q (q.2.2.2.1.2.2 s) f ((q.2.2.2.1.2.1 s - f) / 3)).1)).2 M' ∧ FX CM M M') := by
  intro z
  induction z using Nat.strongRecOn with
  | ind z ih =>
    intro k c M1 hz hk hk2 hc hR hF
    have q8 := hW.2.1.1
    have q4 := hW.1.1
    have z40 := (hW.2.2.2.1 s hs).2 h0
    have ws9 := s_ws_sh q (q.2.2.2.1.2.2 s) f k
    have sh9 := ((hR.2.2.2.1 s hs).2 (by rw [ws9.2.1]; exact h0))
    rw [ws9.2.1] at sh9
    refine ez_iload 77 dX12_walkers_75 rfl rfl ?_
    refine ez_iload 79 dX12_walkers_77 rfl rfl ?_
    refine ez_ncmp_ge 82 167 dX12_walkers_79 rfl (by decide) (by omega) (by omega) (fun h79 => ?_) (fun h79 => ?_)
    · refine ez_iload 169 dX12_walkers_167 rfl rfl ?_
      refine ez_iret .int dX12_walkers_169 rfl rfl ?_
      have e9 : k = n := by omega
      subst e9
      exact ⟨by rw [if_pos hk2, hc], by rw [if_pos hk2]; exact hR, hF⟩
    · refine ez_iload_n 83 dX12_walkers_82 rfl rfl ?_
      refine ez_nif_lt 86 dX12_walkers_83 rfl (by omega) ?_
      refine ez_iload_n 87 dX12_walkers_86 rfl rfl ?_
      refine ez_aload_n 88 dX12_walkers_87 rfl rfl ?_
      refine ez_getf 91 (eR 72 0) dX12_walkers_88 rfl fl_X12_105 (by show 0 < 1; omega) rfl ?_
      refine ez_iload_n 92 dX12_walkers_91 rfl rfl ?_
      refine ez_ialdN s 93 dX12_walkers_92 rfl (by decide) (by show 0 < 1; omega) (by show s < 4; omega) ?_
      refine ez_top (nI (q.2.2.2.1.2.1 s)) sh9.2.1 ?_
      refine ez_iconst 94 dX12_walkers_93 rfl (nI 3) (by decide) ?_
      refine ez_iload 96 dX12_walkers_94 rfl rfl ?_
      refine ez_imul 97 dX12_walkers_96 rfl ?_
      refine ez_top (nI (3 * k)) (pk_mul _ _) ?_
      refine ez_isub 98 dX12_walkers_97 rfl ?_
      refine ez_iconst 99 dX12_walkers_98 rfl (nI 3) (by decide) ?_
      refine ez_isub 100 dX12_walkers_99 rfl ?_
      refine ez_icmp_le 103 106 dX12_walkers_100 rfl (by decide) (fun h100 => ?_) (fun h100 => ?_)
      · have hfit := (er_le3 (show f ≤ 40 by omega) (show q.2.2.2.1.2.1 s ≤ 40 by omega) (show 3 * k ≤ 40 by omega)).mp h100
        refine ez_bipush 108 dX12_walkers_106 rfl (nI 40) (by decide) ?_
        refine ez_iload_n 109 dX12_walkers_108 rfl rfl ?_
        refine ez_imul 110 dX12_walkers_109 rfl ?_
        refine ez_top (nI (40 * s)) (pk_mul _ _) ?_
        refine ez_iload_n 111 dX12_walkers_110 rfl rfl ?_
        refine ez_iadd 112 dX12_walkers_111 rfl ?_
        refine ez_top (nI (40 * s + f)) (nI_add _ _) ?_
        refine ez_iconst 113 dX12_walkers_112 rfl (nI 3) (by decide) ?_
        refine ez_iload 115 dX12_walkers_113 rfl rfl ?_
        refine ez_imul 116 dX12_walkers_115 rfl ?_
        refine ez_top (nI (3 * k)) (pk_mul _ _) ?_
        refine ez_iadd 117 dX12_walkers_116 rfl ?_
        refine ez_top (nI (40 * s + f + 3 * k)) (nI_add _ _) ?_
        refine ez_istore 119 [(7, eI (nI (40 * s + f + 3 * k))), (6, eI (nI k)), (5, eI (nI c)), (4, eI (nI n)), (3, eI (nI f)), (1, eI (nI s)), (0, eR 12 0)] dX12_walkers_117 rfl (by decide) rfl ?_
        refine ez_iload 121 dX12_walkers_119 rfl rfl ?_
        refine ez_aload_n 122 dX12_walkers_121 rfl rfl ?_
        refine ez_aload_n 123 dX12_walkers_122 rfl rfl ?_
        refine ez_getf 126 (eR 73 0) dX12_walkers_123 rfl fl_X12_108 (by show 0 < 1; omega) rfl ?_
        refine ez_iload 128 dX12_walkers_126 rfl rfl ?_
        refine ez_ialdN (40 * s + f + 3 * k) 129 dX12_walkers_128 rfl (by decide) (by show 0 < 1; omega) (by show 40 * s + f + 3 * k < 160; omega) ?_
        refine ez_top (q.2.2.2.1.2.2 s (f + 3 * k)) (by have z9 := sh9.2.2 (f + 3 * k) (by omega); rw [show 40 * s + (f + 3 * k) = 40 * s + f + 3 * k by omega] at z9; exact z9) ?_
        refine ez_aload_n 130 dX12_walkers_129 rfl rfl ?_
        refine ez_getf 133 (eR 73 0) dX12_walkers_130 rfl fl_X12_108 (by show 0 < 1; omega) rfl ?_
        refine ez_iload 135 dX12_walkers_133 rfl rfl ?_
        refine ez_iconst 136 dX12_walkers_135 rfl (nI 1) (by decide) ?_
        refine ez_iadd 137 dX12_walkers_136 rfl ?_
        refine ez_top (nI (40 * s + f + 3 * k + 1)) (nI_add _ _) ?_
        refine ez_ialdN (40 * s + f + 3 * k + 1) 138 dX12_walkers_137 rfl (by decide) (by show 0 < 1; omega) (by show 40 * s + f + 3 * k + 1 < 160; omega) ?_
        refine ez_top (q.2.2.2.1.2.2 s (f + 3 * k + 1)) (by have z9 := sh9.2.2 (f + 3 * k + 1) (by omega); rw [show 40 * s + (f + 3 * k + 1) = 40 * s + f + 3 * k + 1 by omega] at z9; exact z9) ?_
        refine ez_aload_n 139 dX12_walkers_138 rfl rfl ?_
        refine ez_getf 142 (eR 73 0) dX12_walkers_139 rfl fl_X12_108 (by show 0 < 1; omega) rfl ?_
        refine ez_iload 144 dX12_walkers_142 rfl rfl ?_
        refine ez_iconst 145 dX12_walkers_144 rfl (nI 2) (by decide) ?_
        refine ez_iadd 146 dX12_walkers_145 rfl ?_
        refine ez_top (nI (40 * s + f + 3 * k + 2)) (nI_add _ _) ?_
        refine ez_ialdN (40 * s + f + 3 * k + 2) 147 dX12_walkers_146 rfl (by decide) (by show 0 < 1; omega) (by show 40 * s + f + 3 * k + 2 < 160; omega) ?_
        refine ez_top (q.2.2.2.1.2.2 s (f + 3 * k + 2)) (by have z9 := sh9.2.2 (f + 3 * k + 2) (by omega); rw [show 40 * s + (f + 3 * k + 2) = 40 * s + f + 3 * k + 2 by omega] at z9; exact z9) ?_
        refine ez_callV 150 [eI (q.2.2.2.1.2.2 s (f + 3 * k)), eI (q.2.2.2.1.2.2 s (f + 3 * k + 1)), eI (q.2.2.2.1.2.2 s (f + 3 * k + 2))] [eI (nI c)] dX12_walkers_147 rfl rfl ok_X12_walker in_X12_walker (by decide) (by show 0 < 1; omega) ln_X12_399 (by omega) (Nat.le_of_ble_eq_true rfl) (c_X12_walker g (d - 1) (q := (s_ws q (q.2.2.2.1.2.2 s) f k).1) (q.2.2.2.1.2.2 s (f + 3 * k)) (q.2.2.2.1.2.2 s (f + 3 * k + 1)) (q.2.2.2.1.2.2 s (f + 3 * k + 2)) M1 (by omega) (WF_ws hW _ _ k) hR) (fun r147 M147 q147 => ?_)
        obtain ⟨rfl, R147, f147⟩ := q147
        show Ez (true, g) mX12_walkers d 150 [(7, eI (nI (40 * s + f + 3 * k))), (6, eI (nI k)), (5, eI (nI c)), (4, eI (nI n)), (3, eI (nI f)), (1, eI (nI s)), (0, eR 12 0)] [eI ((S_walker (s_ws q (q.2.2.2.1.2.2 s) f k).1 (q.2.2.2.1.2.2 s (f + 3 * k)) (q.2.2.2.1.2.2 s (f + 3 * k + 1)) (q.2.2.2.1.2.2 s (f + 3 * k + 2))).1), eI (nI c)] M147 _
        refine ez_if_lt 153 157 dX12_walkers_150 rfl (by decide) (fun h150 => ?_) (fun h150 => ?_)
        · refine ez_iconst 158 dX12_walkers_157 rfl (nI 0) (by decide) ?_
          refine ez_iadd 159 dX12_walkers_158 rfl ?_
          refine ez_top (nI (c + 0)) (nI_add _ _) ?_
          refine ez_istore 161 [(5, eI (nI (c + 0))), (7, eI (nI (40 * s + f + 3 * k))), (6, eI (nI k)), (4, eI (nI n)), (3, eI (nI f)), (1, eI (nI s)), (0, eR 12 0)] dX12_walkers_159 rfl (by decide) rfl ?_
          refine ez_iinc 164 (nI (k + 1)) [(6, eI (nI (k + 1))), (5, eI (nI (c + 0))), (7, eI (nI (40 * s + f + 3 * k))), (4, eI (nI n)), (3, eI (nI f)), (1, eI (nI s)), (0, eR 12 0)] dX12_walkers_161 rfl rfl (nI_add k 1) (by decide) rfl ?_
          refine ez_goto 75 dX12_walkers_164 (by decide) ?_
          refine ez_drop [(6, eI (nI (k + 1))), (5, eI (nI (c + 0))), (4, eI (nI n)), (3, eI (nI f)), (1, eI (nI s)), (0, eR 12 0)] (by simp) ?_
          exact ih (n - (k + 1)) (by omega) (k + 1) (c + 0) M147 rfl (by omega) (by omega) (by show _ = (s_ws q (q.2.2.2.1.2.2 s) f k).2 + _; rw [if_neg (fun z9 => Int32.not_lt.mpr z9 h150), hc]) R147 (hF.tr f147)
        · refine ez_iconst 154 dX12_walkers_153 rfl (nI 1) (by decide) ?_
          refine ez_goto 158 dX12_walkers_154 (by decide) ?_
          refine ez_iadd 159 dX12_walkers_158 rfl ?_
          refine ez_top (nI (c + 1)) (nI_add _ _) ?_
          refine ez_istore 161 [(5, eI (nI (c + 1))), (7, eI (nI (40 * s + f + 3 * k))), (6, eI (nI k)), (4, eI (nI n)), (3, eI (nI f)), (1, eI (nI s)), (0, eR 12 0)] dX12_walkers_159 rfl (by decide) rfl ?_
          refine ez_iinc 164 (nI (k + 1)) [(6, eI (nI (k + 1))), (5, eI (nI (c + 1))), (7, eI (nI (40 * s + f + 3 * k))), (4, eI (nI n)), (3, eI (nI f)), (1, eI (nI s)), (0, eR 12 0)] dX12_walkers_161 rfl rfl (nI_add k 1) (by decide) rfl ?_
          refine ez_goto 75 dX12_walkers_164 (by decide) ?_
          refine ez_drop [(6, eI (nI (k + 1))), (5, eI (nI (c + 1))), (4, eI (nI n)), (3, eI (nI f)), (1, eI (nI s)), (0, eR 12 0)] (by simp) ?_
          exact ih (n - (k + 1)) (by omega) (k + 1) (c + 1) M147 rfl (by omega) (by omega) (by show _ = (s_ws q (q.2.2.2.1.2.2 s) f k).2 + _; rw [if_pos (Int32.not_lt.mp h150), hc]) R147 (hF.tr f147)
      · refine ez_bipush 105 dX12_walkers_103 rfl (-12) (by decide) ?_
        refine ez_iret .int dX12_walkers_105 rfl rfl ?_
        have e8 : ¬ f + 3 * k + 3 ≤ q.2.2.2.1.2.1 s := fun z9 => h100 ((er_le3 (by omega) (by omega) (by omega)).mpr (by omega))
        have e9 : (q.2.2.2.1.2.1 s - f) / 3 = k := by omega
        exact ⟨by rw [if_neg (by omega)], by rw [if_neg (by omega), e9]; exact hR, hF⟩
set_option maxRecDepth 20000 in
theorem c_X12_walkers (g : EzH) (d : Nat) {q : EpS} (x y z u : Int32) (M : EzM) (hd : 4 ≤ d) (hW : WF q) (hC : RM q M) : Ezc (true, g) mX12_walkers d [eR 12 0, eI x, eI y, eI z, eI u] M (fun r M' => r = some (eI (S_walkers q x y z u).1) ∧ RM (S_walkers q x y z u).2 M' ∧ FX CM M M') := by
  refine Ezc.of (by decide +kernel) (Nat.le_of_ble_eq_true rfl) ?_
  have q8 := hW.2.1.1
  have q4 := hW.1.1
  have qx := hW.2.2.2.2.1
  show Ez (true, g) mX12_walkers d 0 [(0, eR 12 0), (1, eI x), (2, eI y), (3, eI z), (4, eI u)] [] M _
  refine ez_iload_n 1 dX12_walkers_0 rfl rfl ?_
  refine ez_callS 4 [eI x] [] dX12_walkers_1 rfl rfl ok_X12_isSheet st_X12_isSheet ln_X12_384 (by omega) (Nat.le_of_ble_eq_true rfl) (c_X12_isSheet g (d - 1) x M (by omega)) (fun r1 M1 q1 => ?_)
  obtain ⟨e1, ⟨rfl, i1⟩ | ⟨j1, b1, rfl, rfl⟩⟩ := q1
  · rw [e1]
    show Ez (true, g) mX12_walkers d 4 [(0, eR 12 0), (1, eI x), (2, eI y), (3, eI z), (4, eI u)] [eI (nI 0)] M _
    refine ez_nif_eq 7 32 dX12_walkers_4 rfl (by decide) (by omega) (fun h4 => ?_) (fun h4 => ?_)
    · refine ez_bipush 34 dX12_walkers_32 rfl (-2) (by decide) ?_
      refine ez_iret .int dX12_walkers_34 rfl rfl ?_
      have eS : S_walkers q x y z u = (-2, q) := by simp [S_walkers, i1]
      exact ⟨by rw [eS], by rw [eS]; exact hC, FX.rf⟩
    · exact absurd h4 (by decide)
  · rw [e1]
    have i1 : ep_ix (nI j1) 4 = some j1 := ep_ix_nI b1 (by omega)
    show Ez (true, g) mX12_walkers d 4 [(0, eR 12 0), (1, eI (nI j1)), (2, eI y), (3, eI z), (4, eI u)] [eI (nI 1)] M _
    refine ez_nif_eq 7 32 dX12_walkers_4 rfl (by decide) (by omega) (fun h4 => ?_) (fun h4 => ?_)
    · exact absurd h4 (by decide)
    · refine ez_iload_n 8 dX12_walkers_7 rfl rfl ?_
      refine ez_i2l 9 dX12_walkers_8 rfl ?_
      refine ez_lconst 10 dX12_walkers_9 rfl (nI 0).toInt64 (by decide) ?_
      refine ez_ldc2 13 dX12_walkers_10 rfl 2 cn_X12_239 ?_
      refine ez_topL (nI 2).toInt64 (by decide) ?_
      refine ez_callS 16 [eL y.toInt64, eL ((nI 0).toInt64), eL ((nI 2).toInt64)] [] dX12_walkers_13 rfl rfl ok_X12_in st_X12_in ln_X12_133 (by omega) (Nat.le_of_ble_eq_true rfl) (c_in_k g (d - 1) y 2 M (by decide)) (fun r13 M13 q13 => ?_)
      obtain ⟨e13, ⟨rfl, i13⟩ | ⟨j13, b13, rfl, rfl⟩⟩ := q13
      · rw [e13]
        show Ez (true, g) mX12_walkers d 16 [(0, eR 12 0), (1, eI (nI j1)), (2, eI y), (3, eI z), (4, eI u)] [eI (nI 0)] M _
        refine ez_nif_eq 19 32 dX12_walkers_16 rfl (by decide) (by omega) (fun h16 => ?_) (fun h16 => ?_)
        · refine ez_bipush 34 dX12_walkers_32 rfl (-2) (by decide) ?_
          refine ez_iret .int dX12_walkers_34 rfl rfl ?_
          have eS : S_walkers q (nI j1) y z u = (-2, q) := by simp [S_walkers, i1, i13]
          exact ⟨by rw [eS], by rw [eS]; exact hC, FX.rf⟩
        · exact absurd h16 (by decide)
      · rw [e13]
        have i13 : ep_ix (nI j13) 3 = some j13 := ep_ix_nI b13 (by omega)
        show Ez (true, g) mX12_walkers d 16 [(0, eR 12 0), (1, eI (nI j1)), (2, eI (nI j13)), (3, eI z), (4, eI u)] [eI (nI 1)] M _
        refine ez_nif_eq 19 32 dX12_walkers_16 rfl (by decide) (by omega) (fun h16 => ?_) (fun h16 => ?_)
        · exact absurd h16 (by decide)
        · refine ez_iload 21 dX12_walkers_19 rfl rfl ?_
          refine ez_i2l 22 dX12_walkers_21 rfl ?_
          refine ez_lconst 23 dX12_walkers_22 rfl (nI 0).toInt64 (by decide) ?_
          refine ez_ldc2 26 dX12_walkers_23 rfl 8 cn_X12_248 ?_
          refine ez_topL (nI 8).toInt64 (by decide) ?_
          refine ez_callS 29 [eL u.toInt64, eL ((nI 0).toInt64), eL ((nI 8).toInt64)] [] dX12_walkers_26 rfl rfl ok_X12_in st_X12_in ln_X12_133 (by omega) (Nat.le_of_ble_eq_true rfl) (c_in_k g (d - 1) u 8 M (by decide)) (fun r26 M26 q26 => ?_)
          obtain ⟨e26, ⟨rfl, i26⟩ | ⟨j26, b26, rfl, rfl⟩⟩ := q26
          · rw [e26]
            show Ez (true, g) mX12_walkers d 29 [(0, eR 12 0), (1, eI (nI j1)), (2, eI (nI j13)), (3, eI z), (4, eI u)] [eI (nI 0)] M _
            refine ez_nif_ne 32 35 dX12_walkers_29 rfl (by decide) (by omega) (fun h29 => ?_) (fun h29 => ?_)
            · exact absurd h29 (by decide)
            · refine ez_bipush 34 dX12_walkers_32 rfl (-2) (by decide) ?_
              refine ez_iret .int dX12_walkers_34 rfl rfl ?_
              have eS : S_walkers q (nI j1) (nI j13) z u = (-2, q) := by simp [S_walkers, i1, i13, i26]
              exact ⟨by rw [eS], by rw [eS]; exact hC, FX.rf⟩
          · rw [e26]
            have i26 : ep_ix (nI j26) 9 = some j26 := ep_ix_nI b26 (by omega)
            show Ez (true, g) mX12_walkers d 29 [(0, eR 12 0), (1, eI (nI j1)), (2, eI (nI j13)), (3, eI z), (4, eI (nI j26))] [eI (nI 1)] M _
            refine ez_nif_ne 32 35 dX12_walkers_29 rfl (by decide) (by omega) (fun h29 => ?_) (fun h29 => ?_)
            · by_cases hth : q.2.2.2.1.1 j1 = 0
              · skip
                refine ez_aload_n 36 dX12_walkers_35 rfl rfl ?_
                refine ez_getf 39 (eR 70 0) dX12_walkers_36 rfl fl_X12_99 (by show 0 < 1; omega) rfl ?_
                refine ez_iload_n 40 dX12_walkers_39 rfl rfl ?_
                refine ez_zaldN j1 41 dX12_walkers_40 rfl (by decide) (by show 0 < 1; omega) (by show j1 < 4; omega) ?_
                refine ez_top (nI 0) (by rw [(hC.2.2.2.1 j1 (by omega)).1, if_pos hth]) ?_
                refine ez_nif_eq 44 57 dX12_walkers_41 rfl (by decide) (by omega) (fun h41 => ?_) (fun h41 => ?_)
                · refine ez_aload_n 58 dX12_walkers_57 rfl rfl ?_
                  refine ez_getf 61 (eR 70 0) dX12_walkers_58 rfl fl_X12_99 (by show 0 < 1; omega) rfl ?_
                  refine ez_iload_n 62 dX12_walkers_61 rfl rfl ?_
                  refine ez_zaldN j1 63 dX12_walkers_62 rfl (by decide) (by show 0 < 1; omega) (by show j1 < 4; omega) ?_
                  refine ez_top (nI 0) (by rw [(hC.2.2.2.1 j1 (by omega)).1, if_pos hth]) ?_
                  refine ez_nif_ne 66 69 dX12_walkers_63 rfl (by decide) (by omega) (fun h63 => ?_) (fun h63 => ?_)
                  · exact absurd h63 (by decide)
                  · refine ez_bipush 68 dX12_walkers_66 rfl (-11) (by decide) ?_
                    refine ez_iret .int dX12_walkers_68 rfl rfl ?_
                    have eS : S_walkers q (nI j1) (nI j13) z (nI j26) = (-11, q) := by simp only [S_walkers, i1, i13, i26]; rw [if_pos hth]
                    exact ⟨by rw [eS], by rw [eS]; exact hC, FX.rf⟩
                · exact absurd h41 (by decide)
              · have p37 := Nat.pos_of_ne_zero hth
                have z37 := (hW.2.2.2.1 j1 (by omega)).2 p37
                have o37 := (hW.2.2.2.1 j1 (by omega)).1
                refine ez_aload_n 36 dX12_walkers_35 rfl rfl ?_
                refine ez_getf 39 (eR 70 0) dX12_walkers_36 rfl fl_X12_99 (by show 0 < 1; omega) rfl ?_
                refine ez_iload_n 40 dX12_walkers_39 rfl rfl ?_
                refine ez_zaldN j1 41 dX12_walkers_40 rfl (by decide) (by show 0 < 1; omega) (by show j1 < 4; omega) ?_
                refine ez_top (nI 1) (by rw [(hC.2.2.2.1 j1 (by omega)).1, if_neg hth]) ?_
                refine ez_nif_eq 44 57 dX12_walkers_41 rfl (by decide) (by omega) (fun h41 => ?_) (fun h41 => ?_)
                · exact absurd h41 (by decide)
                · refine ez_aload_n 45 dX12_walkers_44 rfl rfl ?_
                  refine ez_getf 48 (eR 71 0) dX12_walkers_45 rfl fl_X12_102 (by show 0 < 1; omega) rfl ?_
                  refine ez_iload_n 49 dX12_walkers_48 rfl rfl ?_
                  refine ez_ialdN j1 50 dX12_walkers_49 rfl (by decide) (by show 0 < 1; omega) (by show j1 < 4; omega) ?_
                  refine ez_top (nI (q.2.2.2.1.1 j1 - 1)) (((hC.2.2.2.1 j1 (by omega)).2 (by omega)).1) ?_
                  refine ez_iload_n 51 dX12_walkers_50 rfl rfl ?_
                  refine ez_ncmp_eq 54 57 dX12_walkers_51 rfl (by decide) (by omega) (by omega) (fun h51 => ?_) (fun h51 => ?_)
                  · refine ez_aload_n 58 dX12_walkers_57 rfl rfl ?_
                    refine ez_getf 61 (eR 70 0) dX12_walkers_58 rfl fl_X12_99 (by show 0 < 1; omega) rfl ?_
                    refine ez_iload_n 62 dX12_walkers_61 rfl rfl ?_
                    refine ez_zaldN j1 63 dX12_walkers_62 rfl (by decide) (by show 0 < 1; omega) (by show j1 < 4; omega) ?_
                    refine ez_top (nI 1) (by rw [(hC.2.2.2.1 j1 (by omega)).1, if_neg hth]) ?_
                    refine ez_nif_ne 66 69 dX12_walkers_63 rfl (by decide) (by omega) (fun h63 => ?_) (fun h63 => ?_)
                    · refine ez_iconst 70 dX12_walkers_69 rfl (nI 0) (by decide) ?_
                      refine ez_istore 72 [(5, eI (nI 0)), (0, eR 12 0), (1, eI (nI j1)), (2, eI (nI j13)), (3, eI z), (4, eI (nI j26))] dX12_walkers_70 rfl (by decide) rfl ?_
                      refine ez_iconst 73 dX12_walkers_72 rfl (nI 0) (by decide) ?_
                      refine ez_istore 75 [(6, eI (nI 0)), (5, eI (nI 0)), (0, eR 12 0), (1, eI (nI j1)), (2, eI (nI j13)), (3, eI z), (4, eI (nI j26))] dX12_walkers_73 rfl (by decide) rfl ?_
                      by_cases n0 : j26 = 0
                      · subst n0
                        have eS : S_walkers q (nI j1) (nI j13) z (nI 0) = (nI 0, q) := by simp only [S_walkers, i1, i13, i26]; rw [if_neg hth, if_neg (fun z9 => z9 h51), if_pos trivial]
                        rw [eS]
                        refine ez_drop [(6, eI (nI 0)), (5, eI (nI 0)), (4, eI (nI 0)), (3, eI z), (1, eI (nI j1)), (0, eR 12 0)] (by simp) ?_
                        exact ez_wk (fun r M' z9 => ⟨z9.1, by rw [z9.2]; exact hC, by rw [z9.2]; exact FX.rf⟩) (mwalkers_n0 g d (q := q) j1 z M)
                      · cases hz : ep_ix z (q.2.2.2.1.2.1 j1 + 1) with
                        | none =>
                          have eS : S_walkers q (nI j1) (nI j13) z (nI j26) = (-12, q) := by simp only [S_walkers, i1, i13, i26]; rw [if_neg hth, if_neg (fun z9 => z9 h51), if_neg n0, hz]
                          rw [eS]
                          refine ez_drop [(6, eI (nI 0)), (5, eI (nI 0)), (4, eI (nI j26)), (3, eI z), (1, eI (nI j1)), (0, eR 12 0)] (by simp) ?_
                          exact ez_wk (fun r M' z9 => ⟨z9.1, by rw [z9.2]; exact hC, by rw [z9.2]; exact FX.rf⟩) (mwalkers_bad g d j1 j26 z M hd hW hC b1 p37 (by omega) (by omega) hz)
                        | some f =>
                          have f9 := ep_ix_in hz
                          have ez := ep_ix_some (by omega) hz
                          subst ez
                          have eS : S_walkers q (nI j1) (nI j13) (nI f) (nI j26) = if f + 3 * j26 ≤ q.2.2.2.1.2.1 j1 then (nI (s_ws q (q.2.2.2.1.2.2 j1) f j26).2, (s_ws q (q.2.2.2.1.2.2 j1) f j26).1) else (-12, (s_ws q (q.2.2.2.1.2.2 j1) f ((q.2.2.2.1.2.1 j1 - f) / 3)).1) := by simp only [S_walkers, i1, i13, i26]; rw [if_neg hth, if_neg (fun z9 => z9 h51), if_neg n0, hz]
                          rw [eS]
                          refine ez_drop [(6, eI (nI 0)), (5, eI (nI 0)), (4, eI (nI j26)), (3, eI (nI f)), (1, eI (nI j1)), (0, eR 12 0)] (by simp) ?_
                          exact lp_mwalkers g d j1 j26 f M hd hW hC b1 p37 (by omega) (by omega) _ 0 0 M rfl (by omega) (by omega) rfl hC FX.rf
                    · exact absurd h63 (by decide)
                  · refine ez_bipush 56 dX12_walkers_54 rfl (-13) (by decide) ?_
                    refine ez_iret .int dX12_walkers_56 rfl rfl ?_
                    have eS : S_walkers q (nI j1) (nI j13) z (nI j26) = (-13, q) := by simp only [S_walkers, i1, i13, i26]; rw [if_neg hth, if_pos h51]
                    exact ⟨by rw [eS], by rw [eS]; exact hC, FX.rf⟩
            · exact absurd h29 (by decide)
