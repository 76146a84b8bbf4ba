/-! rooms alike: what no search can part -/
theorem bf_d_back {sf : BfF} {e : BfE} {B : BfS} {c : Nat} (h : (bf_d sf e B (c + 1)).2 = none) : (bf_d sf e B c).2 = none := by
  cases h1 : (bf_d sf e B c).2 with
  | none => rfl
  | some v =>
    simp only [bf_d, h1] at h
    cases h
theorem bf_d_cl {sf : BfF} {e : BfE} {B : BfS} : ∀ n, (bf_d sf e B n).2 = none → ∀ c, c < n → sf e c = none ∨ ∃ e', sf e c = some (.inl e') ∧ Bvis (bf_d sf e B n).1 e'.1
  | 0, _, c, hc => by omega
  | n + 1, h, c, hc => by
    have h0 := bf_d_back h
    by_cases q : c = n
    · subst q
      cases h2 : sf e c with
      | none => exact Or.inl rfl
      | some z =>
        cases z with
        | inl e' =>
          refine Or.inr ⟨e', rfl, ?_⟩
          have e1 : bf_d sf e B c = ((bf_d sf e B c).1, none) := by rw [← h0]
          rw [bf_d_new e1 h2]
          exact Bvis_add.mpr (Or.inr rfl)
        | inr v =>
          simp only [bf_d, h0, h2] at h
          cases h
    · rcases bf_d_cl n h0 c (by omega) with z | ⟨e', z1, z2⟩
      · exact Or.inl z
      · refine Or.inr ⟨e', z1, ?_⟩
        have x1 : BfX (bf_d sf e B n).1 (bf_d sf e B (n + 1)).1 := by
          simp only [bf_d, h0]
          cases h2 : sf e n with
          | none => exact BfX.rf
          | some z =>
            cases z with
            | inl e' => exact BfX.add
            | inr v => exact BfX.rf
        exact x1.vis z2
theorem bf_h_back {sf : BfF} {B : BfS} {k : Nat} (h : (bf_h sf B (k + 1)).2 = none) : (bf_h sf B k).2 = none := by
  cases h1 : (bf_h sf B k).2 with
  | none => rfl
  | some v =>
    simp only [bf_h, h1] at h
    cases h
theorem bf_h_cl {sf : BfF} {B : BfS} : ∀ k, (bf_h sf B k).2 = none → ∀ i, i < k → i < (bf_h sf B k).1.1 → ∀ c, c < 4 → sf ((bf_h sf B k).1.2 i) c = none ∨ ∃ e', sf ((bf_h sf B k).1.2 i) c = some (.inl e') ∧ Bvis (bf_h sf B k).1 e'.1
  | 0, _, i, hi, _ => by omega
  | k + 1, h, i, hi, hi2 => by
    intro c hc
    have h0 := bf_h_back h
    have x1 := bf_h_ext1 sf B k
    by_cases q : k < (bf_h sf B k).1.1
    · have e1 : bf_h sf B k = ((bf_h sf B k).1, none) := by rw [← h0]
      have e2 := bf_h_go (B2 := (bf_d sf ((bf_h sf B k).1.2 k) (bf_h sf B k).1 4).1) (r := (bf_d sf ((bf_h sf B k).1.2 k) (bf_h sf B k).1 4).2) e1 q rfl
      by_cases z : i = k
      · subst z
        have e3 : (bf_h sf B (i + 1)).1.2 i = (bf_h sf B i).1.2 i := x1.2 i q
        rw [e3, e2]
        rw [e2] at h
        exact bf_d_cl 4 h c hc
      · have hi3 : i < (bf_h sf B k).1.1 := by omega
        rw [x1.2 i hi3]
        rcases bf_h_cl k h0 i (by omega) hi3 c hc with y | ⟨e', y1, y2⟩
        · exact Or.inl y
        · exact Or.inr ⟨e', y1, x1.vis y2⟩
    · have e1 : bf_h sf B k = ((bf_h sf B k).1, none) := by rw [← h0]
      have e2 := bf_h_end e1 (by omega) 1
      rw [e2] at hi2 ⊢
      have hi4 : i < (bf_h sf B k).1.1 := hi2
      exact bf_h_cl k h0 i (by omega) hi4 c hc
theorem bf_d_no {sf : BfF} {e : BfE} {B : BfS} (h : ∀ c, c < 4 → ∀ v, sf e c ≠ some (.inr v)) : ∀ n, n ≤ 4 → (bf_d sf e B n).2 = none
  | 0, _ => rfl
  | n + 1, hn => by
    have ih := bf_d_no (B := B) h n (by omega)
    simp only [bf_d, ih]
    cases h2 : sf e n with
    | none => rfl
    | some z =>
      cases z with
      | inl e' => rfl
      | inr v => exact absurd h2 (h n (by omega) v)
theorem bf_h_no {sf : BfF} {I : BfE → Prop} {B : BfS} (hB : ∀ i, i < B.1 → I (B.2 i)) (hs : ∀ e c e', I e → c < 4 → sf e c = some (.inl e') → I e') (h : ∀ e c, I e → c < 4 → ∀ v, sf e c ≠ some (.inr v)) : ∀ k, (bf_h sf B k).2 = none
  | 0 => rfl
  | k + 1 => by
    have ih := bf_h_no hB hs h k
    simp only [bf_h, ih]
    by_cases q : k < (bf_h sf B k).1.1
    · rw [if_pos q]
      exact bf_d_no (fun c hc => h _ c (bf_h_inv hB hs k k q) hc) 4 (by omega)
    · rw [if_neg q]
theorem t_sf_v {la lb : Nat → Int32} {e : BfE} {c : Nat} {v : Nat × Int32} (hs : t_sf la lb e c = some (.inr v)) : v.1 = e.2.1 + 1 := by
  unfold t_sf at hs
  split at hs
  · cases hs
  · split at hs
    · cases hs; rfl
    · cases hs
theorem bf_d_v {sf : BfF} (hv : ∀ e c v, sf e c = some (.inr v) → v.1 = e.2.1 + 1) {e : BfE} {B : BfS} {v : Nat × Int32} : ∀ n, (bf_d sf e B n).2 = some v → v.1 = e.2.1 + 1
  | 0, h => by cases h
  | n + 1, h => by
    cases h1 : (bf_d sf e B n).2 with
    | some u =>
      simp only [bf_d, h1] at h
      cases h
      exact bf_d_v hv n h1
    | none =>
      cases h2 : sf e n with
      | none => simp only [bf_d, h1, h2] at h; cases h
      | some z =>
        cases z with
        | inl e' => simp only [bf_d, h1, h2] at h; cases h
        | inr u =>
          simp only [bf_d, h1, h2] at h
          cases h
          exact hv e n _ h2
theorem bf_h_v {sf : BfF} (hv : ∀ e c v, sf e c = some (.inr v) → v.1 = e.2.1 + 1) (hs : ∀ e c e', sf e c = some (.inl e') → e'.2.1 = e.2.1 + 1) {B : BfS} (hB : Bfar B) {v : Nat × Int32} : ∀ k, (bf_h sf B k).2 = some v → v.1 ≤ k
  | 0, h => by cases h
  | k + 1, h => by
    cases h1 : (bf_h sf B k).2 with
    | some u =>
      simp only [bf_h, h1] at h
      cases h
      have := bf_h_v hv hs hB k h1
      omega
    | none =>
      simp only [bf_h, h1] at h
      by_cases q : k < (bf_h sf B k).1.1
      · rw [if_pos q] at h
        have e1 := bf_d_v hv 4 h
        have e2 := bf_h_far hs hB k k q
        omega
      · rw [if_neg q] at h; cases h
theorem t_go_lt {la lb : Nat → Int32} {a b : Nat} {v : Nat × Int32} (h : t_go la lb a b = some v) : v.1 ≤ 100 := by
  unfold t_go at h
  split at h
  · exact bf_h_v (fun e c v => t_sf_v) (t_sf_far la lb) (bf_0_far _) 100 h
  · cases h; decide
def Bsim (n : Nat) (lt : Nat → Int32) (Z : Nat → Nat → Prop) : Prop := ∀ x y, Z x y → x < n ∧ y < n ∧ ep_dn lt x = ep_dn lt y ∧ ∀ c r1 c1 r2 c2, c < 4 → r1 < n → c1 < 4 → r2 < n → c2 < 4 → lt (4 * x + c) = nI (10 * r1 + c1) → lt (4 * y + c) = nI (10 * r2 + c2) → c1 = c2 ∧ Z r1 r2
theorem t_go_sim {n : Nat} {lt : Nat → Int32} (hz : WFz n lt) {Z : Nat → Nat → Prop} (hZ : Bsim n lt Z) {a b : Nat} (h : Z a b) : t_go lt lt a b = none := by
  have n10 := hz.2.1
  obtain ⟨ha, hb, hdn, -⟩ := hZ a b h
  unfold t_go
  rw [if_pos hdn]
  have key : ∀ e c, Z (e.1 / 10) (e.1 % 10) → c < 4 → t_sf lt lt e c = none ∨ ∃ e' : BfE, t_sf lt lt e c = some (.inl e') ∧ Z (e'.1 / 10) (e'.1 % 10) := by
    intro e c he hc
    obtain ⟨h1, h2, h3, h4⟩ := hZ _ _ he
    rcases hz.2.2 (e.1 / 10) c (by omega) hc with z | ⟨-, r1, c1, b1, b2, b3⟩
    · exact Or.inl (t_sf_skip (Or.inl z))
    · rcases hz.2.2 (e.1 % 10) c (by omega) hc with z | ⟨-, r2, c2, b4, b5, b6⟩
      · exact Or.inl (t_sf_skip (Or.inr z))
      · obtain ⟨k1, k2⟩ := h4 c r1 c1 r2 c2 hc b1 b2 b4 b5 b3 b6
        refine Or.inr ⟨_, t_sf_new (show 10 * r1 + c1 < 2 ^ 31 by omega) (show 10 * r2 + c2 < 2 ^ 31 by omega) b3 b6 (by omega) ?_, ?_⟩
        · rw [show (10 * r1 + c1) / 10 = r1 by omega, show (10 * r2 + c2) / 10 = r2 by omega]
          exact (hZ _ _ k2).2.2.1
        · show Z (((10 * r1 + c1) / 10 * 10 + (10 * r2 + c2) / 10) / 10) (((10 * r1 + c1) / 10 * 10 + (10 * r2 + c2) / 10) % 10)
          rw [show ((10 * r1 + c1) / 10 * 10 + (10 * r2 + c2) / 10) / 10 = r1 by omega, show ((10 * r1 + c1) / 10 * 10 + (10 * r2 + c2) / 10) % 10 = r2 by omega]
          exact k2
  refine bf_h_no (I := fun e => Z (e.1 / 10) (e.1 % 10)) (fun i _ => ?_) (fun e c e' he hc hs => ?_) (fun e c he hc v hs => ?_) 100
  · show Z ((a * 10 + b) / 10) ((a * 10 + b) % 10)
    rw [show (a * 10 + b) / 10 = a by omega, show (a * 10 + b) % 10 = b by omega]
    exact h
  · rcases key e c he hc with z | ⟨e2, z1, z2⟩
    · rw [z] at hs; cases hs
    · rw [z1] at hs; cases hs; exact z2
  · rcases key e c he hc with z | ⟨e2, z1, z2⟩
    · rw [z] at hs; cases hs
    · rw [z1] at hs; cases hs
theorem t_go_none {n : Nat} {lt : Nat → Int32} (hz : WFz n lt) {a b : Nat} (ha : a < n) (hb : b < n) (h : t_go lt lt a b = none) : ∃ Z, Bsim n lt Z ∧ Z a b := by
  have n10 := hz.2.1
  unfold t_go at h
  by_cases hdn : ep_dn lt a = ep_dn lt b
  · rw [if_pos hdn] at h
    have i0 : ∀ i, i < (bf_0 (a * 10 + b)).1 → t_I n n lt lt ((bf_0 (a * 10 + b)).2 i) := fun i _ => by
      show (a * 10 + b) / 10 < n ∧ (a * 10 + b) % 10 < n ∧ ep_dn lt ((a * 10 + b) / 10) = ep_dn lt ((a * 10 + b) % 10)
      rw [show (a * 10 + b) / 10 = a by omega, show (a * 10 + b) % 10 = b by omega]
      exact ⟨ha, hb, hdn⟩
    have I9 := bf_h_inv i0 (t_sf_I hz hz) 100
    have A9 := bf_h_ap (t_sf lt lt) (bf_0_ap (a * 10 + b)) 100
    have N9 : ∀ i, i < (bf_h (t_sf lt lt) (bf_0 (a * 10 + b)) 100).1.1 → ((bf_h (t_sf lt lt) (bf_0 (a * 10 + b)) 100).1.2 i).1 < 100 := fun i hi => by
      have := I9 i hi
      unfold t_I at this
      omega
    have L9 := A9.le N9
    have C9 := bf_h_cl 100 h
    have X9 := bf_h_ext (t_sf lt lt) (bf_0 (a * 10 + b)) 0 100
    rw [Nat.zero_add] at X9
    refine ⟨fun x y => x < n ∧ y < n ∧ Bvis (bf_h (t_sf lt lt) (bf_0 (a * 10 + b)) 100).1 (x * 10 + y), ?_, ha, hb, X9.vis (bf_0_vis.mpr rfl)⟩
    rintro x y ⟨hx, hy, i, hi, he⟩
    have I8 := I9 i hi
    unfold t_I at I8
    rw [he, show (x * 10 + y) / 10 = x by omega, show (x * 10 + y) % 10 = y by omega] at I8
    refine ⟨hx, hy, I8.2.2, fun c r1 c1 r2 c2 hc b1 b2 b4 b5 b3 b6 => ?_⟩
    have e1 : lt (4 * (((bf_h (t_sf lt lt) (bf_0 (a * 10 + b)) 100).1.2 i).1 / 10) + c) = nI (10 * r1 + c1) := by rw [he, show (x * 10 + y) / 10 = x by omega]; exact b3
    have e2 : lt (4 * (((bf_h (t_sf lt lt) (bf_0 (a * 10 + b)) 100).1.2 i).1 % 10) + c) = nI (10 * r2 + c2) := by rw [he, show (x * 10 + y) % 10 = y by omega]; exact b6
    by_cases q : ¬ (10 * r1 + c1) % 10 = (10 * r2 + c2) % 10 ∨ ¬ ep_dn lt ((10 * r1 + c1) / 10) = ep_dn lt ((10 * r2 + c2) / 10)
    · have s9 := t_sf_stop (show 10 * r1 + c1 < 2 ^ 31 by omega) (show 10 * r2 + c2 < 2 ^ 31 by omega) e1 e2 q
      rcases C9 i (by omega) hi c hc with z | ⟨e', z1, z2⟩
      · rw [s9] at z; cases z
      · rw [s9] at z1; cases z1
    · have q1 : (10 * r1 + c1) % 10 = (10 * r2 + c2) % 10 := Classical.byContradiction (fun z => q (Or.inl z))
      have q2 : ep_dn lt ((10 * r1 + c1) / 10) = ep_dn lt ((10 * r2 + c2) / 10) := Classical.byContradiction (fun z => q (Or.inr z))
      have s9 := t_sf_new (show 10 * r1 + c1 < 2 ^ 31 by omega) (show 10 * r2 + c2 < 2 ^ 31 by omega) e1 e2 q1 q2
      rcases C9 i (by omega) hi c hc with z | ⟨e', z1, z2⟩
      · rw [s9] at z; cases z
      · rw [s9] at z1
        cases z1
        have z3 : Bvis (bf_h (t_sf lt lt) (bf_0 (a * 10 + b)) 100).1 ((10 * r1 + c1) / 10 * 10 + (10 * r2 + c2) / 10) := z2
        rw [show (10 * r1 + c1) / 10 = r1 by omega, show (10 * r2 + c2) / 10 = r2 by omega] at z3
        exact ⟨by omega, b1, b4, z3⟩
  · rw [if_neg hdn] at h; cases h
/-- one round of parting: rooms that are one -/
def A1 (lt : Nat → Int32) (sv : Nat → Nat) (a b : Nat) : Prop := sv a = sv b ∧ ep_dn lt a = ep_dn lt b ∧ ∀ c, c < 4 → lt (4 * a + c) = -1 ∨ ((lt (4 * a + c)).toNatClampNeg % 10 = (lt (4 * b + c)).toNatClampNeg % 10 ∧ sv ((lt (4 * a + c)).toNatClampNeg / 10) = sv ((lt (4 * b + c)).toNatClampNeg / 10))
theorem A1.rf {lt : Nat → Int32} {sv : Nat → Nat} {a : Nat} : A1 lt sv a a := ⟨rfl, rfl, fun _ _ => Or.inr ⟨rfl, rfl⟩⟩
theorem A1.sy {lt : Nat → Int32} {sv : Nat → Nat} {a b : Nat} (h : A1 lt sv a b) : A1 lt sv b a := by
  refine ⟨h.1.symm, h.2.1.symm, fun c hc => ?_⟩
  rcases h.2.2 c hc with z | ⟨z1, z2⟩
  · exact Or.inl ((bz_dn h.2.1 hc).mp z)
  · exact Or.inr ⟨z1.symm, z2.symm⟩
theorem A1.tr {lt : Nat → Int32} {sv : Nat → Nat} {a b e : Nat} (h : A1 lt sv a b) (h2 : A1 lt sv b e) : A1 lt sv a e := by
  refine ⟨h.1.trans h2.1, h.2.1.trans h2.2.1, fun c hc => ?_⟩
  rcases h.2.2 c hc with z | ⟨z1, z2⟩
  · exact Or.inl z
  · rcases h2.2.2 c hc with y | ⟨y1, y2⟩
    · exact Or.inl ((bz_dn h.2.1 hc).mpr y)
    · exact Or.inr ⟨z1.trans y1, z2.trans y2⟩
def NX (lt : Nat → Int32) (sv : Nat → Nat) (a v : Nat) : Prop := v ≤ a ∧ A1 lt sv a v ∧ ∀ b, b < v → ¬ A1 lt sv a b
def SI (n : Nat) (lt : Nat → Int32) (sv : Nat → Nat) : Prop := (∀ x, x < n → sv x ≤ x) ∧ ∀ a b, a < n → b < n → t_go lt lt a b = none → sv a = sv b
theorem SI_0 (n : Nat) (lt : Nat → Int32) : SI n lt (fun _ => 0) := ⟨fun x _ => Nat.zero_le x, fun _ _ _ _ _ => rfl⟩
theorem A1_go {n : Nat} {lt : Nat → Int32} {sv : Nat → Nat} (hz : WFz n lt) (h : SI n lt sv) {a b : Nat} (ha : a < n) (hb : b < n) (hg : t_go lt lt a b = none) : A1 lt sv a b := by
  have n10 := hz.2.1
  obtain ⟨Z, hZ, zab⟩ := t_go_none hz ha hb hg
  obtain ⟨-, -, hdn, h4⟩ := hZ a b zab
  refine ⟨h.2 a b ha hb hg, hdn, fun c hc => ?_⟩
  rcases hz.2.2 a c (by omega) hc with z | ⟨-, r1, c1, b1, b2, b3⟩
  · exact Or.inl z
  · rcases hz.2.2 b c (by omega) hc with z | ⟨-, r2, c2, b4, b5, b6⟩
    · exact Or.inl ((bz_dn hdn hc).mpr z)
    · obtain ⟨k1, k2⟩ := h4 c r1 c1 r2 c2 hc b1 b2 b4 b5 b3 b6
      refine Or.inr ?_
      rw [b3, b6, nI_clamp (by omega), nI_clamp (by omega), show (10 * r1 + c1) / 10 = r1 by omega, show (10 * r2 + c2) / 10 = r2 by omega]
      exact ⟨by omega, h.2 r1 r2 b1 b4 (t_go_sim hz hZ k2)⟩
theorem SI_nx {n : Nat} {lt : Nat → Int32} {sv sw : Nat → Nat} (hz : WFz n lt) (h : SI n lt sv) (hn : ∀ a, a < n → NX lt sv a (sw a)) : SI n lt sw ∧ ∀ x, x < n → sv x ≤ sw x := by
  refine ⟨⟨fun x hx => (hn x hx).1, fun a b ha hb hg => ?_⟩, fun x hx => ?_⟩
  · have k := A1_go hz h ha hb hg
    obtain ⟨a1, a2, a3⟩ := hn a ha
    obtain ⟨b1, b2, b3⟩ := hn b hb
    have x1 : ¬ sw b < sw a := fun z => a3 (sw b) z (k.tr b2)
    have x2 : ¬ sw a < sw b := fun z => b3 (sw a) z (k.sy.tr a2)
    omega
  · obtain ⟨a1, a2, a3⟩ := hn x hx
    have := h.1 (sw x) (by omega)
    have e := a2.1
    omega
theorem SI_end {n : Nat} {lt : Nat → Int32} {sv : Nat → Nat} (hz : WFz n lt) (h : SI n lt sv) (hn : ∀ a, a < n → NX lt sv a (sv a)) {a b : Nat} (ha : a < n) (hb : b < n) : t_go lt lt a b = none ↔ A1 lt sv a b := by
  refine ⟨A1_go hz h ha hb, fun k => ?_⟩
  have n10 := hz.2.1
  have key : ∀ x y, x < n → y < n → sv x = sv y → A1 lt sv x y := fun x y hx hy e => by
    obtain ⟨a1, a2, a3⟩ := hn x hx
    obtain ⟨b1, b2, b3⟩ := hn y hy
    rw [e] at a2
    exact a2.tr b2.sy
  refine t_go_sim hz (Z := fun x y => x < n ∧ y < n ∧ sv x = sv y) ?_ ⟨ha, hb, k.1⟩
  rintro x y ⟨hx, hy, e⟩
  have k2 := key x y hx hy e
  refine ⟨hx, hy, k2.2.1, fun c r1 c1 r2 c2 hc b1 b2 b4 b5 b3 b6 => ?_⟩
  rcases k2.2.2 c hc with z | ⟨z1, z2⟩
  · rw [b3] at z; exact absurd z (ep_m1 (by omega))
  · rw [b3, b6, nI_clamp (by omega), nI_clamp (by omega)] at z1 z2
    rw [show (10 * r1 + c1) / 10 = r1 by omega, show (10 * r2 + c2) / 10 = r2 by omega] at z2
    exact ⟨by omega, b1, b4, z2⟩
noncomputable def s_la (lt : Nat → Int32) (a : Nat) : Nat := match er_fst (fun b => (t_go lt lt a b).isNone) a with
  | some b => b
  | none => a
theorem SI_la {n : Nat} {lt : Nat → Int32} {sv : Nat → Nat} (hz : WFz n lt) (h : SI n lt sv) (hn : ∀ a, a < n → NX lt sv a (sv a)) {a : Nat} (ha : a < n) : sv a = s_la lt a := by
  obtain ⟨a1, a2, a3⟩ := hn a ha
  have f1 : ∀ j, j < sv a → (t_go lt lt a j).isNone = false := fun j hj => by
    cases q : t_go lt lt a j with
    | none => exact absurd ((SI_end hz h hn ha (by omega)).mp q) (a3 j hj)
    | some v => rfl
  unfold s_la
  by_cases e : sv a = a
  · rw [er_fst_none (p := fun b => (t_go lt lt a b).isNone) (fun j hj => f1 j (by omega))]
    exact e
  · have e2 : t_go lt lt a (sv a) = none := (SI_end hz h hn ha (by omega)).mpr a2
    rw [er_fst_some (p := fun b => (t_go lt lt a b).isNone) (i := sv a) (by show (t_go lt lt a (sv a)).isNone = true; rw [e2]; rfl) f1 (by omega)]
def er_sm (f : Nat → Nat) : Nat → Nat
  | 0 => 0
  | k + 1 => er_sm f k + f k
theorem er_sm_le {f g : Nat → Nat} : ∀ n, (∀ x, x < n → f x ≤ g x) → er_sm f n ≤ er_sm g n
  | 0, _ => Nat.le_refl _
  | n + 1, h => by
    have := er_sm_le n (fun x hx => h x (by omega))
    have := h n (by omega)
    show er_sm f n + f n ≤ er_sm g n + g n
    omega
theorem er_sm_lt {f g : Nat → Nat} {j : Nat} : ∀ n, (∀ x, x < n → f x ≤ g x) → j < n → f j < g j → er_sm f n < er_sm g n
  | 0, _, h, _ => by omega
  | n + 1, h, hj, he => by
    show er_sm f n + f n < er_sm g n + g n
    by_cases q : j = n
    · subst q
      have := er_sm_le j (fun x hx => h x (by omega))
      omega
    · have := er_sm_lt n (fun x hx => h x (by omega)) (by omega) he
      have := h n (by omega)
      omega
noncomputable def s_cn (lt : Nat → Int32) : Nat → Nat
  | 0 => 0
  | k + 1 => s_cn lt k + if s_la lt k = k then 1 else 0
noncomputable def S_alike (q : EpS) (x y : Int32) : Int32 := match ep_ix x q.1.1 with
  | none => -2
  | some m => if y = -1 then nI (s_cn (q.1.2.2.1 m) (q.1.2.1 m)) else match ep_ix y (q.1.2.1 m) with
    | none => -2
    | some r => nI (s_la (q.1.2.2.1 m) r)
theorem s_cn_le (lt : Nat → Int32) : ∀ k, s_cn lt k ≤ k
  | 0 => Nat.le_refl _
  | k + 1 => by
    have := s_cn_le lt k
    show s_cn lt k + (if s_la lt k = k then 1 else 0) ≤ k + 1
    split <;> omega
theorem s_la_le (lt : Nat → Int32) (a : Nat) : s_la lt a ≤ a := by
  unfold s_la
  cases h : er_fst (fun b => (t_go lt lt a b).isNone) a with
  | none => exact Nat.le_refl _
  | some b => have := (er_fst_in h).1; show b ≤ a; omega
set_option maxRecDepth 20000 in
theorem lp_least (G : EzG) (d : Nat) {n : Nat} {lt : Nat → Int32} (m a : Nat) (M : EzM) (hd : 5 ≤ d) (hm : m < 4) (hwf : WFz n lt) (ha : a < n) (hZ : RCz m n lt M) : ∀ (z : Nat) (t : Nat) (M1 : EzM), a - t = z → t ≤ a → (∀ j, j < t → (t_go lt lt a j).isNone = false) → FX PF M M1 → Ez G mX11_leastAlike d 2 [(3, eI (nI t)), (0, eR 11 0), (1, eR 1 m), (2, eI (nI a))] [] M1 (fun r M' => r = some (eI (nI (s_la lt a))) ∧ FX PF M M') := by
  intro z
  induction z using Nat.strongRecOn with
  | ind z ih =>
    intro t M1 hz ht hj0 hF
    have n10 := hwf.2.1
    refine ez_iload_n 3 dX11_leastAlike_2 rfl rfl ?_
    refine ez_iload_n 4 dX11_leastAlike_3 rfl rfl ?_
    refine ez_ncmp_ge 7 37 dX11_leastAlike_4 rfl (by decide) (by omega) (by omega) (fun h4 => ?_) (fun h4 => ?_)
    · refine ez_iload_n 38 dX11_leastAlike_37 rfl rfl ?_
      refine ez_iret .int dX11_leastAlike_38 rfl rfl ?_
      exact ⟨by unfold s_la; rw [er_fst_none (p := fun b => (t_go lt lt a b).isNone) (fun j hj => hj0 j (by omega))], hF⟩
    · refine ez_aload_n 8 dX11_leastAlike_7 rfl rfl ?_
      refine ez_getf 11 (eR 2 0) dX11_leastAlike_8 rfl fl_X11_83 (by show 0 < 1; omega) rfl ?_
      refine ez_aload_n 12 dX11_leastAlike_11 rfl rfl ?_
      refine ez_iload_n 13 dX11_leastAlike_12 rfl rfl ?_
      refine ez_aload_n 14 dX11_leastAlike_13 rfl rfl ?_
      refine ez_iload_n 15 dX11_leastAlike_14 rfl rfl ?_
      refine ez_callV 18 [eR 1 m, eI (nI a), eR 1 m, eI (nI t)] [] dX11_leastAlike_15 rfl rfl ok_X2_seek in_X2_seek (by decide) (by show 0 < 1; omega) ln_X11_248 (by omega) (Nat.le_of_ble_eq_true rfl) (c_X2_seek G (d - 1) (n1 := n) (n2 := n) (la := lt) (lb := lt) m m a t M1 (by omega) hm hm hwf hwf ha (by omega) (hZ.fx hF ⟨by unfold PF; omega, fun x => by unfold PF; omega⟩) (hZ.fx hF ⟨by unfold PF; omega, fun x => by unfold PF; omega⟩)) (fun r15 M15 q15 => ?_)
      obtain ⟨rfl, g15, w15, f15⟩ := q15
      show Ez G mX11_leastAlike d 18 [(3, eI (nI t)), (0, eR 11 0), (1, eR 1 m), (2, eI (nI a))] [] M15 _
      refine ez_aload_n 19 dX11_leastAlike_18 rfl rfl ?_
      refine ez_getf 22 (eR 2 0) dX11_leastAlike_19 rfl fl_X11_83 (by show 0 < 1; omega) rfl ?_
      refine ez_getf 25 (eI (M15.1 2 0 5)) dX11_leastAlike_22 rfl fl_X11_252 (by show 0 < 1; omega) rfl ?_
      refine ez_top (t_g (t_go lt lt a t)) g15 ?_
      cases hgo : t_go lt lt a t with
      | none =>
        refine ez_top (-1) rfl ?_
        refine ez_iconst 26 dX11_leastAlike_25 rfl (-1) (by decide) ?_
        refine ez_icmp_ne 29 31 dX11_leastAlike_26 rfl (by decide) (fun h26 => ?_) (fun h26 => ?_)
        · exact absurd rfl h26
        · refine ez_iload_n 30 dX11_leastAlike_29 rfl rfl ?_
          refine ez_iret .int dX11_leastAlike_30 rfl rfl ?_
          exact ⟨by unfold s_la; rw [er_fst_some (p := fun b => (t_go lt lt a b).isNone) (i := t) (by show (t_go lt lt a t).isNone = true; rw [hgo]; rfl) hj0 (by omega)], hF.tr f15⟩
      | some v =>
        refine ez_top (nI v.1) rfl ?_
        refine ez_iconst 26 dX11_leastAlike_25 rfl (-1) (by decide) ?_
        refine ez_icmp_ne 29 31 dX11_leastAlike_26 rfl (by decide) (fun h26 => ?_) (fun h26 => ?_)
        · refine ez_iinc 34 (nI (t + 1)) [(3, eI (nI (t + 1))), (0, eR 11 0), (1, eR 1 m), (2, eI (nI a))] dX11_leastAlike_31 rfl rfl (nI_add t 1) (by decide) rfl ?_
          refine ez_goto 2 dX11_leastAlike_34 (by decide) ?_
          exact ih (a - (t + 1)) (by omega) (t + 1) _ rfl (by omega) (fun j hj => by
            by_cases e : j = t
            · rw [e, hgo]; rfl
            · exact hj0 j (by omega)) (hF.tr f15)
        · exact absurd h26 (ep_m1 (by have := t_go_lt hgo; omega))
set_option maxRecDepth 20000 in
theorem c_X11_leastAlike (G : EzG) (d : Nat) {n : Nat} {lt : Nat → Int32} (m a : Nat) (M : EzM) (hd : 5 ≤ d) (hm : m < 4) (hwf : WFz n lt) (ha : a < n) (hZ : RCz m n lt M) : Ezc G mX11_leastAlike d [eR 11 0, eR 1 m, eI (nI a)] M (fun r M' => r = some (eI (nI (s_la lt a))) ∧ FX PF M M') := by
  refine Ezc.of (by decide +kernel) (Nat.le_of_ble_eq_true rfl) ?_
  show Ez G mX11_leastAlike d 0 [(0, eR 11 0), (1, eR 1 m), (2, eI (nI a))] [] M _
  refine ez_iconst 1 dX11_leastAlike_0 rfl (nI 0) (by decide) ?_
  refine ez_istore_n 2 [(3, eI (nI 0)), (0, eR 11 0), (1, eR 1 m), (2, eI (nI a))] dX11_leastAlike_1 rfl (by decide) rfl ?_
  exact lp_least G d m a M hd hm hwf ha hZ _ 0 M rfl (by omega) (fun j hj => by omega) FX.rf
