/-! a search, breadth first: nodes with how far they are and by which walk, in the order in which they come -/
theorem er_pig : ∀ (N n : Nat) (f : Nat → Nat), (∀ i, i < n → f i < N) → (∀ i j, i < n → j < n → f i = f j → i = j) → n ≤ N := by
  intro N
  induction N with
  | zero =>
    intro n f h1 _
    rcases Nat.eq_zero_or_pos n with h | h
    · omega
    · have := h1 0 h; omega
  | succ N ih =>
    intro n f h1 h2
    by_cases h : ∃ i, i < n ∧ f i = N
    · obtain ⟨i0, hi0, e0⟩ := h
      have h3 : n - 1 ≤ N := by
        refine ih (n - 1) (fun i => if i < i0 then f i else f (i + 1)) (fun i hi => ?_) (fun i j hi hj e => ?_)
        · show (if i < i0 then f i else f (i + 1)) < N
          by_cases q : i < i0
          · rw [if_pos q]
            have a1 := h1 i (by omega)
            have a2 : f i ≠ N := fun z => by have := h2 i i0 (by omega) hi0 (by rw [z, e0]); omega
            omega
          · rw [if_neg q]
            have a1 := h1 (i + 1) (by omega)
            have a2 : f (i + 1) ≠ N := fun z => by have := h2 (i + 1) i0 (by omega) hi0 (by rw [z, e0]); omega
            omega
        · by_cases q : i < i0
          · rw [if_pos q] at e
            by_cases q2 : j < i0
            · rw [if_pos q2] at e
              exact h2 i j (by omega) (by omega) e
            · rw [if_neg q2] at e
              have := h2 i (j + 1) (by omega) (by omega) e
              omega
          · rw [if_neg q] at e
            by_cases q2 : j < i0
            · rw [if_pos q2] at e
              have := h2 (i + 1) j (by omega) (by omega) e
              omega
            · rw [if_neg q2] at e
              have := h2 (i + 1) (j + 1) (by omega) (by omega) e
              omega
      omega
    · have := ih n f (fun i hi => by
        have a1 := h1 i hi
        have a2 : f i ≠ N := fun z => h ⟨i, hi, z⟩
        omega) h2
      omega
abbrev BfE : Type := Nat × Nat × Int32
abbrev BfS : Type := Nat × (Nat → BfE)
abbrev BfF : Type := BfE → Nat → Option (BfE ⊕ (Nat × Int32))
def Bvis (B : BfS) (j : Nat) : Prop := ∃ i, i < B.1 ∧ (B.2 i).1 = j
noncomputable def bf_add (B : BfS) (e : BfE) : BfS := @ite _ (Bvis B e.1) (Classical.propDecidable _) B (B.1 + 1, va_up B.2 B.1 e)
theorem bf_add_in {B : BfS} {e : BfE} (h : Bvis B e.1) : bf_add B e = B := by unfold bf_add; rw [if_pos h]
theorem bf_add_new {B : BfS} {e : BfE} (h : ¬ Bvis B e.1) : bf_add B e = (B.1 + 1, va_up B.2 B.1 e) := by unfold bf_add; rw [if_neg h]
noncomputable def bf_d (sf : BfF) (e : BfE) (B : BfS) : Nat → BfS × Option (Nat × Int32)
  | 0 => (B, none)
  | c + 1 => match (bf_d sf e B c).2 with
    | some v => ((bf_d sf e B c).1, some v)
    | none => match sf e c with
      | none => ((bf_d sf e B c).1, none)
      | some (.inl e') => (bf_add (bf_d sf e B c).1 e', none)
      | some (.inr v) => ((bf_d sf e B c).1, some v)
noncomputable def bf_h (sf : BfF) (B : BfS) : Nat → BfS × Option (Nat × Int32)
  | 0 => (B, none)
  | k + 1 => match (bf_h sf B k).2 with
    | some v => ((bf_h sf B k).1, some v)
    | none => if k < (bf_h sf B k).1.1 then bf_d sf ((bf_h sf B k).1.2 k) (bf_h sf B k).1 4 else ((bf_h sf B k).1, none)
theorem bf_d_skip {sf : BfF} {e : BfE} {B B' : BfS} {c : Nat} (h : bf_d sf e B c = (B', none)) (hs : sf e c = none) : bf_d sf e B (c + 1) = (B', none) := by
  simp only [bf_d, h, hs]
theorem bf_d_new {sf : BfF} {e e' : BfE} {B B' : BfS} {c : Nat} (h : bf_d sf e B c = (B', none)) (hs : sf e c = some (.inl e')) : bf_d sf e B (c + 1) = (bf_add B' e', none) := by
  simp only [bf_d, h, hs]
theorem bf_d_stop {sf : BfF} {e : BfE} {B B' : BfS} {c : Nat} {v : Nat × Int32} (h : bf_d sf e B c = (B', none)) (hs : sf e c = some (.inr v)) : bf_d sf e B (c + 1) = (B', some v) := by
  simp only [bf_d, h, hs]
theorem bf_d_stay {sf : BfF} {e : BfE} {B B' : BfS} {v : Nat × Int32} {c : Nat} (h : bf_d sf e B c = (B', some v)) : ∀ n, bf_d sf e B (c + n) = (B', some v)
  | 0 => h
  | n + 1 => by
    have ih := bf_d_stay h n
    show bf_d sf e B ((c + n) + 1) = _
    simp only [bf_d, ih]
theorem bf_h_go {sf : BfF} {B B' B2 : BfS} {k : Nat} {r : Option (Nat × Int32)} (h : bf_h sf B k = (B', none)) (hk : k < B'.1) (hd : bf_d sf (B'.2 k) B' 4 = (B2, r)) : bf_h sf B (k + 1) = (B2, r) := by
  simp only [bf_h, h]
  rw [if_pos hk, hd]
theorem bf_h_end {sf : BfF} {B B' : BfS} {k : Nat} (h : bf_h sf B k = (B', none)) (hk : B'.1 ≤ k) : ∀ n, bf_h sf B (k + n) = (B', none)
  | 0 => h
  | n + 1 => by
    have ih := bf_h_end h hk n
    show bf_h sf B ((k + n) + 1) = _
    simp only [bf_h, ih]
    rw [if_neg (by omega)]
theorem bf_h_stop {sf : BfF} {B B' : BfS} {k : Nat} {v : Nat × Int32} (h : bf_h sf B k = (B', some v)) : ∀ n, bf_h sf B (k + n) = (B', some v)
  | 0 => h
  | n + 1 => by
    have ih := bf_h_stop h n
    show bf_h sf B ((k + n) + 1) = _
    simp only [bf_h, ih]
/-- what grows -/
def BfX (B B' : BfS) : Prop := B.1 ≤ B'.1 ∧ ∀ i, i < B.1 → B'.2 i = B.2 i
theorem BfX.rf {B : BfS} : BfX B B := ⟨Nat.le_refl _, fun _ _ => rfl⟩
theorem BfX.tr {A B C : BfS} (h : BfX A B) (h2 : BfX B C) : BfX A C := ⟨Nat.le_trans h.1 h2.1, fun i hi => by rw [h2.2 i (Nat.lt_of_lt_of_le hi h.1)]; exact h.2 i hi⟩
theorem BfX.add {B : BfS} {e : BfE} : BfX B (bf_add B e) := by
  by_cases h : Bvis B e.1
  · rw [bf_add_in h]; exact BfX.rf
  · rw [bf_add_new h]
    exact ⟨by show B.1 ≤ B.1 + 1; omega, fun i hi => by show va_up B.2 B.1 e i = _; rw [va_up_ne _ _ (by omega)]⟩
theorem BfX.vis {B B' : BfS} {j : Nat} (h : BfX B B') (hv : Bvis B j) : Bvis B' j := by
  obtain ⟨i, hi, e⟩ := hv
  exact ⟨i, Nat.lt_of_lt_of_le hi h.1, by rw [h.2 i hi]; exact e⟩
theorem bf_d_ext (sf : BfF) (e : BfE) (B : BfS) : ∀ c, BfX B (bf_d sf e B c).1
  | 0 => BfX.rf
  | c + 1 => by
    have ih := bf_d_ext sf e B c
    simp only [bf_d]
    cases h : (bf_d sf e B c).2 with
    | some v => exact ih
    | none =>
      simp only []
      cases h2 : sf e c with
      | none => exact ih
      | some z =>
        cases z with
        | inl e' => exact ih.tr BfX.add
        | inr v => exact ih
theorem bf_h_ext1 (sf : BfF) (B : BfS) (k : Nat) : BfX (bf_h sf B k).1 (bf_h sf B (k + 1)).1 := by
  simp only [bf_h]
  cases h : (bf_h sf B k).2 with
  | some v => exact BfX.rf
  | none =>
    simp only []
    by_cases q : k < (bf_h sf B k).1.1
    · rw [if_pos q]; exact bf_d_ext sf _ _ 4
    · rw [if_neg q]; exact BfX.rf
theorem bf_h_ext (sf : BfF) (B : BfS) (k : Nat) : ∀ n, BfX (bf_h sf B k).1 (bf_h sf B (k + n)).1
  | 0 => BfX.rf
  | n + 1 => (bf_h_ext sf B k n).tr (bf_h_ext1 sf B (k + n))
/-- an invariant of entries -/
theorem bf_d_inv {sf : BfF} {I : BfE → Prop} {e : BfE} {B : BfS} (hB : ∀ i, i < B.1 → I (B.2 i)) (hs : ∀ c e', c < 4 → sf e c = some (.inl e') → I e') : ∀ c, c ≤ 4 → ∀ i, i < (bf_d sf e B c).1.1 → I ((bf_d sf e B c).1.2 i)
  | 0, _ => hB
  | c + 1, hc => by
    have ih := bf_d_inv (sf := sf) (e := e) hB hs c (by omega)
    simp only [bf_d]
    cases h : (bf_d sf e B c).2 with
    | some v => exact ih
    | none =>
      simp only []
      cases h2 : sf e c with
      | none => exact ih
      | some z =>
        cases z with
        | inr v => exact ih
        | inl e' =>
          show ∀ i, i < (bf_add (bf_d sf e B c).1 e').1 → I ((bf_add (bf_d sf e B c).1 e').2 i)
          by_cases q : Bvis (bf_d sf e B c).1 e'.1
          · rw [bf_add_in q]; exact ih
          · rw [bf_add_new q]
            intro i hi
            show I (va_up _ _ _ i)
            by_cases e0 : i = (bf_d sf e B c).1.1
            · rw [e0, va_up_self]; exact hs c e' (by omega) h2
            · rw [va_up_ne _ _ e0]; exact ih i (by have : i < (bf_d sf e B c).1.1 + 1 := hi; omega)
theorem bf_h_inv {sf : BfF} {I : BfE → Prop} {B : BfS} (hB : ∀ i, i < B.1 → I (B.2 i)) (hs : ∀ e c e', I e → c < 4 → sf e c = some (.inl e') → I e') : ∀ k i, i < (bf_h sf B k).1.1 → I ((bf_h sf B k).1.2 i)
  | 0 => hB
  | k + 1 => by
    have ih := bf_h_inv hB hs k
    simp only [bf_h]
    cases h : (bf_h sf B k).2 with
    | some v => exact ih
    | none =>
      simp only []
      by_cases q : k < (bf_h sf B k).1.1
      · rw [if_pos q]
        exact bf_d_inv ih (fun c e' hc he => hs _ c e' (ih k q) hc he) 4 (by omega)
      · rw [if_neg q]; exact ih
/-- the nodes are apart -/
def Bap (B : BfS) : Prop := ∀ i j, i < B.1 → j < B.1 → (B.2 i).1 = (B.2 j).1 → i = j
theorem Bap.add {B : BfS} {e : BfE} (h : Bap B) : Bap (bf_add B e) := by
  by_cases q : Bvis B e.1
  · rw [bf_add_in q]; exact h
  · rw [bf_add_new q]
    intro i j hi hj he
    have hi' : i < B.1 + 1 := hi
    have hj' : j < B.1 + 1 := hj
    have he' : (va_up B.2 B.1 e i).1 = (va_up B.2 B.1 e j).1 := he
    by_cases a : i = B.1
    · by_cases b : j = B.1
      · omega
      · rw [a, va_up_self, va_up_ne _ _ b] at he'
        exact absurd ⟨j, by omega, he'.symm⟩ q
    · by_cases b : j = B.1
      · rw [b, va_up_self, va_up_ne _ _ a] at he'
        exact absurd ⟨i, by omega, he'⟩ q
      · rw [va_up_ne _ _ a, va_up_ne _ _ b] at he'
        exact h i j (by omega) (by omega) he'
theorem bf_d_ap (sf : BfF) (e : BfE) {B : BfS} (h : Bap B) : ∀ c, Bap (bf_d sf e B c).1
  | 0 => h
  | c + 1 => by
    have ih := bf_d_ap sf e h c
    simp only [bf_d]
    cases h1 : (bf_d sf e B c).2 with
    | some v => exact ih
    | none =>
      simp only []
      cases h2 : sf e c with
      | none => exact ih
      | some z =>
        cases z with
        | inl e' => exact ih.add
        | inr v => exact ih
theorem bf_h_ap (sf : BfF) {B : BfS} (h : Bap B) : ∀ k, Bap (bf_h sf B k).1
  | 0 => h
  | k + 1 => by
    have ih := bf_h_ap sf h k
    simp only [bf_h]
    cases h1 : (bf_h sf B k).2 with
    | some v => exact ih
    | none =>
      simp only []
      by_cases q : k < (bf_h sf B k).1.1
      · rw [if_pos q]; exact bf_d_ap sf _ ih 4
      · rw [if_neg q]; exact ih
/-- how far: no farther than the place -/
def Bfar (B : BfS) : Prop := ∀ i, i < B.1 → (B.2 i).2.1 ≤ i
theorem Bfar.add {B : BfS} {e : BfE} (h : Bfar B) (he : e.2.1 ≤ B.1) : Bfar (bf_add B e) := by
  by_cases q : Bvis B e.1
  · rw [bf_add_in q]; exact h
  · rw [bf_add_new q]
    intro i hi
    have hi' : i < B.1 + 1 := hi
    show (va_up B.2 B.1 e i).2.1 ≤ i
    by_cases a : i = B.1
    · rw [a, va_up_self]; exact he
    · rw [va_up_ne _ _ a]; exact h i (by omega)
theorem bf_d_far {sf : BfF} (hs : ∀ e c e', sf e c = some (.inl e') → e'.2.1 = e.2.1 + 1) {e : BfE} {B : BfS} (h : Bfar B) (he : e.2.1 + 1 ≤ B.1) : ∀ c, Bfar (bf_d sf e B c).1
  | 0 => h
  | c + 1 => by
    have ih := bf_d_far hs h he c
    simp only [bf_d]
    cases h1 : (bf_d sf e B c).2 with
    | some v => exact ih
    | none =>
      simp only []
      cases h2 : sf e c with
      | none => exact ih
      | some z =>
        cases z with
        | inl e' => exact ih.add (by have := hs e c e' h2; have := (bf_d_ext sf e B c).1; omega)
        | inr v => exact ih
theorem bf_h_far {sf : BfF} (hs : ∀ e c e', sf e c = some (.inl e') → e'.2.1 = e.2.1 + 1) {B : BfS} (h : Bfar B) : ∀ k, Bfar (bf_h sf B k).1
  | 0 => h
  | k + 1 => by
    have ih := bf_h_far hs h k
    simp only [bf_h]
    cases h1 : (bf_h sf B k).2 with
    | some v => exact ih
    | none =>
      simp only []
      by_cases q : k < (bf_h sf B k).1.1
      · rw [if_pos q]; exact bf_d_far hs ih (by have := ih k q; omega) 4
      · rw [if_neg q]; exact ih
theorem Bap.le {B : BfS} {N : Nat} (h : Bap B) (hN : ∀ i, i < B.1 → (B.2 i).1 < N) : B.1 ≤ N := er_pig N B.1 (fun i => (B.2 i).1) hN h
theorem Bap.lt {B : BfS} {N j : Nat} (h : Bap B) (hN : ∀ i, i < B.1 → (B.2 i).1 < N) (hj : j < N) (hv : ¬ Bvis B j) : B.1 < N := by
  have h2 : Bap (bf_add B (j, 0, 0)) := h.add
  rw [bf_add_new hv] at h2
  have := er_pig N (B.1 + 1) (fun i => (va_up B.2 B.1 (j, 0, 0) i).1) (fun i hi => by
    show (va_up B.2 B.1 (j, 0, 0) i).1 < N
    by_cases a : i = B.1
    · rw [a, va_up_self]; exact hj
    · rw [va_up_ne _ _ a]; exact hN i (by omega)) h2
  omega
theorem Bvis_add {B : BfS} {e : BfE} {j : Nat} : Bvis (bf_add B e) j ↔ (Bvis B j ∨ j = e.1) := by
  by_cases q : Bvis B e.1
  · rw [bf_add_in q]
    exact ⟨Or.inl, fun h => h.elim id (fun z => by rw [z]; exact q)⟩
  · rw [bf_add_new q]
    constructor
    · rintro ⟨i, hi, he⟩
      have hi' : i < B.1 + 1 := hi
      have he' : (va_up B.2 B.1 e i).1 = j := he
      by_cases a : i = B.1
      · rw [a, va_up_self] at he'; exact Or.inr he'.symm
      · rw [va_up_ne _ _ a] at he'; exact Or.inl ⟨i, by omega, he'⟩
    · rintro (⟨i, hi, he⟩ | he)
      · exact ⟨i, by show i < B.1 + 1; omega, by show (va_up B.2 B.1 e i).1 = j; rw [va_up_ne _ _ (by omega)]; exact he⟩
      · exact ⟨B.1, by show B.1 < B.1 + 1; omega, by show (va_up B.2 B.1 e B.1).1 = j; rw [va_up_self]; exact he.symm⟩
def bf_0 (j : Nat) : BfS := (1, fun _ => (j, 0, nI 0))
theorem bf_0_vis {j i : Nat} : Bvis (bf_0 j) i ↔ i = j := ⟨fun ⟨_, _, e⟩ => e.symm, fun e => ⟨0, by show 0 < 1; omega, e.symm⟩⟩
theorem bf_0_ap (j : Nat) : Bap (bf_0 j) := fun a b ha hb _ => by have ha' : a < 1 := ha; have hb' : b < 1 := hb; omega
theorem bf_0_far (j : Nat) : Bfar (bf_0 j) := fun i _ => Nat.zero_le i
