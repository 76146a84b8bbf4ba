/-! begins of the class -/
def er_lo (x : Int32) : Option Nat := if x = -1 then none else some x.toNatClampNeg
def b_it (si : Nat → Int32) (i : Nat) : Nat := (si i).toNatClampNeg % 4
def b_w (lt : Nat → Int32) (it : Nat → Nat) (r : Nat) : Nat → Option Nat
  | 0 => some r
  | i + 1 => match b_w lt it r i with
    | none => none
    | some v => if i % 2 = 0 then er_lo (lt (4 * v + it i)) else if v % 10 = it i then some (v / 10) else none
abbrev BK (si : Nat → Int32) (sz : Nat) : Prop := sz % 2 = 0 ∧ ∀ i, i < sz → si i = nI (b_it si i)
def er_bi (f : Nat → Bool) : Nat → Int32
  | 0 => nI 0
  | r + 1 => if f r = true then er_bi f r ||| (nI 1 <<< (nI r &&& 31)) else er_bi f r
def b_al (lt : Nat → Int32) (it : Nat → Nat) (sz r : Nat) : Bool := (b_w lt it r sz).isSome
def b_dead (lt : Nat → Int32) (it : Nat → Nat) (n i : Nat) : Bool := decide (∀ r, r < n → b_w lt it r (i + 1) = none)
def b_bar (lt : Nat → Int32) (it : Nat → Nat) (n sz : Nat) : Int32 := match er_fst (b_dead lt it n) sz with
  | none => -1
  | some k => nI k
def S_begins (q : EpS) (x y z : Int32) : Int32 := match ep_ix x q.1.1 with
  | none => -2
  | some m => match ep_ix y 4 with
    | none => -2
    | some s => match ep_ix z 2 with
      | none => -2
      | some c => if q.2.2.2.1.1 s = 0 then -11 else if ¬ BK (q.2.2.2.1.2.2 s) (q.2.2.2.1.2.1 s) then -2 else if c = 0 then er_bi (b_al (q.1.2.2.1 m) (b_it (q.2.2.2.1.2.2 s)) (q.2.2.2.1.2.1 s)) (q.1.2.1 m) else b_bar (q.1.2.2.1 m) (b_it (q.2.2.2.1.2.2 s)) (q.1.2.1 m) (q.2.2.2.1.2.1 s)
theorem b_s {lt : Nat → Int32} {it : Nat → Nat} {r i v : Nat} (h : b_w lt it r i = some v) : b_w lt it r (i + 1) = if i % 2 = 0 then er_lo (lt (4 * v + it i)) else if v % 10 = it i then some (v / 10) else none := by
  show (match b_w lt it r i with
    | none => none
    | some v => _) = _
  rw [h]
theorem b_n {lt : Nat → Int32} {it : Nat → Nat} {r i : Nat} (h : b_w lt it r i = none) : ∀ k, b_w lt it r (i + k) = none
  | 0 => h
  | k + 1 => by
    show (match b_w lt it r (i + k) with
      | none => none
      | some v => _) = _
    rw [b_n h k]
theorem b_nle {lt : Nat → Int32} {it : Nat → Nat} {r i j : Nat} (h : b_w lt it r i = none) (hj : i ≤ j) : b_w lt it r j = none := by
  have := b_n h (j - i)
  rwa [show i + (j - i) = j by omega] at this
theorem b_it4 (si : Nat → Int32) (i : Nat) : b_it si i < 4 := Nat.mod_lt _ (by decide)
theorem b_lo {a : Nat} (h : a < 2 ^ 31) : er_lo (nI a) = some a := by
  unfold er_lo
  rw [if_neg (ep_m1 h), nI_clamp h]
theorem b_lo1 : er_lo (-1) = none := rfl
theorem b_in {n : Nat} {lt : Nat → Int32} {it : Nat → Nat} (hz : WFz n lt) (hit : ∀ i, it i < 4) {r : Nat} (hr : r < n) : ∀ i v, b_w lt it r i = some v → (i % 2 = 0 → v < n) ∧ (i % 2 = 1 → v / 10 < n ∧ v % 10 < 4)
  | 0, v, h => by cases h; exact ⟨fun _ => hr, fun z => by omega⟩
  | i + 1, v, h => by
    have n10 := hz.2.1
    cases e : b_w lt it r i with
    | none => rw [b_n e 1] at h; cases h
    | some u =>
      have hu := b_in hz hit hr i u e
      rw [b_s e] at h
      by_cases p : i % 2 = 0
      · rw [if_pos p] at h
        have hu1 := hu.1 p
        rcases hz.2.2 u (it i) (by omega) (hit i) with g | ⟨g1, r2, c2, g2, g3, g4⟩
        · rw [g, b_lo1] at h; cases h
        · rw [g4, b_lo (by omega)] at h; cases h
          exact ⟨fun z => by omega, fun _ => by omega⟩
      · rw [if_neg p] at h
        by_cases e2 : u % 10 = it i
        · rw [if_pos e2] at h; cases h
          exact ⟨fun _ => (hu.2 (by omega)).1, fun z => by omega⟩
        · rw [if_neg e2] at h; cases h
theorem er_bi0 {f : Nat → Bool} : ∀ n, n ≤ 10 → (er_bi f n = 0 ↔ ∀ r, r < n → f r = false)
  | 0, _ => ⟨fun _ r h => absurd h (Nat.not_lt_zero r), fun _ => rfl⟩
  | n + 1, h => by
    have ih := er_bi0 (f := f) n (by omega)
    have key : ∀ k, k < 10 → ¬ (nI 1 <<< (nI k &&& 31)) = 0 := by decide +kernel
    unfold er_bi
    by_cases q : f n = true
    · rw [if_pos q]
      refine ⟨fun z => absurd (Int32.or_eq_zero_iff.mp z).2 (key n (by omega)), fun z => ?_⟩
      rw [z n (by omega)] at q; cases q
    · rw [if_neg q, ih]
      refine ⟨fun z r hr => ?_, fun z r hr => z r (by omega)⟩
      by_cases e : r = n
      · rw [e]; exact Bool.eq_false_iff.mpr q
      · exact z r (by omega)
def PB (lt : Nat → Int32) (it : Nat → Nat) (sz r : Nat) (v : Int32) : Prop := (v = -1 ∧ b_al lt it sz r = true) ∨ ∃ i, i < sz ∧ v = nI i ∧ (b_w lt it r i).isSome = true ∧ b_w lt it r (i + 1) = none
def BX (lt : Nat → Int32) (it : Nat → Nat) (sz n : Nat) (v : Int32) : Prop := (v = -1 ∧ ∀ r, r < n → b_al lt it sz r = true) ∨ ∃ i, i < sz ∧ v = nI i ∧ (∃ r, r < n ∧ (b_w lt it r i).isSome = true) ∧ ∀ r, r < n → b_al lt it sz r = true ∨ b_w lt it r (i + 1) = none
theorem BX_s {lt : Nat → Int32} {it : Nat → Nat} {sz n : Nat} {u v : Int32} (hz : sz ≤ 40) (h : BX lt it sz n u) (hv : PB lt it sz n v) : BX lt it sz (n + 1) (if u < v then v else u) := by
  have sp : ∀ {p : Nat → Prop}, (∀ r, r < n → p r) → p n → ∀ r, r < n + 1 → p r := fun h1 h2 r hr => by
    by_cases e : r = n
    · rw [e]; exact h2
    · exact h1 r (by omega)
  have m1 : ∀ {k : Nat}, k < 40 → (-1 : Int32) < nI k := fun {k} hk => by
    rw [Int32.lt_iff_toInt_lt, nI_toInt (by omega), show (-1 : Int32).toInt = -1 by decide]; omega
  rcases h with ⟨rfl, h1⟩ | ⟨i, h1, rfl, ⟨r0, h2, h2'⟩, h3⟩
  · rcases hv with ⟨rfl, g1⟩ | ⟨j, g1, rfl, g2, g3⟩
    · rw [if_neg (by decide)]; exact Or.inl ⟨rfl, sp h1 g1⟩
    · rw [if_pos (m1 (by omega))]
      exact Or.inr ⟨j, g1, rfl, ⟨n, by omega, g2⟩, sp (fun r hr => Or.inl (h1 r hr)) (Or.inr g3)⟩
  · rcases hv with ⟨rfl, g1⟩ | ⟨j, g1, rfl, g2, g3⟩
    · rw [if_neg (fun z => Int32.lt_irrefl (Int32.lt_trans z (m1 (by omega))))]
      exact Or.inr ⟨i, h1, rfl, ⟨r0, by omega, h2'⟩, sp h3 (Or.inl g1)⟩
    · by_cases e : i < j
      · rw [if_pos ((nI_ltI (by omega) (by omega)).mpr e)]
        exact Or.inr ⟨j, g1, rfl, ⟨n, by omega, g2⟩, sp (fun r hr => (h3 r hr).imp id (fun z => b_nle z (by omega))) (Or.inr g3)⟩
      · rw [if_neg (fun z => e ((nI_ltI (by omega) (by omega)).mp z))]
        exact Or.inr ⟨i, h1, rfl, ⟨r0, by omega, h2'⟩, sp h3 (Or.inr (b_nle g3 (by omega)))⟩
theorem b_bar_some {lt : Nat → Int32} {it : Nat → Nat} {n sz k : Nat} (hk : k < sz) (h1 : ∀ r, r < n → b_w lt it r (k + 1) = none) (h2 : ∃ r, r < n ∧ (b_w lt it r k).isSome = true) : b_bar lt it n sz = nI k := by
  unfold b_bar
  rw [er_fst_some (i := k) (decide_eq_true h1) (fun j hj => ?_) hk]
  obtain ⟨r, hr, e⟩ := h2
  refine decide_eq_false (fun z => ?_)
  rw [b_nle (z r hr) (by omega)] at e
  cases e
theorem b_bar_none {lt : Nat → Int32} {it : Nat → Nat} {n sz : Nat} (h2 : ∃ r, r < n ∧ b_al lt it sz r = true) : b_bar lt it n sz = -1 := by
  unfold b_bar
  rw [er_fst_none (fun j hj => ?_)]
  obtain ⟨r, hr, e⟩ := h2
  refine decide_eq_false (fun z => ?_)
  unfold b_al at e
  rw [b_nle (z r hr) (by omega)] at e
  cases e
theorem BX_e {lt : Nat → Int32} {it : Nat → Nat} {sz n : Nat} {v : Int32} (hn : 1 ≤ n) (hn2 : n ≤ 10) (h : BX lt it sz n v) : b_bar lt it n sz = if er_bi (b_al lt it sz) n = 0 then v else -1 := by
  by_cases e : er_bi (b_al lt it sz) n = 0
  · rw [if_pos e]
    have e2 := (er_bi0 n hn2).mp e
    rcases h with ⟨rfl, h1⟩ | ⟨i, h1, rfl, h2, h3⟩
    · have := h1 0 (by omega); rw [e2 0 (by omega)] at this; cases this
    · exact b_bar_some h1 (fun r hr => (h3 r hr).elim (fun z => by rw [e2 r hr] at z; cases z) id) h2
  · rw [if_neg e]
    refine b_bar_none (Classical.byContradiction (fun z => e ((er_bi0 n hn2).mpr (fun r hr => ?_))))
    exact Bool.eq_false_iff.mpr (fun y => z ⟨r, hr, y⟩)
set_option maxRecDepth 20000 in
theorem lp_isWalk (G : EzG) (d : Nat) {q : EpS} (s : Nat) (M : EzM) (hd : 1 ≤ d) (hW : WF q) (hC : RC q M) (hs : s < 4) (h0 : 0 < q.2.2.2.1.1 s) : ∀ (z : Nat) (i : Nat), q.2.2.2.1.2.1 s - i = z → i ≤ q.2.2.2.1.2.1 s → (∀ x, x < i → q.2.2.2.1.2.2 s x = nI (b_it (q.2.2.2.1.2.2 s) x)) → Ez G mX4_isWalk d 2 [(1, eI (nI i)), (0, eR 4 s)] [] M (fun r M' => M' = M ∧ ((r = some (eI (nI 0)) ∧ ¬ BK (q.2.2.2.1.2.2 s) (q.2.2.2.1.2.1 s)) ∨ (r = some (eI (nI 1)) ∧ BK (q.2.2.2.1.2.2 s) (q.2.2.2.1.2.1 s)))) := by
  intro z
  induction z using Nat.strongRecOn with
  | ind z ih =>
    intro i hz hi hv
    have s40 := (hW.2.2.2.1 s hs).2 h0
    refine ez_iload_n 3 dX4_isWalk_2 rfl rfl ?_
    refine ez_aload_n 4 dX4_isWalk_3 rfl rfl ?_
    refine ez_getf 7 (eI (M.1 4 s 1)) dX4_isWalk_4 rfl fl_X4_19 (by show s < 4; omega) rfl ?_
    refine ez_top (nI (q.2.2.2.1.2.1 s)) (((hC.2.2.2.1 s hs).2 h0).2.1) ?_
    refine ez_ncmp_ge 10 33 dX4_isWalk_7 rfl (by decide) (by omega) (by omega) (fun h7 => ?_) (fun h7 => ?_)
    · refine ez_aload_n 34 dX4_isWalk_33 rfl rfl ?_
      refine ez_getf 37 (eI (M.1 4 s 1)) dX4_isWalk_34 rfl fl_X4_19 (by show s < 4; omega) rfl ?_
      refine ez_top (nI (q.2.2.2.1.2.1 s)) (((hC.2.2.2.1 s hs).2 h0).2.1) ?_
      refine ez_iconst 38 dX4_isWalk_37 rfl (nI 2) (by decide) ?_
      refine ez_irem 39 dX4_isWalk_38 rfl (by decide) ?_
      refine ez_top (nI ((q.2.2.2.1.2.1 s) % 2)) (pk_rem (by omega) (by omega) (by omega)) ?_
      refine ez_nif_ne 42 46 dX4_isWalk_39 rfl (by decide) (by omega) (fun h39 => ?_) (fun h39 => ?_)
      · refine ez_iconst 47 dX4_isWalk_46 rfl (nI 0) (by decide) ?_
        refine ez_iret .boolean dX4_isWalk_47 rfl (by decide) ?_
        exact ⟨rfl, Or.inl ⟨rfl, fun z => absurd z.1 (by omega)⟩⟩
      · refine ez_iconst 43 dX4_isWalk_42 rfl (nI 1) (by decide) ?_
        refine ez_goto 47 dX4_isWalk_43 (by decide) ?_
        refine ez_iret .boolean dX4_isWalk_47 rfl (by decide) ?_
        exact ⟨rfl, Or.inr ⟨rfl, by omega, fun x hx => hv x (by omega)⟩⟩
    · refine ez_aload_n 11 dX4_isWalk_10 rfl rfl ?_
      refine ez_getf 14 (eR 22 s) dX4_isWalk_11 rfl fl_X4_15 (by show s < 4; omega) rfl ?_
      refine ez_iload_n 15 dX4_isWalk_14 rfl rfl ?_
      refine ez_callSN 18 [eR 22 s, eI (nI i)] [] dX4_isWalk_15 rfl rfl ok_X11_itemAt st_X11_itemAt "ElevenPebbles" nn_X4_22 (by omega) (Nat.le_of_ble_eq_true rfl) (c_itemAt_n G (d - 1) 22 s i M (by decide) (by show s < 4; omega) (by show i < 40; omega)) (fun r15 M15 q15 => ?_)
      obtain ⟨rfl, e15⟩ := q15
      rw [e15, show M.1 22 s i = q.2.2.2.1.2.2 s i from (((hC.2.2.2.1 s hs).2 h0).2.2 i (by omega))]
      show Ez G mX4_isWalk d 18 [(1, eI (nI i)), (0, eR 4 s)] [eI (q.2.2.2.1.2.2 s i)] M _
      refine ez_iconst 19 dX4_isWalk_18 rfl (nI 4) (by decide) ?_
      refine ez_callSN 22 [eI (q.2.2.2.1.2.2 s i), eI (nI 4)] [] dX4_isWalk_19 rfl rfl ok_X11_isInside st_X11_isInside "ElevenPebbles" nn_X4_26 (by omega) (Nat.le_of_ble_eq_true rfl) (c_isInside_c G (d - 1) (q.2.2.2.1.2.2 s i) 4 M (by omega)) (fun r19 M19 q19 => ?_)
      obtain ⟨e19, ⟨rfl, i19⟩ | ⟨j19, b19, x19, rfl⟩⟩ := q19
      · rw [e19]
        show Ez G mX4_isWalk d 22 [(1, eI (nI i)), (0, eR 4 s)] [eI (nI 0)] M _
        refine ez_nif_ne 25 27 dX4_isWalk_22 rfl (by decide) (by omega) (fun h22 => ?_) (fun h22 => ?_)
        · exact absurd h22 (by decide)
        · refine ez_iconst 26 dX4_isWalk_25 rfl (nI 0) (by decide) ?_
          refine ez_iret .boolean dX4_isWalk_26 rfl (by decide) ?_
          refine ⟨rfl, Or.inl ⟨rfl, fun z => ?_⟩⟩
          have z9 := z.2 i (by omega)
          rw [z9, ep_ix_nI (b_it4 _ i) (by decide)] at i19
          cases i19
      · rw [e19]
        have i19 : ep_ix (q.2.2.2.1.2.2 s i) 4 = some j19 := by rw [x19]; exact ep_ix_nI b19 (by omega)
        show Ez G mX4_isWalk d 22 [(1, eI (nI i)), (0, eR 4 s)] [eI (nI 1)] M _
        refine ez_nif_ne 25 27 dX4_isWalk_22 rfl (by decide) (by omega) (fun h22 => ?_) (fun h22 => ?_)
        · refine ez_iinc 30 (nI (i + 1)) [(1, eI (nI (i + 1))), (0, eR 4 s)] dX4_isWalk_27 rfl rfl (nI_add i 1) (by decide) rfl ?_
          refine ez_goto 2 dX4_isWalk_30 (by decide) ?_
          exact ih (q.2.2.2.1.2.1 s - (i + 1)) (by omega) (i + 1) rfl (by omega) (fun x hx => by
            by_cases e : x = i
            · rw [e]
              unfold b_it
              rw [x19, nI_clamp (by omega), Nat.mod_eq_of_lt b19]
            · exact hv x (by omega))
        · exact absurd h22 (by decide)
set_option maxRecDepth 20000 in
theorem c_X4_isWalk (G : EzG) (d : Nat) {q : EpS} (s : Nat) (M : EzM) (hd : 1 ≤ d) (hW : WF q) (hC : RC q M) (hs : s < 4) (h0 : 0 < q.2.2.2.1.1 s) : Ezc G mX4_isWalk d [eR 4 s] M (fun r M' => M' = M ∧ ((r = some (eI (nI 0)) ∧ ¬ BK (q.2.2.2.1.2.2 s) (q.2.2.2.1.2.1 s)) ∨ (r = some (eI (nI 1)) ∧ BK (q.2.2.2.1.2.2 s) (q.2.2.2.1.2.1 s)))) := by
  refine Ezc.of (by decide +kernel) (Nat.le_of_ble_eq_true rfl) ?_
  show Ez G mX4_isWalk d 0 [(0, eR 4 s)] [] M _
  refine ez_iconst 1 dX4_isWalk_0 rfl (nI 0) (by decide) ?_
  refine ez_istore_n 2 [(1, eI (nI 0)), (0, eR 4 s)] dX4_isWalk_1 rfl (by decide) rfl ?_
  refine ez_drop [(1, eI (nI 0)), (0, eR 4 s)] (by simp) ?_
  exact lp_isWalk G d s M hd hW hC hs h0 _ 0 rfl (by omega) (fun x hx => absurd hx (Nat.not_lt_zero x))
set_option maxRecDepth 20000 in
theorem lp_barOf (G : EzG) (d : Nat) {q : EpS} (m s r : Nat) (M : EzM) (hd : 2 ≤ d) (hW : WF q) (hC : RC q M) (hs : s < 4) (h0 : 0 < q.2.2.2.1.1 s) (hm : m < q.1.1) (hr : r < q.1.2.1 m) (hK : BK (q.2.2.2.1.2.2 s) (q.2.2.2.1.2.1 s)) : ∀ (z : Nat) (i : Nat) (ρ : Nat), q.2.2.2.1.2.1 s - i = z → i ≤ q.2.2.2.1.2.1 s → i % 2 = 0 → ρ < q.1.2.1 m → b_w (q.1.2.2.1 m) (b_it (q.2.2.2.1.2.2 s)) r (i) = some ρ → Ez G mX11_barOf d 5 [(4, eI (nI i)), (3, eI (nI ρ)), (2, eI (nI r)), (1, eR 4 s), (0, eR 1 m)] [] M (fun w M' => M' = M ∧ ∃ v, w = some (eI v) ∧ PB (q.1.2.2.1 m) (b_it (q.2.2.2.1.2.2 s)) (q.2.2.2.1.2.1 s) r v) := by
  intro z
  induction z using Nat.strongRecOn with
  | ind z ih =>
    intro i ρ hz hi hi2 hp hw
    have s40 := (hW.2.2.2.1 s hs).2 h0
    have n10 := (hW.1.2 m hm).2.1
    have hz := g_WFz hW.1 hm
    have q4 := hW.1.1
    refine ez_iload 7 dX11_barOf_5 rfl rfl ?_
    refine ez_iconst 8 dX11_barOf_7 rfl (nI 1) (by decide) ?_
    refine ez_iadd 9 dX11_barOf_8 rfl ?_
    refine ez_top (nI (i + 1)) (nI_add _ _) ?_
    refine ez_aload_n 10 dX11_barOf_9 rfl rfl ?_
    refine ez_getf 13 (eI (M.1 4 s 1)) dX11_barOf_10 rfl fl_X11_307 (by show s < 4; omega) rfl ?_
    refine ez_top (nI (q.2.2.2.1.2.1 s)) (((hC.2.2.2.1 s hs).2 h0).2.1) ?_
    refine ez_ncmp_ge 16 77 dX11_barOf_13 rfl (by decide) (by omega) (by omega) (fun h13 => ?_) (fun h13 => ?_)
    · refine ez_iconst 78 dX11_barOf_77 rfl (-1) (by decide) ?_
      refine ez_iret .int dX11_barOf_78 rfl rfl ?_
      have e9 : i = q.2.2.2.1.2.1 s := by have := hK.1; omega
      exact ⟨rfl, _, rfl, Or.inl ⟨rfl, by unfold b_al; rw [← e9, hw]; rfl⟩⟩
    · refine ez_aload_n 17 dX11_barOf_16 rfl rfl ?_
      refine ez_iload_n 18 dX11_barOf_17 rfl rfl ?_
      refine ez_aload_n 19 dX11_barOf_18 rfl rfl ?_
      refine ez_getf 22 (eR 22 s) dX11_barOf_19 rfl fl_X11_308 (by show s < 4; omega) rfl ?_
      refine ez_iload 24 dX11_barOf_22 rfl rfl ?_
      refine ez_callS 27 [eR 22 s, eI (nI i)] [eI (nI ρ), eR 1 m] dX11_barOf_24 rfl rfl ok_X11_itemAt st_X11_itemAt ln_X11_159 (by omega) (Nat.le_of_ble_eq_true rfl) (c_itemAt_n G (d - 1) 22 s i M (by decide) (by show s < 4; omega) (by show i < 40; omega)) (fun r24 M24 q24 => ?_)
      obtain ⟨rfl, e24⟩ := q24
      rw [e24, show M.1 22 s i = nI (b_it (q.2.2.2.1.2.2 s) (i)) from ((((hC.2.2.2.1 s hs).2 h0).2.2 (i) (by omega)).trans (hK.2 (i) (by omega)))]
      show Ez G mX11_barOf d 27 [(4, eI (nI i)), (3, eI (nI ρ)), (2, eI (nI r)), (1, eR 4 s), (0, eR 1 m)] [eI (nI (b_it (q.2.2.2.1.2.2 s) (i))), eI (nI ρ), eR 1 m] M _
      refine ez_callV 30 [eI (nI ρ), eI (nI (b_it (q.2.2.2.1.2.2 s) (i)))] [] dX11_barOf_27 rfl rfl ok_X1_target in_X1_target (by decide) (by show m < 4; omega) ln_X11_152 (by omega) (Nat.le_of_ble_eq_true rfl) (c_target_n G (d - 1) m ρ (b_it (q.2.2.2.1.2.2 s) i) M (by omega) (by omega) (by omega) (b_it4 _ i)) (fun r27 M27 q27 => ?_)
      obtain ⟨rfl, e27⟩ := q27
      rw [e27, show M.1 18 m (4 * ρ + b_it (q.2.2.2.1.2.2 s) (i)) = q.1.2.2.1 m (4 * ρ + b_it (q.2.2.2.1.2.2 s) (i)) from ((hC.1.2.1 m hm).2.1 (4 * ρ + b_it (q.2.2.2.1.2.2 s) (i)) (by have := b_it4 (q.2.2.2.1.2.2 s) i; omega))]
      show Ez G mX11_barOf d 30 [(4, eI (nI i)), (3, eI (nI ρ)), (2, eI (nI r)), (1, eR 4 s), (0, eR 1 m)] [eI (q.1.2.2.1 m (4 * ρ + b_it (q.2.2.2.1.2.2 s) (i)))] M _
      refine ez_istore 32 [(5, eI (q.1.2.2.1 m (4 * ρ + b_it (q.2.2.2.1.2.2 s) (i)))), (4, eI (nI i)), (3, eI (nI ρ)), (2, eI (nI r)), (1, eR 4 s), (0, eR 1 m)] dX11_barOf_30 rfl (by decide) rfl ?_
      refine ez_iload 34 dX11_barOf_32 rfl rfl ?_
      refine ez_iconst 35 dX11_barOf_34 rfl (-1) (by decide) ?_
      refine ez_icmp_ne 38 41 dX11_barOf_35 rfl (by decide) (fun h35 => ?_) (fun h35 => ?_)
      · obtain ⟨r2, c2, g2, g3, g4⟩ : ∃ r2 c2, r2 < q.1.2.1 m ∧ c2 < 4 ∧ q.1.2.2.1 m (4 * ρ + b_it (q.2.2.2.1.2.2 s) i) = nI (10 * r2 + c2) := (hz.2.2 ρ (b_it (q.2.2.2.1.2.2 s) i) (by omega) (b_it4 _ i)).elim (fun z => absurd z h35) (fun z => z.2)
        have w1 : b_w (q.1.2.2.1 m) (b_it (q.2.2.2.1.2.2 s)) r (i + 1) = some (10 * r2 + c2) := by rw [b_s hw, if_pos hi2, g4, b_lo (by omega)]
        have t4 := b_it4 (q.2.2.2.1.2.2 s) (i + 1)
        rw [g4]
        refine ez_iload 43 dX11_barOf_41 rfl rfl ?_
        refine ez_bipush 45 dX11_barOf_43 rfl (nI 10) (by decide) ?_
        refine ez_irem 46 dX11_barOf_45 rfl (by decide) ?_
        refine ez_top (nI ((10 * r2 + c2) % 10)) (pk_rem (by omega) (by omega) (by omega)) ?_
        refine ez_aload_n 47 dX11_barOf_46 rfl rfl ?_
        refine ez_getf 50 (eR 22 s) dX11_barOf_47 rfl fl_X11_308 (by show s < 4; omega) rfl ?_
        refine ez_iload 52 dX11_barOf_50 rfl rfl ?_
        refine ez_iconst 53 dX11_barOf_52 rfl (nI 1) (by decide) ?_
        refine ez_iadd 54 dX11_barOf_53 rfl ?_
        refine ez_top (nI (i + 1)) (nI_add _ _) ?_
        refine ez_callS 57 [eR 22 s, eI (nI (i + 1))] [eI (nI ((10 * r2 + c2) % 10))] dX11_barOf_54 rfl rfl ok_X11_itemAt st_X11_itemAt ln_X11_159 (by omega) (Nat.le_of_ble_eq_true rfl) (c_itemAt_n G (d - 1) 22 s (i + 1) M (by decide) (by show s < 4; omega) (by show i + 1 < 40; omega)) (fun r54 M54 q54 => ?_)
        obtain ⟨rfl, e54⟩ := q54
        rw [e54, show M.1 22 s (i + 1) = nI (b_it (q.2.2.2.1.2.2 s) (i + 1)) from ((((hC.2.2.2.1 s hs).2 h0).2.2 (i + 1) (by omega)).trans (hK.2 (i + 1) (by omega)))]
        show Ez G mX11_barOf d 57 [(5, eI (nI (10 * r2 + c2))), (4, eI (nI i)), (3, eI (nI ρ)), (2, eI (nI r)), (1, eR 4 s), (0, eR 1 m)] [eI (nI (b_it (q.2.2.2.1.2.2 s) (i + 1))), eI (nI ((10 * r2 + c2) % 10))] M _
        refine ez_ncmp_eq 60 65 dX11_barOf_57 rfl (by decide) (by omega) (by omega) (fun h57 => ?_) (fun h57 => ?_)
        · refine ez_iload 67 dX11_barOf_65 rfl rfl ?_
          refine ez_bipush 69 dX11_barOf_67 rfl (nI 10) (by decide) ?_
          refine ez_idiv 70 dX11_barOf_69 rfl (by decide) ?_
          refine ez_top (nI ((10 * r2 + c2) / 10)) (pk_div (by omega) (by omega) (by omega)) ?_
          refine ez_istore_n 71 [(3, eI (nI ((10 * r2 + c2) / 10))), (5, eI (nI (10 * r2 + c2))), (4, eI (nI i)), (2, eI (nI r)), (1, eR 4 s), (0, eR 1 m)] dX11_barOf_70 rfl (by decide) rfl ?_
          refine ez_iinc 74 (nI (i + 2)) [(4, eI (nI (i + 2))), (3, eI (nI ((10 * r2 + c2) / 10))), (5, eI (nI (10 * r2 + c2))), (2, eI (nI r)), (1, eR 4 s), (0, eR 1 m)] dX11_barOf_71 rfl rfl (nI_add i 2) (by decide) rfl ?_
          refine ez_goto 5 dX11_barOf_74 (by decide) ?_
          refine ez_drop [(4, eI (nI (i + 2))), (3, eI (nI ((10 * r2 + c2) / 10))), (2, eI (nI r)), (1, eR 4 s), (0, eR 1 m)] (by simp) ?_
          exact ih (q.2.2.2.1.2.1 s - (i + 2)) (by have := hK.1; omega) (i + 2) _ rfl (by have := hK.1; omega) (by omega) (by omega) (by rw [b_s w1, if_neg (by omega), if_pos h57])
        · refine ez_iload 62 dX11_barOf_60 rfl rfl ?_
          refine ez_iconst 63 dX11_barOf_62 rfl (nI 1) (by decide) ?_
          refine ez_iadd 64 dX11_barOf_63 rfl ?_
          refine ez_top (nI (i + 1)) (nI_add _ _) ?_
          refine ez_iret .int dX11_barOf_64 rfl rfl ?_
          exact ⟨rfl, _, rfl, Or.inr ⟨i + 1, by omega, rfl, by rw [w1]; rfl, by rw [b_s w1, if_neg (by omega), if_neg h57]⟩⟩
      · refine ez_iload 40 dX11_barOf_38 rfl rfl ?_
        refine ez_iret .int dX11_barOf_40 rfl rfl ?_
        exact ⟨rfl, _, rfl, Or.inr ⟨i, by omega, rfl, by rw [hw]; rfl, by rw [b_s hw, if_pos hi2, h35]; rfl⟩⟩
set_option maxRecDepth 20000 in
theorem c_X11_barOf (G : EzG) (d : Nat) {q : EpS} (m s r : Nat) (M : EzM) (hd : 2 ≤ d) (hW : WF q) (hC : RC q M) (hs : s < 4) (h0 : 0 < q.2.2.2.1.1 s) (hm : m < q.1.1) (hr : r < q.1.2.1 m) (hK : BK (q.2.2.2.1.2.2 s) (q.2.2.2.1.2.1 s)) : Ezc G mX11_barOf d [eR 1 m, eR 4 s, eI (nI r)] M (fun w M' => M' = M ∧ ∃ v, w = some (eI v) ∧ PB (q.1.2.2.1 m) (b_it (q.2.2.2.1.2.2 s)) (q.2.2.2.1.2.1 s) r v) := by
  refine Ezc.of (by decide +kernel) (Nat.le_of_ble_eq_true rfl) ?_
  show Ez G mX11_barOf d 0 [(0, eR 1 m), (1, eR 4 s), (2, eI (nI r))] [] M _
  refine ez_iload_n 1 dX11_barOf_0 rfl rfl ?_
  refine ez_istore_n 2 [(3, eI (nI r)), (0, eR 1 m), (1, eR 4 s), (2, eI (nI r))] dX11_barOf_1 rfl (by decide) rfl ?_
  refine ez_iconst 3 dX11_barOf_2 rfl (nI 0) (by decide) ?_
  refine ez_istore 5 [(4, eI (nI 0)), (3, eI (nI r)), (0, eR 1 m), (1, eR 4 s), (2, eI (nI r))] dX11_barOf_3 rfl (by decide) rfl ?_
  refine ez_drop [(4, eI (nI 0)), (3, eI (nI r)), (2, eI (nI r)), (1, eR 4 s), (0, eR 1 m)] (by simp) ?_
  exact lp_barOf G d m s r M hd hW hC hs h0 hm hr hK _ 0 r rfl (by omega) rfl hr rfl
set_option maxRecDepth 20000 in
theorem lp_begins (G : EzG) (d : Nat) {q : EpS} (m s c : Nat) (M : EzM) (hd : 3 ≤ d) (hW : WF q) (hC : RC q M) (hs : s < 4) (h0 : 0 < q.2.2.2.1.1 s) (hm : m < q.1.1) (hc : c < 2) (hK : BK (q.2.2.2.1.2.2 s) (q.2.2.2.1.2.1 s)) : ∀ (z : Nat) (r : Nat) (mx : Int32), q.1.2.1 m - r = z → r ≤ q.1.2.1 m → BX (q.1.2.2.1 m) (b_it (q.2.2.2.1.2.2 s)) (q.2.2.2.1.2.1 s) r mx → Ez G mX11_begins d 66 [(8, eI (nI r)), (7, eI mx), (6, eI (er_bi (b_al (q.1.2.2.1 m) (b_it (q.2.2.2.1.2.2 s)) (q.2.2.2.1.2.1 s)) r)), (5, eR 4 s), (4, eR 1 m), (3, eI (nI c)), (2, eI (nI s)), (1, eI (nI m)), (0, eR 11 0)] [] M (fun r M' => r = some (eI (S_begins q (nI m) (nI s) (nI c))) ∧ RC q M' ∧ FX CC M M') := by
  intro z
  induction z using Nat.strongRecOn with
  | ind z ih =>
    intro r mx hz hr hx
    have s40 := (hW.2.2.2.1 s hs).2 h0
    have n10 := (hW.1.2 m hm).2.1
    have n1 := (hW.1.2 m hm).1
    have q4 := hW.1.1
    have eS : S_begins q (nI m) (nI s) (nI c) = if c = 0 then er_bi (b_al (q.1.2.2.1 m) (b_it (q.2.2.2.1.2.2 s)) (q.2.2.2.1.2.1 s)) (q.1.2.1 m) else b_bar (q.1.2.2.1 m) (b_it (q.2.2.2.1.2.2 s)) (q.1.2.1 m) (q.2.2.2.1.2.1 s) := by
      unfold S_begins
      rw [ep_ix_nI hm (by omega), ep_ix_nI hs (by decide), ep_ix_nI hc (by decide)]
      simp only []
      rw [if_neg (by omega), if_neg (fun z => z hK)]
    refine ez_iload 68 dX11_begins_66 rfl rfl ?_
    refine ez_aload 70 dX11_begins_68 rfl rfl ?_
    refine ez_getf 73 (eI (M.1 1 m 0)) dX11_begins_70 rfl fl_X11_145 (by show m < 4; omega) rfl ?_
    refine ez_top (nI (q.1.2.1 m)) ((hC.1.2.1 m hm).1) ?_
    refine ez_ncmp_ge 76 117 dX11_begins_73 rfl (by decide) (by omega) (by omega) (fun h73 => ?_) (fun h73 => ?_)
    · refine ez_iload_n 118 dX11_begins_117 rfl rfl ?_
      refine ez_nif_ne 121 124 dX11_begins_118 rfl (by decide) (by omega) (fun h118 => ?_) (fun h118 => ?_)
      · refine ez_iload 126 dX11_begins_124 rfl rfl ?_
        refine ez_if_ne 129 134 dX11_begins_126 rfl (by decide) (fun h126 => ?_) (fun h126 => ?_)
        · refine ez_iconst 135 dX11_begins_134 rfl (-1) (by decide) ?_
          refine ez_iret .int dX11_begins_135 rfl rfl ?_
          have e9 : r = q.1.2.1 m := by omega
          have eM := BX_e (by omega) n10 (e9 ▸ hx)
          rw [← e9, if_neg h126] at eM
          exact ⟨by rw [eS, if_neg (by omega), ← e9, eM], hC, FX.rf⟩
        · refine ez_iload 131 dX11_begins_129 rfl rfl ?_
          refine ez_goto 135 dX11_begins_131 (by decide) ?_
          refine ez_iret .int dX11_begins_135 rfl rfl ?_
          have e9 : r = q.1.2.1 m := by omega
          have eM := BX_e (by omega) n10 (e9 ▸ hx)
          rw [← e9, if_pos h126] at eM
          exact ⟨by rw [eS, if_neg (by omega), ← e9, eM], hC, FX.rf⟩
      · refine ez_iload 123 dX11_begins_121 rfl rfl ?_
        refine ez_iret .int dX11_begins_123 rfl rfl ?_
        have e9 : r = q.1.2.1 m := by omega
        exact ⟨by rw [eS, if_pos (by omega), ← e9], hC, FX.rf⟩
    · refine ez_aload 78 dX11_begins_76 rfl rfl ?_
      refine ez_aload 80 dX11_begins_78 rfl rfl ?_
      refine ez_iload 82 dX11_begins_80 rfl rfl ?_
      refine ez_callS 85 [eR 1 m, eR 4 s, eI (nI r)] [] dX11_begins_82 rfl rfl ok_X11_barOf st_X11_barOf ln_X11_277 (by omega) (Nat.le_of_ble_eq_true rfl) (c_X11_barOf G (d - 1) m s r M (by omega) hW hC hs h0 hm (by omega) hK) (fun r82 M82 q82 => ?_)
      obtain ⟨e82, v9, rfl, pb⟩ := q82
      rw [e82]
      show Ez G mX11_begins d 85 [(8, eI (nI r)), (7, eI mx), (6, eI (er_bi (b_al (q.1.2.2.1 m) (b_it (q.2.2.2.1.2.2 s)) (q.2.2.2.1.2.1 s)) r)), (5, eR 4 s), (4, eR 1 m), (3, eI (nI c)), (2, eI (nI s)), (1, eI (nI m)), (0, eR 11 0)] [eI v9] M _
      refine ez_istore 87 [(9, eI v9), (8, eI (nI r)), (7, eI mx), (6, eI (er_bi (b_al (q.1.2.2.1 m) (b_it (q.2.2.2.1.2.2 s)) (q.2.2.2.1.2.1 s)) r)), (5, eR 4 s), (4, eR 1 m), (3, eI (nI c)), (2, eI (nI s)), (1, eI (nI m)), (0, eR 11 0)] dX11_begins_85 rfl (by decide) rfl ?_
      refine ez_iload 89 dX11_begins_87 rfl rfl ?_
      refine ez_iconst 90 dX11_begins_89 rfl (-1) (by decide) ?_
      refine ez_icmp_ne 93 102 dX11_begins_90 rfl (by decide) (fun h90 => ?_) (fun h90 => ?_)
      · refine ez_iload 104 dX11_begins_102 rfl rfl ?_
        refine ez_iload 106 dX11_begins_104 rfl rfl ?_
        refine ez_mmax 109 dX11_begins_106 rfl ln_X11_237 (by omega) (Nat.le_of_ble_eq_true rfl) ?_
        refine ez_istore 111 [(7, eI (if mx < v9 then v9 else mx)), (9, eI v9), (8, eI (nI r)), (6, eI (er_bi (b_al (q.1.2.2.1 m) (b_it (q.2.2.2.1.2.2 s)) (q.2.2.2.1.2.1 s)) r)), (5, eR 4 s), (4, eR 1 m), (3, eI (nI c)), (2, eI (nI s)), (1, eI (nI m)), (0, eR 11 0)] dX11_begins_109 rfl (by decide) rfl ?_
        refine ez_iinc 114 (nI (r + 1)) [(8, eI (nI (r + 1))), (7, eI (if mx < v9 then v9 else mx)), (9, eI v9), (6, eI (er_bi (b_al (q.1.2.2.1 m) (b_it (q.2.2.2.1.2.2 s)) (q.2.2.2.1.2.1 s)) r)), (5, eR 4 s), (4, eR 1 m), (3, eI (nI c)), (2, eI (nI s)), (1, eI (nI m)), (0, eR 11 0)] dX11_begins_111 rfl rfl (nI_add r 1) (by decide) rfl ?_
        refine ez_goto 66 dX11_begins_114 (by decide) ?_
        have a9 : ¬ b_al (q.1.2.2.1 m) (b_it (q.2.2.2.1.2.2 s)) (q.2.2.2.1.2.1 s) r = true := pb.elim (fun z => absurd z.1 h90) (fun ⟨i, z1, z2, z3, z4⟩ z5 => by unfold b_al at z5; rw [b_nle z4 (by omega)] at z5; cases z5)
        have b9 : er_bi (b_al (q.1.2.2.1 m) (b_it (q.2.2.2.1.2.2 s)) (q.2.2.2.1.2.1 s)) (r + 1) = er_bi (b_al (q.1.2.2.1 m) (b_it (q.2.2.2.1.2.2 s)) (q.2.2.2.1.2.1 s)) r := if_neg a9
        rw [← b9]
        refine ez_drop [(8, eI (nI (r + 1))), (7, eI (if mx < v9 then v9 else mx)), (6, eI (er_bi (b_al (q.1.2.2.1 m) (b_it (q.2.2.2.1.2.2 s)) (q.2.2.2.1.2.1 s)) (r + 1))), (5, eR 4 s), (4, eR 1 m), (3, eI (nI c)), (2, eI (nI s)), (1, eI (nI m)), (0, eR 11 0)] (by simp) ?_
        exact ih (q.1.2.1 m - (r + 1)) (by omega) (r + 1) _ rfl (by omega) (BX_s s40 hx pb)
      · refine ez_iload 95 dX11_begins_93 rfl rfl ?_
        refine ez_iconst 96 dX11_begins_95 rfl (nI 1) (by decide) ?_
        refine ez_iload 98 dX11_begins_96 rfl rfl ?_
        refine ez_ishl 99 dX11_begins_98 rfl ?_
        refine ez_ior 100 dX11_begins_99 rfl ?_
        refine ez_istore 102 [(6, eI ((er_bi (b_al (q.1.2.2.1 m) (b_it (q.2.2.2.1.2.2 s)) (q.2.2.2.1.2.1 s)) r) ||| ((nI 1) <<< ((nI r) &&& 31)))), (9, eI v9), (8, eI (nI r)), (7, eI mx), (5, eR 4 s), (4, eR 1 m), (3, eI (nI c)), (2, eI (nI s)), (1, eI (nI m)), (0, eR 11 0)] dX11_begins_100 rfl (by decide) rfl ?_
        refine ez_iload 104 dX11_begins_102 rfl rfl ?_
        refine ez_iload 106 dX11_begins_104 rfl rfl ?_
        refine ez_mmax 109 dX11_begins_106 rfl ln_X11_237 (by omega) (Nat.le_of_ble_eq_true rfl) ?_
        refine ez_istore 111 [(7, eI (if mx < v9 then v9 else mx)), (6, eI ((er_bi (b_al (q.1.2.2.1 m) (b_it (q.2.2.2.1.2.2 s)) (q.2.2.2.1.2.1 s)) r) ||| ((nI 1) <<< ((nI r) &&& 31)))), (9, eI v9), (8, eI (nI r)), (5, eR 4 s), (4, eR 1 m), (3, eI (nI c)), (2, eI (nI s)), (1, eI (nI m)), (0, eR 11 0)] dX11_begins_109 rfl (by decide) rfl ?_
        refine ez_iinc 114 (nI (r + 1)) [(8, eI (nI (r + 1))), (7, eI (if mx < v9 then v9 else mx)), (6, eI ((er_bi (b_al (q.1.2.2.1 m) (b_it (q.2.2.2.1.2.2 s)) (q.2.2.2.1.2.1 s)) r) ||| ((nI 1) <<< ((nI r) &&& 31)))), (9, eI v9), (5, eR 4 s), (4, eR 1 m), (3, eI (nI c)), (2, eI (nI s)), (1, eI (nI m)), (0, eR 11 0)] dX11_begins_111 rfl rfl (nI_add r 1) (by decide) rfl ?_
        refine ez_goto 66 dX11_begins_114 (by decide) ?_
        have a9 : b_al (q.1.2.2.1 m) (b_it (q.2.2.2.1.2.2 s)) (q.2.2.2.1.2.1 s) r = true := pb.elim (fun z => z.2) (fun ⟨i, z1, z2, _⟩ => absurd (z2.symm.trans h90) (ep_m1 (by omega)))
        have b9 : er_bi (b_al (q.1.2.2.1 m) (b_it (q.2.2.2.1.2.2 s)) (q.2.2.2.1.2.1 s)) (r + 1) = er_bi (b_al (q.1.2.2.1 m) (b_it (q.2.2.2.1.2.2 s)) (q.2.2.2.1.2.1 s)) r ||| (nI 1 <<< (nI r &&& 31)) := if_pos a9
        rw [← b9]
        refine ez_drop [(8, eI (nI (r + 1))), (7, eI (if mx < v9 then v9 else mx)), (6, eI (er_bi (b_al (q.1.2.2.1 m) (b_it (q.2.2.2.1.2.2 s)) (q.2.2.2.1.2.1 s)) (r + 1))), (5, eR 4 s), (4, eR 1 m), (3, eI (nI c)), (2, eI (nI s)), (1, eI (nI m)), (0, eR 11 0)] (by simp) ?_
        exact ih (q.1.2.1 m - (r + 1)) (by omega) (r + 1) _ rfl (by omega) (BX_s s40 hx pb)
set_option maxRecDepth 20000 in
theorem c_X11_begins (G : EzG) (d : Nat) {q : EpS} (x y z : Int32) (M : EzM) (hd : 3 ≤ d) (hW : WF q) (hC : RC q M) : Ezc G mX11_begins d [eR 11 0, eI x, eI y, eI z] M (fun r M' => r = some (eI (S_begins q x y z)) ∧ RC q M' ∧ FX CC M M') := by
  refine Ezc.of (by decide +kernel) (Nat.le_of_ble_eq_true rfl) ?_
  have q8 := hW.2.1.1
  have q4 := hW.1.1
  have qx := hW.2.2.2.2.1
  show Ez G mX11_begins d 0 [(0, eR 11 0), (1, eI x), (2, eI y), (3, eI z)] [] M _
  refine ez_aload_n 1 dX11_begins_0 rfl rfl ?_
  refine ez_iload_n 2 dX11_begins_1 rfl rfl ?_
  refine ez_callV 5 [eI x] [] dX11_begins_2 rfl rfl ok_X11_mazeAt in_X11_mazeAt (by decide) (by show 0 < 1; omega) ln_X11_141 (by omega) (Nat.le_of_ble_eq_true rfl) (c_X11_mazeAt G (d - 1) x q.1.1 M (by omega) hC.1.1 (by omega)) (fun r2 M2 q2 => ?_)
  obtain ⟨e2, ⟨rfl, i2⟩ | ⟨j2, b2, rfl, rfl⟩⟩ := q2
  · rw [e2]
    show Ez G mX11_begins d 5 [(0, eR 11 0), (1, eI x), (2, eI y), (3, eI z)] [eN] M _
    refine ez_astore 7 [(4, eN), (0, eR 11 0), (1, eI x), (2, eI y), (3, eI z)] dX11_begins_5 rfl (by decide) rfl ?_
    refine ez_aload_n 8 dX11_begins_7 rfl rfl ?_
    refine ez_iload_n 9 dX11_begins_8 rfl rfl ?_
    refine ez_callV 12 [eI y] [] dX11_begins_9 rfl rfl ok_X11_sheetAt in_X11_sheetAt (by decide) (by show 0 < 1; omega) ln_X11_266 (by omega) (Nat.le_of_ble_eq_true rfl) (c_X11_sheetAt G (d - 1) y M (by omega)) (fun r9 M9 q9 => ?_)
    obtain ⟨e9, ⟨rfl, i9⟩ | ⟨j9, b9, rfl, rfl⟩⟩ := q9
    · rw [e9]
      show Ez G mX11_begins d 12 [(4, eN), (0, eR 11 0), (1, eI x), (2, eI y), (3, eI z)] [eN] M _
      refine ez_astore 14 [(5, eN), (4, eN), (0, eR 11 0), (1, eI x), (2, eI y), (3, eI z)] dX11_begins_12 rfl (by decide) rfl ?_
      refine ez_aload 16 dX11_begins_14 rfl rfl ?_
      refine ez_ifnull_n 32 dX11_begins_16 (by decide) ?_
      refine ez_bipush 34 dX11_begins_32 rfl (-2) (by decide) ?_
      refine ez_iret .int dX11_begins_34 rfl rfl ?_
      exact ⟨by simp [S_begins, i2, i9], hC, FX.rf⟩
    · rw [e9]
      have i9 : ep_ix (nI j9) 4 = some j9 := ep_ix_nI b9 (by omega)
      show Ez G mX11_begins d 12 [(4, eN), (0, eR 11 0), (1, eI x), (2, eI (nI j9)), (3, eI z)] [eR 4 j9] M _
      refine ez_astore 14 [(5, eR 4 j9), (4, eN), (0, eR 11 0), (1, eI x), (2, eI (nI j9)), (3, eI z)] dX11_begins_12 rfl (by decide) rfl ?_
      refine ez_aload 16 dX11_begins_14 rfl rfl ?_
      refine ez_ifnull_n 32 dX11_begins_16 (by decide) ?_
      refine ez_bipush 34 dX11_begins_32 rfl (-2) (by decide) ?_
      refine ez_iret .int dX11_begins_34 rfl rfl ?_
      exact ⟨by simp [S_begins, i2, i9], hC, FX.rf⟩
  · rw [e2]
    have i2 : ep_ix (nI j2) q.1.1 = some j2 := ep_ix_nI b2 (by omega)
    show Ez G mX11_begins d 5 [(0, eR 11 0), (1, eI (nI j2)), (2, eI y), (3, eI z)] [eR 1 j2] M _
    refine ez_astore 7 [(4, eR 1 j2), (0, eR 11 0), (1, eI (nI j2)), (2, eI y), (3, eI z)] dX11_begins_5 rfl (by decide) rfl ?_
    refine ez_aload_n 8 dX11_begins_7 rfl rfl ?_
    refine ez_iload_n 9 dX11_begins_8 rfl rfl ?_
    refine ez_callV 12 [eI y] [] dX11_begins_9 rfl rfl ok_X11_sheetAt in_X11_sheetAt (by decide) (by show 0 < 1; omega) ln_X11_266 (by omega) (Nat.le_of_ble_eq_true rfl) (c_X11_sheetAt G (d - 1) y M (by omega)) (fun r9 M9 q9 => ?_)
    obtain ⟨e9, ⟨rfl, i9⟩ | ⟨j9, b9, rfl, rfl⟩⟩ := q9
    · rw [e9]
      show Ez G mX11_begins d 12 [(4, eR 1 j2), (0, eR 11 0), (1, eI (nI j2)), (2, eI y), (3, eI z)] [eN] M _
      refine ez_astore 14 [(5, eN), (4, eR 1 j2), (0, eR 11 0), (1, eI (nI j2)), (2, eI y), (3, eI z)] dX11_begins_12 rfl (by decide) rfl ?_
      refine ez_aload 16 dX11_begins_14 rfl rfl ?_
      refine ez_ifnull_r 19 dX11_begins_16 rfl ?_
      refine ez_aload 21 dX11_begins_19 rfl rfl ?_
      refine ez_ifnull_n 32 dX11_begins_21 (by decide) ?_
      refine ez_bipush 34 dX11_begins_32 rfl (-2) (by decide) ?_
      refine ez_iret .int dX11_begins_34 rfl rfl ?_
      exact ⟨by simp [S_begins, i2, i9], hC, FX.rf⟩
    · rw [e9]
      have i9 : ep_ix (nI j9) 4 = some j9 := ep_ix_nI b9 (by omega)
      show Ez G mX11_begins d 12 [(4, eR 1 j2), (0, eR 11 0), (1, eI (nI j2)), (2, eI (nI j9)), (3, eI z)] [eR 4 j9] M _
      refine ez_astore 14 [(5, eR 4 j9), (4, eR 1 j2), (0, eR 11 0), (1, eI (nI j2)), (2, eI (nI j9)), (3, eI z)] dX11_begins_12 rfl (by decide) rfl ?_
      refine ez_aload 16 dX11_begins_14 rfl rfl ?_
      refine ez_ifnull_r 19 dX11_begins_16 rfl ?_
      refine ez_aload 21 dX11_begins_19 rfl rfl ?_
      refine ez_ifnull_r 24 dX11_begins_21 rfl ?_
      refine ez_iload_n 25 dX11_begins_24 rfl rfl ?_
      refine ez_iconst 26 dX11_begins_25 rfl (nI 2) (by decide) ?_
      refine ez_callS 29 [eI z, eI (nI 2)] [] dX11_begins_26 rfl rfl ok_X11_isInside st_X11_isInside ln_X11_134 (by omega) (Nat.le_of_ble_eq_true rfl) (c_isInside_c G (d - 1) z 2 M (by omega)) (fun r26 M26 q26 => ?_)
      obtain ⟨e26, ⟨rfl, i26⟩ | ⟨j26, b26, rfl, rfl⟩⟩ := q26
      · rw [e26]
        show Ez G mX11_begins d 29 [(5, eR 4 j9), (4, eR 1 j2), (0, eR 11 0), (1, eI (nI j2)), (2, eI (nI j9)), (3, eI z)] [eI (nI 0)] M _
        refine ez_nif_ne 32 35 dX11_begins_29 rfl (by decide) (by omega) (fun h29 => ?_) (fun h29 => ?_)
        · exact absurd h29 (by decide)
        · refine ez_bipush 34 dX11_begins_32 rfl (-2) (by decide) ?_
          refine ez_iret .int dX11_begins_34 rfl rfl ?_
          exact ⟨by simp [S_begins, i2, i9, i26], hC, FX.rf⟩
      · rw [e26]
        have i26 : ep_ix (nI j26) 2 = some j26 := ep_ix_nI b26 (by omega)
        show Ez G mX11_begins d 29 [(5, eR 4 j9), (4, eR 1 j2), (0, eR 11 0), (1, eI (nI j2)), (2, eI (nI j9)), (3, eI (nI j26))] [eI (nI 1)] M _
        refine ez_nif_ne 32 35 dX11_begins_29 rfl (by decide) (by omega) (fun h29 => ?_) (fun h29 => ?_)
        · refine ez_aload 37 dX11_begins_35 rfl rfl ?_
          refine ez_callV 40 [] [] dX11_begins_37 rfl rfl ok_X4_isMissing in_X4_isMissing (by decide) (by show j9 < 4; omega) ln_X11_270 (by omega) (Nat.le_of_ble_eq_true rfl) (c_isMissing_c G (d - 1) j9 q.2.2.2.1.1 q.2.2.2.1.2.1 q.2.2.2.1.2.2 M (by omega) hW.2.2.2.1 hC.2.2.2.1) (fun r37 M37 q37 => ?_)
          obtain ⟨e37, ⟨rfl, s37⟩ | ⟨rfl, s37⟩⟩ := q37
          · rw [e37]
            show Ez G mX11_begins d 40 [(5, eR 4 j9), (4, eR 1 j2), (0, eR 11 0), (1, eI (nI j2)), (2, eI (nI j9)), (3, eI (nI j26))] [eI (nI 1)] M _
            refine ez_nif_eq 43 46 dX11_begins_40 rfl (by decide) (by omega) (fun h40 => ?_) (fun h40 => ?_)
            · exact absurd h40 (by decide)
            · refine ez_bipush 45 dX11_begins_43 rfl (-11) (by decide) ?_
              refine ez_iret .int dX11_begins_45 rfl rfl ?_
              exact ⟨by simp only [S_begins, i2, i9, i26]; rw [if_pos s37], hC, FX.rf⟩
          · rw [e37]
            have p37 := Nat.pos_of_ne_zero s37
            have z37 := (hW.2.2.2.1 j9 (by omega)).2 p37
            have o37 := (hW.2.2.2.1 j9 (by omega)).1
            show Ez G mX11_begins d 40 [(5, eR 4 j9), (4, eR 1 j2), (0, eR 11 0), (1, eI (nI j2)), (2, eI (nI j9)), (3, eI (nI j26))] [eI (nI 0)] M _
            refine ez_nif_eq 43 46 dX11_begins_40 rfl (by decide) (by omega) (fun h40 => ?_) (fun h40 => ?_)
            · refine ez_aload 48 dX11_begins_46 rfl rfl ?_
              refine ez_callV 51 [] [] dX11_begins_48 rfl rfl ok_X4_isWalk in_X4_isWalk (by decide) (by show j9 < 4; omega) ln_X11_274 (by omega) (Nat.le_of_ble_eq_true rfl) (c_X4_isWalk G (d - 1) j9 M (by omega) hW hC (by omega) p37) (fun r48 M48 q48 => ?_)
              obtain ⟨e48, ⟨rfl, k48⟩ | ⟨rfl, k48⟩⟩ := q48
              · rw [e48]
                show Ez G mX11_begins d 51 [(5, eR 4 j9), (4, eR 1 j2), (0, eR 11 0), (1, eI (nI j2)), (2, eI (nI j9)), (3, eI (nI j26))] [eI (nI 0)] M _
                refine ez_nif_ne 54 57 dX11_begins_51 rfl (by decide) (by omega) (fun h51 => ?_) (fun h51 => ?_)
                · exact absurd h51 (by decide)
                · refine ez_bipush 56 dX11_begins_54 rfl (-2) (by decide) ?_
                  refine ez_iret .int dX11_begins_56 rfl rfl ?_
                  exact ⟨by simp only [S_begins, i2, i9, i26]; rw [if_neg s37, if_pos k48], hC, FX.rf⟩
              · rw [e48]
                show Ez G mX11_begins d 51 [(5, eR 4 j9), (4, eR 1 j2), (0, eR 11 0), (1, eI (nI j2)), (2, eI (nI j9)), (3, eI (nI j26))] [eI (nI 1)] M _
                refine ez_nif_ne 54 57 dX11_begins_51 rfl (by decide) (by omega) (fun h51 => ?_) (fun h51 => ?_)
                · refine ez_iconst 58 dX11_begins_57 rfl (nI 0) (by decide) ?_
                  refine ez_istore 60 [(6, eI (nI 0)), (5, eR 4 j9), (4, eR 1 j2), (0, eR 11 0), (1, eI (nI j2)), (2, eI (nI j9)), (3, eI (nI j26))] dX11_begins_58 rfl (by decide) rfl ?_
                  refine ez_iconst 61 dX11_begins_60 rfl (-1) (by decide) ?_
                  refine ez_istore 63 [(7, eI (-1)), (6, eI (nI 0)), (5, eR 4 j9), (4, eR 1 j2), (0, eR 11 0), (1, eI (nI j2)), (2, eI (nI j9)), (3, eI (nI j26))] dX11_begins_61 rfl (by decide) rfl ?_
                  refine ez_iconst 64 dX11_begins_63 rfl (nI 0) (by decide) ?_
                  refine ez_istore 66 [(8, eI (nI 0)), (7, eI (-1)), (6, eI (nI 0)), (5, eR 4 j9), (4, eR 1 j2), (0, eR 11 0), (1, eI (nI j2)), (2, eI (nI j9)), (3, eI (nI j26))] dX11_begins_64 rfl (by decide) rfl ?_
                  refine ez_drop [(8, eI (nI 0)), (7, eI (-1)), (6, eI (er_bi (b_al (q.1.2.2.1 j2) (b_it (q.2.2.2.1.2.2 j9)) (q.2.2.2.1.2.1 j9)) 0)), (5, eR 4 j9), (4, eR 1 j2), (3, eI (nI j26)), (2, eI (nI j9)), (1, eI (nI j2)), (0, eR 11 0)] (by simp [er_bi]) ?_
                  exact lp_begins G d j2 j9 j26 M hd hW hC (by omega) p37 b2 b26 k48 _ 0 (-1) rfl (by omega) (Or.inl ⟨rfl, fun r hr => absurd hr (Nat.not_lt_zero r)⟩)
                · exact absurd h51 (by decide)
            · exact absurd h40 (by decide)
        · exact absurd h29 (by decide)
