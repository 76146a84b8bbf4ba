/-! indices; the case forms of the tests; mazeAt, walkerAt, sheetAt; the model's tests -/
def ep_ix (x : Int32) (n : Nat) : Option Nat := if x < 0 ∨ nI n ≤ x then none else some x.toNatClampNeg
theorem ep_ix_nI {j n : Nat} (h : j < n) (hn : n < 2 ^ 31) : ep_ix (nI j) n = some j := by
  rw [ep_ix, if_neg (by rintro (q | q); exact nI_pos (by omega) q; exact nI_ge h hn q), nI_clamp (by omega)]
def ep_test (x : Int32) (n : Nat) (r : Option EzV) : Prop := (r = some (eI (nI 0)) ∧ ep_ix x n = none) ∨ ∃ j : Nat, j < n ∧ x = nI j ∧ r = some (eI (nI 1))
def ep_at (k : Nat) (x : Int32) (n : Nat) (r : Option EzV) : Prop := (r = some eN ∧ ep_ix x n = none) ∨ ∃ j : Nat, j < n ∧ x = nI j ∧ r = some (eR k j)
theorem ep_test_in {x : Int32} {n : Nat} (hn : n < 2 ^ 31) : ep_test x n (some (eI (ep_in x (nI n)))) := by
  rcases pk_ix x hn with h | h | ⟨j, hj, rfl⟩
  · exact Or.inl ⟨by simp [ep_in, h], by simp [ep_ix, h]⟩
  · exact Or.inl ⟨by simp [ep_in, h], by simp [ep_ix, h]⟩
  · exact Or.inr ⟨j, hj, rfl, by rw [ep_in, if_neg (by rintro (q | q); exact nI_pos (by omega) q; exact nI_ge hj hn q)]⟩
theorem c_isInside_c (G : EzG) (d : Nat) (x : Int32) (n : Nat) (M : EzM) (hn : n < 2 ^ 31) : Ezc G mX11_isInside d [eI x, eI (nI n)] M (fun r M' => M' = M ∧ ep_test x n r) :=
  (c_X11_isInside G d x (nI n) M).wk (fun r M' h => ⟨h.2, by rw [h.1]; exact ep_test_in hn⟩)
theorem c_isInside_n (G : EzG) (d : Nat) (a n : Nat) (M : EzM) (ha : a < n) (hn : n < 2 ^ 31) : Ezc G mX11_isInside d [eI (nI a), eI (nI n)] M (fun r M' => r = some (eI (nI 1)) ∧ M' = M) :=
  (c_X11_isInside G d (nI a) (nI n) M).wk (fun r M' h => ⟨by rw [h.1, ep_in, if_neg (by rintro (q | q); exact nI_pos (by omega) q; exact nI_ge ha hn q)], h.2⟩)
theorem c_itemAt_n (G : EzG) (d : Nat) (k i a : Nat) (M : EzM) (hk : 13 ≤ k ∧ k < 74 ∧ ez_atk k = 0 ∧ ez_alk k < 2 ^ 31) (hi : i < ez_cb G.1 k) (ha : a < ez_alk k) : Ezc G mX11_itemAt d [eR k i, eI (nI a)] M (fun r M' => r = some (eI (M.1 k i a)) ∧ M' = M) :=
  (c_X11_itemAt G d k i (nI a) M hk hi).wk (fun r M' h => ⟨by rw [h.1, ep_it_nI ha hk.2.2.2], h.2⟩)
theorem c_setItem_n (G : EzG) (d : Nat) (k i a : Nat) (v : Int32) (M : EzM) (hk : 13 ≤ k ∧ k < 74 ∧ ez_atk k = 0 ∧ ez_alk k < 2 ^ 31) (hi : i < ez_cb G.1 k) (ha : a < ez_alk k) : Ezc G mX11_setItem d [eR k i, eI (nI a), eI v] M (fun r M' => r = none ∧ M' = ez_st M k i a v) :=
  (c_X11_setItem G d k i (nI a) v M hk hi).wk (fun r M' h => ⟨h.1, by rw [h.2, ep_set_nI ha hk.2.2.2]⟩)
theorem c_hasRoom_c (G : EzG) (d : Nat) (i : Nat) (x : Int32) (n : Nat) (M : EzM) (hi : i < 4) (h0 : M.1 1 i 0 = nI n) (hn : n < 2 ^ 31) : Ezc G mX1_hasRoom d [eR 1 i, eI x] M (fun r M' => M' = M ∧ ep_test x n r) :=
  (c_X1_hasRoom G d i x M hi).wk (fun r M' h => ⟨h.2, by rw [h.1, h0]; exact ep_test_in hn⟩)
theorem ep_tg_nI {M : EzM} {i a b : Nat} (ha : a < 10) (hb : b < 4) : ep_tg M i (nI a) (nI b) = M.1 18 i (4 * a + b) := by
  have h1 : ep_in (nI b) (nI 4) = nI 1 := by rw [ep_in, if_neg (by rintro (q | q); exact nI_pos (by omega) q; exact nI_ge hb (by decide) q)]
  rw [ep_tg, h1, if_neg (by decide), pk_mul, nI_add, ep_it_nI (by omega) (by decide), Nat.mul_comm]
theorem c_target_n (G : EzG) (d : Nat) (i a b : Nat) (M : EzM) (hd : 1 ≤ d) (hi : i < 4) (ha : a < 10) (hb : b < 4) : Ezc G mX1_target d [eR 1 i, eI (nI a), eI (nI b)] M (fun r M' => r = some (eI (M.1 18 i (4 * a + b))) ∧ M' = M) :=
  (c_X1_target G d i (nI a) (nI b) M hd hi).wk (fun r M' h => ⟨by rw [h.1, ep_tg_nI ha hb], h.2⟩)
theorem ez_topL {G : EzG} {yy : MethodName} {cc : ByteArray} {ml : Nat} {rt : Option FieldType} {d pc : Nat} {ls : List (Nat × EzV)} {st : List EzV} {M : EzM} {P : Option EzV → EzM → Prop} {x : Int64} (y : Int64) (h : x = y) (k : Ez G (yy, cc, ml, rt) d pc ls (eL y :: st) M P) : Ez G (yy, cc, ml, rt) d pc ls (eL x :: st) M P := by rw [h]; exact k
set_option maxRecDepth 20000 in
theorem c_X11_mazeAt (G : EzG) (d : Nat) (x : Int32) (n : Nat) (M : EzM) (hd : 1 ≤ d) (h0 : M.1 11 0 2 = nI n) (hn : n ≤ 4) : Ezc G mX11_mazeAt d [eR 11 0, eI x] M (fun r M' => M' = M ∧ ep_at 1 x n r) := by
  refine Ezc.of (by decide +kernel) (Nat.le_of_ble_eq_true rfl) ?_
  show Ez G mX11_mazeAt d 0 [(0, eR 11 0), (1, eI x)] [] M _
  refine ez_iload_n 1 dX11_mazeAt_0 rfl rfl ?_
  refine ez_aload_n 2 dX11_mazeAt_1 rfl rfl ?_
  refine ez_getf 5 (eI (M.1 11 0 2)) dX11_mazeAt_2 rfl fl_X11_108 (by show 0 < 1; omega) rfl ?_
  refine ez_top (nI n) h0 ?_
  refine ez_callS 8 [eI x, eI (nI n)] [] dX11_mazeAt_5 rfl rfl ok_X11_isInside st_X11_isInside ln_X11_134 (by omega) (Nat.le_of_ble_eq_true rfl) (c_isInside_c G (d - 1) x n M (by omega)) (fun r5 M5 q5 => ?_)
  obtain ⟨e5, ⟨rfl, i5⟩ | ⟨j5, b5, rfl, rfl⟩⟩ := q5
  · rw [e5]
    show Ez G mX11_mazeAt d 8 [(0, eR 11 0), (1, eI x)] [eI (nI 0)] M _
    refine ez_nif_eq 11 25 dX11_mazeAt_8 rfl (by decide) (by omega) (fun h8 => ?_) (fun h8 => ?_)
    · refine ez_null 26 dX11_mazeAt_25 rfl ?_
      refine ez_aret (.object "ElevenPebbles$Maze") dX11_mazeAt_26 rfl (Or.inl ⟨_, rfl⟩) ?_
      exact ⟨rfl, Or.inl ⟨rfl, i5⟩⟩
    · exact absurd h8 (by decide)
  · rw [e5]
    have i5 : ep_ix (nI j5) n = some j5 := ep_ix_nI b5 (by omega)
    show Ez G mX11_mazeAt d 8 [(0, eR 11 0), (1, eI (nI j5))] [eI (nI 1)] M _
    refine ez_nif_eq 11 25 dX11_mazeAt_8 rfl (by decide) (by omega) (fun h8 => ?_) (fun h8 => ?_)
    · exact absurd h8 (by decide)
    · refine ez_iload_n 12 dX11_mazeAt_11 rfl rfl ?_
      refine ez_iconst 13 dX11_mazeAt_12 rfl (nI 4) (by decide) ?_
      refine ez_ncmp_ge 16 25 dX11_mazeAt_13 rfl (by decide) (by omega) (by omega) (fun h13 => ?_) (fun h13 => ?_)
      · exfalso; omega
      · refine ez_aload_n 17 dX11_mazeAt_16 rfl rfl ?_
        refine ez_getf 20 (eR 36 0) dX11_mazeAt_17 rfl fl_X11_18 (by show 0 < 1; omega) rfl ?_
        refine ez_iload_n 21 dX11_mazeAt_20 rfl rfl ?_
        refine ez_aaldN j5 22 (eR 1 j5) dX11_mazeAt_21 rfl (by decide) rfl (by show 0 < 1; omega) (by show j5 < 4; omega) (by rw [show (ez_ark 36) = (1, 0) from rfl]; simp) ?_
        refine ez_goto 26 dX11_mazeAt_22 (by decide) ?_
        refine ez_aret (.object "ElevenPebbles$Maze") dX11_mazeAt_26 rfl (Or.inl ⟨_, rfl⟩) ?_
        exact ⟨rfl, Or.inr ⟨j5, b5, rfl, rfl⟩⟩
set_option maxRecDepth 20000 in
theorem c_X11_walkerAt (G : EzG) (d : Nat) (x : Int32) (n : Nat) (M : EzM) (hd : 1 ≤ d) (h0 : M.1 11 0 4 = nI n) (hn : n ≤ 8) : Ezc G mX11_walkerAt d [eR 11 0, eI x] M (fun r M' => M' = M ∧ ep_at 10 x n r) := by
  refine Ezc.of (by decide +kernel) (Nat.le_of_ble_eq_true rfl) ?_
  show Ez G mX11_walkerAt d 0 [(0, eR 11 0), (1, eI x)] [] M _
  refine ez_iload_n 1 dX11_walkerAt_0 rfl rfl ?_
  refine ez_aload_n 2 dX11_walkerAt_1 rfl rfl ?_
  refine ez_getf 5 (eI (M.1 11 0 4)) dX11_walkerAt_2 rfl fl_X11_167 (by show 0 < 1; omega) rfl ?_
  refine ez_top (nI n) h0 ?_
  refine ez_callS 8 [eI x, eI (nI n)] [] dX11_walkerAt_5 rfl rfl ok_X11_isInside st_X11_isInside ln_X11_134 (by omega) (Nat.le_of_ble_eq_true rfl) (c_isInside_c G (d - 1) x n M (by omega)) (fun r5 M5 q5 => ?_)
  obtain ⟨e5, ⟨rfl, i5⟩ | ⟨j5, b5, rfl, rfl⟩⟩ := q5
  · rw [e5]
    show Ez G mX11_walkerAt d 8 [(0, eR 11 0), (1, eI x)] [eI (nI 0)] M _
    refine ez_nif_eq 11 26 dX11_walkerAt_8 rfl (by decide) (by omega) (fun h8 => ?_) (fun h8 => ?_)
    · refine ez_null 27 dX11_walkerAt_26 rfl ?_
      refine ez_aret (.object "ElevenPebbles$Walker") dX11_walkerAt_27 rfl (Or.inl ⟨_, rfl⟩) ?_
      exact ⟨rfl, Or.inl ⟨rfl, i5⟩⟩
    · exact absurd h8 (by decide)
  · rw [e5]
    have i5 : ep_ix (nI j5) n = some j5 := ep_ix_nI b5 (by omega)
    show Ez G mX11_walkerAt d 8 [(0, eR 11 0), (1, eI (nI j5))] [eI (nI 1)] M _
    refine ez_nif_eq 11 26 dX11_walkerAt_8 rfl (by decide) (by omega) (fun h8 => ?_) (fun h8 => ?_)
    · exact absurd h8 (by decide)
    · refine ez_iload_n 12 dX11_walkerAt_11 rfl rfl ?_
      refine ez_bipush 14 dX11_walkerAt_12 rfl (nI 8) (by decide) ?_
      refine ez_ncmp_ge 17 26 dX11_walkerAt_14 rfl (by decide) (by omega) (by omega) (fun h14 => ?_) (fun h14 => ?_)
      · exfalso; omega
      · refine ez_aload_n 18 dX11_walkerAt_17 rfl rfl ?_
        refine ez_getf 21 (eR 37 0) dX11_walkerAt_18 rfl fl_X11_24 (by show 0 < 1; omega) rfl ?_
        refine ez_iload_n 22 dX11_walkerAt_21 rfl rfl ?_
        refine ez_aaldN j5 23 (eR 10 j5) dX11_walkerAt_22 rfl (by decide) rfl (by show 0 < 1; omega) (by show j5 < 8; omega) (by rw [show (ez_ark 37) = (10, 0) from rfl]; simp) ?_
        refine ez_goto 27 dX11_walkerAt_23 (by decide) ?_
        refine ez_aret (.object "ElevenPebbles$Walker") dX11_walkerAt_27 rfl (Or.inl ⟨_, rfl⟩) ?_
        exact ⟨rfl, Or.inr ⟨j5, b5, rfl, rfl⟩⟩
set_option maxRecDepth 20000 in
theorem c_X11_sheetAt (G : EzG) (d : Nat) (x : Int32) (M : EzM) (hd : 1 ≤ d) : Ezc G mX11_sheetAt d [eR 11 0, eI x] M (fun r M' => M' = M ∧ ep_at 4 x 4 r) := by
  refine Ezc.of (by decide +kernel) (Nat.le_of_ble_eq_true rfl) ?_
  show Ez G mX11_sheetAt d 0 [(0, eR 11 0), (1, eI x)] [] M _
  refine ez_iload_n 1 dX11_sheetAt_0 rfl rfl ?_
  refine ez_iconst 2 dX11_sheetAt_1 rfl (nI 4) (by decide) ?_
  refine ez_callS 5 [eI x, eI (nI 4)] [] dX11_sheetAt_2 rfl rfl ok_X11_isInside st_X11_isInside ln_X11_134 (by omega) (Nat.le_of_ble_eq_true rfl) (c_isInside_c G (d - 1) x 4 M (by omega)) (fun r2 M2 q2 => ?_)
  obtain ⟨e2, ⟨rfl, i2⟩ | ⟨j2, b2, rfl, rfl⟩⟩ := q2
  · rw [e2]
    show Ez G mX11_sheetAt d 5 [(0, eR 11 0), (1, eI x)] [eI (nI 0)] M _
    refine ez_nif_eq 8 17 dX11_sheetAt_5 rfl (by decide) (by omega) (fun h5 => ?_) (fun h5 => ?_)
    · refine ez_null 18 dX11_sheetAt_17 rfl ?_
      refine ez_aret (.object "ElevenPebbles$Sheet") dX11_sheetAt_18 rfl (Or.inl ⟨_, rfl⟩) ?_
      exact ⟨rfl, Or.inl ⟨rfl, i2⟩⟩
    · exact absurd h5 (by decide)
  · rw [e2]
    have i2 : ep_ix (nI j2) 4 = some j2 := ep_ix_nI b2 (by omega)
    show Ez G mX11_sheetAt d 5 [(0, eR 11 0), (1, eI (nI j2))] [eI (nI 1)] M _
    refine ez_nif_eq 8 17 dX11_sheetAt_5 rfl (by decide) (by omega) (fun h5 => ?_) (fun h5 => ?_)
    · exact absurd h5 (by decide)
    · refine ez_aload_n 9 dX11_sheetAt_8 rfl rfl ?_
      refine ez_getf 12 (eR 39 0) dX11_sheetAt_9 rfl fl_X11_36 (by show 0 < 1; omega) rfl ?_
      refine ez_iload_n 13 dX11_sheetAt_12 rfl rfl ?_
      refine ez_aaldN j2 14 (eR 4 j2) dX11_sheetAt_13 rfl (by decide) rfl (by show 0 < 1; omega) (by show j2 < 4; omega) (by rw [show (ez_ark 39) = (4, 0) from rfl]; simp) ?_
      refine ez_goto 18 dX11_sheetAt_14 (by decide) ?_
      refine ez_aret (.object "ElevenPebbles$Sheet") dX11_sheetAt_18 rfl (Or.inl ⟨_, rfl⟩) ?_
      exact ⟨rfl, Or.inr ⟨j2, b2, rfl, rfl⟩⟩
theorem ep_cmp_lt {x y : Int64} : lg_cmp x y < 0 ↔ x < y := by
  unfold lg_cmp
  by_cases h1 : x > y
  · rw [if_pos h1]
    exact ⟨fun h => absurd h (by decide), fun h => absurd h (by rw [Int64.lt_iff_toInt_lt] at *; have h3 : y.toInt < x.toInt := Int64.lt_iff_toInt_lt.mp h1; omega)⟩
  · rw [if_neg h1]
    by_cases h2 : x = y
    · rw [if_pos h2, h2]
      exact ⟨fun h => absurd h (by decide), fun h => absurd h (by rw [Int64.lt_iff_toInt_lt]; omega)⟩
    · rw [if_neg h2]
      refine ⟨fun _ => ?_, fun _ => by decide⟩
      rw [Int64.lt_iff_toInt_lt]
      have h3 : ¬ y.toInt < x.toInt := fun q => h1 (Int64.lt_iff_toInt_lt.mpr q)
      have h4 : ¬ x.toInt = y.toInt := fun q => h2 (Int64.toInt_inj.mp q)
      omega
theorem ep_cmp_gt {x y : Int64} : 0 < lg_cmp x y ↔ y < x := by
  unfold lg_cmp
  by_cases h1 : x > y
  · rw [if_pos h1]
    exact ⟨fun _ => h1, fun _ => by decide⟩
  · rw [if_neg h1]
    by_cases h2 : x = y
    · rw [if_pos h2]
      exact ⟨fun h => absurd h (by decide), fun h => absurd h h1⟩
    · rw [if_neg h2]
      exact ⟨fun h => absurd h (by decide), fun h => absurd h h1⟩
def ep_iL (x a b : Int64) : Int32 := if x < a ∨ b < x then nI 0 else nI 1
def ep_i3 (x a b : Int32) : Int32 := if x < a ∨ b < x then nI 0 else nI 1
set_option maxRecDepth 20000 in
theorem c_X12_in (g : EzH) (d : Nat) (x a b : Int64) (M : EzM)  : Ezc (true, g) mX12_in d [eL x, eL a, eL b] M (fun r M' => r = some (eI (ep_iL x a b)) ∧ M' = M) := by
  refine Ezc.of (by decide +kernel) (Nat.le_of_ble_eq_true rfl) ?_
  show Ez (true, g) mX12_in d 0 [(0, eL x), (2, eL a), (4, eL b)] [] M _
  refine ez_lload_n 1 dX12_in_0 rfl rfl ?_
  refine ez_lload_n 2 dX12_in_1 rfl rfl ?_
  refine ez_lcmp 3 dX12_in_2 rfl ?_
  refine ez_if_lt 6 17 dX12_in_3 rfl (by decide) (fun h3 => ?_) (fun h3 => ?_)
  · refine ez_iconst 18 dX12_in_17 rfl (nI 0) (by decide) ?_
    refine ez_iret .boolean dX12_in_18 rfl (by decide) ?_
    exact ⟨by rw [ep_iL, if_pos (Or.inl (ep_cmp_lt.mp h3))], rfl⟩
  · refine ez_lload_n 7 dX12_in_6 rfl rfl ?_
    refine ez_lload 9 dX12_in_7 rfl rfl ?_
    refine ez_lcmp 10 dX12_in_9 rfl ?_
    refine ez_if_gt 13 17 dX12_in_10 rfl (by decide) (fun h10 => ?_) (fun h10 => ?_)
    · refine ez_iconst 18 dX12_in_17 rfl (nI 0) (by decide) ?_
      refine ez_iret .boolean dX12_in_18 rfl (by decide) ?_
      exact ⟨by rw [ep_iL, if_pos (Or.inr (ep_cmp_gt.mp h10))], rfl⟩
    · refine ez_iconst 14 dX12_in_13 rfl (nI 1) (by decide) ?_
      refine ez_goto 18 dX12_in_14 (by decide) ?_
      refine ez_iret .boolean dX12_in_18 rfl (by decide) ?_
      exact ⟨by rw [ep_iL, if_neg (by rintro (q | q); exact h3 (ep_cmp_lt.mpr q); exact h10 (ep_cmp_gt.mpr q))], rfl⟩
theorem ep_wlt (a b : Int32) : a.toInt64 < b.toInt64 ↔ a < b := by
  rw [Int64.lt_iff_toInt_lt, Int32.lt_iff_toInt_lt, Int32.toInt_toInt64, Int32.toInt_toInt64]
theorem c_in_3 (g : EzH) (d : Nat) (x a b : Int32) (M : EzM) : Ezc (true, g) mX12_in d [eL x.toInt64, eL a.toInt64, eL b.toInt64] M (fun r M' => r = some (eI (ep_i3 x a b)) ∧ M' = M) :=
  (c_X12_in g d x.toInt64 a.toInt64 b.toInt64 M).wk (fun r M' h => ⟨by simp only [h.1, ep_iL, ep_i3, ep_wlt], h.2⟩)
theorem ep_i3_in {x : Int32} {n : Nat} (hn : n < 2 ^ 31) : ep_i3 x (nI 0) (nI n - nI 1) = ep_in x (nI n) := by
  have h1 : (nI n - nI 1).toInt = (n : Int) - 1 := by
    rcases Nat.eq_zero_or_pos n with rfl | h
    · decide
    · rw [pk_sub h, nI_toInt (by omega)]; omega
  have h2 : (nI n).toInt = (n : Int) := nI_toInt hn
  unfold ep_i3 ep_in
  rw [show nI 0 = 0 from nI_0]
  by_cases h : x < 0
  · simp [h]
  · have e : (nI n - nI 1 < x) ↔ (nI n ≤ x) := by rw [Int32.lt_iff_toInt_lt, Int32.le_iff_toInt_le, h1, h2]; omega
    simp only [e]
theorem ep_i3_k {x : Int32} {n : Nat} (hn : n + 1 < 2 ^ 31) : ep_i3 x (nI 0) (nI n) = ep_in x (nI (n + 1)) := by
  rw [← ep_i3_in hn, pk_sub (by omega), show n + 1 - 1 = n from rfl]
theorem c_in_c (g : EzH) (d : Nat) (x : Int32) (n : Nat) (M : EzM) (hn : n < 2 ^ 31) : Ezc (true, g) mX12_in d [eL x.toInt64, eL (nI 0).toInt64, eL (nI n - nI 1).toInt64] M (fun r M' => M' = M ∧ ep_test x n r) :=
  (c_in_3 g d x (nI 0) (nI n - nI 1) M).wk (fun r M' h => ⟨h.2, by rw [h.1, ep_i3_in hn]; exact ep_test_in hn⟩)
theorem c_in_n (g : EzH) (d : Nat) (a n : Nat) (M : EzM) (ha : a < n) (hn : n < 2 ^ 31) : Ezc (true, g) mX12_in d [eL (nI a).toInt64, eL (nI 0).toInt64, eL (nI n - nI 1).toInt64] M (fun r M' => r = some (eI (nI 1)) ∧ M' = M) :=
  (c_in_3 g d (nI a) (nI 0) (nI n - nI 1) M).wk (fun r M' h => ⟨by rw [h.1, ep_i3_in hn, ep_in, if_neg (by rintro (q | q); exact nI_pos (by omega) q; exact nI_ge ha hn q)], h.2⟩)
theorem c_in_k (g : EzH) (d : Nat) (x : Int32) (n : Nat) (M : EzM) (hn : n + 1 < 2 ^ 31) : Ezc (true, g) mX12_in d [eL x.toInt64, eL (nI 0).toInt64, eL (nI n).toInt64] M (fun r M' => M' = M ∧ ep_test x (n + 1) r) :=
  (c_in_3 g d x (nI 0) (nI n) M).wk (fun r M' h => ⟨h.2, by rw [h.1, ep_i3_k hn]; exact ep_test_in hn⟩)
set_option maxRecDepth 20000 in
theorem c_X12_isMaze (g : EzH) (d : Nat) (x : Int32) (n : Nat) (M : EzM) (hd : 1 ≤ d) (h0 : M.1 12 0 10 = nI n) (hn : n ≤ 4) : Ezc (true, g) mX12_isMaze d [eR 12 0, eI x] M (fun r M' => M' = M ∧ ep_test x n r) := by
  refine Ezc.of (by decide +kernel) (Nat.le_of_ble_eq_true rfl) ?_
  show Ez (true, g) mX12_isMaze d 0 [(0, eR 12 0), (1, eI x)] [] M _
  refine ez_iload_n 1 dX12_isMaze_0 rfl rfl ?_
  refine ez_i2l 2 dX12_isMaze_1 rfl ?_
  refine ez_lconst 3 dX12_isMaze_2 rfl (nI 0).toInt64 (by decide) ?_
  refine ez_aload_n 4 dX12_isMaze_3 rfl rfl ?_
  refine ez_getf 7 (eI (M.1 12 0 10)) dX12_isMaze_4 rfl fl_X12_130 (by show 0 < 1; omega) rfl ?_
  refine ez_top (nI n) h0 ?_
  refine ez_iconst 8 dX12_isMaze_7 rfl (nI 1) (by decide) ?_
  refine ez_isub 9 dX12_isMaze_8 rfl ?_
  refine ez_i2l 10 dX12_isMaze_9 rfl ?_
  refine ez_callS 13 [eL x.toInt64, eL ((nI 0).toInt64), eL (((nI n) - (nI 1)).toInt64)] [] dX12_isMaze_10 rfl rfl ok_X12_in st_X12_in ln_X12_133 (by omega) (Nat.le_of_ble_eq_true rfl) (c_in_c g (d - 1) x n M (by omega)) (fun r10 M10 q10 => ?_)
  obtain ⟨e10, ⟨rfl, i10⟩ | ⟨j10, b10, rfl, rfl⟩⟩ := q10
  · rw [e10]
    show Ez (true, g) mX12_isMaze d 13 [(0, eR 12 0), (1, eI x)] [eI (nI 0)] M _
    refine ez_iret .boolean dX12_isMaze_13 rfl (by decide) ?_
    exact ⟨rfl, Or.inl ⟨rfl, i10⟩⟩
  · rw [e10]
    have i10 : ep_ix (nI j10) n = some j10 := ep_ix_nI b10 (by omega)
    show Ez (true, g) mX12_isMaze d 13 [(0, eR 12 0), (1, eI (nI j10))] [eI (nI 1)] M _
    refine ez_iret .boolean dX12_isMaze_13 rfl (by decide) ?_
    exact ⟨rfl, Or.inr ⟨j10, b10, rfl, rfl⟩⟩
set_option maxRecDepth 20000 in
theorem c_X12_isWalker (g : EzH) (d : Nat) (x : Int32) (n : Nat) (M : EzM) (hd : 1 ≤ d) (h0 : M.1 12 0 19 = nI n) (hn : n ≤ 8) : Ezc (true, g) mX12_isWalker d [eR 12 0, eI x] M (fun r M' => M' = M ∧ ep_test x n r) := by
  refine Ezc.of (by decide +kernel) (Nat.le_of_ble_eq_true rfl) ?_
  show Ez (true, g) mX12_isWalker d 0 [(0, eR 12 0), (1, eI x)] [] M _
  refine ez_iload_n 1 dX12_isWalker_0 rfl rfl ?_
  refine ez_i2l 2 dX12_isWalker_1 rfl ?_
  refine ez_lconst 3 dX12_isWalker_2 rfl (nI 0).toInt64 (by decide) ?_
  refine ez_aload_n 4 dX12_isWalker_3 rfl rfl ?_
  refine ez_getf 7 (eI (M.1 12 0 19)) dX12_isWalker_4 rfl fl_X12_176 (by show 0 < 1; omega) rfl ?_
  refine ez_top (nI n) h0 ?_
  refine ez_iconst 8 dX12_isWalker_7 rfl (nI 1) (by decide) ?_
  refine ez_isub 9 dX12_isWalker_8 rfl ?_
  refine ez_i2l 10 dX12_isWalker_9 rfl ?_
  refine ez_callS 13 [eL x.toInt64, eL ((nI 0).toInt64), eL (((nI n) - (nI 1)).toInt64)] [] dX12_isWalker_10 rfl rfl ok_X12_in st_X12_in ln_X12_133 (by omega) (Nat.le_of_ble_eq_true rfl) (c_in_c g (d - 1) x n M (by omega)) (fun r10 M10 q10 => ?_)
  obtain ⟨e10, ⟨rfl, i10⟩ | ⟨j10, b10, rfl, rfl⟩⟩ := q10
  · rw [e10]
    show Ez (true, g) mX12_isWalker d 13 [(0, eR 12 0), (1, eI x)] [eI (nI 0)] M _
    refine ez_iret .boolean dX12_isWalker_13 rfl (by decide) ?_
    exact ⟨rfl, Or.inl ⟨rfl, i10⟩⟩
  · rw [e10]
    have i10 : ep_ix (nI j10) n = some j10 := ep_ix_nI b10 (by omega)
    show Ez (true, g) mX12_isWalker d 13 [(0, eR 12 0), (1, eI (nI j10))] [eI (nI 1)] M _
    refine ez_iret .boolean dX12_isWalker_13 rfl (by decide) ?_
    exact ⟨rfl, Or.inr ⟨j10, b10, rfl, rfl⟩⟩
set_option maxRecDepth 20000 in
theorem c_X12_isSheet (g : EzH) (d : Nat) (x : Int32) (M : EzM) (hd : 1 ≤ d) : Ezc (true, g) mX12_isSheet d [eI x] M (fun r M' => M' = M ∧ ep_test x 4 r) := by
  refine Ezc.of (by decide +kernel) (Nat.le_of_ble_eq_true rfl) ?_
  show Ez (true, g) mX12_isSheet d 0 [(0, eI x)] [] M _
  refine ez_iload_n 1 dX12_isSheet_0 rfl rfl ?_
  refine ez_i2l 2 dX12_isSheet_1 rfl ?_
  refine ez_lconst 3 dX12_isSheet_2 rfl (nI 0).toInt64 (by decide) ?_
  refine ez_ldc2 6 dX12_isSheet_3 rfl 3 cn_X12_168 ?_
  refine ez_topL (nI 3).toInt64 (by decide) ?_
  refine ez_callS 9 [eL x.toInt64, eL ((nI 0).toInt64), eL ((nI 3).toInt64)] [] dX12_isSheet_6 rfl rfl ok_X12_in st_X12_in ln_X12_133 (by omega) (Nat.le_of_ble_eq_true rfl) (c_in_k g (d - 1) x 3 M (by decide)) (fun r6 M6 q6 => ?_)
  obtain ⟨e6, ⟨rfl, i6⟩ | ⟨j6, b6, rfl, rfl⟩⟩ := q6
  · rw [e6]
    show Ez (true, g) mX12_isSheet d 9 [(0, eI x)] [eI (nI 0)] M _
    refine ez_iret .boolean dX12_isSheet_9 rfl (by decide) ?_
    exact ⟨rfl, Or.inl ⟨rfl, i6⟩⟩
  · rw [e6]
    have i6 : ep_ix (nI j6) 4 = some j6 := ep_ix_nI b6 (by omega)
    show Ez (true, g) mX12_isSheet d 9 [(0, eI (nI j6))] [eI (nI 1)] M _
    refine ez_iret .boolean dX12_isSheet_9 rfl (by decide) ?_
    exact ⟨rfl, Or.inr ⟨j6, b6, rfl, rfl⟩⟩
set_option maxRecDepth 20000 in
theorem c_X12_to (g : EzH) (d : Nat) (a b c : Nat) (M : EzM) (ha : a < 4) (hb : b < 10) (hc : c < 4) : Ezc (true, g) mX12_to d [eR 12 0, eI (nI a), eI (nI b), eI (nI c)] M (fun r M' => r = some (eI (M.1 45 0 (40 * a + (4 * b + c)))) ∧ M' = M) := by
  refine Ezc.of (by decide +kernel) (Nat.le_of_ble_eq_true rfl) ?_
  show Ez (true, g) mX12_to d 0 [(0, eR 12 0), (1, eI (nI a)), (2, eI (nI b)), (3, eI (nI c))] [] M _
  refine ez_aload_n 1 dX12_to_0 rfl rfl ?_
  refine ez_getf 4 (eR 45 0) dX12_to_1 rfl fl_X12_23 (by show 0 < 1; omega) rfl ?_
  refine ez_iconst 5 dX12_to_4 rfl (nI 4) (by decide) ?_
  refine ez_bipush 7 dX12_to_5 rfl (nI 10) (by decide) ?_
  refine ez_iload_n 8 dX12_to_7 rfl rfl ?_
  refine ez_imul 9 dX12_to_8 rfl ?_
  refine ez_top (nI (10 * a)) (pk_mul _ _) ?_
  refine ez_iload_n 10 dX12_to_9 rfl rfl ?_
  refine ez_iadd 11 dX12_to_10 rfl ?_
  refine ez_top (nI (10 * a + b)) (nI_add _ _) ?_
  refine ez_imul 12 dX12_to_11 rfl ?_
  refine ez_top (nI (4 * (10 * a + b))) (pk_mul _ _) ?_
  refine ez_iload_n 13 dX12_to_12 rfl rfl ?_
  refine ez_iadd 14 dX12_to_13 rfl ?_
  refine ez_top (nI (4 * (10 * a + b) + c)) (nI_add _ _) ?_
  refine ez_ialdN (4 * (10 * a + b) + c) 15 dX12_to_14 rfl (by decide) (by show 0 < 1; omega) (by show 4 * (10 * a + b) + c < 160; omega) ?_
  refine ez_iret .int dX12_to_15 rfl rfl ?_
  exact ⟨by rw [show 4 * (10 * a + b) + c = 40 * a + (4 * b + c) by omega], rfl⟩
