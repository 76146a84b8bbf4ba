/-! rows of a memory; sheets -/
theorem ez_st_row {M : EzM} {k i s : Nat} {f : Nat → Int32} {v : Int32} : ez_st (ez_row M k i f) k i s v = ez_row M k i (upd f s v) := by
  unfold ez_st
  rw [ez_row_1]
  unfold ez_row
  congr 1
  funext k' i'
  by_cases h : k' = k ∧ i' = i
  · rw [if_pos h, if_pos h]
  · simp only [if_neg h]
theorem ez_row_self {M : EzM} {k i : Nat} : ez_row M k i (M.1 k i) = M := by
  unfold ez_row
  apply Prod.ext
  · funext k' i'
    by_cases h : k' = k ∧ i' = i
    · simp [h.1, h.2]
    · simp only [if_neg h]
  · rfl
def ep_fl (g f : Nat → Int32) (t : Nat) : Nat → Int32 := fun j => if j < t then g j else f j
theorem ep_fl_0 (g f : Nat → Int32) : ep_fl g f 0 = f := by funext j; simp [ep_fl]
theorem ep_fl_s (g f : Nat → Int32) (t : Nat) {v : Int32} (h : v = g t) : upd (ep_fl g f t) t v = ep_fl g f (t + 1) := by
  funext j
  subst h
  unfold upd ep_fl
  by_cases h1 : j = t
  · subst h1
    rw [if_pos rfl, if_pos (by omega)]
  · rw [if_neg h1]
    by_cases h2 : j < t
    · rw [if_pos h2, if_pos (by omega)]
    · rw [if_neg h2, if_neg (by omega)]
theorem ep_fl_in {g f : Nat → Int32} {t j : Nat} (h : j < t) : ep_fl g f t j = g j := by unfold ep_fl; rw [if_pos h]
theorem ep_fl_out {g f : Nat → Int32} {t j : Nat} (h : t ≤ j) : ep_fl g f t j = f j := by unfold ep_fl; rw [if_neg (by omega)]
theorem ez_rdr (M : EzM) (k i : Nat) (f : Nat → Int32) (k' i' s' : Nat) : (ez_row M k i f).1 k' i' s' = if k' = k ∧ i' = i then f s' else M.1 k' i' s' := by
  by_cases h : k' = k ∧ i' = i
  · obtain ⟨rfl, rfl⟩ := h
    simp [ez_row]
  · rw [ez_row_n M f h, if_neg h]
set_option maxRecDepth 20000 in
theorem lp_X4_clear (G : EzG) (d : Nat) (i : Nat) (x y : Int32) (M : EzM) (hi : i < 4) : ∀ (z : Nat) (t : Nat) (M1 : EzM), 40 - t = z → t ≤ 40 → M1 = ez_row M 22 i (ep_fl (fun _ => nI 0) (M.1 22 i) t) → Ez G mX4_clear d 12 [(3, eI (nI t)), (0, eR 4 i), (1, eI x), (2, eI y)] [] M1 (fun r M' => r = none ∧ M' = ez_row M 22 i (ep_fl (fun _ => nI 0) (M.1 22 i) 40)) := by
  intro z
  induction z using Nat.strongRecOn with
  | ind z ih =>
    intro t M1 hz ht hM
    refine ez_iload_n 13 dX4_clear_12 rfl rfl ?_
    refine ez_bipush 15 dX4_clear_13 rfl (nI 40) (by decide) ?_
    refine ez_ncmp_ge 18 31 dX4_clear_15 rfl (by decide) (by omega) (by omega) (fun h15 => ?_) (fun h15 => ?_)
    · refine ez_vret dX4_clear_31 rfl ?_
      exact ⟨rfl, by rw [hM, show t = 40 by omega]⟩
    · refine ez_aload_n 19 dX4_clear_18 rfl rfl ?_
      refine ez_getf 22 (eR 22 i) dX4_clear_19 rfl fl_X4_15 (by show i < 4; omega) rfl ?_
      refine ez_iload_n 23 dX4_clear_22 rfl rfl ?_
      refine ez_iconst 24 dX4_clear_23 rfl (nI 0) (by decide) ?_
      refine ez_iastN t 25 dX4_clear_24 rfl (by decide) (by show i < 4; omega) (by show t < 40; omega) ?_
      refine ez_iinc 28 (nI (t + 1)) [(3, eI (nI (t + 1))), (0, eR 4 i), (1, eI x), (2, eI y)] dX4_clear_25 rfl rfl (nI_add t 1) (by decide) rfl ?_
      refine ez_goto 12 dX4_clear_28 (by decide) ?_
      exact ih (40 - (t + 1)) (by omega) (t + 1) _ rfl (by omega) (by rw [hM, ez_st_row, ep_fl_s _ _ _ rfl])
set_option maxRecDepth 20000 in
theorem c_X4_clear (G : EzG) (d : Nat) (i : Nat) (x y : Int32) (M : EzM) (hi : i < 4) : Ezc G mX4_clear d [eR 4 i, eI x, eI y] M (fun r M' => r = none ∧ M' = ez_row (ez_st (ez_st M 4 i 0 x) 4 i 1 y) 22 i (ep_fl (fun _ => nI 0) (M.1 22 i) 40)) := by
  refine Ezc.of (by decide +kernel) (Nat.le_of_ble_eq_true rfl) ?_
  show Ez G mX4_clear d 0 [(0, eR 4 i), (1, eI x), (2, eI y)] [] M _
  refine ez_aload_n 1 dX4_clear_0 rfl rfl ?_
  refine ez_iload_n 2 dX4_clear_1 rfl rfl ?_
  refine ez_putf 5 .int dX4_clear_2 rfl fp_X4_9 (by show i < 4; omega) rfl (by decide) rfl rfl ?_
  refine ez_aload_n 6 dX4_clear_5 rfl rfl ?_
  refine ez_iload_n 7 dX4_clear_6 rfl rfl ?_
  refine ez_putf 10 .int dX4_clear_7 rfl fp_X4_19 (by show i < 4; omega) rfl (by decide) rfl rfl ?_
  refine ez_iconst 11 dX4_clear_10 rfl (nI 0) (by decide) ?_
  refine ez_istore_n 12 [(3, eI (nI 0)), (0, eR 4 i), (1, eI x), (2, eI y)] dX4_clear_11 rfl (by decide) rfl ?_
  exact lp_X4_clear G d i x y _ hi (40 - 0) 0 _ rfl (by omega) (by rw [ep_fl_0, ez_row_self])
def ep_nar (so x : Int32) : Int32 := if so = 0 then x.toInt8.toInt32 else if so = nI 1 then x.toInt16.toInt32 else x
set_option maxRecDepth 20000 in
theorem c_X4_narrowed (G : EzG) (d : Nat) (i : Nat) (x : Int32) (M : EzM) (hi : i < 4) : Ezc G mX4_narrowed d [eR 4 i, eI x] M (fun r M' => r = some (eI (ep_nar (M.1 4 i 0) x)) ∧ M' = M) := by
  refine Ezc.of (by decide +kernel) (Nat.le_of_ble_eq_true rfl) ?_
  show Ez G mX4_narrowed d 0 [(0, eR 4 i), (1, eI x)] [] M _
  refine ez_aload_n 1 dX4_narrowed_0 rfl rfl ?_
  refine ez_getf 4 (eI (M.1 4 i 0)) dX4_narrowed_1 rfl fl_X4_9 (by show i < 4; omega) rfl ?_
  refine ez_if_ne 7 10 dX4_narrowed_4 rfl (by decide) (fun h4 => ?_) (fun h4 => ?_)
  · refine ez_aload_n 11 dX4_narrowed_10 rfl rfl ?_
    refine ez_getf 14 (eI (M.1 4 i 0)) dX4_narrowed_11 rfl fl_X4_9 (by show i < 4; omega) rfl ?_
    refine ez_iconst 15 dX4_narrowed_14 rfl (nI 1) (by decide) ?_
    refine ez_icmp_ne 18 23 dX4_narrowed_15 rfl (by decide) (fun h15 => ?_) (fun h15 => ?_)
    · refine ez_iload_n 24 dX4_narrowed_23 rfl rfl ?_
      refine ez_iret .int dX4_narrowed_24 rfl rfl ?_
      exact ⟨by rw [ep_nar, if_neg h4, if_neg h15], rfl⟩
    · refine ez_iload_n 19 dX4_narrowed_18 rfl rfl ?_
      refine ez_i2s 20 dX4_narrowed_19 rfl ?_
      refine ez_goto 24 dX4_narrowed_20 (by decide) ?_
      refine ez_iret .int dX4_narrowed_24 rfl rfl ?_
      exact ⟨by rw [ep_nar, if_neg h4, if_pos h15], rfl⟩
  · refine ez_iload_n 8 dX4_narrowed_7 rfl rfl ?_
    refine ez_i2b 9 dX4_narrowed_8 rfl ?_
    refine ez_iret .int dX4_narrowed_9 rfl rfl ?_
    exact ⟨by rw [ep_nar, if_pos h4], rfl⟩
set_option maxRecDepth 20000 in
theorem c_X4_isMissing (G : EzG) (d : Nat) (i : Nat) (M : EzM) (hi : i < 4) : Ezc G mX4_isMissing d [eR 4 i] M (fun r M' => r = some (eI (if M.1 4 i 0 = -1 then nI 1 else nI 0)) ∧ M' = M) := by
  refine Ezc.of (by decide +kernel) (Nat.le_of_ble_eq_true rfl) ?_
  show Ez G mX4_isMissing d 0 [(0, eR 4 i)] [] M _
  refine ez_aload_n 1 dX4_isMissing_0 rfl rfl ?_
  refine ez_getf 4 (eI (M.1 4 i 0)) dX4_isMissing_1 rfl fl_X4_9 (by show i < 4; omega) rfl ?_
  refine ez_iconst 5 dX4_isMissing_4 rfl (-1) (by decide) ?_
  refine ez_icmp_ne 8 12 dX4_isMissing_5 rfl (by decide) (fun h5 => ?_) (fun h5 => ?_)
  · refine ez_iconst 13 dX4_isMissing_12 rfl (nI 0) (by decide) ?_
    refine ez_iret .boolean dX4_isMissing_13 rfl (by decide) ?_
    exact ⟨by simp [h5], rfl⟩
  · refine ez_iconst 9 dX4_isMissing_8 rfl (nI 1) (by decide) ?_
    refine ez_goto 13 dX4_isMissing_9 (by decide) ?_
    refine ez_iret .boolean dX4_isMissing_13 rfl (by decide) ?_
    exact ⟨by simp [h5], rfl⟩
def ep_has (n : Int32) (x y : Int32) : Int32 := if x < 0 ∨ y < 0 ∨ n < y ∨ n - y < x then nI 0 else nI 1
set_option maxRecDepth 20000 in
theorem c_X4_hasItems (G : EzG) (d : Nat) (i : Nat) (x y : Int32) (M : EzM) (hi : i < 4) : Ezc G mX4_hasItems d [eR 4 i, eI x, eI y] M (fun r M' => r = some (eI (ep_has (M.1 4 i 1) x y)) ∧ M' = M) := by
  refine Ezc.of (by decide +kernel) (Nat.le_of_ble_eq_true rfl) ?_
  show Ez G mX4_hasItems d 0 [(0, eR 4 i), (1, eI x), (2, eI y)] [] M _
  refine ez_iload_n 1 dX4_hasItems_0 rfl rfl ?_
  refine ez_if_lt 4 30 dX4_hasItems_1 rfl (by decide) (fun h1 => ?_) (fun h1 => ?_)
  · refine ez_iconst 31 dX4_hasItems_30 rfl (nI 0) (by decide) ?_
    refine ez_iret .boolean dX4_hasItems_31 rfl (by decide) ?_
    exact ⟨by simp [ep_has, h1], rfl⟩
  · refine ez_iload_n 5 dX4_hasItems_4 rfl rfl ?_
    refine ez_if_lt 8 30 dX4_hasItems_5 rfl (by decide) (fun h5 => ?_) (fun h5 => ?_)
    · refine ez_iconst 31 dX4_hasItems_30 rfl (nI 0) (by decide) ?_
      refine ez_iret .boolean dX4_hasItems_31 rfl (by decide) ?_
      exact ⟨by simp [ep_has, h1, h5], rfl⟩
    · refine ez_iload_n 9 dX4_hasItems_8 rfl rfl ?_
      refine ez_aload_n 10 dX4_hasItems_9 rfl rfl ?_
      refine ez_getf 13 (eI (M.1 4 i 1)) dX4_hasItems_10 rfl fl_X4_19 (by show i < 4; omega) rfl ?_
      refine ez_icmp_gt 16 30 dX4_hasItems_13 rfl (by decide) (fun h13 => ?_) (fun h13 => ?_)
      · refine ez_iconst 31 dX4_hasItems_30 rfl (nI 0) (by decide) ?_
        refine ez_iret .boolean dX4_hasItems_31 rfl (by decide) ?_
        exact ⟨by simp [ep_has, h1, h5, h13], rfl⟩
      · refine ez_iload_n 17 dX4_hasItems_16 rfl rfl ?_
        refine ez_aload_n 18 dX4_hasItems_17 rfl rfl ?_
        refine ez_getf 21 (eI (M.1 4 i 1)) dX4_hasItems_18 rfl fl_X4_19 (by show i < 4; omega) rfl ?_
        refine ez_iload_n 22 dX4_hasItems_21 rfl rfl ?_
        refine ez_isub 23 dX4_hasItems_22 rfl ?_
        refine ez_icmp_gt 26 30 dX4_hasItems_23 rfl (by decide) (fun h23 => ?_) (fun h23 => ?_)
        · refine ez_iconst 31 dX4_hasItems_30 rfl (nI 0) (by decide) ?_
          refine ez_iret .boolean dX4_hasItems_31 rfl (by decide) ?_
          exact ⟨by simp [ep_has, h1, h5, h13, h23], rfl⟩
        · refine ez_iconst 27 dX4_hasItems_26 rfl (nI 1) (by decide) ?_
          refine ez_goto 31 dX4_hasItems_27 (by decide) ?_
          refine ez_iret .boolean dX4_hasItems_31 rfl (by decide) ?_
          exact ⟨by simp [ep_has, h1, h5, h13, h23], rfl⟩
