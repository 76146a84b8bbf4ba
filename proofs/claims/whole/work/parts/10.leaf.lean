/-! leaves of the class: isInside, itemAt, setItem, hasRoom, target, leading -/
def ep_it (f : Nat → Int32) (n : Nat) (x : Int32) : Int32 := if x < 0 ∨ nI n ≤ x then -1 else f x.toNatClampNeg
theorem ep_it_nI {f : Nat → Int32} {n a : Nat} (h : a < n) (hn : n < 2 ^ 31) : ep_it f n (nI a) = f a := by
  rw [ep_it, if_neg (by rintro (q | q); exact nI_pos (by omega) q; exact nI_ge h hn q), nI_clamp (by omega)]
def ep_in (x y : Int32) : Int32 := if x < 0 ∨ y ≤ x then nI 0 else nI 1
theorem ep_vin {x : Int32} {n : Nat} (hn : n < 2 ^ 31) (h1 : ¬ x < 0) (h2 : ¬ nI n ≤ x) : vp_in x n := by
  rcases pk_ix x hn with h | h | ⟨j, hj, rfl⟩
  · exact absurd h h1
  · exact absurd h h2
  · exact vp_in_nI hj hn
set_option maxRecDepth 20000 in
theorem c_X11_itemAt (G : EzG) (d : Nat) (k i : Nat) (x : Int32) (M : EzM) (hk : 13 ≤ k ∧ k < 74 ∧ ez_atk k = 0 ∧ ez_alk k < 2 ^ 31) (hi : i < ez_cb G.1 k) : Ezc G mX11_itemAt d [eR k i, eI x] M (fun r M' => r = some (eI (ep_it (M.1 k i) (ez_alk k) x)) ∧ M' = M) := by
  refine Ezc.of (by decide +kernel) (Nat.le_of_ble_eq_true rfl) ?_
  show Ez G mX11_itemAt d 0 [(0, eR k i), (1, eI x)] [] M _
  refine ez_iload_n 1 dX11_itemAt_0 rfl rfl ?_
  refine ez_if_lt 4 16 dX11_itemAt_1 rfl (by decide) (fun h1 => ?_) (fun h1 => ?_)
  · refine ez_iconst 17 dX11_itemAt_16 rfl (-1) (by decide) ?_
    refine ez_iret .int dX11_itemAt_17 rfl rfl ⟨by simp [ep_it, h1], rfl⟩
  · refine ez_iload_n 5 dX11_itemAt_4 rfl rfl ?_
    refine ez_aload_n 6 dX11_itemAt_5 rfl rfl ?_
    refine ez_alen 7 (nI (ez_alk k)) dX11_itemAt_6 rfl ⟨hk.1, hk.2.1⟩ hi rfl ?_
    refine ez_icmp_ge 10 16 dX11_itemAt_7 rfl (by decide) (fun h7 => ?_) (fun h7 => ?_)
    · refine ez_iconst 17 dX11_itemAt_16 rfl (-1) (by decide) ?_
      refine ez_iret .int dX11_itemAt_17 rfl rfl ⟨by simp [ep_it, h7], rfl⟩
    · refine ez_aload_n 11 dX11_itemAt_10 rfl rfl ?_
      refine ez_iload_n 12 dX11_itemAt_11 rfl rfl ?_
      refine ez_iald 13 dX11_itemAt_12 rfl ⟨hk.1, hk.2.1, hk.2.2.1⟩ hi (ep_vin hk.2.2.2 h1 h7) ?_
      refine ez_goto 17 dX11_itemAt_13 (by decide) ?_
      refine ez_iret .int dX11_itemAt_17 rfl rfl ⟨by simp [ep_it, h1, h7], rfl⟩
/-- what setItem leaves -/
def ep_set (M : EzM) (k i : Nat) (x v : Int32) : EzM := if x < 0 ∨ nI (ez_alk k) ≤ x then M else ez_st M k i x.toNatClampNeg v
theorem ep_set_nI {M : EzM} {k i a : Nat} {v : Int32} (h : a < ez_alk k) (hn : ez_alk k < 2 ^ 31) : ep_set M k i (nI a) v = ez_st M k i a v := by
  rw [ep_set, if_neg (by rintro (q | q); exact nI_pos (by omega) q; exact nI_ge h hn q), nI_clamp (by omega)]
set_option maxRecDepth 20000 in
theorem c_X11_setItem (G : EzG) (d : Nat) (k i : Nat) (x v : Int32) (M : EzM) (hk : 13 ≤ k ∧ k < 74 ∧ ez_atk k = 0 ∧ ez_alk k < 2 ^ 31) (hi : i < ez_cb G.1 k) : Ezc G mX11_setItem d [eR k i, eI x, eI v] M (fun r M' => r = none ∧ M' = ep_set M k i x v) := by
  refine Ezc.of (by decide +kernel) (Nat.le_of_ble_eq_true rfl) ?_
  show Ez G mX11_setItem d 0 [(0, eR k i), (1, eI x), (2, eI v)] [] M _
  refine ez_iload_n 1 dX11_setItem_0 rfl rfl ?_
  refine ez_if_lt 4 14 dX11_setItem_1 rfl (by decide) (fun h1 => ?_) (fun h1 => ?_)
  · refine ez_vret dX11_setItem_14 rfl ⟨rfl, by simp [ep_set, h1]⟩
  · refine ez_iload_n 5 dX11_setItem_4 rfl rfl ?_
    refine ez_aload_n 6 dX11_setItem_5 rfl rfl ?_
    refine ez_alen 7 (nI (ez_alk k)) dX11_setItem_6 rfl ⟨hk.1, hk.2.1⟩ hi rfl ?_
    refine ez_icmp_ge 10 14 dX11_setItem_7 rfl (by decide) (fun h7 => ?_) (fun h7 => ?_)
    · refine ez_vret dX11_setItem_14 rfl ⟨rfl, by simp [ep_set, h7]⟩
    · refine ez_aload_n 11 dX11_setItem_10 rfl rfl ?_
      refine ez_iload_n 12 dX11_setItem_11 rfl rfl ?_
      refine ez_iload_n 13 dX11_setItem_12 rfl rfl ?_
      refine ez_iast 14 dX11_setItem_13 rfl ⟨hk.1, hk.2.1, hk.2.2.1⟩ hi (ep_vin hk.2.2.2 h1 h7) ?_
      refine ez_vret dX11_setItem_14 rfl ⟨rfl, by simp [ep_set, h1, h7]⟩
set_option maxRecDepth 20000 in
theorem c_X11_isInside (G : EzG) (d : Nat) (x y : Int32) (M : EzM)  : Ezc G mX11_isInside d [eI x, eI y] M (fun r M' => r = some (eI (ep_in x y)) ∧ M' = M) := by
  refine Ezc.of (by decide +kernel) (Nat.le_of_ble_eq_true rfl) ?_
  show Ez G mX11_isInside d 0 [(0, eI x), (1, eI y)] [] M _
  refine ez_iload_n 1 dX11_isInside_0 rfl rfl ?_
  refine ez_if_lt 4 13 dX11_isInside_1 rfl (by decide) (fun h1 => ?_) (fun h1 => ?_)
  · refine ez_iconst 14 dX11_isInside_13 rfl (nI 0) (by decide) ?_
    refine ez_iret .boolean dX11_isInside_14 rfl (by decide) ?_
    exact ⟨by simp [ep_in, h1], rfl⟩
  · refine ez_iload_n 5 dX11_isInside_4 rfl rfl ?_
    refine ez_iload_n 6 dX11_isInside_5 rfl rfl ?_
    refine ez_icmp_ge 9 13 dX11_isInside_6 rfl (by decide) (fun h6 => ?_) (fun h6 => ?_)
    · refine ez_iconst 14 dX11_isInside_13 rfl (nI 0) (by decide) ?_
      refine ez_iret .boolean dX11_isInside_14 rfl (by decide) ?_
      exact ⟨by simp [ep_in, h1, h6], rfl⟩
    · refine ez_iconst 10 dX11_isInside_9 rfl (nI 1) (by decide) ?_
      refine ez_goto 14 dX11_isInside_10 (by decide) ?_
      refine ez_iret .boolean dX11_isInside_14 rfl (by decide) ?_
      exact ⟨by simp [ep_in, h1, h6], rfl⟩
set_option maxRecDepth 20000 in
theorem c_X1_hasRoom (G : EzG) (d : Nat) (i : Nat) (x : Int32) (M : EzM) (hi : i < 4) : Ezc G mX1_hasRoom d [eR 1 i, eI x] M (fun r M' => r = some (eI (ep_in x (M.1 1 i 0))) ∧ M' = M) := by
  refine Ezc.of (by decide +kernel) (Nat.le_of_ble_eq_true rfl) ?_
  show Ez G mX1_hasRoom d 0 [(0, eR 1 i), (1, eI x)] [] M _
  refine ez_iload_n 1 dX1_hasRoom_0 rfl rfl ?_
  refine ez_if_lt 4 16 dX1_hasRoom_1 rfl (by decide) (fun h1 => ?_) (fun h1 => ?_)
  · refine ez_iconst 17 dX1_hasRoom_16 rfl (nI 0) (by decide) ?_
    refine ez_iret .boolean dX1_hasRoom_17 rfl (by decide) ?_
    exact ⟨by simp [ep_in, h1], rfl⟩
  · refine ez_iload_n 5 dX1_hasRoom_4 rfl rfl ?_
    refine ez_aload_n 6 dX1_hasRoom_5 rfl rfl ?_
    refine ez_getf 9 (eI (M.1 1 i 0)) dX1_hasRoom_6 rfl fl_X1_21 (by show i < 4; omega) rfl ?_
    refine ez_icmp_ge 12 16 dX1_hasRoom_9 rfl (by decide) (fun h9 => ?_) (fun h9 => ?_)
    · refine ez_iconst 17 dX1_hasRoom_16 rfl (nI 0) (by decide) ?_
      refine ez_iret .boolean dX1_hasRoom_17 rfl (by decide) ?_
      exact ⟨by simp [ep_in, h1, h9], rfl⟩
    · refine ez_iconst 13 dX1_hasRoom_12 rfl (nI 1) (by decide) ?_
      refine ez_goto 17 dX1_hasRoom_13 (by decide) ?_
      refine ez_iret .boolean dX1_hasRoom_17 rfl (by decide) ?_
      exact ⟨by simp [ep_in, h1, h9], rfl⟩
def ep_tg (M : EzM) (i : Nat) (x y : Int32) : Int32 := if ep_in y (nI 4) = 0 then -1 else ep_it (M.1 18 i) 40 (x * nI 4 + y)
def ep_lg (M : EzM) (i : Nat) (x : Int32) : Int32 := if ep_in x (M.1 1 i 0) = 0 then nI 0 else ep_it (M.1 19 i) 10 x
set_option maxRecDepth 20000 in
theorem c_X1_target (G : EzG) (d : Nat) (i : Nat) (x y : Int32) (M : EzM) (hd : 1 ≤ d) (hi : i < 4) : Ezc G mX1_target d [eR 1 i, eI x, eI y] M (fun r M' => r = some (eI (ep_tg M i x y)) ∧ M' = M) := by
  refine Ezc.of (by decide +kernel) (Nat.le_of_ble_eq_true rfl) ?_
  show Ez G mX1_target d 0 [(0, eR 1 i), (1, eI x), (2, eI y)] [] M _
  refine ez_iload_n 1 dX1_target_0 rfl rfl ?_
  refine ez_iconst 2 dX1_target_1 rfl (nI 4) (by decide) ?_
  refine ez_callSN 5 [eI y, eI (nI 4)] [] dX1_target_2 rfl rfl ok_X11_isInside st_X11_isInside "ElevenPebbles" nn_X1_25 (by omega) (Nat.le_of_ble_eq_true rfl) (c_X11_isInside G (d - 1) y (nI 4) M) (fun r2 M2 q2 => ?_)
  obtain ⟨rfl, e2⟩ := q2
  rw [e2]
  show Ez G mX1_target d 5 [(0, eR 1 i), (1, eI x), (2, eI y)] [eI (ep_in y (nI 4))] M _
  refine ez_if_eq 8 23 dX1_target_5 rfl (by decide) (fun h5 => ?_) (fun h5 => ?_)
  · refine ez_iconst 24 dX1_target_23 rfl (-1) (by decide) ?_
    refine ez_iret .int dX1_target_24 rfl rfl ?_
    exact ⟨by simp [ep_tg, h5], rfl⟩
  · refine ez_aload_n 9 dX1_target_8 rfl rfl ?_
    refine ez_getf 12 (eR 18 i) dX1_target_9 rfl fl_X1_9 (by show i < 4; omega) rfl ?_
    refine ez_iload_n 13 dX1_target_12 rfl rfl ?_
    refine ez_iconst 14 dX1_target_13 rfl (nI 4) (by decide) ?_
    refine ez_imul 15 dX1_target_14 rfl ?_
    refine ez_iload_n 16 dX1_target_15 rfl rfl ?_
    refine ez_iadd 17 dX1_target_16 rfl ?_
    refine ez_callSN 20 [eR 18 i, eI ((x * (nI 4)) + y)] [] dX1_target_17 rfl rfl ok_X11_itemAt st_X11_itemAt "ElevenPebbles" nn_X1_29 (by omega) (Nat.le_of_ble_eq_true rfl) (c_X11_itemAt G (d - 1) 18 i ((x * (nI 4)) + y) M (by decide) (by show i < 4; omega)) (fun r17 M17 q17 => ?_)
    obtain ⟨rfl, e17⟩ := q17
    rw [e17]
    show Ez G mX1_target d 20 [(0, eR 1 i), (1, eI x), (2, eI y)] [eI (ep_it (M.1 18 i) 40 ((x * (nI 4)) + y))] M _
    refine ez_goto 24 dX1_target_20 (by decide) ?_
    refine ez_iret .int dX1_target_24 rfl rfl ?_
    exact ⟨by simp [ep_tg, h5], rfl⟩
set_option maxRecDepth 20000 in
theorem c_X1_leading (G : EzG) (d : Nat) (i : Nat) (x : Int32) (M : EzM) (hd : 1 ≤ d) (hi : i < 4) : Ezc G mX1_leading d [eR 1 i, eI x] M (fun r M' => r = some (eI (ep_lg M i x)) ∧ M' = M) := by
  refine Ezc.of (by decide +kernel) (Nat.le_of_ble_eq_true rfl) ?_
  show Ez G mX1_leading d 0 [(0, eR 1 i), (1, eI x)] [] M _
  refine ez_aload_n 1 dX1_leading_0 rfl rfl ?_
  refine ez_iload_n 2 dX1_leading_1 rfl rfl ?_
  refine ez_callV 5 [eI x] [] dX1_leading_2 rfl rfl ok_X1_hasRoom in_X1_hasRoom (by decide) (by show i < 4; omega) ln_X1_33 (by omega) (Nat.le_of_ble_eq_true rfl) (c_X1_hasRoom G (d - 1) i x M (by show i < 4; omega)) (fun r2 M2 q2 => ?_)
  obtain ⟨rfl, e2⟩ := q2
  rw [e2]
  show Ez G mX1_leading d 5 [(0, eR 1 i), (1, eI x)] [eI (ep_in x (M.1 1 i 0))] M _
  refine ez_if_eq 8 19 dX1_leading_5 rfl (by decide) (fun h5 => ?_) (fun h5 => ?_)
  · refine ez_iconst 20 dX1_leading_19 rfl (nI 0) (by decide) ?_
    refine ez_iret .int dX1_leading_20 rfl rfl ?_
    exact ⟨by simp [ep_lg, h5], rfl⟩
  · refine ez_aload_n 9 dX1_leading_8 rfl rfl ?_
    refine ez_getf 12 (eR 19 i) dX1_leading_9 rfl fl_X1_15 (by show i < 4; omega) rfl ?_
    refine ez_iload_n 13 dX1_leading_12 rfl rfl ?_
    refine ez_callSN 16 [eR 19 i, eI x] [] dX1_leading_13 rfl rfl ok_X11_itemAt st_X11_itemAt "ElevenPebbles" nn_X1_29 (by omega) (Nat.le_of_ble_eq_true rfl) (c_X11_itemAt G (d - 1) 19 i x M (by decide) (by show i < 4; omega)) (fun r13 M13 q13 => ?_)
    obtain ⟨rfl, e13⟩ := q13
    rw [e13]
    show Ez G mX1_leading d 16 [(0, eR 1 i), (1, eI x)] [eI (ep_it (M.1 19 i) 10 x)] M _
    refine ez_goto 20 dX1_leading_16 (by decide) ?_
    refine ez_iret .int dX1_leading_20 rfl rfl ?_
    exact ⟨by simp [ep_lg, h5], rfl⟩
