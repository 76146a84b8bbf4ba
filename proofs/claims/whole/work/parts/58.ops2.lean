/-! count, walker, walkers -/
def s_sl (pb : Nat → Nat → Nat) : Nat → Int32
  | 0 => nI 0
  | k + 1 => s_sl pb k + nI (pb (k / 10) (k % 10))
def s_sb (wb : Nat → Int32) : Nat → Int32
  | 0 => nI 0
  | k + 1 => s_sb wb k + wb k
def S_count (q : EpS) (x : Int32) : Int32 := if x = nI 0 then nI q.1.1 else if x = nI 1 then nI q.2.1.1 else if x = nI 2 then nI q.2.2.2.2.1.1 else if x = nI 3 then nI q.2.2.1.1 else if x = nI 4 then nI q.2.2.2.2.1.2.1 else if x = nI 5 then s_sl q.1.2.2.2 (10 * q.1.1) else if x = nI 6 then s_sb q.2.1.2.2.1 q.2.1.1 else -2
set_option maxRecDepth 20000 in
theorem lp_sl14 (G : EzG) (d : Nat) {q : EpS} (m : Nat) (P : Option EzV → EzM → Prop) (M : EzM) (hd : 1 ≤ d) (hW : WF q) (hC : RC q M) (hm : m < q.1.1) (K : Ez G mX11_sumOfLying d 40 [(1, eI (s_sl q.1.2.2.2 (10 * m + 10))), (2, eI (nI m)), (0, eR 11 0)] [] M P) : ∀ (z : Nat) (r : Nat) (v : Int32), 10 - r = z → r ≤ 10 → v = s_sl q.1.2.2.2 (10 * m + r) → Ez G mX11_sumOfLying d 14 [(3, eI (nI r)), (1, eI v), (2, eI (nI m)), (0, eR 11 0)] [] M (P) := by
  intro z
  induction z using Nat.strongRecOn with
  | ind z ih =>
    intro r v hz hr hv
    have q4 := hW.1.1
    refine ez_iload_n 15 dX11_sumOfLying_14 rfl rfl ?_
    refine ez_bipush 17 dX11_sumOfLying_15 rfl (nI 10) (by decide) ?_
    refine ez_ncmp_ge 20 40 dX11_sumOfLying_17 rfl (by decide) (by omega) (by omega) (fun h17 => ?_) (fun h17 => ?_)
    · have e9 : r = 10 := by omega
      subst e9
      rw [hv]
      refine ez_drop [(1, eI (s_sl q.1.2.2.2 (10 * m + 10))), (2, eI (nI m)), (0, eR 11 0)] (by simp) ?_
      exact K
    · refine ez_iload_n 21 dX11_sumOfLying_20 rfl rfl ?_
      refine ez_aload_n 22 dX11_sumOfLying_21 rfl rfl ?_
      refine ez_getf 25 (eR 36 0) dX11_sumOfLying_22 rfl fl_X11_18 (by show 0 < 1; omega) rfl ?_
      refine ez_iload_n 26 dX11_sumOfLying_25 rfl rfl ?_
      refine ez_aaldN m 27 (eR 1 m) dX11_sumOfLying_26 rfl (by decide) rfl (by show 0 < 1; omega) (by show m < 4; omega) (by rw [show (ez_ark 36) = (1, 0) from rfl]; simp) ?_
      refine ez_getf 30 (eR 20 m) dX11_sumOfLying_27 rfl fl_X11_156 (by show m < 4; omega) rfl ?_
      refine ez_iload_n 31 dX11_sumOfLying_30 rfl rfl ?_
      refine ez_ialdN r 32 dX11_sumOfLying_31 rfl (by decide) (by show m < 9; omega) (by show r < 10; omega) ?_
      refine ez_top (nI (q.1.2.2.2 m r)) ((hC.1.2.1 m (by omega)).2.2.2 r (by omega)) ?_
      refine ez_iadd 33 dX11_sumOfLying_32 rfl ?_
      refine ez_istore_n 34 [(1, eI (v + (nI (q.1.2.2.2 m r)))), (3, eI (nI r)), (2, eI (nI m)), (0, eR 11 0)] dX11_sumOfLying_33 rfl (by decide) rfl ?_
      refine ez_iinc 37 (nI (r + 1)) [(3, eI (nI (r + 1))), (1, eI (v + (nI (q.1.2.2.2 m r)))), (2, eI (nI m)), (0, eR 11 0)] dX11_sumOfLying_34 rfl rfl (nI_add r 1) (by decide) rfl ?_
      refine ez_goto 14 dX11_sumOfLying_37 (by decide) ?_
      refine ez_drop [(3, eI (nI (r + 1))), (1, eI (v + (nI (q.1.2.2.2 m r)))), (2, eI (nI m)), (0, eR 11 0)] (by simp) ?_
      exact ih (10 - (r + 1)) (by omega) (r + 1) _ rfl (by omega) (by rw [hv]; show _ = s_sl q.1.2.2.2 (10 * m + r) + nI (q.1.2.2.2 ((10 * m + r) / 10) ((10 * m + r) % 10)); rw [show (10 * m + r) / 10 = m by omega, show (10 * m + r) % 10 = r by omega])
set_option maxRecDepth 20000 in
theorem sl_40 (G : EzG) (d : Nat) (m : Nat) (v : Int32) (P : Option EzV → EzM → Prop) (M : EzM) (K : Ez G mX11_sumOfLying d 4 [(2, eI (nI (m + 1))), (1, eI v), (0, eR 11 0)] [] M P) : Ez G mX11_sumOfLying d 40 [(1, eI v), (2, eI (nI m)), (0, eR 11 0)] [] M (P) := by
  refine ez_iinc 43 (nI (m + 1)) [(2, eI (nI (m + 1))), (1, eI v), (0, eR 11 0)] dX11_sumOfLying_40 rfl rfl (nI_add m 1) (by decide) rfl ?_
  refine ez_goto 4 dX11_sumOfLying_43 (by decide) ?_
  exact K
set_option maxRecDepth 20000 in
theorem lp_sl4 (G : EzG) (d : Nat) {q : EpS} (M : EzM) (hd : 1 ≤ d) (hW : WF q) (hC : RC q M) : ∀ (z : Nat) (m : Nat) (v : Int32), q.1.1 - m = z → m ≤ q.1.1 → v = s_sl q.1.2.2.2 (10 * m) → Ez G mX11_sumOfLying d 4 [(2, eI (nI m)), (1, eI v), (0, eR 11 0)] [] M (fun r M' => r = some (eI (s_sl q.1.2.2.2 (10 * q.1.1))) ∧ M' = M) := by
  intro z
  induction z using Nat.strongRecOn with
  | ind z ih =>
    intro m v hz hm hv
    have q4 := hW.1.1
    refine ez_iload_n 5 dX11_sumOfLying_4 rfl rfl ?_
    refine ez_aload_n 6 dX11_sumOfLying_5 rfl rfl ?_
    refine ez_getf 9 (eI (M.1 11 0 2)) dX11_sumOfLying_6 rfl fl_X11_108 (by show 0 < 1; omega) rfl ?_
    refine ez_top (nI q.1.1) hC.1.1 ?_
    refine ez_ncmp_ge 12 46 dX11_sumOfLying_9 rfl (by decide) (by omega) (by omega) (fun h9 => ?_) (fun h9 => ?_)
    · refine ez_iload_n 47 dX11_sumOfLying_46 rfl rfl ?_
      refine ez_iret .int dX11_sumOfLying_47 rfl rfl ?_
      have e9 : m = q.1.1 := by omega
      exact ⟨by rw [hv, e9], rfl⟩
    · refine ez_iconst 13 dX11_sumOfLying_12 rfl (nI 0) (by decide) ?_
      refine ez_istore_n 14 [(3, eI (nI 0)), (2, eI (nI m)), (1, eI v), (0, eR 11 0)] dX11_sumOfLying_13 rfl (by decide) rfl ?_
      refine ez_drop [(3, eI (nI 0)), (1, eI v), (2, eI (nI m)), (0, eR 11 0)] (by simp) ?_
      refine lp_sl14 G d (q := q) m _ M hd hW hC (by omega) ?_ _ 0 v rfl (by omega) hv
      refine sl_40 G d m _ _ M ?_
      exact ih (q.1.1 - (m + 1)) (by omega) (m + 1) _ rfl (by omega) (by rw [show 10 * m + 10 = 10 * (m + 1) by omega])
set_option maxRecDepth 20000 in
theorem c_X11_sumOfLying (G : EzG) (d : Nat) {q : EpS} (M : EzM) (hd : 1 ≤ d) (hW : WF q) (hC : RC q M) : Ezc G mX11_sumOfLying d [eR 11 0] M (fun r M' => r = some (eI (s_sl q.1.2.2.2 (10 * q.1.1))) ∧ M' = M) := by
  refine Ezc.of (by decide +kernel) (Nat.le_of_ble_eq_true rfl) ?_
  show Ez G mX11_sumOfLying d 0 [(0, eR 11 0)] [] M _
  refine ez_iconst 1 dX11_sumOfLying_0 rfl (nI 0) (by decide) ?_
  refine ez_istore_n 2 [(1, eI (nI 0)), (0, eR 11 0)] dX11_sumOfLying_1 rfl (by decide) rfl ?_
  refine ez_iconst 3 dX11_sumOfLying_2 rfl (nI 0) (by decide) ?_
  refine ez_istore_n 4 [(2, eI (nI 0)), (1, eI (nI 0)), (0, eR 11 0)] dX11_sumOfLying_3 rfl (by decide) rfl ?_
  exact lp_sl4 G d M hd hW hC _ 0 _ rfl (by omega) rfl
set_option maxRecDepth 20000 in
theorem lp_sb4 (G : EzG) (d : Nat) {q : EpS} (M : EzM) (hd : 1 ≤ d) (hW : WF q) (hC : RC q M) : ∀ (z : Nat) (m : Nat) (v : Int32), q.2.1.1 - m = z → m ≤ q.2.1.1 → v = s_sb q.2.1.2.2.1 m → Ez G mX11_sumOfBags d 4 [(2, eI (nI m)), (1, eI v), (0, eR 11 0)] [] M (fun r M' => r = some (eI (s_sb q.2.1.2.2.1 q.2.1.1)) ∧ M' = M) := by
  intro z
  induction z using Nat.strongRecOn with
  | ind z ih =>
    intro m v hz hm hv
    have q8 := hW.2.1.1
    refine ez_iload_n 5 dX11_sumOfBags_4 rfl rfl ?_
    refine ez_aload_n 6 dX11_sumOfBags_5 rfl rfl ?_
    refine ez_getf 9 (eI (M.1 11 0 4)) dX11_sumOfBags_6 rfl fl_X11_167 (by show 0 < 1; omega) rfl ?_
    refine ez_top (nI q.2.1.1) hC.2.1.1 ?_
    refine ez_ncmp_ge 12 30 dX11_sumOfBags_9 rfl (by decide) (by omega) (by omega) (fun h9 => ?_) (fun h9 => ?_)
    · refine ez_iload_n 31 dX11_sumOfBags_30 rfl rfl ?_
      refine ez_iret .int dX11_sumOfBags_31 rfl rfl ?_
      have e9 : m = q.2.1.1 := by omega
      exact ⟨by rw [hv, e9], rfl⟩
    · refine ez_iload_n 13 dX11_sumOfBags_12 rfl rfl ?_
      refine ez_aload_n 14 dX11_sumOfBags_13 rfl rfl ?_
      refine ez_getf 17 (eR 37 0) dX11_sumOfBags_14 rfl fl_X11_24 (by show 0 < 1; omega) rfl ?_
      refine ez_iload_n 18 dX11_sumOfBags_17 rfl rfl ?_
      refine ez_aaldN m 19 (eR 10 m) dX11_sumOfBags_18 rfl (by decide) rfl (by show 0 < 1; omega) (by show m < 8; omega) (by rw [show (ez_ark 37) = (10, 0) from rfl]; simp) ?_
      refine ez_getf 22 (eI (M.1 10 m 5)) dX11_sumOfBags_19 rfl fl_X11_182 (by show m < 18; omega) rfl ?_
      refine ez_top (q.2.1.2.2.1 m) ((hC.2.1.2.1 m (by omega)).2.1) ?_
      refine ez_iadd 23 dX11_sumOfBags_22 rfl ?_
      refine ez_istore_n 24 [(1, eI (v + (q.2.1.2.2.1 m))), (2, eI (nI m)), (0, eR 11 0)] dX11_sumOfBags_23 rfl (by decide) rfl ?_
      refine ez_iinc 27 (nI (m + 1)) [(2, eI (nI (m + 1))), (1, eI (v + (q.2.1.2.2.1 m))), (0, eR 11 0)] dX11_sumOfBags_24 rfl rfl (nI_add m 1) (by decide) rfl ?_
      refine ez_goto 4 dX11_sumOfBags_27 (by decide) ?_
      refine ez_drop [(2, eI (nI (m + 1))), (1, eI (v + (q.2.1.2.2.1 m))), (0, eR 11 0)] (by simp) ?_
      exact ih (q.2.1.1 - (m + 1)) (by omega) (m + 1) _ rfl (by omega) (by rw [hv]; rfl)
set_option maxRecDepth 20000 in
theorem c_X11_sumOfBags (G : EzG) (d : Nat) {q : EpS} (M : EzM) (hd : 1 ≤ d) (hW : WF q) (hC : RC q M) : Ezc G mX11_sumOfBags d [eR 11 0] M (fun r M' => r = some (eI (s_sb q.2.1.2.2.1 q.2.1.1)) ∧ M' = M) := by
  refine Ezc.of (by decide +kernel) (Nat.le_of_ble_eq_true rfl) ?_
  show Ez G mX11_sumOfBags d 0 [(0, eR 11 0)] [] M _
  refine ez_iconst 1 dX11_sumOfBags_0 rfl (nI 0) (by decide) ?_
  refine ez_istore_n 2 [(1, eI (nI 0)), (0, eR 11 0)] dX11_sumOfBags_1 rfl (by decide) rfl ?_
  refine ez_iconst 3 dX11_sumOfBags_2 rfl (nI 0) (by decide) ?_
  refine ez_istore_n 4 [(2, eI (nI 0)), (1, eI (nI 0)), (0, eR 11 0)] dX11_sumOfBags_3 rfl (by decide) rfl ?_
  exact lp_sb4 G d M hd hW hC _ 0 _ rfl (by omega) rfl
set_option maxRecDepth 20000 in
theorem c_X11_count (G : EzG) (d : Nat) {q : EpS} (x : Int32) (M : EzM) (hd : 2 ≤ d) (hW : WF q) (hC : RC q M) : Ezc G mX11_count d [eR 11 0, eI x] M (fun r M' => r = some (eI (S_count q x)) ∧ RC q M' ∧ FX CC M M') := by
  refine Ezc.of (by decide +kernel) (Nat.le_of_ble_eq_true rfl) ?_
  have q8 := hW.2.1.1
  have q4 := hW.1.1
  have qx := hW.2.2.2.2.1
  show Ez G mX11_count d 0 [(0, eR 11 0), (1, eI x)] [] M _
  refine ez_iload_n 1 dX11_count_0 rfl rfl ?_
  by_cases e1_0 : x = nI 0
  · subst e1_0
    refine ez_tabIn (off := 43) 44 dX11_count_1 (by decide) (by decide) (by decide) (by decide) ?_
    refine ez_aload_n 45 dX11_count_44 rfl rfl ?_
    refine ez_getf 48 (eI (M.1 11 0 2)) dX11_count_45 rfl fl_X11_108 (by show 0 < 1; omega) rfl ?_
    refine ez_top (nI q.1.1) hC.1.1 ?_
    refine ez_iret .int dX11_count_48 rfl rfl ?_
    exact ⟨by unfold S_count; rw [if_pos rfl], hC, FX.rf⟩
  by_cases e1_1 : x = nI 1
  · subst e1_1
    refine ez_tabIn (off := 48) 49 dX11_count_1 (by decide) (by decide) (by decide) (by decide) ?_
    refine ez_aload_n 50 dX11_count_49 rfl rfl ?_
    refine ez_getf 53 (eI (M.1 11 0 4)) dX11_count_50 rfl fl_X11_167 (by show 0 < 1; omega) rfl ?_
    refine ez_top (nI q.2.1.1) hC.2.1.1 ?_
    refine ez_iret .int dX11_count_53 rfl rfl ?_
    exact ⟨by unfold S_count; rw [if_neg (by decide), if_pos rfl], hC, FX.rf⟩
  by_cases e1_2 : x = nI 2
  · subst e1_2
    refine ez_tabIn (off := 53) 54 dX11_count_1 (by decide) (by decide) (by decide) (by decide) ?_
    refine ez_aload_n 55 dX11_count_54 rfl rfl ?_
    refine ez_getf 58 (eI (M.1 11 0 6)) dX11_count_55 rfl fl_X11_119 (by show 0 < 1; omega) rfl ?_
    refine ez_top (nI q.2.2.2.2.1.1) hC.2.2.2.2.1.1 ?_
    refine ez_iret .int dX11_count_58 rfl rfl ?_
    exact ⟨by unfold S_count; rw [if_neg (by decide), if_neg (by decide), if_pos rfl], hC, FX.rf⟩
  by_cases e1_3 : x = nI 3
  · subst e1_3
    refine ez_tabIn (off := 58) 59 dX11_count_1 (by decide) (by decide) (by decide) (by decide) ?_
    refine ez_aload_n 60 dX11_count_59 rfl rfl ?_
    refine ez_getf 63 (eR 7 0) dX11_count_60 rfl fl_X11_10 (by show 0 < 1; omega) rfl ?_
    refine ez_getf 66 (eI (M.1 7 0 1)) dX11_count_63 rfl fl_X11_100 (by show 0 < 1; omega) rfl ?_
    refine ez_top (nI q.2.2.1.1) hC.2.2.1.1 ?_
    refine ez_iret .int dX11_count_66 rfl rfl ?_
    exact ⟨by unfold S_count; rw [if_neg (by decide), if_neg (by decide), if_neg (by decide), if_pos rfl], hC, FX.rf⟩
  by_cases e1_4 : x = nI 4
  · subst e1_4
    refine ez_tabIn (off := 66) 67 dX11_count_1 (by decide) (by decide) (by decide) (by decide) ?_
    refine ez_aload_n 68 dX11_count_67 rfl rfl ?_
    refine ez_getf 71 (eI (M.1 11 0 7)) dX11_count_68 rfl fl_X11_138 (by show 0 < 1; omega) rfl ?_
    refine ez_top (nI q.2.2.2.2.1.2.1) hC.2.2.2.2.1.2.1 ?_
    refine ez_iret .int dX11_count_71 rfl rfl ?_
    exact ⟨by unfold S_count; rw [if_neg (by decide), if_neg (by decide), if_neg (by decide), if_neg (by decide), if_pos rfl], hC, FX.rf⟩
  by_cases e1_5 : x = nI 5
  · subst e1_5
    refine ez_tabIn (off := 71) 72 dX11_count_1 (by decide) (by decide) (by decide) (by decide) ?_
    refine ez_aload_n 73 dX11_count_72 rfl rfl ?_
    refine ez_callV 76 [] [] dX11_count_73 rfl rfl ok_X11_sumOfLying in_X11_sumOfLying (by decide) (by show 0 < 1; omega) ln_X11_297 (by omega) (Nat.le_of_ble_eq_true rfl) (c_X11_sumOfLying G (d - 1) (q := q) M (by omega) hW hC) (fun r73 M73 q73 => ?_)
    obtain ⟨rfl, e73⟩ := q73
    rw [e73]
    show Ez G mX11_count d 76 [(0, eR 11 0), (1, eI (nI 5))] [eI (s_sl q.1.2.2.2 (10 * q.1.1))] M _
    refine ez_iret .int dX11_count_76 rfl rfl ?_
    exact ⟨by unfold S_count; rw [if_neg (by decide), if_neg (by decide), if_neg (by decide), if_neg (by decide), if_neg (by decide), if_pos rfl], hC, FX.rf⟩
  by_cases e1_6 : x = nI 6
  · subst e1_6
    refine ez_tabIn (off := 76) 77 dX11_count_1 (by decide) (by decide) (by decide) (by decide) ?_
    refine ez_aload_n 78 dX11_count_77 rfl rfl ?_
    refine ez_callV 81 [] [] dX11_count_78 rfl rfl ok_X11_sumOfBags in_X11_sumOfBags (by decide) (by show 0 < 1; omega) ln_X11_300 (by omega) (Nat.le_of_ble_eq_true rfl) (c_X11_sumOfBags G (d - 1) (q := q) M (by omega) hW hC) (fun r78 M78 q78 => ?_)
    obtain ⟨rfl, e78⟩ := q78
    rw [e78]
    show Ez G mX11_count d 81 [(0, eR 11 0), (1, eI (nI 6))] [eI (s_sb q.2.1.2.2.1 q.2.1.1)] M _
    refine ez_iret .int dX11_count_81 rfl rfl ?_
    exact ⟨by unfold S_count; rw [if_neg (by decide), if_neg (by decide), if_neg (by decide), if_neg (by decide), if_neg (by decide), if_neg (by decide), if_pos rfl], hC, FX.rf⟩
  refine ez_tabOut 82 dX11_count_1 (by have ze1_0 : ¬ (x).toInt = 0 := fun q9 => e1_0 (Int32.toInt_inj.mp (q9.trans (by decide))); have ze1_1 : ¬ (x).toInt = 1 := fun q9 => e1_1 (Int32.toInt_inj.mp (q9.trans (by decide))); have ze1_2 : ¬ (x).toInt = 2 := fun q9 => e1_2 (Int32.toInt_inj.mp (q9.trans (by decide))); have ze1_3 : ¬ (x).toInt = 3 := fun q9 => e1_3 (Int32.toInt_inj.mp (q9.trans (by decide))); have ze1_4 : ¬ (x).toInt = 4 := fun q9 => e1_4 (Int32.toInt_inj.mp (q9.trans (by decide))); have ze1_5 : ¬ (x).toInt = 5 := fun q9 => e1_5 (Int32.toInt_inj.mp (q9.trans (by decide))); have ze1_6 : ¬ (x).toInt = 6 := fun q9 => e1_6 (Int32.toInt_inj.mp (q9.trans (by decide))); omega) (by decide) ?_
  refine ez_bipush 84 dX11_count_82 rfl (-2) (by decide) ?_
  refine ez_iret .int dX11_count_84 rfl rfl ?_
  exact ⟨by unfold S_count; simp only [e1_0, e1_1, e1_2, e1_3, e1_4, e1_5, e1_6, if_false], hC, FX.rf⟩
set_option maxRecDepth 20000 in
theorem lp_mct71 (g : EzH) (d : Nat) {q : EpS} (M : EzM) (hd : 2 ≤ d) (hW : WF q) (hC : RM q M) : ∀ (z : Nat) (t : Nat) (v : Int32), 10 * q.1.1 - t = z → t ≤ 10 * q.1.1 → v = s_sl q.1.2.2.2 t → Ez (true, g) mX12_count d 71 [(3, eI (nI t)), (2, eI v), (0, eR 12 0)] [] M (fun r M' => r = some (eI (s_sl q.1.2.2.2 (10 * q.1.1))) ∧ M' = M) := by
  intro z
  induction z using Nat.strongRecOn with
  | ind z ih =>
    intro t v hz ht hv
    have q4 := hW.1.1
    refine ez_iload_n 72 dX12_count_71 rfl rfl ?_
    refine ez_bipush 74 dX12_count_72 rfl (nI 10) (by decide) ?_
    refine ez_aload_n 75 dX12_count_74 rfl rfl ?_
    refine ez_getf 78 (eI (M.1 12 0 10)) dX12_count_75 rfl fl_X12_130 (by show 0 < 1; omega) rfl ?_
    refine ez_top (nI q.1.1) hC.1.1 ?_
    refine ez_imul 79 dX12_count_78 rfl ?_
    refine ez_top (nI (10 * q.1.1)) (pk_mul _ _) ?_
    refine ez_ncmp_ge 82 97 dX12_count_79 rfl (by decide) (by omega) (by omega) (fun h79 => ?_) (fun h79 => ?_)
    · refine ez_iload_n 98 dX12_count_97 rfl rfl ?_
      refine ez_iret .int dX12_count_98 rfl rfl ?_
      have e9 : t = 10 * q.1.1 := by omega
      exact ⟨by rw [hv, e9], rfl⟩
    · refine ez_iload_n 83 dX12_count_82 rfl rfl ?_
      refine ez_aload_n 84 dX12_count_83 rfl rfl ?_
      refine ez_getf 87 (eR 47 0) dX12_count_84 rfl fl_X12_29 (by show 0 < 1; omega) rfl ?_
      refine ez_iload_n 88 dX12_count_87 rfl rfl ?_
      refine ez_ialdN t 89 dX12_count_88 rfl (by decide) (by show 0 < 1; omega) (by show t < 40; omega) ?_
      refine ez_top (nI (q.1.2.2.2 (t / 10) (t % 10))) (by have z9 := (hC.1.2 (t / 10) (by omega)).2.2 (t % 10) (by omega); rw [show 10 * (t / 10) + t % 10 = t by omega] at z9; exact z9) ?_
      refine ez_iadd 90 dX12_count_89 rfl ?_
      refine ez_istore_n 91 [(2, eI (v + (nI (q.1.2.2.2 (t / 10) (t % 10))))), (3, eI (nI t)), (0, eR 12 0)] dX12_count_90 rfl (by decide) rfl ?_
      refine ez_iinc 94 (nI (t + 1)) [(3, eI (nI (t + 1))), (2, eI (v + (nI (q.1.2.2.2 (t / 10) (t % 10))))), (0, eR 12 0)] dX12_count_91 rfl rfl (nI_add t 1) (by decide) rfl ?_
      refine ez_goto 71 dX12_count_94 (by decide) ?_
      refine ez_drop [(3, eI (nI (t + 1))), (2, eI (v + (nI (q.1.2.2.2 (t / 10) (t % 10))))), (0, eR 12 0)] (by simp) ?_
      exact ih (10 * q.1.1 - (t + 1)) (by omega) (t + 1) _ rfl (by omega) (by rw [hv]; rfl)
set_option maxRecDepth 20000 in
theorem lp_mct101 (g : EzH) (d : Nat) {q : EpS} (M : EzM) (hd : 2 ≤ d) (hW : WF q) (hC : RM q M) : ∀ (z : Nat) (t : Nat) (v : Int32), q.2.1.1 - t = z → t ≤ q.2.1.1 → v = s_sb q.2.1.2.2.1 t → Ez (true, g) mX12_count d 101 [(3, eI (nI t)), (2, eI v), (0, eR 12 0)] [] M (fun r M' => r = some (eI (s_sb q.2.1.2.2.1 q.2.1.1)) ∧ M' = M) := by
  intro z
  induction z using Nat.strongRecOn with
  | ind z ih =>
    intro t v hz ht hv
    have q8 := hW.2.1.1
    refine ez_iload_n 102 dX12_count_101 rfl rfl ?_
    refine ez_aload_n 103 dX12_count_102 rfl rfl ?_
    refine ez_getf 106 (eI (M.1 12 0 19)) dX12_count_103 rfl fl_X12_176 (by show 0 < 1; omega) rfl ?_
    refine ez_top (nI q.2.1.1) hC.2.1.1 ?_
    refine ez_ncmp_ge 109 124 dX12_count_106 rfl (by decide) (by omega) (by omega) (fun h106 => ?_) (fun h106 => ?_)
    · refine ez_iload_n 125 dX12_count_124 rfl rfl ?_
      refine ez_iret .int dX12_count_125 rfl rfl ?_
      have e9 : t = q.2.1.1 := by omega
      exact ⟨by rw [hv, e9], rfl⟩
    · refine ez_iload_n 110 dX12_count_109 rfl rfl ?_
      refine ez_aload_n 111 dX12_count_110 rfl rfl ?_
      refine ez_getf 114 (eR 53 0) dX12_count_111 rfl fl_X12_47 (by show 0 < 1; omega) rfl ?_
      refine ez_iload_n 115 dX12_count_114 rfl rfl ?_
      refine ez_ialdN t 116 dX12_count_115 rfl (by decide) (by show 0 < 1; omega) (by show t < 8; omega) ?_
      refine ez_top (q.2.1.2.2.1 t) ((hC.2.1.2 t (by omega)).2.2.2.2.2.1) ?_
      refine ez_iadd 117 dX12_count_116 rfl ?_
      refine ez_istore_n 118 [(2, eI (v + (q.2.1.2.2.1 t))), (3, eI (nI t)), (0, eR 12 0)] dX12_count_117 rfl (by decide) rfl ?_
      refine ez_iinc 121 (nI (t + 1)) [(3, eI (nI (t + 1))), (2, eI (v + (q.2.1.2.2.1 t))), (0, eR 12 0)] dX12_count_118 rfl rfl (nI_add t 1) (by decide) rfl ?_
      refine ez_goto 101 dX12_count_121 (by decide) ?_
      refine ez_drop [(3, eI (nI (t + 1))), (2, eI (v + (q.2.1.2.2.1 t))), (0, eR 12 0)] (by simp) ?_
      exact ih (q.2.1.1 - (t + 1)) (by omega) (t + 1) _ rfl (by omega) (by rw [hv]; rfl)
set_option maxRecDepth 20000 in
theorem c_X12_count (g : EzH) (d : Nat) {q : EpS} (x : Int32) (M : EzM) (hd : 2 ≤ d) (hW : WF q) (hC : RM q M) : Ezc (true, g) mX12_count d [eR 12 0, eI x] M (fun r M' => r = some (eI (S_count q x)) ∧ RM q M' ∧ FX CM M M') := by
  refine Ezc.of (by decide +kernel) (Nat.le_of_ble_eq_true rfl) ?_
  have q8 := hW.2.1.1
  have q4 := hW.1.1
  have qx := hW.2.2.2.2.1
  show Ez (true, g) mX12_count d 0 [(0, eR 12 0), (1, eI x)] [] M _
  refine ez_iconst 1 dX12_count_0 rfl (nI 0) (by decide) ?_
  refine ez_istore_n 2 [(2, eI (nI 0)), (0, eR 12 0), (1, eI x)] dX12_count_1 rfl (by decide) rfl ?_
  refine ez_iload_n 3 dX12_count_2 rfl rfl ?_
  by_cases e3_0 : x = nI 0
  · subst e3_0
    refine ez_tabIn (off := 41) 44 dX12_count_3 (by decide) (by decide) (by decide) (by decide) ?_
    refine ez_aload_n 45 dX12_count_44 rfl rfl ?_
    refine ez_getf 48 (eI (M.1 12 0 10)) dX12_count_45 rfl fl_X12_130 (by show 0 < 1; omega) rfl ?_
    refine ez_top (nI q.1.1) hC.1.1 ?_
    refine ez_iret .int dX12_count_48 rfl rfl ?_
    exact ⟨by unfold S_count; rw [if_pos rfl], hC, FX.rf⟩
  by_cases e3_1 : x = nI 1
  · subst e3_1
    refine ez_tabIn (off := 46) 49 dX12_count_3 (by decide) (by decide) (by decide) (by decide) ?_
    refine ez_aload_n 50 dX12_count_49 rfl rfl ?_
    refine ez_getf 53 (eI (M.1 12 0 19)) dX12_count_50 rfl fl_X12_176 (by show 0 < 1; omega) rfl ?_
    refine ez_top (nI q.2.1.1) hC.2.1.1 ?_
    refine ez_iret .int dX12_count_53 rfl rfl ?_
    exact ⟨by unfold S_count; rw [if_neg (by decide), if_pos rfl], hC, FX.rf⟩
  by_cases e3_2 : x = nI 2
  · subst e3_2
    refine ez_tabIn (off := 51) 54 dX12_count_3 (by decide) (by decide) (by decide) (by decide) ?_
    refine ez_aload_n 55 dX12_count_54 rfl rfl ?_
    refine ez_getf 58 (eI (M.1 12 0 3)) dX12_count_55 rfl fl_X12_125 (by show 0 < 1; omega) rfl ?_
    refine ez_top (nI q.2.2.2.2.1.1) hC.2.2.2.2.1.1 ?_
    refine ez_iret .int dX12_count_58 rfl rfl ?_
    exact ⟨by unfold S_count; rw [if_neg (by decide), if_neg (by decide), if_pos rfl], hC, FX.rf⟩
  by_cases e3_3 : x = nI 3
  · subst e3_3
    refine ez_tabIn (off := 56) 59 dX12_count_3 (by decide) (by decide) (by decide) (by decide) ?_
    refine ez_aload_n 60 dX12_count_59 rfl rfl ?_
    refine ez_getf 63 (eI (M.1 12 0 6)) dX12_count_60 rfl fl_X12_141 (by show 0 < 1; omega) rfl ?_
    refine ez_top (nI q.2.2.1.1) hC.2.2.1.1 ?_
    refine ez_iret .int dX12_count_63 rfl rfl ?_
    exact ⟨by unfold S_count; rw [if_neg (by decide), if_neg (by decide), if_neg (by decide), if_pos rfl], hC, FX.rf⟩
  by_cases e3_4 : x = nI 4
  · subst e3_4
    refine ez_tabIn (off := 61) 64 dX12_count_3 (by decide) (by decide) (by decide) (by decide) ?_
    refine ez_aload_n 65 dX12_count_64 rfl rfl ?_
    refine ez_getf 68 (eI (M.1 12 0 4)) dX12_count_65 rfl fl_X12_227 (by show 0 < 1; omega) rfl ?_
    refine ez_top (nI q.2.2.2.2.1.2.1) hC.2.2.2.2.1.2.1 ?_
    refine ez_iret .int dX12_count_68 rfl rfl ?_
    exact ⟨by unfold S_count; rw [if_neg (by decide), if_neg (by decide), if_neg (by decide), if_neg (by decide), if_pos rfl], hC, FX.rf⟩
  by_cases e3_5 : x = nI 5
  · subst e3_5
    refine ez_tabIn (off := 66) 69 dX12_count_3 (by decide) (by decide) (by decide) (by decide) ?_
    refine ez_iconst 70 dX12_count_69 rfl (nI 0) (by decide) ?_
    refine ez_istore_n 71 [(3, eI (nI 0)), (2, eI (nI 0)), (0, eR 12 0), (1, eI (nI 5))] dX12_count_70 rfl (by decide) rfl ?_
    have eS : S_count q (nI 5) = s_sl q.1.2.2.2 (10 * q.1.1) := by unfold S_count; rw [if_neg (by decide), if_neg (by decide), if_neg (by decide), if_neg (by decide), if_neg (by decide), if_pos rfl]
    rw [eS]
    refine ez_drop [(3, eI (nI 0)), (2, eI (nI 0)), (0, eR 12 0)] (by simp) ?_
    exact ez_wk (fun r M' z9 => ⟨z9.1, by rw [z9.2]; exact hC, by rw [z9.2]; exact FX.rf⟩) (lp_mct71 g d M hd hW hC _ 0 _ rfl (by omega) rfl)
  by_cases e3_6 : x = nI 6
  · subst e3_6
    refine ez_tabIn (off := 96) 99 dX12_count_3 (by decide) (by decide) (by decide) (by decide) ?_
    refine ez_iconst 100 dX12_count_99 rfl (nI 0) (by decide) ?_
    refine ez_istore_n 101 [(3, eI (nI 0)), (2, eI (nI 0)), (0, eR 12 0), (1, eI (nI 6))] dX12_count_100 rfl (by decide) rfl ?_
    have eS : S_count q (nI 6) = s_sb q.2.1.2.2.1 q.2.1.1 := by unfold S_count; rw [if_neg (by decide), if_neg (by decide), if_neg (by decide), if_neg (by decide), if_neg (by decide), if_neg (by decide), if_pos rfl]
    rw [eS]
    refine ez_drop [(3, eI (nI 0)), (2, eI (nI 0)), (0, eR 12 0)] (by simp) ?_
    exact ez_wk (fun r M' z9 => ⟨z9.1, by rw [z9.2]; exact hC, by rw [z9.2]; exact FX.rf⟩) (lp_mct101 g d M hd hW hC _ 0 _ rfl (by omega) rfl)
  refine ez_tabOut 126 dX12_count_3 (by have ze3_0 : ¬ (x).toInt = 0 := fun q9 => e3_0 (Int32.toInt_inj.mp (q9.trans (by decide))); have ze3_1 : ¬ (x).toInt = 1 := fun q9 => e3_1 (Int32.toInt_inj.mp (q9.trans (by decide))); have ze3_2 : ¬ (x).toInt = 2 := fun q9 => e3_2 (Int32.toInt_inj.mp (q9.trans (by decide))); have ze3_3 : ¬ (x).toInt = 3 := fun q9 => e3_3 (Int32.toInt_inj.mp (q9.trans (by decide))); have ze3_4 : ¬ (x).toInt = 4 := fun q9 => e3_4 (Int32.toInt_inj.mp (q9.trans (by decide))); have ze3_5 : ¬ (x).toInt = 5 := fun q9 => e3_5 (Int32.toInt_inj.mp (q9.trans (by decide))); have ze3_6 : ¬ (x).toInt = 6 := fun q9 => e3_6 (Int32.toInt_inj.mp (q9.trans (by decide))); omega) (by decide) ?_
  refine ez_bipush 128 dX12_count_126 rfl (-2) (by decide) ?_
  refine ez_iret .int dX12_count_128 rfl rfl ?_
  exact ⟨by unfold S_count; simp only [e3_0, e3_1, e3_2, e3_3, e3_4, e3_5, e3_6, if_false], hC, FX.rf⟩
def s_nw (q : EpS) (k m r nu bg : Nat) : EpS := (q.1, (q.2.1.1 + 1, va_up q.2.1.2.1 q.2.1.1 (fun f => if f = 0 then k else if f = 1 then m else if f = 2 then r else if f = 3 then 0 else nu), va_up q.2.1.2.2.1 q.2.1.1 (nI bg), va_up q.2.1.2.2.2.1 q.2.1.1 (nI 0), va_up q.2.1.2.2.2.2 q.2.1.1 (fun _ => 0)), q.2.2)
def S_walker (q : EpS) (x y z : Int32) : Int32 × EpS := match ep_ix x 6 with
  | none => (-2, q)
  | some k => match ep_ix (y / nI 10) q.1.1 with
    | none => (-2, q)
    | some m => match ep_ix (y - y / nI 10 * nI 10) (q.1.2.1 m) with
      | none => (-2, q)
      | some r => match ep_rg (z / nI 100) 0 9 with
        | none => (-2, q)
        | some nu => match ep_rg (z - z / nI 100 * nI 100) 0 11 with
          | none => (-2, q)
          | some bg => if q.2.1.1 = 8 then (-4, q) else (nI q.2.1.1, s_nw q k m r nu bg)
theorem walker_bad {q : EpS} {x y z : Int32} (h : ep_ix x 6 = none ∨ ep_ix (y / nI 10) q.1.1 = none ∨ (∀ m, ep_ix (y / nI 10) q.1.1 = some m → ep_ix (y - y / nI 10 * nI 10) (q.1.2.1 m) = none) ∨ ep_rg (z / nI 100) 0 9 = none ∨ ep_rg (z - z / nI 100 * nI 100) 0 11 = none) : S_walker q x y z = (-2, q) := by
  unfold S_walker
  cases h1 : ep_ix x 6 with
  | none => rfl
  | some k =>
    simp only []
    cases h2 : ep_ix (y / nI 10) q.1.1 with
    | none => rfl
    | some m =>
      simp only []
      cases h3 : ep_ix (y - y / nI 10 * nI 10) (q.1.2.1 m) with
      | none => rfl
      | some r =>
        simp only []
        cases h4 : ep_rg (z / nI 100) 0 9 with
        | none => rfl
        | some nu =>
          simp only []
          cases h5 : ep_rg (z - z / nI 100 * nI 100) 0 11 with
          | none => rfl
          | some bg =>
            rcases h with h | h | h | h | h
            · rw [h1] at h; cases h
            · rw [h2] at h; cases h
            · rw [h m h2] at h3; cases h3
            · rw [h4] at h; cases h
            · rw [h5] at h; cases h
theorem ep_rg_lo {x : Int32} {a b : Nat} (h : x < nI a) : ep_rg x a b = none := by unfold ep_rg; rw [if_pos (Or.inl h)]
theorem ep_rg_hi {x : Int32} {a b : Nat} (h : nI b < x) : ep_rg x a b = none := by unfold ep_rg; rw [if_pos (Or.inr h)]
theorem er_zbad {z : Int32} (h : ep_rg z 0 999 = none) : ep_rg (z / nI 100) 0 9 = none ∨ ep_rg (z - z / nI 100 * nI 100) 0 11 = none := by
  obtain ⟨h1, h2⟩ := ep_remI z (m := 100) (by decide) (by decide)
  have e0 : (nI 0).toInt = 0 := by decide
  have e9 : (nI 9).toInt = 9 := by decide
  have e999 : (nI 999).toInt = 999 := by decide
  unfold ep_rg at h
  by_cases a : z < nI 0 ∨ nI 999 < z
  · have e1 : z.toInt = 100 * z.toInt.tdiv 100 + z.toInt.tmod 100 := (Int.mul_tdiv_add_tmod z.toInt 100).symm
    have h1' : (z / nI 100).toInt = z.toInt.tdiv 100 := h1
    have h2' : (z - z / nI 100 * nI 100).toInt = z.toInt.tmod 100 := h2
    rcases a with a | a
    · rw [Int32.lt_iff_toInt_lt, e0] at a
      by_cases q : z / nI 100 < nI 0
      · exact Or.inl (ep_rg_lo q)
      · refine Or.inr (ep_rg_lo ?_)
        rw [Int32.lt_iff_toInt_lt, e0] at q ⊢
        omega
    · refine Or.inl (ep_rg_hi ?_)
      rw [Int32.lt_iff_toInt_lt, e999] at a
      rw [Int32.lt_iff_toInt_lt, e9, h1']
      have m1 : z.toInt.tmod 100 < 100 := Int.tmod_lt_of_pos _ (by decide)
      omega
  · rw [if_neg a] at h; cases h
theorem RC_nw {q : EpS} {M : EzM} {k m r nu bg : Nat} (hW : WF q) (hC : RC q M) (h8' : ¬ q.2.1.1 = 8) : RC (s_nw q k m r nu bg) (ez_st (ez_st (ez_st (ez_st (ez_st (ez_st M 10 q.2.1.1 0 (nI k)) 10 q.2.1.1 1 (nI m)) 10 q.2.1.1 2 (nI r)) 10 q.2.1.1 4 (nI nu)) 10 q.2.1.1 5 (nI bg)) 11 0 4 (nI (q.2.1.1 + 1))) ∧ FX CC M (ez_st (ez_st (ez_st (ez_st (ez_st (ez_st M 10 q.2.1.1 0 (nI k)) 10 q.2.1.1 1 (nI m)) 10 q.2.1.1 2 (nI r)) 10 q.2.1.1 4 (nI nu)) 10 q.2.1.1 5 (nI bg)) 11 0 4 (nI (q.2.1.1 + 1))) := by
  obtain ⟨a1, a2, a3, a4, a5, a6, a7⟩ := hC
  obtain ⟨w1, w2, w3, w4, w5, w6⟩ := hW
  have h4 := w1.1
  have h8 := w2.1
  have hF : FX (fun k i s => (k = 10 ∧ i = q.2.1.1) ∨ (k = 11 ∧ s = 4)) M (ez_st (ez_st (ez_st (ez_st (ez_st (ez_st M 10 q.2.1.1 0 (nI k)) 10 q.2.1.1 1 (nI m)) 10 q.2.1.1 2 (nI r)) 10 q.2.1.1 4 (nI nu)) 10 q.2.1.1 5 (nI bg)) 11 0 4 (nI (q.2.1.1 + 1))) := (((((FX.rf.st (by omega)).st (by omega)).st (by omega)).st (by omega)).st (by omega)).st (by omega)
  refine ⟨⟨RCm.fx a1 hF h4 ⟨by omega, fun m _ => ⟨by omega, fun x => ⟨by omega, by omega, by omega⟩⟩⟩, ?_, RCt.fx a3 hF ⟨by omega, fun i => by omega⟩, RCs.fx a4 hF (fun i _ s => ⟨by omega, by omega⟩), RCx.fx a5 hF w5.2.1 ⟨by omega, by omega, fun i s _ => ⟨by omega, by omega⟩⟩, RCi.fx a6 hF (fun q => ⟨Nat.le_trans (w6.2 q).1 h4, Nat.le_trans (w6.2 q).2.1 h8⟩) ⟨fun s _ => by omega, fun i _ _ s => by omega, fun i _ _ s => ⟨by omega, by omega⟩⟩, by rw [hF _ _ _ (by omega)]; exact a7⟩, hF.up (fun k i s z => by unfold CC; omega)⟩
  obtain ⟨c1, c2, c3⟩ := a2
  have z := c3 q.2.1.1 (Nat.le_refl _) (by omega)
  refine ⟨by simp [ez_rd]; rfl, fun w hw => ?_, fun w hw hw2 => ?_⟩
  · have hw' : w < q.2.1.1 + 1 := hw
    by_cases e : w = q.2.1.1
    · subst e
      refine ⟨fun f hf => ?_, ?_, ?_, fun r2 hr2 => ?_⟩
      · show _ = nI (va_up q.2.1.2.1 q.2.1.1 _ q.2.1.1 f)
        rw [va_up_self]
        rcases (show f = 0 ∨ f = 1 ∨ f = 2 ∨ f = 3 ∨ f = 4 by omega) with rfl | rfl | rfl | rfl | rfl <;> simp [ez_rd]
        exact z.1
      · show _ = va_up q.2.1.2.2.1 q.2.1.1 _ q.2.1.1; rw [va_up_self]; simp [ez_rd]
      · show _ = va_up q.2.1.2.2.2.1 q.2.1.1 _ q.2.1.1; rw [va_up_self]; simp [ez_rd]; exact z.2.1
      · show _ = nI (va_up q.2.1.2.2.2.2 q.2.1.1 _ q.2.1.1 r2); rw [va_up_self]; simp [ez_rd]; exact z.2.2 r2 hr2
    · obtain ⟨b1, b2, b3, b4⟩ := c2 w (by show w < q.2.1.1; omega)
      refine ⟨fun f hf => ?_, ?_, ?_, fun r2 hr2 => ?_⟩
      · show _ = nI (va_up q.2.1.2.1 q.2.1.1 _ w f); rw [va_up_ne _ _ e, hF _ _ _ (by omega)]; exact b1 f hf
      · show _ = va_up q.2.1.2.2.1 q.2.1.1 _ w; rw [va_up_ne _ _ e, hF _ _ _ (by omega)]; exact b2
      · show _ = va_up q.2.1.2.2.2.1 q.2.1.1 _ w; rw [va_up_ne _ _ e, hF _ _ _ (by omega)]; exact b3
      · show _ = nI (va_up q.2.1.2.2.2.2 q.2.1.1 _ w r2); rw [va_up_ne _ _ e, hF _ _ _ (by omega)]; exact b4 r2 hr2
  · have hw' : q.2.1.1 + 1 ≤ w := hw
    obtain ⟨b1, b2, b3⟩ := c3 w (by show q.2.1.1 ≤ w; omega) hw2
    exact ⟨by rw [hF _ _ _ (by omega)]; exact b1, by rw [hF _ _ _ (by omega)]; exact b2, fun r2 hr2 => by rw [hF _ _ _ (by omega)]; exact b3 r2 hr2⟩
set_option maxRecDepth 20000 in
theorem c_X11_walker (G : EzG) (d : Nat) {q : EpS} (x y z : Int32) (M : EzM) (hd : 2 ≤ d) (hW : WF q) (hC : RC q M) : Ezc G mX11_walker d [eR 11 0, eI x, eI y, eI z] M (fun r M' => r = some (eI (S_walker q x y z).1) ∧ RC (S_walker q x y z).2 M' ∧ FX CC M M') := by
  refine Ezc.of (by decide +kernel) (Nat.le_of_ble_eq_true rfl) ?_
  have q8 := hW.2.1.1
  have q4 := hW.1.1
  have qx := hW.2.2.2.2.1
  show Ez G mX11_walker d 0 [(0, eR 11 0), (1, eI x), (2, eI y), (3, eI z)] [] M _
  refine ez_aload_n 1 dX11_walker_0 rfl rfl ?_
  refine ez_iload_n 2 dX11_walker_1 rfl rfl ?_
  refine ez_bipush 4 dX11_walker_2 rfl (nI 10) (by decide) ?_
  refine ez_idiv 5 dX11_walker_4 rfl (by decide) ?_
  refine ez_callV 8 [eI (y / (nI 10))] [] dX11_walker_5 rfl rfl ok_X11_mazeAt in_X11_mazeAt (by decide) (by show 0 < 1; omega) ln_X11_141 (by omega) (Nat.le_of_ble_eq_true rfl) (c_X11_mazeAt G (d - 1) (y / (nI 10)) q.1.1 M (by omega) hC.1.1 (by omega)) (fun r5 M5 q5 => ?_)
  obtain ⟨e5, ⟨rfl, i5⟩ | ⟨j5, b5, x5, rfl⟩⟩ := q5
  · rw [e5]
    show Ez G mX11_walker d 8 [(0, eR 11 0), (1, eI x), (2, eI y), (3, eI z)] [eN] M _
    refine ez_astore 10 [(4, eN), (0, eR 11 0), (1, eI x), (2, eI y), (3, eI z)] dX11_walker_8 rfl (by decide) rfl ?_
    refine ez_iload_n 11 dX11_walker_10 rfl rfl ?_
    refine ez_bipush 13 dX11_walker_11 rfl (nI 100) (by decide) ?_
    refine ez_idiv 14 dX11_walker_13 rfl (by decide) ?_
    refine ez_istore 16 [(5, eI (z / (nI 100))), (4, eN), (0, eR 11 0), (1, eI x), (2, eI y), (3, eI z)] dX11_walker_14 rfl (by decide) rfl ?_
    generalize e5 : z / nI 100 = zq
    refine ez_iload_n 17 dX11_walker_16 rfl rfl ?_
    refine ez_bipush 19 dX11_walker_17 rfl (nI 100) (by decide) ?_
    refine ez_irem 20 dX11_walker_19 rfl (by decide) ?_
    refine ez_istore 22 [(6, eI (z - z / (nI 100) * (nI 100))), (5, eI zq), (4, eN), (0, eR 11 0), (1, eI x), (2, eI y), (3, eI z)] dX11_walker_20 rfl (by decide) rfl ?_
    generalize e6 : z - z / nI 100 * nI 100 = zr
    refine ez_iload_n 23 dX11_walker_22 rfl rfl ?_
    refine ez_bipush 25 dX11_walker_23 rfl (nI 6) (by decide) ?_
    refine ez_callS 28 [eI x, eI (nI 6)] [] dX11_walker_25 rfl rfl ok_X11_isInside st_X11_isInside ln_X11_134 (by omega) (Nat.le_of_ble_eq_true rfl) (c_isInside_c G (d - 1) x 6 M (by omega)) (fun r25 M25 q25 => ?_)
    obtain ⟨e25, ⟨rfl, i25⟩ | ⟨j25, b25, rfl, rfl⟩⟩ := q25
    · rw [e25]
      show Ez G mX11_walker d 28 [(6, eI zr), (5, eI zq), (4, eN), (0, eR 11 0), (1, eI x), (2, eI y), (3, eI z)] [eI (nI 0)] M _
      refine ez_nif_eq 31 48 dX11_walker_28 rfl (by decide) (by omega) (fun h28 => ?_) (fun h28 => ?_)
      · refine ez_bipush 50 dX11_walker_48 rfl (-2) (by decide) ?_
        refine ez_iret .int dX11_walker_50 rfl rfl ?_
        have eS : S_walker q x y z = (-2, q) := walker_bad (Or.inl i25)
        exact ⟨by rw [eS], by rw [eS]; exact hC, FX.rf⟩
      · exact absurd h28 (by decide)
    · rw [e25]
      have i25 : ep_ix (nI j25) 6 = some j25 := ep_ix_nI b25 (by omega)
      show Ez G mX11_walker d 28 [(6, eI zr), (5, eI zq), (4, eN), (0, eR 11 0), (1, eI (nI j25)), (2, eI y), (3, eI z)] [eI (nI 1)] M _
      refine ez_nif_eq 31 48 dX11_walker_28 rfl (by decide) (by omega) (fun h28 => ?_) (fun h28 => ?_)
      · exact absurd h28 (by decide)
      · refine ez_aload 33 dX11_walker_31 rfl rfl ?_
        refine ez_ifnull_n 48 dX11_walker_33 (by decide) ?_
        refine ez_bipush 50 dX11_walker_48 rfl (-2) (by decide) ?_
        refine ez_iret .int dX11_walker_50 rfl rfl ?_
        have eS : S_walker q (nI j25) y z = (-2, q) := walker_bad (Or.inr (Or.inl i5))
        exact ⟨by rw [eS], by rw [eS]; exact hC, FX.rf⟩
  · rw [e5]
    have i5 : ep_ix (y / (nI 10)) q.1.1 = some j5 := by rw [x5]; exact ep_ix_nI b5 (by omega)
    show Ez G mX11_walker d 8 [(0, eR 11 0), (1, eI x), (2, eI y), (3, eI z)] [eR 1 j5] M _
    refine ez_astore 10 [(4, eR 1 j5), (0, eR 11 0), (1, eI x), (2, eI y), (3, eI z)] dX11_walker_8 rfl (by decide) rfl ?_
    refine ez_iload_n 11 dX11_walker_10 rfl rfl ?_
    refine ez_bipush 13 dX11_walker_11 rfl (nI 100) (by decide) ?_
    refine ez_idiv 14 dX11_walker_13 rfl (by decide) ?_
    refine ez_istore 16 [(5, eI (z / (nI 100))), (4, eR 1 j5), (0, eR 11 0), (1, eI x), (2, eI y), (3, eI z)] dX11_walker_14 rfl (by decide) rfl ?_
    generalize e5 : z / nI 100 = zq
    refine ez_iload_n 17 dX11_walker_16 rfl rfl ?_
    refine ez_bipush 19 dX11_walker_17 rfl (nI 100) (by decide) ?_
    refine ez_irem 20 dX11_walker_19 rfl (by decide) ?_
    refine ez_istore 22 [(6, eI (z - z / (nI 100) * (nI 100))), (5, eI zq), (4, eR 1 j5), (0, eR 11 0), (1, eI x), (2, eI y), (3, eI z)] dX11_walker_20 rfl (by decide) rfl ?_
    generalize e6 : z - z / nI 100 * nI 100 = zr
    refine ez_iload_n 23 dX11_walker_22 rfl rfl ?_
    refine ez_bipush 25 dX11_walker_23 rfl (nI 6) (by decide) ?_
    refine ez_callS 28 [eI x, eI (nI 6)] [] dX11_walker_25 rfl rfl ok_X11_isInside st_X11_isInside ln_X11_134 (by omega) (Nat.le_of_ble_eq_true rfl) (c_isInside_c G (d - 1) x 6 M (by omega)) (fun r25 M25 q25 => ?_)
    obtain ⟨e25, ⟨rfl, i25⟩ | ⟨j25, b25, rfl, rfl⟩⟩ := q25
    · rw [e25]
      show Ez G mX11_walker d 28 [(6, eI zr), (5, eI zq), (4, eR 1 j5), (0, eR 11 0), (1, eI x), (2, eI y), (3, eI z)] [eI (nI 0)] M _
      refine ez_nif_eq 31 48 dX11_walker_28 rfl (by decide) (by omega) (fun h28 => ?_) (fun h28 => ?_)
      · refine ez_bipush 50 dX11_walker_48 rfl (-2) (by decide) ?_
        refine ez_iret .int dX11_walker_50 rfl rfl ?_
        have eS : S_walker q x y z = (-2, q) := walker_bad (Or.inl i25)
        exact ⟨by rw [eS], by rw [eS]; exact hC, FX.rf⟩
      · exact absurd h28 (by decide)
    · rw [e25]
      have i25 : ep_ix (nI j25) 6 = some j25 := ep_ix_nI b25 (by omega)
      show Ez G mX11_walker d 28 [(6, eI zr), (5, eI zq), (4, eR 1 j5), (0, eR 11 0), (1, eI (nI j25)), (2, eI y), (3, eI z)] [eI (nI 1)] M _
      refine ez_nif_eq 31 48 dX11_walker_28 rfl (by decide) (by omega) (fun h28 => ?_) (fun h28 => ?_)
      · exact absurd h28 (by decide)
      · refine ez_aload 33 dX11_walker_31 rfl rfl ?_
        refine ez_ifnull_r 36 dX11_walker_33 rfl ?_
        refine ez_aload 38 dX11_walker_36 rfl rfl ?_
        refine ez_iload_n 39 dX11_walker_38 rfl rfl ?_
        refine ez_bipush 41 dX11_walker_39 rfl (nI 10) (by decide) ?_
        refine ez_irem 42 dX11_walker_41 rfl (by decide) ?_
        refine ez_callV 45 [eI (y - y / (nI 10) * (nI 10))] [] dX11_walker_42 rfl rfl ok_X1_hasRoom in_X1_hasRoom (by decide) (by show j5 < 4; omega) ln_X11_148 (by omega) (Nat.le_of_ble_eq_true rfl) (c_hasRoom_c G (d - 1) j5 (y - y / (nI 10) * (nI 10)) (q.1.2.1 j5) M (by omega) (hC.1.2.1 j5 (by omega)).1 (by have := (hW.1.2 j5 (by omega)).2.1; omega)) (fun r42 M42 q42 => ?_)
        obtain ⟨e42, ⟨rfl, i42⟩ | ⟨j42, b42, x42, rfl⟩⟩ := q42
        · rw [e42]
          show Ez G mX11_walker d 45 [(6, eI zr), (5, eI zq), (4, eR 1 j5), (0, eR 11 0), (1, eI (nI j25)), (2, eI y), (3, eI z)] [eI (nI 0)] M _
          refine ez_nif_ne 48 51 dX11_walker_45 rfl (by decide) (by omega) (fun h45 => ?_) (fun h45 => ?_)
          · exact absurd h45 (by decide)
          · refine ez_bipush 50 dX11_walker_48 rfl (-2) (by decide) ?_
            refine ez_iret .int dX11_walker_50 rfl rfl ?_
            have eS : S_walker q (nI j25) y z = (-2, q) := walker_bad (Or.inr (Or.inr (Or.inl (fun m hm => by rw [i5] at hm; cases hm; exact i42))))
            exact ⟨by rw [eS], by rw [eS]; exact hC, FX.rf⟩
        · rw [e42]
          have i42 : ep_ix (y - y / (nI 10) * (nI 10)) (q.1.2.1 j5) = some j42 := by rw [x42]; exact ep_ix_nI b42 (by have := (hW.1.2 j5 (by omega)).2.1; omega)
          show Ez G mX11_walker d 45 [(6, eI zr), (5, eI zq), (4, eR 1 j5), (0, eR 11 0), (1, eI (nI j25)), (2, eI y), (3, eI z)] [eI (nI 1)] M _
          refine ez_nif_ne 48 51 dX11_walker_45 rfl (by decide) (by omega) (fun h45 => ?_) (fun h45 => ?_)
          · refine ez_iload 53 dX11_walker_51 rfl rfl ?_
            refine ez_if_lt 56 75 dX11_walker_53 rfl (by decide) (fun h53 => ?_) (fun h53 => ?_)
            · refine ez_bipush 77 dX11_walker_75 rfl (-2) (by decide) ?_
              refine ez_iret .int dX11_walker_77 rfl rfl ?_
              have eS : S_walker q (nI j25) y z = (-2, q) := walker_bad (Or.inr (Or.inr (Or.inr (Or.inl (by rw [e5]; exact ep_rg_lo (by rw [nI_0]; exact h53))))))
              exact ⟨by rw [eS], by rw [eS]; exact hC, FX.rf⟩
            · refine ez_iload 58 dX11_walker_56 rfl rfl ?_
              refine ez_bipush 60 dX11_walker_58 rfl (nI 9) (by decide) ?_
              refine ez_icmp_gt 63 75 dX11_walker_60 rfl (by decide) (fun h60 => ?_) (fun h60 => ?_)
              · refine ez_bipush 77 dX11_walker_75 rfl (-2) (by decide) ?_
                refine ez_iret .int dX11_walker_77 rfl rfl ?_
                have eS : S_walker q (nI j25) y z = (-2, q) := walker_bad (Or.inr (Or.inr (Or.inr (Or.inl (by rw [e5]; exact ep_rg_hi h60)))))
                exact ⟨by rw [eS], by rw [eS]; exact hC, FX.rf⟩
              · obtain ⟨nu, hu1, hu2, rfl⟩ := ep_rng (a := 0) (b := 9) (by decide) (by rw [nI_0]; exact h53) (Int32.not_lt.mp h60) (by decide)
                refine ez_iload 65 dX11_walker_63 rfl rfl ?_
                refine ez_if_lt 68 75 dX11_walker_65 rfl (by decide) (fun h65 => ?_) (fun h65 => ?_)
                · refine ez_bipush 77 dX11_walker_75 rfl (-2) (by decide) ?_
                  refine ez_iret .int dX11_walker_77 rfl rfl ?_
                  have eS : S_walker q (nI j25) y z = (-2, q) := walker_bad (Or.inr (Or.inr (Or.inr (Or.inr (by rw [e6]; exact ep_rg_lo (by rw [nI_0]; exact h65))))))
                  exact ⟨by rw [eS], by rw [eS]; exact hC, FX.rf⟩
                · refine ez_iload 70 dX11_walker_68 rfl rfl ?_
                  refine ez_bipush 72 dX11_walker_70 rfl (nI 11) (by decide) ?_
                  refine ez_icmp_le 75 78 dX11_walker_72 rfl (by decide) (fun h72 => ?_) (fun h72 => ?_)
                  · obtain ⟨bg, hb1, hb2, rfl⟩ := ep_rng (a := 0) (b := 11) (by decide) (by rw [nI_0]; exact h65) h72 (by decide)
                    refine ez_aload_n 79 dX11_walker_78 rfl rfl ?_
                    refine ez_getf 82 (eI (M.1 11 0 4)) dX11_walker_79 rfl fl_X11_167 (by show 0 < 1; omega) rfl ?_
                    refine ez_top (nI q.2.1.1) hC.2.1.1 ?_
                    refine ez_bipush 84 dX11_walker_82 rfl (nI 8) (by decide) ?_
                    refine ez_ncmp_lt 87 90 dX11_walker_84 rfl (by decide) (by omega) (by omega) (fun h84 => ?_) (fun h84 => ?_)
                    · refine ez_aload_n 91 dX11_walker_90 rfl rfl ?_
                      refine ez_getf 94 (eR 37 0) dX11_walker_91 rfl fl_X11_24 (by show 0 < 1; omega) rfl ?_
                      refine ez_aload_n 95 dX11_walker_94 rfl rfl ?_
                      refine ez_getf 98 (eI (M.1 11 0 4)) dX11_walker_95 rfl fl_X11_167 (by show 0 < 1; omega) rfl ?_
                      refine ez_top (nI q.2.1.1) hC.2.1.1 ?_
                      refine ez_aaldN q.2.1.1 99 (eR 10 q.2.1.1) dX11_walker_98 rfl (by decide) rfl (by show 0 < 1; omega) (by show q.2.1.1 < 8; omega) (by rw [show (ez_ark 37) = (10, 0) from rfl]; simp) ?_
                      refine ez_astore 101 [(7, eR 10 q.2.1.1), (6, eI (nI bg)), (5, eI (nI nu)), (4, eR 1 j5), (0, eR 11 0), (1, eI (nI j25)), (2, eI y), (3, eI z)] dX11_walker_99 rfl (by decide) rfl ?_
                      refine ez_aload 103 dX11_walker_101 rfl rfl ?_
                      refine ez_iload_n 104 dX11_walker_103 rfl rfl ?_
                      refine ez_putf 107 .int dX11_walker_104 rfl fp_X11_170 (by show q.2.1.1 < 18; omega) rfl (by decide) rfl rfl ?_
                      refine ez_aload 109 dX11_walker_107 rfl rfl ?_
                      refine ez_iload_n 110 dX11_walker_109 rfl rfl ?_
                      refine ez_bipush 112 dX11_walker_110 rfl (nI 10) (by decide) ?_
                      refine ez_idiv 113 dX11_walker_112 rfl (by decide) ?_
                      refine ez_top (nI j5) x5 ?_
                      refine ez_putf 116 .int dX11_walker_113 rfl fp_X11_173 (by show q.2.1.1 < 18; omega) rfl (by decide) rfl rfl ?_
                      refine ez_aload 118 dX11_walker_116 rfl rfl ?_
                      refine ez_iload_n 119 dX11_walker_118 rfl rfl ?_
                      refine ez_bipush 121 dX11_walker_119 rfl (nI 10) (by decide) ?_
                      refine ez_irem 122 dX11_walker_121 rfl (by decide) ?_
                      refine ez_top (nI j42) x42 ?_
                      refine ez_putf 125 .int dX11_walker_122 rfl fp_X11_176 (by show q.2.1.1 < 18; omega) rfl (by decide) rfl rfl ?_
                      refine ez_aload 127 dX11_walker_125 rfl rfl ?_
                      refine ez_iload 129 dX11_walker_127 rfl rfl ?_
                      refine ez_putf 132 .int dX11_walker_129 rfl fp_X11_179 (by show q.2.1.1 < 18; omega) rfl (by decide) rfl rfl ?_
                      refine ez_aload 134 dX11_walker_132 rfl rfl ?_
                      refine ez_iload 136 dX11_walker_134 rfl rfl ?_
                      refine ez_putf 139 .int dX11_walker_136 rfl fp_X11_182 (by show q.2.1.1 < 18; omega) rfl (by decide) rfl rfl ?_
                      refine ez_aload_n 140 dX11_walker_139 rfl rfl ?_
                      refine ez_dup 141 dX11_walker_140 rfl rfl ?_
                      refine ez_getf 144 (eI (M.1 11 0 4)) dX11_walker_141 rfl fl_X11_167 (by show 0 < 1; omega) rfl ?_
                      refine ez_top (nI q.2.1.1) hC.2.1.1 ?_
                      refine ez_iconst 145 dX11_walker_144 rfl (nI 1) (by decide) ?_
                      refine ez_iadd 146 dX11_walker_145 rfl ?_
                      refine ez_top (nI (q.2.1.1 + 1)) (nI_add _ _) ?_
                      refine ez_putf 149 .int dX11_walker_146 rfl fp_X11_167 (by show 0 < 1; omega) rfl (by decide) rfl rfl ?_
                      refine ez_aload_n 150 dX11_walker_149 rfl rfl ?_
                      refine ez_getf 153 (eI (nI (q.2.1.1 + 1))) dX11_walker_150 rfl fl_X11_167 (by show 0 < 1; omega) rfl ?_
                      refine ez_iconst 154 dX11_walker_153 rfl (nI 1) (by decide) ?_
                      refine ez_isub 155 dX11_walker_154 rfl ?_
                      refine ez_top (nI (q.2.1.1 + 1 - 1)) (pk_sub (by omega)) ?_
                      refine ez_iret .int dX11_walker_155 rfl rfl ?_
                      have eS : S_walker q (nI j25) y z = (nI q.2.1.1, s_nw q j25 j5 j42 nu bg) := by
                        have r1 : ep_rg (z / nI 100) 0 9 = some nu := by rw [e5]; exact ep_rg_nI hu1 hu2 (by decide)
                        have r2 : ep_rg (z - z / nI 100 * nI 100) 0 11 = some bg := by rw [e6]; exact ep_rg_nI hb1 hb2 (by decide)
                        simp only [S_walker, i25, i5, i42, r1, r2]
                        rw [if_neg (by omega)]
                      have k9 := RC_nw (k := j25) (m := j5) (r := j42) (nu := nu) (bg := bg) hW hC (by omega)
                      exact ⟨by rw [eS]; rfl, by rw [eS]; exact k9.1, k9.2⟩
                    · refine ez_bipush 89 dX11_walker_87 rfl (-4) (by decide) ?_
                      refine ez_iret .int dX11_walker_89 rfl rfl ?_
                      have eS : S_walker q (nI j25) y z = (-4, q) := by
                        have r1 : ep_rg (z / nI 100) 0 9 = some nu := by rw [e5]; exact ep_rg_nI hu1 hu2 (by decide)
                        have r2 : ep_rg (z - z / nI 100 * nI 100) 0 11 = some bg := by rw [e6]; exact ep_rg_nI hb1 hb2 (by decide)
                        simp only [S_walker, i25, i5, i42, r1, r2]
                        rw [if_pos (by omega)]
                      exact ⟨by rw [eS], by rw [eS]; exact hC, FX.rf⟩
                  · refine ez_bipush 77 dX11_walker_75 rfl (-2) (by decide) ?_
                    refine ez_iret .int dX11_walker_77 rfl rfl ?_
                    have eS : S_walker q (nI j25) y z = (-2, q) := walker_bad (Or.inr (Or.inr (Or.inr (Or.inr (by rw [e6]; exact ep_rg_hi (Int32.not_le.mp h72))))))
                    exact ⟨by rw [eS], by rw [eS]; exact hC, FX.rf⟩
          · exact absurd h45 (by decide)
theorem RM_nw {q : EpS} {M M1 : EzM} {k m r nu bg : Nat} (hW : WF q) (hC : RM q M) (h8' : ¬ q.2.1.1 = 8) (hF1 : FX (fun k i s => k = 55 ∧ 10 * q.2.1.1 ≤ s ∧ s < 10 * q.2.1.1 + 10) (ez_st (ez_st (ez_st (ez_st (ez_st (ez_st (ez_st M 48 0 q.2.1.1 (nI k)) 49 0 q.2.1.1 (nI m)) 50 0 q.2.1.1 (nI r)) 51 0 q.2.1.1 (nI 0)) 52 0 q.2.1.1 (nI nu)) 53 0 q.2.1.1 (nI bg)) 54 0 q.2.1.1 (nI 0)) M1) (hg : ∀ r, r < 10 → M1.1 55 0 (10 * q.2.1.1 + r) = nI 0) : RM (s_nw q k m r nu bg) (ez_st M1 12 0 19 (nI (q.2.1.1 + 1))) ∧ FX CM M (ez_st M1 12 0 19 (nI (q.2.1.1 + 1))) := by
  have h8 := hW.2.1.1
  obtain ⟨a1, a2, a3, a4, a5, a6, a7⟩ := hC
  have hF0 : FX (fun k i s => 48 ≤ k ∧ k ≤ 54 ∧ s = q.2.1.1) M (ez_st (ez_st (ez_st (ez_st (ez_st (ez_st (ez_st M 48 0 q.2.1.1 (nI k)) 49 0 q.2.1.1 (nI m)) 50 0 q.2.1.1 (nI r)) 51 0 q.2.1.1 (nI 0)) 52 0 q.2.1.1 (nI nu)) 53 0 q.2.1.1 (nI bg)) 54 0 q.2.1.1 (nI 0)) := ((((((FX.rf.st (by omega)).st (by omega)).st (by omega)).st (by omega)).st (by omega)).st (by omega)).st (by omega)
  have hF : FX (fun k i s => (48 ≤ k ∧ k ≤ 54 ∧ s = q.2.1.1) ∨ (k = 55 ∧ 10 * q.2.1.1 ≤ s ∧ s < 10 * q.2.1.1 + 10) ∨ (k = 12 ∧ s = 19)) M (ez_st M1 12 0 19 (nI (q.2.1.1 + 1))) := ((hF0.up (fun k i s z => by omega)).tr (hF1.up (fun k i s z => by omega))).st (by omega)
  refine ⟨⟨RMm.fx a1 hF ⟨by omega, fun x => ⟨by omega, by omega, by omega⟩⟩, ?_, RMt.fx a3 hF ⟨by omega, fun i => by omega⟩, RMs.fx a4 hF (fun s => ⟨by omega, by omega, by omega, by omega⟩), RMx.fx a5 hF ⟨by omega, by omega, fun x hx => ⟨by omega, fun i hi => by omega⟩⟩, RMi.fx a6 hF ⟨fun s _ _ => by omega, fun s => ⟨by omega, by omega, by omega⟩⟩, by rw [hF _ _ _ (by omega)]; exact a7⟩, hF.up (fun k i s z => by unfold CM; omega)⟩
  obtain ⟨c1, c2⟩ := a2
  have n2 : ∀ kk, 48 ≤ kk ∧ kk ≤ 54 → (ez_st M1 12 0 19 (nI (q.2.1.1 + 1))).1 kk 0 q.2.1.1 = (ez_st (ez_st (ez_st (ez_st (ez_st (ez_st (ez_st M 48 0 q.2.1.1 (nI k)) 49 0 q.2.1.1 (nI m)) 50 0 q.2.1.1 (nI r)) 51 0 q.2.1.1 (nI 0)) 52 0 q.2.1.1 (nI nu)) 53 0 q.2.1.1 (nI bg)) 54 0 q.2.1.1 (nI 0)).1 kk 0 q.2.1.1 := fun kk hk => by rw [ez_rd, if_neg (by omega), hF1 _ _ _ (by omega)]
  refine ⟨by simp [ez_rd]; rfl, fun w hw => ?_⟩
  have hw' : w < q.2.1.1 + 1 := hw
  by_cases e : w = q.2.1.1
  · subst e
    refine ⟨?_, ?_, ?_, ?_, ?_, ?_, ?_, fun r2 hr2 => ?_⟩
    · rw [n2 _ (by omega)]; show _ = nI (va_up q.2.1.2.1 q.2.1.1 _ q.2.1.1 0); rw [va_up_self]; simp [ez_rd]
    · rw [n2 _ (by omega)]; show _ = nI (va_up q.2.1.2.1 q.2.1.1 _ q.2.1.1 1); rw [va_up_self]; simp [ez_rd]
    · rw [n2 _ (by omega)]; show _ = nI (va_up q.2.1.2.1 q.2.1.1 _ q.2.1.1 2); rw [va_up_self]; simp [ez_rd]
    · rw [n2 _ (by omega)]; show _ = nI (va_up q.2.1.2.1 q.2.1.1 _ q.2.1.1 3); rw [va_up_self]; simp [ez_rd]
    · rw [n2 _ (by omega)]; show _ = nI (va_up q.2.1.2.1 q.2.1.1 _ q.2.1.1 4); rw [va_up_self]; simp [ez_rd]
    · rw [n2 _ (by omega)]; show _ = va_up q.2.1.2.2.1 q.2.1.1 _ q.2.1.1; rw [va_up_self]; simp [ez_rd]
    · rw [n2 _ (by omega)]; show _ = va_up q.2.1.2.2.2.1 q.2.1.1 _ q.2.1.1; rw [va_up_self]; simp [ez_rd]
    · rw [ez_rd, if_neg (by omega)]; show _ = nI (va_up q.2.1.2.2.2.2 q.2.1.1 _ q.2.1.1 r2); rw [va_up_self]; exact hg r2 hr2
  · obtain ⟨b0, b1, b2, b3, b4, b5, b6, b7⟩ := c2 w (by show w < q.2.1.1; omega)
    refine ⟨?_, ?_, ?_, ?_, ?_, ?_, ?_, fun r2 hr2 => ?_⟩
    · show _ = nI (va_up q.2.1.2.1 q.2.1.1 _ w 0); rw [va_up_ne _ _ e, hF _ _ _ (by omega)]; exact b0
    · show _ = nI (va_up q.2.1.2.1 q.2.1.1 _ w 1); rw [va_up_ne _ _ e, hF _ _ _ (by omega)]; exact b1
    · show _ = nI (va_up q.2.1.2.1 q.2.1.1 _ w 2); rw [va_up_ne _ _ e, hF _ _ _ (by omega)]; exact b2
    · show _ = nI (va_up q.2.1.2.1 q.2.1.1 _ w 3); rw [va_up_ne _ _ e, hF _ _ _ (by omega)]; exact b3
    · show _ = nI (va_up q.2.1.2.1 q.2.1.1 _ w 4); rw [va_up_ne _ _ e, hF _ _ _ (by omega)]; exact b4
    · show _ = va_up q.2.1.2.2.1 q.2.1.1 _ w; rw [va_up_ne _ _ e, hF _ _ _ (by omega)]; exact b5
    · show _ = va_up q.2.1.2.2.2.1 q.2.1.1 _ w; rw [va_up_ne _ _ e, hF _ _ _ (by omega)]; exact b6
    · show _ = nI (va_up q.2.1.2.2.2.2 q.2.1.1 _ w r2); rw [va_up_ne _ _ e, hF _ _ _ (by omega)]; exact b7 r2 hr2
set_option maxRecDepth 20000 in
theorem lp_mwk (g : EzH) (d : Nat) {q : EpS} (k m r nu bg : Nat) (M : EzM) (hW : WF q) (hC : RM q M) (h8' : ¬ q.2.1.1 = 8) : ∀ (z : Nat) (t : Nat) (M1 : EzM), 10 - t = z → t ≤ 10 → FX (fun k i s => k = 55 ∧ 10 * q.2.1.1 ≤ s ∧ s < 10 * q.2.1.1 + 10) (ez_st (ez_st (ez_st (ez_st (ez_st (ez_st (ez_st M 48 0 q.2.1.1 (nI k)) 49 0 q.2.1.1 (nI m)) 50 0 q.2.1.1 (nI r)) 51 0 q.2.1.1 (nI 0)) 52 0 q.2.1.1 (nI nu)) 53 0 q.2.1.1 (nI bg)) 54 0 q.2.1.1 (nI 0)) M1 → (∀ r, r < t → M1.1 55 0 (10 * q.2.1.1 + r) = nI 0) → Ez (true, g) mX12_walker d 152 [(4, eI (nI t)), (0, eR 12 0)] [] M1 (fun r' M' => r' = some (eI (nI q.2.1.1)) ∧ RM (s_nw q k m r nu bg) M' ∧ FX CM M M') := by
  intro z
  induction z using Nat.strongRecOn with
  | ind z ih =>
    intro t M1 hz ht hF1 hg
    have q8 := hW.2.1.1
    refine ez_iload 154 dX12_walker_152 rfl rfl ?_
    refine ez_bipush 156 dX12_walker_154 rfl (nI 10) (by decide) ?_
    refine ez_ncmp_ge 159 181 dX12_walker_156 rfl (by decide) (by omega) (by omega) (fun h156 => ?_) (fun h156 => ?_)
    · refine ez_aload_n 182 dX12_walker_181 rfl rfl ?_
      refine ez_dup 183 dX12_walker_182 rfl rfl ?_
      refine ez_getf 186 (eI (M1.1 12 0 19)) dX12_walker_183 rfl fl_X12_176 (by show 0 < 1; omega) rfl ?_
      refine ez_top (nI q.2.1.1) (by rw [hF1 _ _ _ (by omega)]; exact hC.2.1.1) ?_
      refine ez_iconst 187 dX12_walker_186 rfl (nI 1) (by decide) ?_
      refine ez_iadd 188 dX12_walker_187 rfl ?_
      refine ez_top (nI (q.2.1.1 + 1)) (nI_add _ _) ?_
      refine ez_putf 191 .int dX12_walker_188 rfl fp_X12_176 (by show 0 < 1; omega) rfl (by decide) rfl rfl ?_
      refine ez_aload_n 192 dX12_walker_191 rfl rfl ?_
      refine ez_getf 195 (eI (nI (q.2.1.1 + 1))) dX12_walker_192 rfl fl_X12_176 (by show 0 < 1; omega) rfl ?_
      refine ez_iconst 196 dX12_walker_195 rfl (nI 1) (by decide) ?_
      refine ez_isub 197 dX12_walker_196 rfl ?_
      refine ez_top (nI (q.2.1.1 + 1 - 1)) (pk_sub (by omega)) ?_
      refine ez_iret .int dX12_walker_197 rfl rfl ?_
      have k9 := RM_nw (k := k) (m := m) (r := r) (nu := nu) (bg := bg) hW hC h8' hF1 (fun r hr => hg r (by omega))
      exact ⟨rfl, k9.1, k9.2⟩
    · refine ez_aload_n 160 dX12_walker_159 rfl rfl ?_
      refine ez_getf 163 (eR 55 0) dX12_walker_160 rfl fl_X12_53 (by show 0 < 1; omega) rfl ?_
      refine ez_bipush 165 dX12_walker_163 rfl (nI 10) (by decide) ?_
      refine ez_aload_n 166 dX12_walker_165 rfl rfl ?_
      refine ez_getf 169 (eI (M1.1 12 0 19)) dX12_walker_166 rfl fl_X12_176 (by show 0 < 1; omega) rfl ?_
      refine ez_top (nI q.2.1.1) (by rw [hF1 _ _ _ (by omega)]; exact hC.2.1.1) ?_
      refine ez_imul 170 dX12_walker_169 rfl ?_
      refine ez_top (nI (10 * q.2.1.1)) (pk_mul _ _) ?_
      refine ez_iload 172 dX12_walker_170 rfl rfl ?_
      refine ez_iadd 173 dX12_walker_172 rfl ?_
      refine ez_top (nI (10 * q.2.1.1 + t)) (nI_add _ _) ?_
      refine ez_iconst 174 dX12_walker_173 rfl (nI 0) (by decide) ?_
      refine ez_iastN (10 * q.2.1.1 + t) 175 dX12_walker_174 rfl (by decide) (by show 0 < 1; omega) (by show 10 * q.2.1.1 + t < 80; omega) ?_
      refine ez_iinc 178 (nI (t + 1)) [(4, eI (nI (t + 1))), (0, eR 12 0)] dX12_walker_175 rfl rfl (nI_add t 1) (by decide) rfl ?_
      refine ez_goto 152 dX12_walker_178 (by decide) ?_
      exact ih (10 - (t + 1)) (by omega) (t + 1) _ rfl (by omega) (hF1.st (by omega)) (fun r hr => by
        rw [ez_rd]
        by_cases e : r = t
        · rw [if_pos ⟨rfl, rfl, by omega⟩]
        · rw [if_neg (by omega)]; exact hg r (by omega))
set_option maxRecDepth 20000 in
theorem c_X12_walker (g : EzH) (d : Nat) {q : EpS} (x y z : Int32) (M : EzM) (hd : 3 ≤ d) (hW : WF q) (hC : RM q M) : Ezc (true, g) mX12_walker d [eR 12 0, eI x, eI y, eI z] M (fun r M' => r = some (eI (S_walker q x y z).1) ∧ RM (S_walker q x y z).2 M' ∧ FX CM M M') := by
  refine Ezc.of (by decide +kernel) (Nat.le_of_ble_eq_true rfl) ?_
  have q8 := hW.2.1.1
  have q4 := hW.1.1
  have qx := hW.2.2.2.2.1
  show Ez (true, g) mX12_walker d 0 [(0, eR 12 0), (1, eI x), (2, eI y), (3, eI z)] [] M _
  refine ez_iload_n 1 dX12_walker_0 rfl rfl ?_
  refine ez_i2l 2 dX12_walker_1 rfl ?_
  refine ez_lconst 3 dX12_walker_2 rfl (nI 0).toInt64 (by decide) ?_
  refine ez_ldc2 6 dX12_walker_3 rfl 5 cn_X12_179 ?_
  refine ez_topL (nI 5).toInt64 (by decide) ?_
  refine ez_callS 9 [eL x.toInt64, eL ((nI 0).toInt64), eL ((nI 5).toInt64)] [] dX12_walker_6 rfl rfl ok_X12_in st_X12_in ln_X12_133 (by omega) (Nat.le_of_ble_eq_true rfl) (c_in_k g (d - 1) x 5 M (by decide)) (fun r6 M6 q6 => ?_)
  obtain ⟨e6, ⟨rfl, i6⟩ | ⟨j6, b6, rfl, rfl⟩⟩ := q6
  · rw [e6]
    show Ez (true, g) mX12_walker d 9 [(0, eR 12 0), (1, eI x), (2, eI y), (3, eI z)] [eI (nI 0)] M _
    refine ez_nif_eq 12 52 dX12_walker_9 rfl (by decide) (by omega) (fun h9 => ?_) (fun h9 => ?_)
    · refine ez_bipush 54 dX12_walker_52 rfl (-2) (by decide) ?_
      refine ez_iret .int dX12_walker_54 rfl rfl ?_
      have eS : S_walker q x y z = (-2, q) := walker_bad (Or.inl i6)
      exact ⟨by rw [eS], by rw [eS]; exact hC, FX.rf⟩
    · exact absurd h9 (by decide)
  · rw [e6]
    have i6 : ep_ix (nI j6) 6 = some j6 := ep_ix_nI b6 (by omega)
    show Ez (true, g) mX12_walker d 9 [(0, eR 12 0), (1, eI (nI j6)), (2, eI y), (3, eI z)] [eI (nI 1)] M _
    refine ez_nif_eq 12 52 dX12_walker_9 rfl (by decide) (by omega) (fun h9 => ?_) (fun h9 => ?_)
    · exact absurd h9 (by decide)
    · refine ez_iload_n 13 dX12_walker_12 rfl rfl ?_
      refine ez_if_lt 16 52 dX12_walker_13 rfl (by decide) (fun h13 => ?_) (fun h13 => ?_)
      · refine ez_bipush 54 dX12_walker_52 rfl (-2) (by decide) ?_
        refine ez_iret .int dX12_walker_54 rfl rfl ?_
        have eS : S_walker q (nI j6) y z = (-2, q) := walker_bad (Or.inr (Or.inr (Or.inl (fun m hm => (er_neg10 (mc := q.1.1) (n := q.1.2.1 m) h13 (by omega) (by have := ep_ix_in hm; have := (hW.1.2 m this).2.1; omega)).elim (fun e9 => by rw [hm] at e9; cases e9) id))))
        exact ⟨by rw [eS], by rw [eS]; exact hC, FX.rf⟩
      · refine ez_aload_n 17 dX12_walker_16 rfl rfl ?_
        refine ez_iload_n 18 dX12_walker_17 rfl rfl ?_
        refine ez_bipush 20 dX12_walker_18 rfl (nI 10) (by decide) ?_
        refine ez_idiv 21 dX12_walker_20 rfl (by decide) ?_
        refine ez_iload_n 22 dX12_walker_21 rfl rfl ?_
        refine ez_bipush 24 dX12_walker_22 rfl (nI 10) (by decide) ?_
        refine ez_irem 25 dX12_walker_24 rfl (by decide) ?_
        refine ez_callV 28 [eI (y / (nI 10)), eI (y - y / (nI 10) * (nI 10))] [] dX12_walker_25 rfl rfl ok_X12_isRoom in_X12_isRoom (by decide) (by show 0 < 1; omega) ln_X12_165 (by omega) (Nat.le_of_ble_eq_true rfl) (c_X12_isRoom g (d - 1) (y / (nI 10)) (y - y / (nI 10) * (nI 10)) M (by omega) hW hC) (fun r25 M25 q25 => ?_)
        obtain ⟨e25, ⟨rfl, i25⟩ | ⟨a25, b25, p25, s25, x25, y25, rfl⟩⟩ := q25
        · rw [e25]
          show Ez (true, g) mX12_walker d 28 [(0, eR 12 0), (1, eI (nI j6)), (2, eI y), (3, eI z)] [eI (nI 0)] M _
          refine ez_nif_eq 31 52 dX12_walker_28 rfl (by decide) (by omega) (fun h28 => ?_) (fun h28 => ?_)
          · refine ez_bipush 54 dX12_walker_52 rfl (-2) (by decide) ?_
            refine ez_iret .int dX12_walker_54 rfl rfl ?_
            have eS : S_walker q (nI j6) y z = (-2, q) := walker_bad (Or.inr (i25.elim Or.inl (fun e9 => Or.inr (Or.inl e9))))
            exact ⟨by rw [eS], by rw [eS]; exact hC, FX.rf⟩
          · exact absurd h28 (by decide)
        · rw [e25]
          have t25 := (hW.1.2 a25 p25).2.1
          have u25 : ep_ix (y / (nI 10)) q.1.1 = some a25 := by rw [x25]; exact ep_ix_nI p25 (by omega)
          have v25 : ep_ix (y - y / (nI 10) * (nI 10)) (q.1.2.1 a25) = some b25 := by rw [y25]; exact ep_ix_nI s25 (by omega)
          show Ez (true, g) mX12_walker d 28 [(0, eR 12 0), (1, eI (nI j6)), (2, eI y), (3, eI z)] [eI (nI 1)] M _
          refine ez_nif_eq 31 52 dX12_walker_28 rfl (by decide) (by omega) (fun h28 => ?_) (fun h28 => ?_)
          · exact absurd h28 (by decide)
          · refine ez_iload_n 32 dX12_walker_31 rfl rfl ?_
            refine ez_i2l 33 dX12_walker_32 rfl ?_
            refine ez_lconst 34 dX12_walker_33 rfl (nI 0).toInt64 (by decide) ?_
            refine ez_ldc2 37 dX12_walker_34 rfl 999 cn_X12_181 ?_
            refine ez_topL (nI 999).toInt64 (by decide) ?_
            refine ez_callS 40 [eL z.toInt64, eL ((nI 0).toInt64), eL ((nI 999).toInt64)] [] dX12_walker_37 rfl rfl ok_X12_in st_X12_in ln_X12_133 (by omega) (Nat.le_of_ble_eq_true rfl) (c_in_r g (d - 1) z 0 999 M (by decide) (by decide)) (fun r37 M37 q37 => ?_)
            obtain ⟨e37, ⟨rfl, i37⟩ | ⟨c37, hc1, hc2, rfl, rfl⟩⟩ := q37
            · rw [e37]
              show Ez (true, g) mX12_walker d 40 [(0, eR 12 0), (1, eI (nI j6)), (2, eI y), (3, eI z)] [eI (nI 0)] M _
              refine ez_nif_eq 43 52 dX12_walker_40 rfl (by decide) (by omega) (fun h40 => ?_) (fun h40 => ?_)
              · refine ez_bipush 54 dX12_walker_52 rfl (-2) (by decide) ?_
                refine ez_iret .int dX12_walker_54 rfl rfl ?_
                have eS : S_walker q (nI j6) y z = (-2, q) := walker_bad (Or.inr (Or.inr (Or.inr (er_zbad i37))))
                exact ⟨by rw [eS], by rw [eS]; exact hC, FX.rf⟩
              · exact absurd h40 (by decide)
            · rw [e37]
              have i37 : ep_rg (nI c37) 0 999 = some c37 := ep_rg_nI hc1 hc2 (by decide)
              show Ez (true, g) mX12_walker d 40 [(0, eR 12 0), (1, eI (nI j6)), (2, eI y), (3, eI (nI c37))] [eI (nI 1)] M _
              refine ez_nif_eq 43 52 dX12_walker_40 rfl (by decide) (by omega) (fun h40 => ?_) (fun h40 => ?_)
              · exact absurd h40 (by decide)
              · have z1 : nI c37 / nI 100 = nI (c37 / 100) := pk_div (by omega) (by omega) (by omega)
                have z2 : nI c37 - nI c37 / nI 100 * nI 100 = nI (c37 % 100) := pk_rem (by omega) (by omega) (by omega)
                refine ez_iload_n 44 dX12_walker_43 rfl rfl ?_
                refine ez_bipush 46 dX12_walker_44 rfl (nI 100) (by decide) ?_
                refine ez_irem 47 dX12_walker_46 rfl (by decide) ?_
                refine ez_top (nI (c37 % 100)) (pk_rem (by omega) (by omega) (by omega)) ?_
                refine ez_bipush 49 dX12_walker_47 rfl (nI 11) (by decide) ?_
                refine ez_ncmp_le 52 55 dX12_walker_49 rfl (by decide) (by omega) (by omega) (fun h49 => ?_) (fun h49 => ?_)
                · refine ez_aload_n 56 dX12_walker_55 rfl rfl ?_
                  refine ez_getf 59 (eI (M.1 12 0 19)) dX12_walker_56 rfl fl_X12_176 (by show 0 < 1; omega) rfl ?_
                  refine ez_top (nI q.2.1.1) hC.2.1.1 ?_
                  refine ez_bipush 61 dX12_walker_59 rfl (nI 8) (by decide) ?_
                  refine ez_ncmp_ne 64 67 dX12_walker_61 rfl (by decide) (by omega) (by omega) (fun h61 => ?_) (fun h61 => ?_)
                  · refine ez_aload_n 68 dX12_walker_67 rfl rfl ?_
                    refine ez_getf 71 (eR 48 0) dX12_walker_68 rfl fl_X12_32 (by show 0 < 1; omega) rfl ?_
                    refine ez_aload_n 72 dX12_walker_71 rfl rfl ?_
                    refine ez_getf 75 (eI (M.1 12 0 19)) dX12_walker_72 rfl fl_X12_176 (by show 0 < 1; omega) rfl ?_
                    refine ez_top (nI q.2.1.1) hC.2.1.1 ?_
                    refine ez_iload_n 76 dX12_walker_75 rfl rfl ?_
                    refine ez_iastN q.2.1.1 77 dX12_walker_76 rfl (by decide) (by show 0 < 1; omega) (by show q.2.1.1 < 8; omega) ?_
                    refine ez_aload_n 78 dX12_walker_77 rfl rfl ?_
                    refine ez_getf 81 (eR 49 0) dX12_walker_78 rfl fl_X12_35 (by show 0 < 1; omega) rfl ?_
                    refine ez_aload_n 82 dX12_walker_81 rfl rfl ?_
                    refine ez_getf 85 (eI (M.1 12 0 19)) dX12_walker_82 rfl fl_X12_176 (by show 0 < 1; omega) rfl ?_
                    refine ez_top (nI q.2.1.1) hC.2.1.1 ?_
                    refine ez_iload_n 86 dX12_walker_85 rfl rfl ?_
                    refine ez_bipush 88 dX12_walker_86 rfl (nI 10) (by decide) ?_
                    refine ez_idiv 89 dX12_walker_88 rfl (by decide) ?_
                    refine ez_top (nI a25) x25 ?_
                    refine ez_iastN q.2.1.1 90 dX12_walker_89 rfl (by decide) (by show 0 < 1; omega) (by show q.2.1.1 < 8; omega) ?_
                    refine ez_aload_n 91 dX12_walker_90 rfl rfl ?_
                    refine ez_getf 94 (eR 50 0) dX12_walker_91 rfl fl_X12_38 (by show 0 < 1; omega) rfl ?_
                    refine ez_aload_n 95 dX12_walker_94 rfl rfl ?_
                    refine ez_getf 98 (eI (M.1 12 0 19)) dX12_walker_95 rfl fl_X12_176 (by show 0 < 1; omega) rfl ?_
                    refine ez_top (nI q.2.1.1) hC.2.1.1 ?_
                    refine ez_iload_n 99 dX12_walker_98 rfl rfl ?_
                    refine ez_bipush 101 dX12_walker_99 rfl (nI 10) (by decide) ?_
                    refine ez_irem 102 dX12_walker_101 rfl (by decide) ?_
                    refine ez_top (nI b25) y25 ?_
                    refine ez_iastN q.2.1.1 103 dX12_walker_102 rfl (by decide) (by show 0 < 1; omega) (by show q.2.1.1 < 8; omega) ?_
                    refine ez_aload_n 104 dX12_walker_103 rfl rfl ?_
                    refine ez_getf 107 (eR 51 0) dX12_walker_104 rfl fl_X12_41 (by show 0 < 1; omega) rfl ?_
                    refine ez_aload_n 108 dX12_walker_107 rfl rfl ?_
                    refine ez_getf 111 (eI (M.1 12 0 19)) dX12_walker_108 rfl fl_X12_176 (by show 0 < 1; omega) rfl ?_
                    refine ez_top (nI q.2.1.1) hC.2.1.1 ?_
                    refine ez_iconst 112 dX12_walker_111 rfl (nI 0) (by decide) ?_
                    refine ez_iastN q.2.1.1 113 dX12_walker_112 rfl (by decide) (by show 0 < 1; omega) (by show q.2.1.1 < 8; omega) ?_
                    refine ez_aload_n 114 dX12_walker_113 rfl rfl ?_
                    refine ez_getf 117 (eR 52 0) dX12_walker_114 rfl fl_X12_44 (by show 0 < 1; omega) rfl ?_
                    refine ez_aload_n 118 dX12_walker_117 rfl rfl ?_
                    refine ez_getf 121 (eI (M.1 12 0 19)) dX12_walker_118 rfl fl_X12_176 (by show 0 < 1; omega) rfl ?_
                    refine ez_top (nI q.2.1.1) hC.2.1.1 ?_
                    refine ez_iload_n 122 dX12_walker_121 rfl rfl ?_
                    refine ez_bipush 124 dX12_walker_122 rfl (nI 100) (by decide) ?_
                    refine ez_idiv 125 dX12_walker_124 rfl (by decide) ?_
                    refine ez_top (nI (c37 / 100)) (pk_div (by omega) (by omega) (by omega)) ?_
                    refine ez_iastN q.2.1.1 126 dX12_walker_125 rfl (by decide) (by show 0 < 1; omega) (by show q.2.1.1 < 8; omega) ?_
                    refine ez_aload_n 127 dX12_walker_126 rfl rfl ?_
                    refine ez_getf 130 (eR 53 0) dX12_walker_127 rfl fl_X12_47 (by show 0 < 1; omega) rfl ?_
                    refine ez_aload_n 131 dX12_walker_130 rfl rfl ?_
                    refine ez_getf 134 (eI (M.1 12 0 19)) dX12_walker_131 rfl fl_X12_176 (by show 0 < 1; omega) rfl ?_
                    refine ez_top (nI q.2.1.1) hC.2.1.1 ?_
                    refine ez_iload_n 135 dX12_walker_134 rfl rfl ?_
                    refine ez_bipush 137 dX12_walker_135 rfl (nI 100) (by decide) ?_
                    refine ez_irem 138 dX12_walker_137 rfl (by decide) ?_
                    refine ez_top (nI (c37 % 100)) (pk_rem (by omega) (by omega) (by omega)) ?_
                    refine ez_iastN q.2.1.1 139 dX12_walker_138 rfl (by decide) (by show 0 < 1; omega) (by show q.2.1.1 < 8; omega) ?_
                    refine ez_aload_n 140 dX12_walker_139 rfl rfl ?_
                    refine ez_getf 143 (eR 54 0) dX12_walker_140 rfl fl_X12_50 (by show 0 < 1; omega) rfl ?_
                    refine ez_aload_n 144 dX12_walker_143 rfl rfl ?_
                    refine ez_getf 147 (eI (M.1 12 0 19)) dX12_walker_144 rfl fl_X12_176 (by show 0 < 1; omega) rfl ?_
                    refine ez_top (nI q.2.1.1) hC.2.1.1 ?_
                    refine ez_iconst 148 dX12_walker_147 rfl (nI 0) (by decide) ?_
                    refine ez_iastN q.2.1.1 149 dX12_walker_148 rfl (by decide) (by show 0 < 1; omega) (by show q.2.1.1 < 8; omega) ?_
                    refine ez_iconst 150 dX12_walker_149 rfl (nI 0) (by decide) ?_
                    refine ez_istore 152 [(4, eI (nI 0)), (0, eR 12 0), (1, eI (nI j6)), (2, eI y), (3, eI (nI c37))] dX12_walker_150 rfl (by decide) rfl ?_
                    have eS : S_walker q (nI j6) y (nI c37) = (nI q.2.1.1, s_nw q j6 a25 b25 (c37 / 100) (c37 % 100)) := by
                      have r1 : ep_rg (nI c37 / nI 100) 0 9 = some (c37 / 100) := by rw [z1]; exact ep_rg_nI (by omega) (by omega) (by decide)
                      have r2 : ep_rg (nI c37 - nI c37 / nI 100 * nI 100) 0 11 = some (c37 % 100) := by rw [z2]; exact ep_rg_nI (by omega) (by omega) (by decide)
                      simp only [S_walker, i6, u25, v25, r1, r2]
                      rw [if_neg (by omega)]
                    rw [eS]
                    refine ez_drop [(4, eI (nI 0)), (0, eR 12 0)] (by simp) ?_
                    exact lp_mwk g d j6 a25 b25 (c37 / 100) (c37 % 100) M hW hC (by omega) _ 0 _ rfl (by omega) FX.rf (fun r hr => by omega)
                  · refine ez_bipush 66 dX12_walker_64 rfl (-4) (by decide) ?_
                    refine ez_iret .int dX12_walker_66 rfl rfl ?_
                    have eS : S_walker q (nI j6) y (nI c37) = (-4, q) := by
                      have r1 : ep_rg (nI c37 / nI 100) 0 9 = some (c37 / 100) := by rw [z1]; exact ep_rg_nI (by omega) (by omega) (by decide)
                      have r2 : ep_rg (nI c37 - nI c37 / nI 100 * nI 100) 0 11 = some (c37 % 100) := by rw [z2]; exact ep_rg_nI (by omega) (by omega) (by decide)
                      simp only [S_walker, i6, u25, v25, r1, r2]
                      rw [if_pos (by omega)]
                    exact ⟨by rw [eS], by rw [eS]; exact hC, FX.rf⟩
                · refine ez_bipush 54 dX12_walker_52 rfl (-2) (by decide) ?_
                  refine ez_iret .int dX12_walker_54 rfl rfl ?_
                  have eS : S_walker q (nI j6) y (nI c37) = (-2, q) := walker_bad (Or.inr (Or.inr (Or.inr (Or.inr (by rw [z2]; exact ep_rg_hi (Int32.lt_iff_toInt_lt.mpr (by rw [nI_toInt (by omega), nI_toInt (by omega)]; omega)))))))
                  exact ⟨by rw [eS], by rw [eS]; exact hC, FX.rf⟩
