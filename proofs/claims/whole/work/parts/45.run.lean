/-! run: class and model -/
set_option maxRecDepth 20000 in
theorem c_X10_become (G : EzG) (d : Nat) (i j : Nat) (M : EzM) (hd : 2 ≤ d) (hi : i < 18) (hj : j < 18) (hij : ¬ j = i) : Ezc G mX10_become d [eR 10 i, eR 10 j] M (fun r M' => r = none ∧ (∀ s, s < 7 → M'.1 10 i s = M.1 10 j s) ∧ (∀ r, r < 10 → M'.1 21 i r = M.1 21 j r) ∧ FX (fun k i' s => (k = 10 ∨ k = 21) ∧ i' = i) M M' ∧ M'.2 = M.2) := by
  refine Ezc.of (by decide +kernel) (Nat.le_of_ble_eq_true rfl) ?_
  show Ez G mX10_become d 0 [(0, eR 10 i), (1, eR 10 j)] [] M _
  refine ez_aload_n 1 dX10_become_0 rfl rfl ?_
  refine ez_aload_n 2 dX10_become_1 rfl rfl ?_
  refine ez_getf 5 (eI (M.1 10 j 0)) dX10_become_2 rfl fl_X10_15 (by show j < 18; omega) rfl ?_
  refine ez_putf 8 .int dX10_become_5 rfl fp_X10_15 (by show i < 18; omega) rfl (by decide) rfl rfl ?_
  refine ez_aload_n 9 dX10_become_8 rfl rfl ?_
  refine ez_aload_n 10 dX10_become_9 rfl rfl ?_
  refine ez_getf 13 (eI ((ez_st M 10 i 0 (M.1 10 j 0)).1 10 j 1)) dX10_become_10 rfl fl_X10_19 (by show j < 18; omega) rfl ?_
  refine ez_top (M.1 10 j 1) (by simp [ez_rd, hij]) ?_
  refine ez_putf 16 .int dX10_become_13 rfl fp_X10_19 (by show i < 18; omega) rfl (by decide) rfl rfl ?_
  refine ez_aload_n 17 dX10_become_16 rfl rfl ?_
  refine ez_aload_n 18 dX10_become_17 rfl rfl ?_
  refine ez_getf 21 (eI ((ez_st (ez_st M 10 i 0 (M.1 10 j 0)) 10 i 1 (M.1 10 j 1)).1 10 j 2)) dX10_become_18 rfl fl_X10_22 (by show j < 18; omega) rfl ?_
  refine ez_top (M.1 10 j 2) (by simp [ez_rd, hij]) ?_
  refine ez_putf 24 .int dX10_become_21 rfl fp_X10_22 (by show i < 18; omega) rfl (by decide) rfl rfl ?_
  refine ez_aload_n 25 dX10_become_24 rfl rfl ?_
  refine ez_aload_n 26 dX10_become_25 rfl rfl ?_
  refine ez_getf 29 (eI ((ez_st (ez_st (ez_st M 10 i 0 (M.1 10 j 0)) 10 i 1 (M.1 10 j 1)) 10 i 2 (M.1 10 j 2)).1 10 j 3)) dX10_become_26 rfl fl_X10_25 (by show j < 18; omega) rfl ?_
  refine ez_top (M.1 10 j 3) (by simp [ez_rd, hij]) ?_
  refine ez_putf 32 .int dX10_become_29 rfl fp_X10_25 (by show i < 18; omega) rfl (by decide) rfl rfl ?_
  refine ez_aload_n 33 dX10_become_32 rfl rfl ?_
  refine ez_aload_n 34 dX10_become_33 rfl rfl ?_
  refine ez_getf 37 (eI ((ez_st (ez_st (ez_st (ez_st M 10 i 0 (M.1 10 j 0)) 10 i 1 (M.1 10 j 1)) 10 i 2 (M.1 10 j 2)) 10 i 3 (M.1 10 j 3)).1 10 j 4)) dX10_become_34 rfl fl_X10_28 (by show j < 18; omega) rfl ?_
  refine ez_top (M.1 10 j 4) (by simp [ez_rd, hij]) ?_
  refine ez_putf 40 .int dX10_become_37 rfl fp_X10_28 (by show i < 18; omega) rfl (by decide) rfl rfl ?_
  refine ez_aload_n 41 dX10_become_40 rfl rfl ?_
  refine ez_aload_n 42 dX10_become_41 rfl rfl ?_
  refine ez_getf 45 (eI ((ez_st (ez_st (ez_st (ez_st (ez_st M 10 i 0 (M.1 10 j 0)) 10 i 1 (M.1 10 j 1)) 10 i 2 (M.1 10 j 2)) 10 i 3 (M.1 10 j 3)) 10 i 4 (M.1 10 j 4)).1 10 j 5)) dX10_become_42 rfl fl_X10_31 (by show j < 18; omega) rfl ?_
  refine ez_top (M.1 10 j 5) (by simp [ez_rd, hij]) ?_
  refine ez_putf 48 .int dX10_become_45 rfl fp_X10_31 (by show i < 18; omega) rfl (by decide) rfl rfl ?_
  refine ez_aload_n 49 dX10_become_48 rfl rfl ?_
  refine ez_aload_n 50 dX10_become_49 rfl rfl ?_
  refine ez_getf 53 (eI ((ez_st (ez_st (ez_st (ez_st (ez_st (ez_st M 10 i 0 (M.1 10 j 0)) 10 i 1 (M.1 10 j 1)) 10 i 2 (M.1 10 j 2)) 10 i 3 (M.1 10 j 3)) 10 i 4 (M.1 10 j 4)) 10 i 5 (M.1 10 j 5)).1 10 j 6)) dX10_become_50 rfl fl_X10_34 (by show j < 18; omega) rfl ?_
  refine ez_top (M.1 10 j 6) (by simp [ez_rd, hij]) ?_
  refine ez_putf 56 .int dX10_become_53 rfl fp_X10_34 (by show i < 18; omega) rfl (by decide) rfl rfl ?_
  refine ez_aload_n 57 dX10_become_56 rfl rfl ?_
  refine ez_getf 60 (eR 21 j) dX10_become_57 rfl fl_X10_9 (by show j < 18; omega) rfl ?_
  refine ez_aload_n 61 dX10_become_60 rfl rfl ?_
  refine ez_getf 64 (eR 21 i) dX10_become_61 rfl fl_X10_9 (by show i < 18; omega) rfl ?_
  refine ez_callSN 67 [eR 21 j, eR 21 i] [] dX10_become_64 rfl rfl ok_X11_copyRow st_X11_copyRow "ElevenPebbles" nn_X10_37 (by omega) (Nat.le_of_ble_eq_true rfl) (c_copyRow_21 G (d - 1) j i (ez_st (ez_st (ez_st (ez_st (ez_st (ez_st (ez_st M 10 i 0 (M.1 10 j 0)) 10 i 1 (M.1 10 j 1)) 10 i 2 (M.1 10 j 2)) 10 i 3 (M.1 10 j 3)) 10 i 4 (M.1 10 j 4)) 10 i 5 (M.1 10 j 5)) 10 i 6 (M.1 10 j 6)) (by omega) (by show j < 18; omega) (by show i < 18; omega)) (fun r64 M64 q64 => ?_)
  obtain ⟨rfl, e64⟩ := q64
  rw [e64]
  show Ez G mX10_become d 67 [(0, eR 10 i), (1, eR 10 j)] [] (ez_row (ez_st (ez_st (ez_st (ez_st (ez_st (ez_st (ez_st M 10 i 0 (M.1 10 j 0)) 10 i 1 (M.1 10 j 1)) 10 i 2 (M.1 10 j 2)) 10 i 3 (M.1 10 j 3)) 10 i 4 (M.1 10 j 4)) 10 i 5 (M.1 10 j 5)) 10 i 6 (M.1 10 j 6)) 21 i (ep_fl ((ez_st (ez_st (ez_st (ez_st (ez_st (ez_st (ez_st M 10 i 0 (M.1 10 j 0)) 10 i 1 (M.1 10 j 1)) 10 i 2 (M.1 10 j 2)) 10 i 3 (M.1 10 j 3)) 10 i 4 (M.1 10 j 4)) 10 i 5 (M.1 10 j 5)) 10 i 6 (M.1 10 j 6)).1 21 j) ((ez_st (ez_st (ez_st (ez_st (ez_st (ez_st (ez_st M 10 i 0 (M.1 10 j 0)) 10 i 1 (M.1 10 j 1)) 10 i 2 (M.1 10 j 2)) 10 i 3 (M.1 10 j 3)) 10 i 4 (M.1 10 j 4)) 10 i 5 (M.1 10 j 5)) 10 i 6 (M.1 10 j 6)).1 21 i) 10)) _
  refine ez_vret dX10_become_67 rfl ?_
  refine ⟨rfl, fun s hs => ?_, fun r hr => ?_, ?_, rfl⟩
  · rcases (show s = 0 ∨ s = 1 ∨ s = 2 ∨ s = 3 ∨ s = 4 ∨ s = 5 ∨ s = 6 by omega) with rfl | rfl | rfl | rfl | rfl | rfl | rfl <;> simp [ez_rdr, ez_rd]
  · rw [ez_rdr, if_pos ⟨rfl, rfl⟩, ep_fl_in hr]; simp [ez_rd]
  · exact (((((((FX.rf.st (by omega)).st (by omega)).st (by omega)).st (by omega)).st (by omega)).st (by omega)).st (by omega)).row (fun s => by omega)
theorem RCW_become {kind mz num wi gi pi gp : Nat} {S : EpW} {M M1 M' : EzM} (h : RCW kind mz num S wi pi M) (h1 : ∀ s, s < 7 → M1.1 10 gi s = M.1 10 wi s) (h2 : ∀ r, r < 10 → M1.1 21 gi r = M.1 21 wi r) (hF : FX (fun k i s => k = 20) M1 M') (h3 : ∀ r, r < 10 → M'.1 20 gp r = M.1 20 pi r) : RCW kind mz num S gi gp M' := by
  obtain ⟨a0, a1, a2, a3, a4, a5, a6, a7⟩ := h
  exact ⟨by rw [hF _ _ _ (by omega), h1 0 (by omega)]; exact a0, by rw [hF _ _ _ (by omega), h1 1 (by omega)]; exact a1, by rw [hF _ _ _ (by omega), h1 2 (by omega)]; exact a2, by rw [hF _ _ _ (by omega), h1 3 (by omega)]; exact a3, by rw [hF _ _ _ (by omega), h1 4 (by omega)]; exact a4, by rw [hF _ _ _ (by omega), h1 5 (by omega)]; exact a5, by rw [hF _ _ _ (by omega), h1 6 (by omega)]; exact a6, fun r hr => ⟨by rw [hF _ _ _ (by omega), h2 r hr]; exact (a7 r hr).1, by rw [h3 r hr]; exact (a7 r hr).2⟩⟩
set_option maxRecDepth 20000 in
theorem lp_run (G : EzG) (d : Nat) {q : EpS} (w n c : Nat) (M : EzM) (hd : 7 ≤ d) (hW : WF q) (hC : RC q M) (hw : w < q.2.1.1) (hn : n ≤ 200) (hc : c < 3) : ∀ (z : Nat) (t : Nat) (M1 : EzM), n - t = z → t ≤ n → RCW (q.2.1.2.1 w 0) (q.2.1.2.1 w 1) (q.2.1.2.1 w 4) (ep_nth (s_st q 0 w) t (s_get q.1 q.2.1 w)) 16 4 M1 → FX SC M M1 → Ez G mX11_run d 77 [(6, eI (nI t)), (0, eR 11 0), (2, eI (nI n)), (3, eI (nI c)), (5, eR 1 (q.2.1.2.1 w 1))] [] M1 (fun r M' => r = some (eI (if c = 0 then nI (ep_nth (s_st q 0 w) n (s_get q.1 q.2.1 w)).1 else if c = 1 then (ep_nth (s_st q 0 w) n (s_get q.1 q.2.1 w)).2.2.1 else (ep_nth (s_st q 0 w) n (s_get q.1 q.2.1 w)).2.2.2.1)) ∧ RC q M' ∧ FX CC M M') := by
  intro z
  induction z using Nat.strongRecOn with
  | ind z ih =>
    intro t M1 hz ht hR hF
    have q8 := hW.2.1.1
    have q4 := hW.1.1
    have qx := hW.2.2.2.2.1
    obtain ⟨k0, k1, k2, k3, k4, k5⟩ := hW.2.1.2 w hw
    have gz := g_WFz hW.1 k1
    have gS := g_WFS hW hw
    have gZ := g_RCz hC.1 k1
    have gX := hC.2.2.2.2.1
    have n10 := gz.2.1
    refine ez_iload 79 dX11_run_77 rfl rfl ?_
    refine ez_iload_n 80 dX11_run_79 rfl rfl ?_
    refine ez_ncmp_ge 83 103 dX11_run_80 rfl (by decide) (by omega) (by omega) (fun h80 => ?_) (fun h80 => ?_)
    · refine ez_iload_n 104 dX11_run_103 rfl rfl ?_
      refine ez_nif_ne 107 115 dX11_run_104 rfl (by decide) (by omega) (fun h104 => ?_) (fun h104 => ?_)
      · refine ez_iload_n 116 dX11_run_115 rfl rfl ?_
        refine ez_iconst 117 dX11_run_116 rfl (nI 1) (by decide) ?_
        refine ez_ncmp_ne 120 130 dX11_run_117 rfl (by decide) (by omega) (by omega) (fun h117 => ?_) (fun h117 => ?_)
        · refine ez_aload_n 131 dX11_run_130 rfl rfl ?_
          refine ez_getf 134 (eR 10 16) dX11_run_131 rfl fl_X11_55 (by show 0 < 1; omega) rfl ?_
          refine ez_getf 137 (eI (M1.1 10 16 6)) dX11_run_134 rfl fl_X11_192 (by show 16 < 18; omega) rfl ?_
          refine ez_top ((ep_nth (s_st q 0 w) t (s_get q.1 q.2.1 w)).2.2.2.1) hR.2.2.2.2.2.2.1 ?_
          refine ez_iret .int dX11_run_137 rfl rfl ?_
          have e9 : t = n := by omega
          subst e9
          exact ⟨by rw [if_neg (show ¬ c = 0 by omega), if_neg (show ¬ c = 1 by omega)], RC.sc hW hC hF, hF.scc⟩
        · refine ez_aload_n 121 dX11_run_120 rfl rfl ?_
          refine ez_getf 124 (eR 10 16) dX11_run_121 rfl fl_X11_55 (by show 0 < 1; omega) rfl ?_
          refine ez_getf 127 (eI (M1.1 10 16 5)) dX11_run_124 rfl fl_X11_182 (by show 16 < 18; omega) rfl ?_
          refine ez_top ((ep_nth (s_st q 0 w) t (s_get q.1 q.2.1 w)).2.2.1) hR.2.2.2.2.2.1 ?_
          refine ez_goto 137 dX11_run_127 (by decide) ?_
          refine ez_iret .int dX11_run_137 rfl rfl ?_
          have e9 : t = n := by omega
          subst e9
          exact ⟨by rw [if_neg (show ¬ c = 0 by omega), if_pos (show c = 1 by omega)], RC.sc hW hC hF, hF.scc⟩
      · refine ez_aload_n 108 dX11_run_107 rfl rfl ?_
        refine ez_getf 111 (eR 10 16) dX11_run_108 rfl fl_X11_55 (by show 0 < 1; omega) rfl ?_
        refine ez_getf 114 (eI (M1.1 10 16 2)) dX11_run_111 rfl fl_X11_176 (by show 16 < 18; omega) rfl ?_
        refine ez_top (nI ((ep_nth (s_st q 0 w) t (s_get q.1 q.2.1 w)).1)) hR.2.2.1 ?_
        refine ez_iret .int dX11_run_114 rfl rfl ?_
        have e9 : t = n := by omega
        subst e9
        exact ⟨by rw [if_pos (show c = 0 by omega)], RC.sc hW hC hF, hF.scc⟩
    · refine ez_aload_n 84 dX11_run_83 rfl rfl ?_
      refine ez_aload_n 85 dX11_run_84 rfl rfl ?_
      refine ez_getf 88 (eR 10 16) dX11_run_85 rfl fl_X11_55 (by show 0 < 1; omega) rfl ?_
      refine ez_aload 90 dX11_run_88 rfl rfl ?_
      refine ez_aload_n 91 dX11_run_90 rfl rfl ?_
      refine ez_getf 94 (eR 20 4) dX11_run_91 rfl fl_X11_62 (by show 0 < 1; omega) rfl ?_
      refine ez_callV 97 [eR 10 16, eR 1 (q.2.1.2.1 w 1), eR 20 4] [] dX11_run_94 rfl rfl ok_X11_goOneStep in_X11_goOneStep (by decide) (by show 0 < 1; omega) ln_X11_211 (by omega) (Nat.le_of_ble_eq_true rfl) (c_X11_goOneStep G (d - 1) (S := (ep_nth (s_st q 0 w) t (s_get q.1 q.2.1 w))) (lt := (s_lt q w)) (bl := 0) (tf := q.2.2.2.2.1.2.2) 16 4 (q.2.1.2.1 w 1) M1 (by omega) (by omega) (by omega) (by omega) k0 k4 gz (WFS_nth gz t _ gS) qx (by omega) hR (gZ.fx hF ⟨by unfold SC; omega, fun x => by unfold SC; omega⟩) (gX.fx hF qx.2.1 ⟨by unfold SC; omega, by unfold SC; omega, fun i s hi => by unfold SC; omega⟩) (by rw [hF _ _ _ (by unfold SC; omega)]; exact hC.2.2.2.2.2.2)) (fun r94 M94 q94 => ?_)
      obtain ⟨rfl, R94, f94, l94⟩ := q94
      have F94 := hF.tr (f94.up (fun k i s z => by unfold SC; omega))
      show Ez G mX11_run d 97 [(6, eI (nI t)), (0, eR 11 0), (2, eI (nI n)), (3, eI (nI c)), (5, eR 1 (q.2.1.2.1 w 1))] [] M94 _
      refine ez_iinc 100 (nI (t + 1)) [(6, eI (nI (t + 1))), (0, eR 11 0), (2, eI (nI n)), (3, eI (nI c)), (5, eR 1 (q.2.1.2.1 w 1))] dX11_run_97 rfl rfl (nI_add t 1) (by decide) rfl ?_
      refine ez_goto 77 dX11_run_100 (by decide) ?_
      exact ih (n - (t + 1)) (by omega) (t + 1) _ rfl (by omega) R94 F94
set_option maxRecDepth 20000 in
theorem c_X11_run (G : EzG) (d : Nat) {q : EpS} (x y z : Int32) (M : EzM) (hd : 7 ≤ d) (hW : WF q) (hC : RC q M) : Ezc G mX11_run d [eR 11 0, eI x, eI y, eI z] M (fun r M' => r = some (eI (S_run q x y z)) ∧ RC q M' ∧ FX CC M M') := by
  refine Ezc.of (by decide +kernel) (Nat.le_of_ble_eq_true rfl) ?_
  have q8 := hW.2.1.1
  have q4 := hW.1.1
  have qx := hW.2.2.2.2.1
  show Ez G mX11_run d 0 [(0, eR 11 0), (1, eI x), (2, eI y), (3, eI z)] [] M _
  refine ez_aload_n 1 dX11_run_0 rfl rfl ?_
  refine ez_iload_n 2 dX11_run_1 rfl rfl ?_
  refine ez_callV 5 [eI x] [] dX11_run_2 rfl rfl ok_X11_walkerAt in_X11_walkerAt (by decide) (by show 0 < 1; omega) ln_X11_185 (by omega) (Nat.le_of_ble_eq_true rfl) (c_X11_walkerAt G (d - 1) x q.2.1.1 M (by omega) hC.2.1.1 (by omega)) (fun r2 M2 q2 => ?_)
  obtain ⟨e2, ⟨rfl, i2⟩ | ⟨j2, b2, rfl, rfl⟩⟩ := q2
  · rw [e2]
    show Ez G mX11_run d 5 [(0, eR 11 0), (1, eI x), (2, eI y), (3, eI z)] [eN] M _
    refine ez_astore 7 [(4, eN), (0, eR 11 0), (1, eI x), (2, eI y), (3, eI z)] dX11_run_5 rfl (by decide) rfl ?_
    refine ez_aload 9 dX11_run_7 rfl rfl ?_
    refine ez_ifnull_n 31 dX11_run_9 (by decide) ?_
    refine ez_bipush 33 dX11_run_31 rfl (-2) (by decide) ?_
    refine ez_iret .int dX11_run_33 rfl rfl ?_
    exact ⟨by simp [S_run, i2], hC, FX.rf⟩
  · rw [e2]
    have i2 : ep_ix (nI j2) q.2.1.1 = some j2 := ep_ix_nI b2 (by omega)
    obtain ⟨k0, k1, k2, k3, k4, k5⟩ := hW.2.1.2 j2 b2
    have gz := g_WFz hW.1 k1
    have gS := g_WFS hW b2
    have gZ := g_RCz hC.1 k1
    have gR := g_RCW hC.1 hC.2.1 b2 k1
    have n10 := gz.2.1
    have gX := hC.2.2.2.2.1
    show Ez G mX11_run d 5 [(0, eR 11 0), (1, eI (nI j2)), (2, eI y), (3, eI z)] [eR 10 j2] M _
    refine ez_astore 7 [(4, eR 10 j2), (0, eR 11 0), (1, eI (nI j2)), (2, eI y), (3, eI z)] dX11_run_5 rfl (by decide) rfl ?_
    refine ez_aload 9 dX11_run_7 rfl rfl ?_
    refine ez_ifnull_r 12 dX11_run_9 rfl ?_
    refine ez_iload_n 13 dX11_run_12 rfl rfl ?_
    refine ez_if_lt 16 31 dX11_run_13 rfl (by decide) (fun h13 => ?_) (fun h13 => ?_)
    · refine ez_bipush 33 dX11_run_31 rfl (-2) (by decide) ?_
      refine ez_iret .int dX11_run_33 rfl rfl ?_
      exact ⟨by simp [S_run, i2, show ep_rg y 0 200 = none by unfold ep_rg; rw [if_pos (Or.inl (by rw [nI_0]; exact h13))]], hC, FX.rf⟩
    · refine ez_iload_n 17 dX11_run_16 rfl rfl ?_
      refine ez_sipush 20 dX11_run_17 rfl (nI 200) (by decide) ?_
      refine ez_icmp_gt 23 31 dX11_run_20 rfl (by decide) (fun h20 => ?_) (fun h20 => ?_)
      · refine ez_bipush 33 dX11_run_31 rfl (-2) (by decide) ?_
        refine ez_iret .int dX11_run_33 rfl rfl ?_
        exact ⟨by simp [S_run, i2, show ep_rg y 0 200 = none by unfold ep_rg; rw [if_pos (Or.inr h20)]], hC, FX.rf⟩
      · obtain ⟨c, hc1, hc2, rfl⟩ := ep_rng (a := 0) (b := 200) (by decide) (by rw [nI_0]; exact h13) (Int32.not_lt.mp h20) (by decide)
        have ec := ep_rg_nI hc1 hc2 (by decide)
        refine ez_iload_n 24 dX11_run_23 rfl rfl ?_
        refine ez_iconst 25 dX11_run_24 rfl (nI 3) (by decide) ?_
        refine ez_callS 28 [eI z, eI (nI 3)] [] dX11_run_25 rfl rfl ok_X11_isInside st_X11_isInside ln_X11_134 (by omega) (Nat.le_of_ble_eq_true rfl) (c_isInside_c G (d - 1) z 3 M (by omega)) (fun r25 M25 q25 => ?_)
        obtain ⟨e25, ⟨rfl, i25⟩ | ⟨j25, b25, rfl, rfl⟩⟩ := q25
        · rw [e25]
          show Ez G mX11_run d 28 [(4, eR 10 j2), (0, eR 11 0), (1, eI (nI j2)), (2, eI (nI c)), (3, eI z)] [eI (nI 0)] M _
          refine ez_nif_ne 31 34 dX11_run_28 rfl (by decide) (by omega) (fun h28 => ?_) (fun h28 => ?_)
          · exact absurd h28 (by decide)
          · refine ez_bipush 33 dX11_run_31 rfl (-2) (by decide) ?_
            refine ez_iret .int dX11_run_33 rfl rfl ?_
            exact ⟨by simp [S_run, i2, ec, i25], hC, FX.rf⟩
        · rw [e25]
          have i25 : ep_ix (nI j25) 3 = some j25 := ep_ix_nI b25 (by omega)
          show Ez G mX11_run d 28 [(4, eR 10 j2), (0, eR 11 0), (1, eI (nI j2)), (2, eI (nI c)), (3, eI (nI j25))] [eI (nI 1)] M _
          refine ez_nif_ne 31 34 dX11_run_28 rfl (by decide) (by omega) (fun h28 => ?_) (fun h28 => ?_)
          · refine ez_aload_n 35 dX11_run_34 rfl rfl ?_
            refine ez_aload 37 dX11_run_35 rfl rfl ?_
            refine ez_getf 40 (eI (M.1 10 j2 1)) dX11_run_37 rfl fl_X11_173 (by show j2 < 18; omega) rfl ?_
            refine ez_top (nI (q.2.1.2.1 j2 1)) gR.2.1 ?_
            refine ez_callV 43 [eI (nI (q.2.1.2.1 j2 1))] [] dX11_run_40 rfl rfl ok_X11_mazeAt in_X11_mazeAt (by decide) (by show 0 < 1; omega) ln_X11_141 (by omega) (Nat.le_of_ble_eq_true rfl) (c_mazeAt_n G (d - 1) (q.2.1.2.1 j2 1) q.1.1 M (by omega) hC.1.1 q4 k1) (fun r40 M40 q40 => ?_)
            obtain ⟨rfl, e40⟩ := q40
            rw [e40]
            show Ez G mX11_run d 43 [(4, eR 10 j2), (0, eR 11 0), (1, eI (nI j2)), (2, eI (nI c)), (3, eI (nI j25))] [eR 1 (q.2.1.2.1 j2 1)] M _
            refine ez_astore 45 [(5, eR 1 (q.2.1.2.1 j2 1)), (4, eR 10 j2), (0, eR 11 0), (1, eI (nI j2)), (2, eI (nI c)), (3, eI (nI j25))] dX11_run_43 rfl (by decide) rfl ?_
            refine ez_aload 47 dX11_run_45 rfl rfl ?_
            refine ez_ifnonnull_r 53 dX11_run_47 (by decide) ?_
            refine ez_aload_n 54 dX11_run_53 rfl rfl ?_
            refine ez_getf 57 (eR 10 16) dX11_run_54 rfl fl_X11_55 (by show 0 < 1; omega) rfl ?_
            refine ez_aload 59 dX11_run_57 rfl rfl ?_
            refine ez_callV 62 [eR 10 j2] [] dX11_run_59 rfl rfl ok_X10_become in_X10_become (by decide) (by show 16 < 18; omega) ln_X11_214 (by omega) (Nat.le_of_ble_eq_true rfl) (c_X10_become G (d - 1) 16 j2 M (by omega) (by omega) (by omega) (by omega)) (fun r59 M59 q59 => ?_)
            obtain ⟨rfl, b59a, b59b, f59, l59⟩ := q59
            show Ez G mX11_run d 62 [(5, eR 1 (q.2.1.2.1 j2 1)), (4, eR 10 j2), (0, eR 11 0), (1, eI (nI j2)), (2, eI (nI c)), (3, eI (nI j25))] [] M59 _
            refine ez_aload 64 dX11_run_62 rfl rfl ?_
            refine ez_getf 67 (eR 20 (q.2.1.2.1 j2 1)) dX11_run_64 rfl fl_X11_156 (show q.2.1.2.1 j2 1 < 4 by omega) rfl ?_
            refine ez_aload_n 68 dX11_run_67 rfl rfl ?_
            refine ez_getf 71 (eR 20 4) dX11_run_68 rfl fl_X11_62 (by show 0 < 1; omega) rfl ?_
            refine ez_callS 74 [eR 20 (q.2.1.2.1 j2 1), eR 20 4] [] dX11_run_71 rfl rfl ok_X11_copyRow st_X11_copyRow ln_X11_217 (by omega) (Nat.le_of_ble_eq_true rfl) (c_copyRow_20 G (d - 1) (q.2.1.2.1 j2 1) 4 M59 (by omega) (show q.2.1.2.1 j2 1 < 9 by omega) (by show 4 < 9; omega)) (fun r71 M71 q71 => ?_)
            obtain ⟨rfl, e71⟩ := q71
            rw [e71]
            show Ez G mX11_run d 74 [(5, eR 1 (q.2.1.2.1 j2 1)), (4, eR 10 j2), (0, eR 11 0), (1, eI (nI j2)), (2, eI (nI c)), (3, eI (nI j25))] [] (ez_row M59 20 4 (ep_fl (M59.1 20 (q.2.1.2.1 j2 1)) (M59.1 20 4) 10)) _
            refine ez_iconst 75 dX11_run_74 rfl (nI 0) (by decide) ?_
            refine ez_istore 77 [(6, eI (nI 0)), (5, eR 1 (q.2.1.2.1 j2 1)), (4, eR 10 j2), (0, eR 11 0), (1, eI (nI j2)), (2, eI (nI c)), (3, eI (nI j25))] dX11_run_75 rfl (by decide) rfl ?_
            have F71 : FX (fun k i s => k = 20 ∧ i = 4) M59 (ez_row M59 20 4 (ep_fl (M59.1 20 (q.2.1.2.1 j2 1)) (M59.1 20 4) 10)) := FX.rf.row (fun s => by omega)
            have hF : FX SC M (ez_row M59 20 4 (ep_fl (M59.1 20 (q.2.1.2.1 j2 1)) (M59.1 20 4) 10)) := (f59.up (fun k i s z => by unfold SC; omega)).tr (F71.up (fun k i s z => by unfold SC; omega))
            have R71 : RCW (q.2.1.2.1 j2 0) (q.2.1.2.1 j2 1) (q.2.1.2.1 j2 4) (s_get q.1 q.2.1 j2) 16 4 (ez_row M59 20 4 (ep_fl (M59.1 20 (q.2.1.2.1 j2 1)) (M59.1 20 4) 10)) := RCW_become gR b59a b59b (F71.up (fun k i s z => z.1)) (fun r hr => by rw [ez_rdr, if_pos ⟨rfl, rfl⟩, ep_fl_in hr, f59 _ _ _ (by omega)])
            refine ez_drop [(6, eI (nI 0)), (0, eR 11 0), (2, eI (nI c)), (3, eI (nI j25)), (5, eR 1 (q.2.1.2.1 j2 1))] (by simp) ?_
            refine ez_wk ?_ (lp_run G d j2 c j25 M hd hW hC b2 hc2 b25 _ 0 (ez_row M59 20 4 (ep_fl (M59.1 20 (q.2.1.2.1 j2 1)) (M59.1 20 4) 10)) rfl (by omega) R71 hF)
            exact fun r M' z9 => ⟨by rw [z9.1]; simp [S_run, i2, ec, i25], z9.2⟩
          · exact absurd h28 (by decide)
def KP (k a : Nat) (S : EpW) (M : EzM) : Prop := M.1 k 0 a = nI S.1 ∧ M.1 k 0 (a + 1) = nI S.2.1 ∧ M.1 k 0 (a + 2) = S.2.2.1 ∧ ∀ r, r < 10 → M.1 k 0 (a + 3 + r) = nI (S.2.2.2.2.1 r) ∧ M.1 k 0 (a + 13 + r) = nI (S.2.2.2.2.2 r)
theorem KP.fx {k a : Nat} {S : EpW} {M M' : EzM} {ch : Nat → Nat → Nat → Prop} (h : KP k a S M) (hF : FX ch M M') (hc : ∀ s, a ≤ s → s < a + 23 → ¬ ch k 0 s) : KP k a S M' := by
  obtain ⟨a1, a2, a3, a4⟩ := h
  exact ⟨by rw [hF _ _ _ (hc _ (by omega) (by omega))]; exact a1, by rw [hF _ _ _ (hc _ (by omega) (by omega))]; exact a2, by rw [hF _ _ _ (hc _ (by omega) (by omega))]; exact a3, fun r hr => ⟨by rw [hF _ _ _ (hc _ (by omega) (by omega))]; exact (a4 r hr).1, by rw [hF _ _ _ (hc _ (by omega) (by omega))]; exact (a4 r hr).2⟩⟩
def KF (k a k' i s : Nat) : Prop := k' = k ∧ a ≤ s ∧ s < a + 23
set_option maxRecDepth 20000 in
theorem lp_keepsB_56 (g : EzH) (d : Nat) {kind mz num : Nat} {S : EpW} {n : Nat} (w a : Nat) (M : EzM) (hw : w < 8) (hmz : mz < 4) (hn : n ≤ 10) (hS : WFS n S) (hR : RMW kind mz num S w M) (ha : a + 23 ≤ 46) : ∀ (z : Nat) (t : Nat) (M1 : EzM), 10 - t = z → t ≤ 10 → M1.1 56 0 a = nI S.1 → M1.1 56 0 (a + 1) = nI S.2.1 → M1.1 56 0 (a + 2) = S.2.2.1 → (∀ r, r < 10 → M1.1 56 0 (a + 3 + r) = nI (S.2.2.2.2.1 r)) → (∀ r, r < t → M1.1 56 0 (a + 13 + r) = nI (S.2.2.2.2.2 r)) → FX (KF 56 a) M M1 → Ez (true, g) mX12_keeps d 70 [(4, eI (nI t)), (0, eR 12 0), (1, eI (nI w)), (2, eR 56 0), (3, eI (nI a))] [] M1 (fun r M' => r = none ∧ KP 56 a S M' ∧ FX (KF 56 a) M M') := by
  intro z
  induction z using Nat.strongRecOn with
  | ind z ih =>
    intro t M1 hz ht h1 h2 h3 h4 h5 hF
    have R1 : RMW kind mz num S w M1 := hR.fx hF ⟨by unfold KF; omega, by unfold KF; omega, by unfold KF; omega, by unfold KF; omega, by unfold KF; omega, by unfold KF; omega, by unfold KF; omega, fun r hr => by unfold KF; omega⟩
    have s1 := hS.1
    refine ez_iload 72 dX12_keeps_70 rfl rfl ?_
    refine ez_bipush 74 dX12_keeps_72 rfl (nI 10) (by decide) ?_
    refine ez_ncmp_ge 77 109 dX12_keeps_74 rfl (by decide) (by omega) (by omega) (fun h74 => ?_) (fun h74 => ?_)
    · refine ez_vret dX12_keeps_109 rfl ?_
      exact ⟨rfl, ⟨h1, h2, h3, fun r hr => ⟨h4 r hr, h5 r (by omega)⟩⟩, hF⟩
    · refine ez_aload_n 78 dX12_keeps_77 rfl rfl ?_
      refine ez_iload_n 79 dX12_keeps_78 rfl rfl ?_
      refine ez_bipush 81 dX12_keeps_79 rfl (nI 13) (by decide) ?_
      refine ez_iadd 82 dX12_keeps_81 rfl ?_
      refine ez_top (nI (a + 13)) (nI_add _ _) ?_
      refine ez_iload 84 dX12_keeps_82 rfl rfl ?_
      refine ez_iadd 85 dX12_keeps_84 rfl ?_
      refine ez_top (nI (a + 13 + t)) (nI_add _ _) ?_
      refine ez_aload_n 86 dX12_keeps_85 rfl rfl ?_
      refine ez_getf 89 (eR 47 0) dX12_keeps_86 rfl fl_X12_29 (by show 0 < 1; omega) rfl ?_
      refine ez_bipush 91 dX12_keeps_89 rfl (nI 10) (by decide) ?_
      refine ez_aload_n 92 dX12_keeps_91 rfl rfl ?_
      refine ez_getf 95 (eR 49 0) dX12_keeps_92 rfl fl_X12_35 (by show 0 < 1; omega) rfl ?_
      refine ez_iload_n 96 dX12_keeps_95 rfl rfl ?_
      refine ez_ialdN w 97 dX12_keeps_96 rfl (by decide) (by show 0 < 1; omega) (by show w < 8; omega) ?_
      refine ez_top (nI mz) R1.2.1 ?_
      refine ez_imul 98 dX12_keeps_97 rfl ?_
      refine ez_top (nI (10 * mz)) (pk_mul _ _) ?_
      refine ez_iload 100 dX12_keeps_98 rfl rfl ?_
      refine ez_iadd 101 dX12_keeps_100 rfl ?_
      refine ez_top (nI (10 * mz + t)) (nI_add _ _) ?_
      refine ez_ialdN (10 * mz + t) 102 dX12_keeps_101 rfl (by decide) (by show 0 < 1; omega) (by show 10 * mz + t < 40; omega) ?_
      refine ez_top (nI (S.2.2.2.2.2 t)) (R1.2.2.2.2.2.2.2 t (by omega)).2 ?_
      refine ez_iastN (a + 13 + t) 103 dX12_keeps_102 rfl (by decide) (by show 0 < 1; omega) (by show a + 13 + t < 46; omega) ?_
      refine ez_iinc 106 (nI (t + 1)) [(4, eI (nI (t + 1))), (0, eR 12 0), (1, eI (nI w)), (2, eR 56 0), (3, eI (nI a))] dX12_keeps_103 rfl rfl (nI_add t 1) (by decide) rfl ?_
      refine ez_goto 70 dX12_keeps_106 (by decide) ?_
      exact ih (10 - (t + 1)) (by omega) (t + 1) _ rfl (by omega) (by rw [ez_rd, if_neg (by omega)]; exact h1) (by rw [ez_rd, if_neg (by omega)]; exact h2) (by rw [ez_rd, if_neg (by omega)]; exact h3) (fun r hr => by rw [ez_rd, if_neg (by omega)]; exact h4 r hr) (fun r hr => by
        rw [ez_rd]
        by_cases e : r = t
        · rw [if_pos ⟨rfl, rfl, by omega⟩, e]
        · rw [if_neg (by omega)]; exact h5 r (by omega)) (hF.st (by unfold KF; omega))
set_option maxRecDepth 20000 in
theorem lp_keepsA_56 (g : EzH) (d : Nat) {kind mz num : Nat} {S : EpW} {n : Nat} (w a : Nat) (M : EzM) (hw : w < 8) (hmz : mz < 4) (hn : n ≤ 10) (hS : WFS n S) (hR : RMW kind mz num S w M) (ha : a + 23 ≤ 46) : ∀ (z : Nat) (t : Nat) (M1 : EzM), 10 - t = z → t ≤ 10 → M1.1 56 0 a = nI S.1 → M1.1 56 0 (a + 1) = nI S.2.1 → M1.1 56 0 (a + 2) = S.2.2.1 → (∀ r, r < t → M1.1 56 0 (a + 3 + r) = nI (S.2.2.2.2.1 r)) → FX (KF 56 a) M M1 → Ez (true, g) mX12_keeps d 34 [(4, eI (nI t)), (0, eR 12 0), (1, eI (nI w)), (2, eR 56 0), (3, eI (nI a))] [] M1 (fun r M' => r = none ∧ KP 56 a S M' ∧ FX (KF 56 a) M M') := by
  intro z
  induction z using Nat.strongRecOn with
  | ind z ih =>
    intro t M1 hz ht h1 h2 h3 h5 hF
    have R1 : RMW kind mz num S w M1 := hR.fx hF ⟨by unfold KF; omega, by unfold KF; omega, by unfold KF; omega, by unfold KF; omega, by unfold KF; omega, by unfold KF; omega, by unfold KF; omega, fun r hr => by unfold KF; omega⟩
    have s1 := hS.1
    refine ez_iload 36 dX12_keeps_34 rfl rfl ?_
    refine ez_bipush 38 dX12_keeps_36 rfl (nI 10) (by decide) ?_
    refine ez_ncmp_ge 41 67 dX12_keeps_38 rfl (by decide) (by omega) (by omega) (fun h38 => ?_) (fun h38 => ?_)
    · refine ez_iconst 68 dX12_keeps_67 rfl (nI 0) (by decide) ?_
      refine ez_istore 70 [(4, eI (nI 0)), (0, eR 12 0), (1, eI (nI w)), (2, eR 56 0), (3, eI (nI a))] dX12_keeps_68 rfl (by decide) rfl ?_
      exact lp_keepsB_56 g d w a M hw hmz hn hS hR ha _ 0 M1 rfl (by omega) h1 h2 h3 (fun r hr => h5 r (by omega)) (fun r hr => by omega) hF
    · refine ez_aload_n 42 dX12_keeps_41 rfl rfl ?_
      refine ez_iload_n 43 dX12_keeps_42 rfl rfl ?_
      refine ez_iconst 44 dX12_keeps_43 rfl (nI 3) (by decide) ?_
      refine ez_iadd 45 dX12_keeps_44 rfl ?_
      refine ez_top (nI (a + 3)) (nI_add _ _) ?_
      refine ez_iload 47 dX12_keeps_45 rfl rfl ?_
      refine ez_iadd 48 dX12_keeps_47 rfl ?_
      refine ez_top (nI (a + 3 + t)) (nI_add _ _) ?_
      refine ez_aload_n 49 dX12_keeps_48 rfl rfl ?_
      refine ez_getf 52 (eR 55 0) dX12_keeps_49 rfl fl_X12_53 (by show 0 < 1; omega) rfl ?_
      refine ez_bipush 54 dX12_keeps_52 rfl (nI 10) (by decide) ?_
      refine ez_iload_n 55 dX12_keeps_54 rfl rfl ?_
      refine ez_imul 56 dX12_keeps_55 rfl ?_
      refine ez_top (nI (10 * w)) (pk_mul _ _) ?_
      refine ez_iload 58 dX12_keeps_56 rfl rfl ?_
      refine ez_iadd 59 dX12_keeps_58 rfl ?_
      refine ez_top (nI (10 * w + t)) (nI_add _ _) ?_
      refine ez_ialdN (10 * w + t) 60 dX12_keeps_59 rfl (by decide) (by show 0 < 1; omega) (by show 10 * w + t < 80; omega) ?_
      refine ez_top (nI (S.2.2.2.2.1 t)) (R1.2.2.2.2.2.2.2 t (by omega)).1 ?_
      refine ez_iastN (a + 3 + t) 61 dX12_keeps_60 rfl (by decide) (by show 0 < 1; omega) (by show a + 3 + t < 46; omega) ?_
      refine ez_iinc 64 (nI (t + 1)) [(4, eI (nI (t + 1))), (0, eR 12 0), (1, eI (nI w)), (2, eR 56 0), (3, eI (nI a))] dX12_keeps_61 rfl rfl (nI_add t 1) (by decide) rfl ?_
      refine ez_goto 34 dX12_keeps_64 (by decide) ?_
      exact ih (10 - (t + 1)) (by omega) (t + 1) _ rfl (by omega) (by rw [ez_rd, if_neg (by omega)]; exact h1) (by rw [ez_rd, if_neg (by omega)]; exact h2) (by rw [ez_rd, if_neg (by omega)]; exact h3) (fun r hr => by
        rw [ez_rd]
        by_cases e : r = t
        · rw [if_pos ⟨rfl, rfl, by omega⟩, e]
        · rw [if_neg (by omega)]; exact h5 r (by omega)) (hF.st (by unfold KF; omega))
set_option maxRecDepth 20000 in
theorem c_keeps_56 (g : EzH) (d : Nat) {kind mz num : Nat} {S : EpW} {n : Nat} (w a : Nat) (M : EzM) (hw : w < 8) (hmz : mz < 4) (hn : n ≤ 10) (hS : WFS n S) (hR : RMW kind mz num S w M) (ha : a + 23 ≤ 46) : Ezc (true, g) mX12_keeps d [eR 12 0, eI (nI w), eR 56 0, eI (nI a)] M (fun r M' => r = none ∧ KP 56 a S M' ∧ FX (KF 56 a) M M') := by
  refine Ezc.of (by decide +kernel) (Nat.le_of_ble_eq_true rfl) ?_
  have s1 := hS.1
  show Ez (true, g) mX12_keeps d 0 [(0, eR 12 0), (1, eI (nI w)), (2, eR 56 0), (3, eI (nI a))] [] M _
  refine ez_aload_n 1 dX12_keeps_0 rfl rfl ?_
  refine ez_iload_n 2 dX12_keeps_1 rfl rfl ?_
  refine ez_aload_n 3 dX12_keeps_2 rfl rfl ?_
  refine ez_getf 6 (eR 50 0) dX12_keeps_3 rfl fl_X12_38 (by show 0 < 1; omega) rfl ?_
  refine ez_iload_n 7 dX12_keeps_6 rfl rfl ?_
  refine ez_ialdN w 8 dX12_keeps_7 rfl (by decide) (by show 0 < 1; omega) (by show w < 8; omega) ?_
  refine ez_top (nI S.1) hR.2.2.1 ?_
  refine ez_iastN a 9 dX12_keeps_8 rfl (by decide) (by show 0 < 1; omega) (by show a < 46; omega) ?_
  refine ez_aload_n 10 dX12_keeps_9 rfl rfl ?_
  refine ez_iload_n 11 dX12_keeps_10 rfl rfl ?_
  refine ez_iconst 12 dX12_keeps_11 rfl (nI 1) (by decide) ?_
  refine ez_iadd 13 dX12_keeps_12 rfl ?_
  refine ez_top (nI (a + 1)) (nI_add _ _) ?_
  refine ez_aload_n 14 dX12_keeps_13 rfl rfl ?_
  refine ez_getf 17 (eR 51 0) dX12_keeps_14 rfl fl_X12_41 (by show 0 < 1; omega) rfl ?_
  refine ez_iload_n 18 dX12_keeps_17 rfl rfl ?_
  refine ez_ialdN w 19 dX12_keeps_18 rfl (by decide) (by show 0 < 1; omega) (by show w < 8; omega) ?_
  refine ez_top (M.1 51 0 w) rfl ?_
  refine ez_top (nI S.2.1) hR.2.2.2.1 ?_
  refine ez_iastN (a + 1) 20 dX12_keeps_19 rfl (by decide) (by show 0 < 1; omega) (by show a + 1 < 46; omega) ?_
  refine ez_aload_n 21 dX12_keeps_20 rfl rfl ?_
  refine ez_iload_n 22 dX12_keeps_21 rfl rfl ?_
  refine ez_iconst 23 dX12_keeps_22 rfl (nI 2) (by decide) ?_
  refine ez_iadd 24 dX12_keeps_23 rfl ?_
  refine ez_top (nI (a + 2)) (nI_add _ _) ?_
  refine ez_aload_n 25 dX12_keeps_24 rfl rfl ?_
  refine ez_getf 28 (eR 53 0) dX12_keeps_25 rfl fl_X12_47 (by show 0 < 1; omega) rfl ?_
  refine ez_iload_n 29 dX12_keeps_28 rfl rfl ?_
  refine ez_ialdN w 30 dX12_keeps_29 rfl (by decide) (by show 0 < 1; omega) (by show w < 8; omega) ?_
  refine ez_top (M.1 53 0 w) rfl ?_
  refine ez_top S.2.2.1 hR.2.2.2.2.2.1 ?_
  refine ez_iastN (a + 2) 31 dX12_keeps_30 rfl (by decide) (by show 0 < 1; omega) (by show a + 2 < 46; omega) ?_
  refine ez_iconst 32 dX12_keeps_31 rfl (nI 0) (by decide) ?_
  refine ez_istore 34 [(4, eI (nI 0)), (0, eR 12 0), (1, eI (nI w)), (2, eR 56 0), (3, eI (nI a))] dX12_keeps_32 rfl (by decide) rfl ?_
  exact lp_keepsA_56 g d w a M hw hmz hn hS hR ha _ 0 _ rfl (by omega) (by simp [ez_rd]) (by simp [ez_rd]) (by simp [ez_rd]) (fun r hr => by omega) (((FX.rf.st (by unfold KF; omega)).st (by unfold KF; omega)).st (by unfold KF; omega))
def LF (w mz k i s : Nat) : Prop := ((k = 50 ∨ k = 51 ∨ k = 53 ∨ k = 54) ∧ s = w) ∨ (k = 55 ∧ 10 * w ≤ s ∧ s < 10 * w + 10) ∨ (k = 47 ∧ 10 * mz ≤ s ∧ s < 10 * mz + 10)
set_option maxRecDepth 20000 in
theorem lp_laysB_56 (g : EzH) (d : Nat) {kind mz num : Nat} {S T : EpW} {n : Nat} (w a : Nat) (v : Int32) (M : EzM) (hw : w < 8) (hmz : mz < 4) (hn : n ≤ 10) (hR : RMW kind mz num S w M) (hK : KP 56 a T M) (ha : a + 23 ≤ 46) : ∀ (z : Nat) (t : Nat) (M1 : EzM), 10 - t = z → t ≤ 10 → M1.1 48 0 w = nI kind ∧ M1.1 49 0 w = nI mz ∧ M1.1 50 0 w = nI T.1 ∧ M1.1 51 0 w = nI T.2.1 ∧ M1.1 52 0 w = nI num ∧ M1.1 53 0 w = T.2.2.1 ∧ M1.1 54 0 w = v → (∀ r, r < 10 → M1.1 55 0 (10 * w + r) = nI (T.2.2.2.2.1 r)) → (∀ r, r < t → M1.1 47 0 (10 * mz + r) = nI (T.2.2.2.2.2 r)) → FX (LF w mz) M M1 → Ez (true, g) mX12_lays d 78 [(5, eI (nI t)), (0, eR 12 0), (1, eI (nI w)), (2, eR 56 0), (3, eI (nI a)), (4, eI v)] [] M1 (fun r M' => r = none ∧ RMW kind mz num (T.1, T.2.1, T.2.2.1, v, T.2.2.2.2.1, T.2.2.2.2.2) w M' ∧ FX (LF w mz) M M') := by
  intro z
  induction z using Nat.strongRecOn with
  | ind z ih =>
    intro t M1 hz ht h0 h4 h5 hF
    have K1 : KP 56 a T M1 := hK.fx hF (fun s _ _ => by unfold LF; omega)
    refine ez_iload 80 dX12_lays_78 rfl rfl ?_
    refine ez_bipush 82 dX12_lays_80 rfl (nI 10) (by decide) ?_
    refine ez_ncmp_ge 85 117 dX12_lays_82 rfl (by decide) (by omega) (by omega) (fun h82 => ?_) (fun h82 => ?_)
    · refine ez_vret dX12_lays_117 rfl ?_
      exact ⟨rfl, ⟨h0.1, h0.2.1, h0.2.2.1, h0.2.2.2.1, h0.2.2.2.2.1, h0.2.2.2.2.2.1, h0.2.2.2.2.2.2, fun r hr => ⟨h4 r hr, h5 r (by omega)⟩⟩, hF⟩
    · refine ez_aload_n 86 dX12_lays_85 rfl rfl ?_
      refine ez_getf 89 (eR 47 0) dX12_lays_86 rfl fl_X12_29 (by show 0 < 1; omega) rfl ?_
      refine ez_bipush 91 dX12_lays_89 rfl (nI 10) (by decide) ?_
      refine ez_aload_n 92 dX12_lays_91 rfl rfl ?_
      refine ez_getf 95 (eR 49 0) dX12_lays_92 rfl fl_X12_35 (by show 0 < 1; omega) rfl ?_
      refine ez_iload_n 96 dX12_lays_95 rfl rfl ?_
      refine ez_ialdN w 97 dX12_lays_96 rfl (by decide) (by show 0 < 1; omega) (by show w < 8; omega) ?_
      refine ez_top (nI mz) h0.2.1 ?_
      refine ez_imul 98 dX12_lays_97 rfl ?_
      refine ez_top (nI (10 * mz)) (pk_mul _ _) ?_
      refine ez_iload 100 dX12_lays_98 rfl rfl ?_
      refine ez_iadd 101 dX12_lays_100 rfl ?_
      refine ez_top (nI (10 * mz + t)) (nI_add _ _) ?_
      refine ez_aload_n 102 dX12_lays_101 rfl rfl ?_
      refine ez_iload_n 103 dX12_lays_102 rfl rfl ?_
      refine ez_bipush 105 dX12_lays_103 rfl (nI 13) (by decide) ?_
      refine ez_iadd 106 dX12_lays_105 rfl ?_
      refine ez_top (nI (a + 13)) (nI_add _ _) ?_
      refine ez_iload 108 dX12_lays_106 rfl rfl ?_
      refine ez_iadd 109 dX12_lays_108 rfl ?_
      refine ez_top (nI (a + 13 + t)) (nI_add _ _) ?_
      refine ez_ialdN (a + 13 + t) 110 dX12_lays_109 rfl (by decide) (by show 0 < 1; omega) (by show a + 13 + t < 46; omega) ?_
      refine ez_top (nI (T.2.2.2.2.2 t)) (K1.2.2.2 t (by omega)).2 ?_
      refine ez_iastN (10 * mz + t) 111 dX12_lays_110 rfl (by decide) (by show 0 < 1; omega) (by show 10 * mz + t < 40; omega) ?_
      refine ez_iinc 114 (nI (t + 1)) [(5, eI (nI (t + 1))), (0, eR 12 0), (1, eI (nI w)), (2, eR 56 0), (3, eI (nI a)), (4, eI v)] dX12_lays_111 rfl rfl (nI_add t 1) (by decide) rfl ?_
      refine ez_goto 78 dX12_lays_114 (by decide) ?_
      exact ih (10 - (t + 1)) (by omega) (t + 1) _ rfl (by omega) ⟨by rw [ez_rd, if_neg (by omega)]; exact h0.1, by rw [ez_rd, if_neg (by omega)]; exact h0.2.1, by rw [ez_rd, if_neg (by omega)]; exact h0.2.2.1, by rw [ez_rd, if_neg (by omega)]; exact h0.2.2.2.1, by rw [ez_rd, if_neg (by omega)]; exact h0.2.2.2.2.1, by rw [ez_rd, if_neg (by omega)]; exact h0.2.2.2.2.2.1, by rw [ez_rd, if_neg (by omega)]; exact h0.2.2.2.2.2.2⟩ (fun r hr => by rw [ez_rd, if_neg (by omega)]; exact h4 r hr) (fun r hr => by
        rw [ez_rd]
        by_cases e : r = t
        · rw [if_pos ⟨rfl, rfl, by omega⟩, e]
        · rw [if_neg (by omega)]; exact h5 r (by omega)) (hF.st (by unfold LF; omega))
set_option maxRecDepth 20000 in
theorem lp_laysA_56 (g : EzH) (d : Nat) {kind mz num : Nat} {S T : EpW} {n : Nat} (w a : Nat) (v : Int32) (M : EzM) (hw : w < 8) (hmz : mz < 4) (hn : n ≤ 10) (hR : RMW kind mz num S w M) (hK : KP 56 a T M) (ha : a + 23 ≤ 46) : ∀ (z : Nat) (t : Nat) (M1 : EzM), 10 - t = z → t ≤ 10 → M1.1 48 0 w = nI kind ∧ M1.1 49 0 w = nI mz ∧ M1.1 50 0 w = nI T.1 ∧ M1.1 51 0 w = nI T.2.1 ∧ M1.1 52 0 w = nI num ∧ M1.1 53 0 w = T.2.2.1 ∧ M1.1 54 0 w = v → (∀ r, r < t → M1.1 55 0 (10 * w + r) = nI (T.2.2.2.2.1 r)) → FX (LF w mz) M M1 → Ez (true, g) mX12_lays d 42 [(5, eI (nI t)), (0, eR 12 0), (1, eI (nI w)), (2, eR 56 0), (3, eI (nI a)), (4, eI v)] [] M1 (fun r M' => r = none ∧ RMW kind mz num (T.1, T.2.1, T.2.2.1, v, T.2.2.2.2.1, T.2.2.2.2.2) w M' ∧ FX (LF w mz) M M') := by
  intro z
  induction z using Nat.strongRecOn with
  | ind z ih =>
    intro t M1 hz ht h0 h5 hF
    have K1 : KP 56 a T M1 := hK.fx hF (fun s _ _ => by unfold LF; omega)
    refine ez_iload 44 dX12_lays_42 rfl rfl ?_
    refine ez_bipush 46 dX12_lays_44 rfl (nI 10) (by decide) ?_
    refine ez_ncmp_ge 49 75 dX12_lays_46 rfl (by decide) (by omega) (by omega) (fun h46 => ?_) (fun h46 => ?_)
    · refine ez_iconst 76 dX12_lays_75 rfl (nI 0) (by decide) ?_
      refine ez_istore 78 [(5, eI (nI 0)), (0, eR 12 0), (1, eI (nI w)), (2, eR 56 0), (3, eI (nI a)), (4, eI v)] dX12_lays_76 rfl (by decide) rfl ?_
      exact lp_laysB_56 g d (n := n) (S := S) w a v M hw hmz hn hR hK ha _ 0 M1 rfl (by omega) h0 (fun r hr => h5 r (by omega)) (fun r hr => by omega) hF
    · refine ez_aload_n 50 dX12_lays_49 rfl rfl ?_
      refine ez_getf 53 (eR 55 0) dX12_lays_50 rfl fl_X12_53 (by show 0 < 1; omega) rfl ?_
      refine ez_bipush 55 dX12_lays_53 rfl (nI 10) (by decide) ?_
      refine ez_iload_n 56 dX12_lays_55 rfl rfl ?_
      refine ez_imul 57 dX12_lays_56 rfl ?_
      refine ez_top (nI (10 * w)) (pk_mul _ _) ?_
      refine ez_iload 59 dX12_lays_57 rfl rfl ?_
      refine ez_iadd 60 dX12_lays_59 rfl ?_
      refine ez_top (nI (10 * w + t)) (nI_add _ _) ?_
      refine ez_aload_n 61 dX12_lays_60 rfl rfl ?_
      refine ez_iload_n 62 dX12_lays_61 rfl rfl ?_
      refine ez_iconst 63 dX12_lays_62 rfl (nI 3) (by decide) ?_
      refine ez_iadd 64 dX12_lays_63 rfl ?_
      refine ez_top (nI (a + 3)) (nI_add _ _) ?_
      refine ez_iload 66 dX12_lays_64 rfl rfl ?_
      refine ez_iadd 67 dX12_lays_66 rfl ?_
      refine ez_top (nI (a + 3 + t)) (nI_add _ _) ?_
      refine ez_ialdN (a + 3 + t) 68 dX12_lays_67 rfl (by decide) (by show 0 < 1; omega) (by show a + 3 + t < 46; omega) ?_
      refine ez_top (nI (T.2.2.2.2.1 t)) (K1.2.2.2 t (by omega)).1 ?_
      refine ez_iastN (10 * w + t) 69 dX12_lays_68 rfl (by decide) (by show 0 < 1; omega) (by show 10 * w + t < 80; omega) ?_
      refine ez_iinc 72 (nI (t + 1)) [(5, eI (nI (t + 1))), (0, eR 12 0), (1, eI (nI w)), (2, eR 56 0), (3, eI (nI a)), (4, eI v)] dX12_lays_69 rfl rfl (nI_add t 1) (by decide) rfl ?_
      refine ez_goto 42 dX12_lays_72 (by decide) ?_
      exact ih (10 - (t + 1)) (by omega) (t + 1) _ rfl (by omega) ⟨by rw [ez_rd, if_neg (by omega)]; exact h0.1, by rw [ez_rd, if_neg (by omega)]; exact h0.2.1, by rw [ez_rd, if_neg (by omega)]; exact h0.2.2.1, by rw [ez_rd, if_neg (by omega)]; exact h0.2.2.2.1, by rw [ez_rd, if_neg (by omega)]; exact h0.2.2.2.2.1, by rw [ez_rd, if_neg (by omega)]; exact h0.2.2.2.2.2.1, by rw [ez_rd, if_neg (by omega)]; exact h0.2.2.2.2.2.2⟩ (fun r hr => by
        rw [ez_rd]
        by_cases e : r = t
        · rw [if_pos ⟨rfl, rfl, by omega⟩, e]
        · rw [if_neg (by omega)]; exact h5 r (by omega)) (hF.st (by unfold LF; omega))
set_option maxRecDepth 20000 in
theorem c_lays_56 (g : EzH) (d : Nat) {kind mz num : Nat} {S T : EpW} {n : Nat} (w a : Nat) (v : Int32) (M : EzM) (hw : w < 8) (hmz : mz < 4) (hn : n ≤ 10) (hR : RMW kind mz num S w M) (hK : KP 56 a T M) (ha : a + 23 ≤ 46) : Ezc (true, g) mX12_lays d [eR 12 0, eI (nI w), eR 56 0, eI (nI a), eI v] M (fun r M' => r = none ∧ RMW kind mz num (T.1, T.2.1, T.2.2.1, v, T.2.2.2.2.1, T.2.2.2.2.2) w M' ∧ FX (LF w mz) M M') := by
  refine Ezc.of (by decide +kernel) (Nat.le_of_ble_eq_true rfl) ?_
  show Ez (true, g) mX12_lays d 0 [(0, eR 12 0), (1, eI (nI w)), (2, eR 56 0), (3, eI (nI a)), (4, eI v)] [] M _
  refine ez_aload_n 1 dX12_lays_0 rfl rfl ?_
  refine ez_getf 4 (eR 50 0) dX12_lays_1 rfl fl_X12_38 (by show 0 < 1; omega) rfl ?_
  refine ez_iload_n 5 dX12_lays_4 rfl rfl ?_
  refine ez_aload_n 6 dX12_lays_5 rfl rfl ?_
  refine ez_iload_n 7 dX12_lays_6 rfl rfl ?_
  refine ez_ialdN a 8 dX12_lays_7 rfl (by decide) (by show 0 < 1; omega) (by show a < 46; omega) ?_
  refine ez_top (nI T.1) hK.1 ?_
  refine ez_iastN w 9 dX12_lays_8 rfl (by decide) (by show 0 < 1; omega) (by show w < 8; omega) ?_
  refine ez_aload_n 10 dX12_lays_9 rfl rfl ?_
  refine ez_getf 13 (eR 51 0) dX12_lays_10 rfl fl_X12_41 (by show 0 < 1; omega) rfl ?_
  refine ez_iload_n 14 dX12_lays_13 rfl rfl ?_
  refine ez_aload_n 15 dX12_lays_14 rfl rfl ?_
  refine ez_iload_n 16 dX12_lays_15 rfl rfl ?_
  refine ez_iconst 17 dX12_lays_16 rfl (nI 1) (by decide) ?_
  refine ez_iadd 18 dX12_lays_17 rfl ?_
  refine ez_top (nI (a + 1)) (nI_add _ _) ?_
  refine ez_ialdN (a + 1) 19 dX12_lays_18 rfl (by decide) (by show 0 < 1; omega) (by show a + 1 < 46; omega) ?_
  refine ez_top (M.1 56 0 (a + 1)) rfl ?_
  refine ez_top (nI T.2.1) hK.2.1 ?_
  refine ez_iastN w 20 dX12_lays_19 rfl (by decide) (by show 0 < 1; omega) (by show w < 8; omega) ?_
  refine ez_aload_n 21 dX12_lays_20 rfl rfl ?_
  refine ez_getf 24 (eR 53 0) dX12_lays_21 rfl fl_X12_47 (by show 0 < 1; omega) rfl ?_
  refine ez_iload_n 25 dX12_lays_24 rfl rfl ?_
  refine ez_aload_n 26 dX12_lays_25 rfl rfl ?_
  refine ez_iload_n 27 dX12_lays_26 rfl rfl ?_
  refine ez_iconst 28 dX12_lays_27 rfl (nI 2) (by decide) ?_
  refine ez_iadd 29 dX12_lays_28 rfl ?_
  refine ez_top (nI (a + 2)) (nI_add _ _) ?_
  refine ez_ialdN (a + 2) 30 dX12_lays_29 rfl (by decide) (by show 0 < 1; omega) (by show a + 2 < 46; omega) ?_
  refine ez_top (M.1 56 0 (a + 2)) rfl ?_
  refine ez_top T.2.2.1 hK.2.2.1 ?_
  refine ez_iastN w 31 dX12_lays_30 rfl (by decide) (by show 0 < 1; omega) (by show w < 8; omega) ?_
  refine ez_aload_n 32 dX12_lays_31 rfl rfl ?_
  refine ez_getf 35 (eR 54 0) dX12_lays_32 rfl fl_X12_50 (by show 0 < 1; omega) rfl ?_
  refine ez_iload_n 36 dX12_lays_35 rfl rfl ?_
  refine ez_iload 38 dX12_lays_36 rfl rfl ?_
  refine ez_iastN w 39 dX12_lays_38 rfl (by decide) (by show 0 < 1; omega) (by show w < 8; omega) ?_
  refine ez_iconst 40 dX12_lays_39 rfl (nI 0) (by decide) ?_
  refine ez_istore 42 [(5, eI (nI 0)), (0, eR 12 0), (1, eI (nI w)), (2, eR 56 0), (3, eI (nI a)), (4, eI v)] dX12_lays_40 rfl (by decide) rfl ?_
  have hF0 : FX (LF w mz) M (ez_st (ez_st (ez_st (ez_st M 50 0 w (nI T.1)) 51 0 w (nI T.2.1)) 53 0 w T.2.2.1) 54 0 w v) := ((((FX.rf.st (by unfold LF; omega)).st (by unfold LF; omega)).st (by unfold LF; omega)).st (by unfold LF; omega))
  exact lp_laysA_56 g d (n := n) (S := S) w a v M hw hmz hn hR hK ha _ 0 _ rfl (by omega) ⟨by simp [ez_rd]; exact hR.1, by simp [ez_rd]; exact hR.2.1, by simp [ez_rd], by simp [ez_rd], by simp [ez_rd]; exact hR.2.2.2.2.1, by simp [ez_rd], by simp [ez_rd]⟩ (fun r hr => by omega) hF0
set_option maxRecDepth 20000 in
theorem lp_keepsB_57 (g : EzH) (d : Nat) {kind mz num : Nat} {S : EpW} {n : Nat} (w a : Nat) (M : EzM) (hw : w < 8) (hmz : mz < 4) (hn : n ≤ 10) (hS : WFS n S) (hR : RMW kind mz num S w M) (ha : a + 23 ≤ 4623) : ∀ (z : Nat) (t : Nat) (M1 : EzM), 10 - t = z → t ≤ 10 → M1.1 57 0 a = nI S.1 → M1.1 57 0 (a + 1) = nI S.2.1 → M1.1 57 0 (a + 2) = S.2.2.1 → (∀ r, r < 10 → M1.1 57 0 (a + 3 + r) = nI (S.2.2.2.2.1 r)) → (∀ r, r < t → M1.1 57 0 (a + 13 + r) = nI (S.2.2.2.2.2 r)) → FX (KF 57 a) M M1 → Ez (true, g) mX12_keeps d 70 [(4, eI (nI t)), (0, eR 12 0), (1, eI (nI w)), (2, eR 57 0), (3, eI (nI a))] [] M1 (fun r M' => r = none ∧ KP 57 a S M' ∧ FX (KF 57 a) M M') := by
  intro z
  induction z using Nat.strongRecOn with
  | ind z ih =>
    intro t M1 hz ht h1 h2 h3 h4 h5 hF
    have R1 : RMW kind mz num S w M1 := hR.fx hF ⟨by unfold KF; omega, by unfold KF; omega, by unfold KF; omega, by unfold KF; omega, by unfold KF; omega, by unfold KF; omega, by unfold KF; omega, fun r hr => by unfold KF; omega⟩
    have s1 := hS.1
    refine ez_iload 72 dX12_keeps_70 rfl rfl ?_
    refine ez_bipush 74 dX12_keeps_72 rfl (nI 10) (by decide) ?_
    refine ez_ncmp_ge 77 109 dX12_keeps_74 rfl (by decide) (by omega) (by omega) (fun h74 => ?_) (fun h74 => ?_)
    · refine ez_vret dX12_keeps_109 rfl ?_
      exact ⟨rfl, ⟨h1, h2, h3, fun r hr => ⟨h4 r hr, h5 r (by omega)⟩⟩, hF⟩
    · refine ez_aload_n 78 dX12_keeps_77 rfl rfl ?_
      refine ez_iload_n 79 dX12_keeps_78 rfl rfl ?_
      refine ez_bipush 81 dX12_keeps_79 rfl (nI 13) (by decide) ?_
      refine ez_iadd 82 dX12_keeps_81 rfl ?_
      refine ez_top (nI (a + 13)) (nI_add _ _) ?_
      refine ez_iload 84 dX12_keeps_82 rfl rfl ?_
      refine ez_iadd 85 dX12_keeps_84 rfl ?_
      refine ez_top (nI (a + 13 + t)) (nI_add _ _) ?_
      refine ez_aload_n 86 dX12_keeps_85 rfl rfl ?_
      refine ez_getf 89 (eR 47 0) dX12_keeps_86 rfl fl_X12_29 (by show 0 < 1; omega) rfl ?_
      refine ez_bipush 91 dX12_keeps_89 rfl (nI 10) (by decide) ?_
      refine ez_aload_n 92 dX12_keeps_91 rfl rfl ?_
      refine ez_getf 95 (eR 49 0) dX12_keeps_92 rfl fl_X12_35 (by show 0 < 1; omega) rfl ?_
      refine ez_iload_n 96 dX12_keeps_95 rfl rfl ?_
      refine ez_ialdN w 97 dX12_keeps_96 rfl (by decide) (by show 0 < 1; omega) (by show w < 8; omega) ?_
      refine ez_top (nI mz) R1.2.1 ?_
      refine ez_imul 98 dX12_keeps_97 rfl ?_
      refine ez_top (nI (10 * mz)) (pk_mul _ _) ?_
      refine ez_iload 100 dX12_keeps_98 rfl rfl ?_
      refine ez_iadd 101 dX12_keeps_100 rfl ?_
      refine ez_top (nI (10 * mz + t)) (nI_add _ _) ?_
      refine ez_ialdN (10 * mz + t) 102 dX12_keeps_101 rfl (by decide) (by show 0 < 1; omega) (by show 10 * mz + t < 40; omega) ?_
      refine ez_top (nI (S.2.2.2.2.2 t)) (R1.2.2.2.2.2.2.2 t (by omega)).2 ?_
      refine ez_iastN (a + 13 + t) 103 dX12_keeps_102 rfl (by decide) (by show 0 < 1; omega) (by show a + 13 + t < 4623; omega) ?_
      refine ez_iinc 106 (nI (t + 1)) [(4, eI (nI (t + 1))), (0, eR 12 0), (1, eI (nI w)), (2, eR 57 0), (3, eI (nI a))] dX12_keeps_103 rfl rfl (nI_add t 1) (by decide) rfl ?_
      refine ez_goto 70 dX12_keeps_106 (by decide) ?_
      exact ih (10 - (t + 1)) (by omega) (t + 1) _ rfl (by omega) (by rw [ez_rd, if_neg (by omega)]; exact h1) (by rw [ez_rd, if_neg (by omega)]; exact h2) (by rw [ez_rd, if_neg (by omega)]; exact h3) (fun r hr => by rw [ez_rd, if_neg (by omega)]; exact h4 r hr) (fun r hr => by
        rw [ez_rd]
        by_cases e : r = t
        · rw [if_pos ⟨rfl, rfl, by omega⟩, e]
        · rw [if_neg (by omega)]; exact h5 r (by omega)) (hF.st (by unfold KF; omega))
set_option maxRecDepth 20000 in
theorem lp_keepsA_57 (g : EzH) (d : Nat) {kind mz num : Nat} {S : EpW} {n : Nat} (w a : Nat) (M : EzM) (hw : w < 8) (hmz : mz < 4) (hn : n ≤ 10) (hS : WFS n S) (hR : RMW kind mz num S w M) (ha : a + 23 ≤ 4623) : ∀ (z : Nat) (t : Nat) (M1 : EzM), 10 - t = z → t ≤ 10 → M1.1 57 0 a = nI S.1 → M1.1 57 0 (a + 1) = nI S.2.1 → M1.1 57 0 (a + 2) = S.2.2.1 → (∀ r, r < t → M1.1 57 0 (a + 3 + r) = nI (S.2.2.2.2.1 r)) → FX (KF 57 a) M M1 → Ez (true, g) mX12_keeps d 34 [(4, eI (nI t)), (0, eR 12 0), (1, eI (nI w)), (2, eR 57 0), (3, eI (nI a))] [] M1 (fun r M' => r = none ∧ KP 57 a S M' ∧ FX (KF 57 a) M M') := by
  intro z
  induction z using Nat.strongRecOn with
  | ind z ih =>
    intro t M1 hz ht h1 h2 h3 h5 hF
    have R1 : RMW kind mz num S w M1 := hR.fx hF ⟨by unfold KF; omega, by unfold KF; omega, by unfold KF; omega, by unfold KF; omega, by unfold KF; omega, by unfold KF; omega, by unfold KF; omega, fun r hr => by unfold KF; omega⟩
    have s1 := hS.1
    refine ez_iload 36 dX12_keeps_34 rfl rfl ?_
    refine ez_bipush 38 dX12_keeps_36 rfl (nI 10) (by decide) ?_
    refine ez_ncmp_ge 41 67 dX12_keeps_38 rfl (by decide) (by omega) (by omega) (fun h38 => ?_) (fun h38 => ?_)
    · refine ez_iconst 68 dX12_keeps_67 rfl (nI 0) (by decide) ?_
      refine ez_istore 70 [(4, eI (nI 0)), (0, eR 12 0), (1, eI (nI w)), (2, eR 57 0), (3, eI (nI a))] dX12_keeps_68 rfl (by decide) rfl ?_
      exact lp_keepsB_57 g d w a M hw hmz hn hS hR ha _ 0 M1 rfl (by omega) h1 h2 h3 (fun r hr => h5 r (by omega)) (fun r hr => by omega) hF
    · refine ez_aload_n 42 dX12_keeps_41 rfl rfl ?_
      refine ez_iload_n 43 dX12_keeps_42 rfl rfl ?_
      refine ez_iconst 44 dX12_keeps_43 rfl (nI 3) (by decide) ?_
      refine ez_iadd 45 dX12_keeps_44 rfl ?_
      refine ez_top (nI (a + 3)) (nI_add _ _) ?_
      refine ez_iload 47 dX12_keeps_45 rfl rfl ?_
      refine ez_iadd 48 dX12_keeps_47 rfl ?_
      refine ez_top (nI (a + 3 + t)) (nI_add _ _) ?_
      refine ez_aload_n 49 dX12_keeps_48 rfl rfl ?_
      refine ez_getf 52 (eR 55 0) dX12_keeps_49 rfl fl_X12_53 (by show 0 < 1; omega) rfl ?_
      refine ez_bipush 54 dX12_keeps_52 rfl (nI 10) (by decide) ?_
      refine ez_iload_n 55 dX12_keeps_54 rfl rfl ?_
      refine ez_imul 56 dX12_keeps_55 rfl ?_
      refine ez_top (nI (10 * w)) (pk_mul _ _) ?_
      refine ez_iload 58 dX12_keeps_56 rfl rfl ?_
      refine ez_iadd 59 dX12_keeps_58 rfl ?_
      refine ez_top (nI (10 * w + t)) (nI_add _ _) ?_
      refine ez_ialdN (10 * w + t) 60 dX12_keeps_59 rfl (by decide) (by show 0 < 1; omega) (by show 10 * w + t < 80; omega) ?_
      refine ez_top (nI (S.2.2.2.2.1 t)) (R1.2.2.2.2.2.2.2 t (by omega)).1 ?_
      refine ez_iastN (a + 3 + t) 61 dX12_keeps_60 rfl (by decide) (by show 0 < 1; omega) (by show a + 3 + t < 4623; omega) ?_
      refine ez_iinc 64 (nI (t + 1)) [(4, eI (nI (t + 1))), (0, eR 12 0), (1, eI (nI w)), (2, eR 57 0), (3, eI (nI a))] dX12_keeps_61 rfl rfl (nI_add t 1) (by decide) rfl ?_
      refine ez_goto 34 dX12_keeps_64 (by decide) ?_
      exact ih (10 - (t + 1)) (by omega) (t + 1) _ rfl (by omega) (by rw [ez_rd, if_neg (by omega)]; exact h1) (by rw [ez_rd, if_neg (by omega)]; exact h2) (by rw [ez_rd, if_neg (by omega)]; exact h3) (fun r hr => by
        rw [ez_rd]
        by_cases e : r = t
        · rw [if_pos ⟨rfl, rfl, by omega⟩, e]
        · rw [if_neg (by omega)]; exact h5 r (by omega)) (hF.st (by unfold KF; omega))
set_option maxRecDepth 20000 in
theorem c_keeps_57 (g : EzH) (d : Nat) {kind mz num : Nat} {S : EpW} {n : Nat} (w a : Nat) (M : EzM) (hw : w < 8) (hmz : mz < 4) (hn : n ≤ 10) (hS : WFS n S) (hR : RMW kind mz num S w M) (ha : a + 23 ≤ 4623) : Ezc (true, g) mX12_keeps d [eR 12 0, eI (nI w), eR 57 0, eI (nI a)] M (fun r M' => r = none ∧ KP 57 a S M' ∧ FX (KF 57 a) M M') := by
  refine Ezc.of (by decide +kernel) (Nat.le_of_ble_eq_true rfl) ?_
  have s1 := hS.1
  show Ez (true, g) mX12_keeps d 0 [(0, eR 12 0), (1, eI (nI w)), (2, eR 57 0), (3, eI (nI a))] [] M _
  refine ez_aload_n 1 dX12_keeps_0 rfl rfl ?_
  refine ez_iload_n 2 dX12_keeps_1 rfl rfl ?_
  refine ez_aload_n 3 dX12_keeps_2 rfl rfl ?_
  refine ez_getf 6 (eR 50 0) dX12_keeps_3 rfl fl_X12_38 (by show 0 < 1; omega) rfl ?_
  refine ez_iload_n 7 dX12_keeps_6 rfl rfl ?_
  refine ez_ialdN w 8 dX12_keeps_7 rfl (by decide) (by show 0 < 1; omega) (by show w < 8; omega) ?_
  refine ez_top (nI S.1) hR.2.2.1 ?_
  refine ez_iastN a 9 dX12_keeps_8 rfl (by decide) (by show 0 < 1; omega) (by show a < 4623; omega) ?_
  refine ez_aload_n 10 dX12_keeps_9 rfl rfl ?_
  refine ez_iload_n 11 dX12_keeps_10 rfl rfl ?_
  refine ez_iconst 12 dX12_keeps_11 rfl (nI 1) (by decide) ?_
  refine ez_iadd 13 dX12_keeps_12 rfl ?_
  refine ez_top (nI (a + 1)) (nI_add _ _) ?_
  refine ez_aload_n 14 dX12_keeps_13 rfl rfl ?_
  refine ez_getf 17 (eR 51 0) dX12_keeps_14 rfl fl_X12_41 (by show 0 < 1; omega) rfl ?_
  refine ez_iload_n 18 dX12_keeps_17 rfl rfl ?_
  refine ez_ialdN w 19 dX12_keeps_18 rfl (by decide) (by show 0 < 1; omega) (by show w < 8; omega) ?_
  refine ez_top (M.1 51 0 w) rfl ?_
  refine ez_top (nI S.2.1) hR.2.2.2.1 ?_
  refine ez_iastN (a + 1) 20 dX12_keeps_19 rfl (by decide) (by show 0 < 1; omega) (by show a + 1 < 4623; omega) ?_
  refine ez_aload_n 21 dX12_keeps_20 rfl rfl ?_
  refine ez_iload_n 22 dX12_keeps_21 rfl rfl ?_
  refine ez_iconst 23 dX12_keeps_22 rfl (nI 2) (by decide) ?_
  refine ez_iadd 24 dX12_keeps_23 rfl ?_
  refine ez_top (nI (a + 2)) (nI_add _ _) ?_
  refine ez_aload_n 25 dX12_keeps_24 rfl rfl ?_
  refine ez_getf 28 (eR 53 0) dX12_keeps_25 rfl fl_X12_47 (by show 0 < 1; omega) rfl ?_
  refine ez_iload_n 29 dX12_keeps_28 rfl rfl ?_
  refine ez_ialdN w 30 dX12_keeps_29 rfl (by decide) (by show 0 < 1; omega) (by show w < 8; omega) ?_
  refine ez_top (M.1 53 0 w) rfl ?_
  refine ez_top S.2.2.1 hR.2.2.2.2.2.1 ?_
  refine ez_iastN (a + 2) 31 dX12_keeps_30 rfl (by decide) (by show 0 < 1; omega) (by show a + 2 < 4623; omega) ?_
  refine ez_iconst 32 dX12_keeps_31 rfl (nI 0) (by decide) ?_
  refine ez_istore 34 [(4, eI (nI 0)), (0, eR 12 0), (1, eI (nI w)), (2, eR 57 0), (3, eI (nI a))] dX12_keeps_32 rfl (by decide) rfl ?_
  exact lp_keepsA_57 g d w a M hw hmz hn hS hR ha _ 0 _ rfl (by omega) (by simp [ez_rd]) (by simp [ez_rd]) (by simp [ez_rd]) (fun r hr => by omega) (((FX.rf.st (by unfold KF; omega)).st (by unfold KF; omega)).st (by unfold KF; omega))
set_option maxRecDepth 20000 in
theorem lp_laysB_57 (g : EzH) (d : Nat) {kind mz num : Nat} {S T : EpW} {n : Nat} (w a : Nat) (v : Int32) (M : EzM) (hw : w < 8) (hmz : mz < 4) (hn : n ≤ 10) (hR : RMW kind mz num S w M) (hK : KP 57 a T M) (ha : a + 23 ≤ 4623) : ∀ (z : Nat) (t : Nat) (M1 : EzM), 10 - t = z → t ≤ 10 → M1.1 48 0 w = nI kind ∧ M1.1 49 0 w = nI mz ∧ M1.1 50 0 w = nI T.1 ∧ M1.1 51 0 w = nI T.2.1 ∧ M1.1 52 0 w = nI num ∧ M1.1 53 0 w = T.2.2.1 ∧ M1.1 54 0 w = v → (∀ r, r < 10 → M1.1 55 0 (10 * w + r) = nI (T.2.2.2.2.1 r)) → (∀ r, r < t → M1.1 47 0 (10 * mz + r) = nI (T.2.2.2.2.2 r)) → FX (LF w mz) M M1 → Ez (true, g) mX12_lays d 78 [(5, eI (nI t)), (0, eR 12 0), (1, eI (nI w)), (2, eR 57 0), (3, eI (nI a)), (4, eI v)] [] M1 (fun r M' => r = none ∧ RMW kind mz num (T.1, T.2.1, T.2.2.1, v, T.2.2.2.2.1, T.2.2.2.2.2) w M' ∧ FX (LF w mz) M M') := by
  intro z
  induction z using Nat.strongRecOn with
  | ind z ih =>
    intro t M1 hz ht h0 h4 h5 hF
    have K1 : KP 57 a T M1 := hK.fx hF (fun s _ _ => by unfold LF; omega)
    refine ez_iload 80 dX12_lays_78 rfl rfl ?_
    refine ez_bipush 82 dX12_lays_80 rfl (nI 10) (by decide) ?_
    refine ez_ncmp_ge 85 117 dX12_lays_82 rfl (by decide) (by omega) (by omega) (fun h82 => ?_) (fun h82 => ?_)
    · refine ez_vret dX12_lays_117 rfl ?_
      exact ⟨rfl, ⟨h0.1, h0.2.1, h0.2.2.1, h0.2.2.2.1, h0.2.2.2.2.1, h0.2.2.2.2.2.1, h0.2.2.2.2.2.2, fun r hr => ⟨h4 r hr, h5 r (by omega)⟩⟩, hF⟩
    · refine ez_aload_n 86 dX12_lays_85 rfl rfl ?_
      refine ez_getf 89 (eR 47 0) dX12_lays_86 rfl fl_X12_29 (by show 0 < 1; omega) rfl ?_
      refine ez_bipush 91 dX12_lays_89 rfl (nI 10) (by decide) ?_
      refine ez_aload_n 92 dX12_lays_91 rfl rfl ?_
      refine ez_getf 95 (eR 49 0) dX12_lays_92 rfl fl_X12_35 (by show 0 < 1; omega) rfl ?_
      refine ez_iload_n 96 dX12_lays_95 rfl rfl ?_
      refine ez_ialdN w 97 dX12_lays_96 rfl (by decide) (by show 0 < 1; omega) (by show w < 8; omega) ?_
      refine ez_top (nI mz) h0.2.1 ?_
      refine ez_imul 98 dX12_lays_97 rfl ?_
      refine ez_top (nI (10 * mz)) (pk_mul _ _) ?_
      refine ez_iload 100 dX12_lays_98 rfl rfl ?_
      refine ez_iadd 101 dX12_lays_100 rfl ?_
      refine ez_top (nI (10 * mz + t)) (nI_add _ _) ?_
      refine ez_aload_n 102 dX12_lays_101 rfl rfl ?_
      refine ez_iload_n 103 dX12_lays_102 rfl rfl ?_
      refine ez_bipush 105 dX12_lays_103 rfl (nI 13) (by decide) ?_
      refine ez_iadd 106 dX12_lays_105 rfl ?_
      refine ez_top (nI (a + 13)) (nI_add _ _) ?_
      refine ez_iload 108 dX12_lays_106 rfl rfl ?_
      refine ez_iadd 109 dX12_lays_108 rfl ?_
      refine ez_top (nI (a + 13 + t)) (nI_add _ _) ?_
      refine ez_ialdN (a + 13 + t) 110 dX12_lays_109 rfl (by decide) (by show 0 < 1; omega) (by show a + 13 + t < 4623; omega) ?_
      refine ez_top (nI (T.2.2.2.2.2 t)) (K1.2.2.2 t (by omega)).2 ?_
      refine ez_iastN (10 * mz + t) 111 dX12_lays_110 rfl (by decide) (by show 0 < 1; omega) (by show 10 * mz + t < 40; omega) ?_
      refine ez_iinc 114 (nI (t + 1)) [(5, eI (nI (t + 1))), (0, eR 12 0), (1, eI (nI w)), (2, eR 57 0), (3, eI (nI a)), (4, eI v)] dX12_lays_111 rfl rfl (nI_add t 1) (by decide) rfl ?_
      refine ez_goto 78 dX12_lays_114 (by decide) ?_
      exact ih (10 - (t + 1)) (by omega) (t + 1) _ rfl (by omega) ⟨by rw [ez_rd, if_neg (by omega)]; exact h0.1, by rw [ez_rd, if_neg (by omega)]; exact h0.2.1, by rw [ez_rd, if_neg (by omega)]; exact h0.2.2.1, by rw [ez_rd, if_neg (by omega)]; exact h0.2.2.2.1, by rw [ez_rd, if_neg (by omega)]; exact h0.2.2.2.2.1, by rw [ez_rd, if_neg (by omega)]; exact h0.2.2.2.2.2.1, by rw [ez_rd, if_neg (by omega)]; exact h0.2.2.2.2.2.2⟩ (fun r hr => by rw [ez_rd, if_neg (by omega)]; exact h4 r hr) (fun r hr => by
        rw [ez_rd]
        by_cases e : r = t
        · rw [if_pos ⟨rfl, rfl, by omega⟩, e]
        · rw [if_neg (by omega)]; exact h5 r (by omega)) (hF.st (by unfold LF; omega))
set_option maxRecDepth 20000 in
theorem lp_laysA_57 (g : EzH) (d : Nat) {kind mz num : Nat} {S T : EpW} {n : Nat} (w a : Nat) (v : Int32) (M : EzM) (hw : w < 8) (hmz : mz < 4) (hn : n ≤ 10) (hR : RMW kind mz num S w M) (hK : KP 57 a T M) (ha : a + 23 ≤ 4623) : ∀ (z : Nat) (t : Nat) (M1 : EzM), 10 - t = z → t ≤ 10 → M1.1 48 0 w = nI kind ∧ M1.1 49 0 w = nI mz ∧ M1.1 50 0 w = nI T.1 ∧ M1.1 51 0 w = nI T.2.1 ∧ M1.1 52 0 w = nI num ∧ M1.1 53 0 w = T.2.2.1 ∧ M1.1 54 0 w = v → (∀ r, r < t → M1.1 55 0 (10 * w + r) = nI (T.2.2.2.2.1 r)) → FX (LF w mz) M M1 → Ez (true, g) mX12_lays d 42 [(5, eI (nI t)), (0, eR 12 0), (1, eI (nI w)), (2, eR 57 0), (3, eI (nI a)), (4, eI v)] [] M1 (fun r M' => r = none ∧ RMW kind mz num (T.1, T.2.1, T.2.2.1, v, T.2.2.2.2.1, T.2.2.2.2.2) w M' ∧ FX (LF w mz) M M') := by
  intro z
  induction z using Nat.strongRecOn with
  | ind z ih =>
    intro t M1 hz ht h0 h5 hF
    have K1 : KP 57 a T M1 := hK.fx hF (fun s _ _ => by unfold LF; omega)
    refine ez_iload 44 dX12_lays_42 rfl rfl ?_
    refine ez_bipush 46 dX12_lays_44 rfl (nI 10) (by decide) ?_
    refine ez_ncmp_ge 49 75 dX12_lays_46 rfl (by decide) (by omega) (by omega) (fun h46 => ?_) (fun h46 => ?_)
    · refine ez_iconst 76 dX12_lays_75 rfl (nI 0) (by decide) ?_
      refine ez_istore 78 [(5, eI (nI 0)), (0, eR 12 0), (1, eI (nI w)), (2, eR 57 0), (3, eI (nI a)), (4, eI v)] dX12_lays_76 rfl (by decide) rfl ?_
      exact lp_laysB_57 g d (n := n) (S := S) w a v M hw hmz hn hR hK ha _ 0 M1 rfl (by omega) h0 (fun r hr => h5 r (by omega)) (fun r hr => by omega) hF
    · refine ez_aload_n 50 dX12_lays_49 rfl rfl ?_
      refine ez_getf 53 (eR 55 0) dX12_lays_50 rfl fl_X12_53 (by show 0 < 1; omega) rfl ?_
      refine ez_bipush 55 dX12_lays_53 rfl (nI 10) (by decide) ?_
      refine ez_iload_n 56 dX12_lays_55 rfl rfl ?_
      refine ez_imul 57 dX12_lays_56 rfl ?_
      refine ez_top (nI (10 * w)) (pk_mul _ _) ?_
      refine ez_iload 59 dX12_lays_57 rfl rfl ?_
      refine ez_iadd 60 dX12_lays_59 rfl ?_
      refine ez_top (nI (10 * w + t)) (nI_add _ _) ?_
      refine ez_aload_n 61 dX12_lays_60 rfl rfl ?_
      refine ez_iload_n 62 dX12_lays_61 rfl rfl ?_
      refine ez_iconst 63 dX12_lays_62 rfl (nI 3) (by decide) ?_
      refine ez_iadd 64 dX12_lays_63 rfl ?_
      refine ez_top (nI (a + 3)) (nI_add _ _) ?_
      refine ez_iload 66 dX12_lays_64 rfl rfl ?_
      refine ez_iadd 67 dX12_lays_66 rfl ?_
      refine ez_top (nI (a + 3 + t)) (nI_add _ _) ?_
      refine ez_ialdN (a + 3 + t) 68 dX12_lays_67 rfl (by decide) (by show 0 < 1; omega) (by show a + 3 + t < 4623; omega) ?_
      refine ez_top (nI (T.2.2.2.2.1 t)) (K1.2.2.2 t (by omega)).1 ?_
      refine ez_iastN (10 * w + t) 69 dX12_lays_68 rfl (by decide) (by show 0 < 1; omega) (by show 10 * w + t < 80; omega) ?_
      refine ez_iinc 72 (nI (t + 1)) [(5, eI (nI (t + 1))), (0, eR 12 0), (1, eI (nI w)), (2, eR 57 0), (3, eI (nI a)), (4, eI v)] dX12_lays_69 rfl rfl (nI_add t 1) (by decide) rfl ?_
      refine ez_goto 42 dX12_lays_72 (by decide) ?_
      exact ih (10 - (t + 1)) (by omega) (t + 1) _ rfl (by omega) ⟨by rw [ez_rd, if_neg (by omega)]; exact h0.1, by rw [ez_rd, if_neg (by omega)]; exact h0.2.1, by rw [ez_rd, if_neg (by omega)]; exact h0.2.2.1, by rw [ez_rd, if_neg (by omega)]; exact h0.2.2.2.1, by rw [ez_rd, if_neg (by omega)]; exact h0.2.2.2.2.1, by rw [ez_rd, if_neg (by omega)]; exact h0.2.2.2.2.2.1, by rw [ez_rd, if_neg (by omega)]; exact h0.2.2.2.2.2.2⟩ (fun r hr => by
        rw [ez_rd]
        by_cases e : r = t
        · rw [if_pos ⟨rfl, rfl, by omega⟩, e]
        · rw [if_neg (by omega)]; exact h5 r (by omega)) (hF.st (by unfold LF; omega))
set_option maxRecDepth 20000 in
theorem c_lays_57 (g : EzH) (d : Nat) {kind mz num : Nat} {S T : EpW} {n : Nat} (w a : Nat) (v : Int32) (M : EzM) (hw : w < 8) (hmz : mz < 4) (hn : n ≤ 10) (hR : RMW kind mz num S w M) (hK : KP 57 a T M) (ha : a + 23 ≤ 4623) : Ezc (true, g) mX12_lays d [eR 12 0, eI (nI w), eR 57 0, eI (nI a), eI v] M (fun r M' => r = none ∧ RMW kind mz num (T.1, T.2.1, T.2.2.1, v, T.2.2.2.2.1, T.2.2.2.2.2) w M' ∧ FX (LF w mz) M M') := by
  refine Ezc.of (by decide +kernel) (Nat.le_of_ble_eq_true rfl) ?_
  show Ez (true, g) mX12_lays d 0 [(0, eR 12 0), (1, eI (nI w)), (2, eR 57 0), (3, eI (nI a)), (4, eI v)] [] M _
  refine ez_aload_n 1 dX12_lays_0 rfl rfl ?_
  refine ez_getf 4 (eR 50 0) dX12_lays_1 rfl fl_X12_38 (by show 0 < 1; omega) rfl ?_
  refine ez_iload_n 5 dX12_lays_4 rfl rfl ?_
  refine ez_aload_n 6 dX12_lays_5 rfl rfl ?_
  refine ez_iload_n 7 dX12_lays_6 rfl rfl ?_
  refine ez_ialdN a 8 dX12_lays_7 rfl (by decide) (by show 0 < 1; omega) (by show a < 4623; omega) ?_
  refine ez_top (nI T.1) hK.1 ?_
  refine ez_iastN w 9 dX12_lays_8 rfl (by decide) (by show 0 < 1; omega) (by show w < 8; omega) ?_
  refine ez_aload_n 10 dX12_lays_9 rfl rfl ?_
  refine ez_getf 13 (eR 51 0) dX12_lays_10 rfl fl_X12_41 (by show 0 < 1; omega) rfl ?_
  refine ez_iload_n 14 dX12_lays_13 rfl rfl ?_
  refine ez_aload_n 15 dX12_lays_14 rfl rfl ?_
  refine ez_iload_n 16 dX12_lays_15 rfl rfl ?_
  refine ez_iconst 17 dX12_lays_16 rfl (nI 1) (by decide) ?_
  refine ez_iadd 18 dX12_lays_17 rfl ?_
  refine ez_top (nI (a + 1)) (nI_add _ _) ?_
  refine ez_ialdN (a + 1) 19 dX12_lays_18 rfl (by decide) (by show 0 < 1; omega) (by show a + 1 < 4623; omega) ?_
  refine ez_top (M.1 57 0 (a + 1)) rfl ?_
  refine ez_top (nI T.2.1) hK.2.1 ?_
  refine ez_iastN w 20 dX12_lays_19 rfl (by decide) (by show 0 < 1; omega) (by show w < 8; omega) ?_
  refine ez_aload_n 21 dX12_lays_20 rfl rfl ?_
  refine ez_getf 24 (eR 53 0) dX12_lays_21 rfl fl_X12_47 (by show 0 < 1; omega) rfl ?_
  refine ez_iload_n 25 dX12_lays_24 rfl rfl ?_
  refine ez_aload_n 26 dX12_lays_25 rfl rfl ?_
  refine ez_iload_n 27 dX12_lays_26 rfl rfl ?_
  refine ez_iconst 28 dX12_lays_27 rfl (nI 2) (by decide) ?_
  refine ez_iadd 29 dX12_lays_28 rfl ?_
  refine ez_top (nI (a + 2)) (nI_add _ _) ?_
  refine ez_ialdN (a + 2) 30 dX12_lays_29 rfl (by decide) (by show 0 < 1; omega) (by show a + 2 < 4623; omega) ?_
  refine ez_top (M.1 57 0 (a + 2)) rfl ?_
  refine ez_top T.2.2.1 hK.2.2.1 ?_
  refine ez_iastN w 31 dX12_lays_30 rfl (by decide) (by show 0 < 1; omega) (by show w < 8; omega) ?_
  refine ez_aload_n 32 dX12_lays_31 rfl rfl ?_
  refine ez_getf 35 (eR 54 0) dX12_lays_32 rfl fl_X12_50 (by show 0 < 1; omega) rfl ?_
  refine ez_iload_n 36 dX12_lays_35 rfl rfl ?_
  refine ez_iload 38 dX12_lays_36 rfl rfl ?_
  refine ez_iastN w 39 dX12_lays_38 rfl (by decide) (by show 0 < 1; omega) (by show w < 8; omega) ?_
  refine ez_iconst 40 dX12_lays_39 rfl (nI 0) (by decide) ?_
  refine ez_istore 42 [(5, eI (nI 0)), (0, eR 12 0), (1, eI (nI w)), (2, eR 57 0), (3, eI (nI a)), (4, eI v)] dX12_lays_40 rfl (by decide) rfl ?_
  have hF0 : FX (LF w mz) M (ez_st (ez_st (ez_st (ez_st M 50 0 w (nI T.1)) 51 0 w (nI T.2.1)) 53 0 w T.2.2.1) 54 0 w v) := ((((FX.rf.st (by unfold LF; omega)).st (by unfold LF; omega)).st (by unfold LF; omega)).st (by unfold LF; omega))
  exact lp_laysA_57 g d (n := n) (S := S) w a v M hw hmz hn hR hK ha _ 0 _ rfl (by omega) ⟨by simp [ez_rd]; exact hR.1, by simp [ez_rd]; exact hR.2.1, by simp [ez_rd], by simp [ez_rd], by simp [ez_rd]; exact hR.2.2.2.2.1, by simp [ez_rd], by simp [ez_rd]⟩ (fun r hr => by omega) hF0
set_option maxRecDepth 20000 in
theorem lp_keepsB_67 (g : EzH) (d : Nat) {kind mz num : Nat} {S : EpW} {n : Nat} (w a : Nat) (M : EzM) (hw : w < 8) (hmz : mz < 4) (hn : n ≤ 10) (hS : WFS n S) (hR : RMW kind mz num S w M) (ha : a + 23 ≤ 184) : ∀ (z : Nat) (t : Nat) (M1 : EzM), 10 - t = z → t ≤ 10 → M1.1 67 0 a = nI S.1 → M1.1 67 0 (a + 1) = nI S.2.1 → M1.1 67 0 (a + 2) = S.2.2.1 → (∀ r, r < 10 → M1.1 67 0 (a + 3 + r) = nI (S.2.2.2.2.1 r)) → (∀ r, r < t → M1.1 67 0 (a + 13 + r) = nI (S.2.2.2.2.2 r)) → FX (KF 67 a) M M1 → Ez (true, g) mX12_keeps d 70 [(4, eI (nI t)), (0, eR 12 0), (1, eI (nI w)), (2, eR 67 0), (3, eI (nI a))] [] M1 (fun r M' => r = none ∧ KP 67 a S M' ∧ FX (KF 67 a) M M') := by
  intro z
  induction z using Nat.strongRecOn with
  | ind z ih =>
    intro t M1 hz ht h1 h2 h3 h4 h5 hF
    have R1 : RMW kind mz num S w M1 := hR.fx hF ⟨by unfold KF; omega, by unfold KF; omega, by unfold KF; omega, by unfold KF; omega, by unfold KF; omega, by unfold KF; omega, by unfold KF; omega, fun r hr => by unfold KF; omega⟩
    have s1 := hS.1
    refine ez_iload 72 dX12_keeps_70 rfl rfl ?_
    refine ez_bipush 74 dX12_keeps_72 rfl (nI 10) (by decide) ?_
    refine ez_ncmp_ge 77 109 dX12_keeps_74 rfl (by decide) (by omega) (by omega) (fun h74 => ?_) (fun h74 => ?_)
    · refine ez_vret dX12_keeps_109 rfl ?_
      exact ⟨rfl, ⟨h1, h2, h3, fun r hr => ⟨h4 r hr, h5 r (by omega)⟩⟩, hF⟩
    · refine ez_aload_n 78 dX12_keeps_77 rfl rfl ?_
      refine ez_iload_n 79 dX12_keeps_78 rfl rfl ?_
      refine ez_bipush 81 dX12_keeps_79 rfl (nI 13) (by decide) ?_
      refine ez_iadd 82 dX12_keeps_81 rfl ?_
      refine ez_top (nI (a + 13)) (nI_add _ _) ?_
      refine ez_iload 84 dX12_keeps_82 rfl rfl ?_
      refine ez_iadd 85 dX12_keeps_84 rfl ?_
      refine ez_top (nI (a + 13 + t)) (nI_add _ _) ?_
      refine ez_aload_n 86 dX12_keeps_85 rfl rfl ?_
      refine ez_getf 89 (eR 47 0) dX12_keeps_86 rfl fl_X12_29 (by show 0 < 1; omega) rfl ?_
      refine ez_bipush 91 dX12_keeps_89 rfl (nI 10) (by decide) ?_
      refine ez_aload_n 92 dX12_keeps_91 rfl rfl ?_
      refine ez_getf 95 (eR 49 0) dX12_keeps_92 rfl fl_X12_35 (by show 0 < 1; omega) rfl ?_
      refine ez_iload_n 96 dX12_keeps_95 rfl rfl ?_
      refine ez_ialdN w 97 dX12_keeps_96 rfl (by decide) (by show 0 < 1; omega) (by show w < 8; omega) ?_
      refine ez_top (nI mz) R1.2.1 ?_
      refine ez_imul 98 dX12_keeps_97 rfl ?_
      refine ez_top (nI (10 * mz)) (pk_mul _ _) ?_
      refine ez_iload 100 dX12_keeps_98 rfl rfl ?_
      refine ez_iadd 101 dX12_keeps_100 rfl ?_
      refine ez_top (nI (10 * mz + t)) (nI_add _ _) ?_
      refine ez_ialdN (10 * mz + t) 102 dX12_keeps_101 rfl (by decide) (by show 0 < 1; omega) (by show 10 * mz + t < 40; omega) ?_
      refine ez_top (nI (S.2.2.2.2.2 t)) (R1.2.2.2.2.2.2.2 t (by omega)).2 ?_
      refine ez_iastN (a + 13 + t) 103 dX12_keeps_102 rfl (by decide) (by show 0 < 1; omega) (by show a + 13 + t < 184; omega) ?_
      refine ez_iinc 106 (nI (t + 1)) [(4, eI (nI (t + 1))), (0, eR 12 0), (1, eI (nI w)), (2, eR 67 0), (3, eI (nI a))] dX12_keeps_103 rfl rfl (nI_add t 1) (by decide) rfl ?_
      refine ez_goto 70 dX12_keeps_106 (by decide) ?_
      exact ih (10 - (t + 1)) (by omega) (t + 1) _ rfl (by omega) (by rw [ez_rd, if_neg (by omega)]; exact h1) (by rw [ez_rd, if_neg (by omega)]; exact h2) (by rw [ez_rd, if_neg (by omega)]; exact h3) (fun r hr => by rw [ez_rd, if_neg (by omega)]; exact h4 r hr) (fun r hr => by
        rw [ez_rd]
        by_cases e : r = t
        · rw [if_pos ⟨rfl, rfl, by omega⟩, e]
        · rw [if_neg (by omega)]; exact h5 r (by omega)) (hF.st (by unfold KF; omega))
set_option maxRecDepth 20000 in
theorem lp_keepsA_67 (g : EzH) (d : Nat) {kind mz num : Nat} {S : EpW} {n : Nat} (w a : Nat) (M : EzM) (hw : w < 8) (hmz : mz < 4) (hn : n ≤ 10) (hS : WFS n S) (hR : RMW kind mz num S w M) (ha : a + 23 ≤ 184) : ∀ (z : Nat) (t : Nat) (M1 : EzM), 10 - t = z → t ≤ 10 → M1.1 67 0 a = nI S.1 → M1.1 67 0 (a + 1) = nI S.2.1 → M1.1 67 0 (a + 2) = S.2.2.1 → (∀ r, r < t → M1.1 67 0 (a + 3 + r) = nI (S.2.2.2.2.1 r)) → FX (KF 67 a) M M1 → Ez (true, g) mX12_keeps d 34 [(4, eI (nI t)), (0, eR 12 0), (1, eI (nI w)), (2, eR 67 0), (3, eI (nI a))] [] M1 (fun r M' => r = none ∧ KP 67 a S M' ∧ FX (KF 67 a) M M') := by
  intro z
  induction z using Nat.strongRecOn with
  | ind z ih =>
    intro t M1 hz ht h1 h2 h3 h5 hF
    have R1 : RMW kind mz num S w M1 := hR.fx hF ⟨by unfold KF; omega, by unfold KF; omega, by unfold KF; omega, by unfold KF; omega, by unfold KF; omega, by unfold KF; omega, by unfold KF; omega, fun r hr => by unfold KF; omega⟩
    have s1 := hS.1
    refine ez_iload 36 dX12_keeps_34 rfl rfl ?_
    refine ez_bipush 38 dX12_keeps_36 rfl (nI 10) (by decide) ?_
    refine ez_ncmp_ge 41 67 dX12_keeps_38 rfl (by decide) (by omega) (by omega) (fun h38 => ?_) (fun h38 => ?_)
    · refine ez_iconst 68 dX12_keeps_67 rfl (nI 0) (by decide) ?_
      refine ez_istore 70 [(4, eI (nI 0)), (0, eR 12 0), (1, eI (nI w)), (2, eR 67 0), (3, eI (nI a))] dX12_keeps_68 rfl (by decide) rfl ?_
      exact lp_keepsB_67 g d w a M hw hmz hn hS hR ha _ 0 M1 rfl (by omega) h1 h2 h3 (fun r hr => h5 r (by omega)) (fun r hr => by omega) hF
    · refine ez_aload_n 42 dX12_keeps_41 rfl rfl ?_
      refine ez_iload_n 43 dX12_keeps_42 rfl rfl ?_
      refine ez_iconst 44 dX12_keeps_43 rfl (nI 3) (by decide) ?_
      refine ez_iadd 45 dX12_keeps_44 rfl ?_
      refine ez_top (nI (a + 3)) (nI_add _ _) ?_
      refine ez_iload 47 dX12_keeps_45 rfl rfl ?_
      refine ez_iadd 48 dX12_keeps_47 rfl ?_
      refine ez_top (nI (a + 3 + t)) (nI_add _ _) ?_
      refine ez_aload_n 49 dX12_keeps_48 rfl rfl ?_
      refine ez_getf 52 (eR 55 0) dX12_keeps_49 rfl fl_X12_53 (by show 0 < 1; omega) rfl ?_
      refine ez_bipush 54 dX12_keeps_52 rfl (nI 10) (by decide) ?_
      refine ez_iload_n 55 dX12_keeps_54 rfl rfl ?_
      refine ez_imul 56 dX12_keeps_55 rfl ?_
      refine ez_top (nI (10 * w)) (pk_mul _ _) ?_
      refine ez_iload 58 dX12_keeps_56 rfl rfl ?_
      refine ez_iadd 59 dX12_keeps_58 rfl ?_
      refine ez_top (nI (10 * w + t)) (nI_add _ _) ?_
      refine ez_ialdN (10 * w + t) 60 dX12_keeps_59 rfl (by decide) (by show 0 < 1; omega) (by show 10 * w + t < 80; omega) ?_
      refine ez_top (nI (S.2.2.2.2.1 t)) (R1.2.2.2.2.2.2.2 t (by omega)).1 ?_
      refine ez_iastN (a + 3 + t) 61 dX12_keeps_60 rfl (by decide) (by show 0 < 1; omega) (by show a + 3 + t < 184; omega) ?_
      refine ez_iinc 64 (nI (t + 1)) [(4, eI (nI (t + 1))), (0, eR 12 0), (1, eI (nI w)), (2, eR 67 0), (3, eI (nI a))] dX12_keeps_61 rfl rfl (nI_add t 1) (by decide) rfl ?_
      refine ez_goto 34 dX12_keeps_64 (by decide) ?_
      exact ih (10 - (t + 1)) (by omega) (t + 1) _ rfl (by omega) (by rw [ez_rd, if_neg (by omega)]; exact h1) (by rw [ez_rd, if_neg (by omega)]; exact h2) (by rw [ez_rd, if_neg (by omega)]; exact h3) (fun r hr => by
        rw [ez_rd]
        by_cases e : r = t
        · rw [if_pos ⟨rfl, rfl, by omega⟩, e]
        · rw [if_neg (by omega)]; exact h5 r (by omega)) (hF.st (by unfold KF; omega))
set_option maxRecDepth 20000 in
theorem c_keeps_67 (g : EzH) (d : Nat) {kind mz num : Nat} {S : EpW} {n : Nat} (w a : Nat) (M : EzM) (hw : w < 8) (hmz : mz < 4) (hn : n ≤ 10) (hS : WFS n S) (hR : RMW kind mz num S w M) (ha : a + 23 ≤ 184) : Ezc (true, g) mX12_keeps d [eR 12 0, eI (nI w), eR 67 0, eI (nI a)] M (fun r M' => r = none ∧ KP 67 a S M' ∧ FX (KF 67 a) M M') := by
  refine Ezc.of (by decide +kernel) (Nat.le_of_ble_eq_true rfl) ?_
  have s1 := hS.1
  show Ez (true, g) mX12_keeps d 0 [(0, eR 12 0), (1, eI (nI w)), (2, eR 67 0), (3, eI (nI a))] [] M _
  refine ez_aload_n 1 dX12_keeps_0 rfl rfl ?_
  refine ez_iload_n 2 dX12_keeps_1 rfl rfl ?_
  refine ez_aload_n 3 dX12_keeps_2 rfl rfl ?_
  refine ez_getf 6 (eR 50 0) dX12_keeps_3 rfl fl_X12_38 (by show 0 < 1; omega) rfl ?_
  refine ez_iload_n 7 dX12_keeps_6 rfl rfl ?_
  refine ez_ialdN w 8 dX12_keeps_7 rfl (by decide) (by show 0 < 1; omega) (by show w < 8; omega) ?_
  refine ez_top (nI S.1) hR.2.2.1 ?_
  refine ez_iastN a 9 dX12_keeps_8 rfl (by decide) (by show 0 < 1; omega) (by show a < 184; omega) ?_
  refine ez_aload_n 10 dX12_keeps_9 rfl rfl ?_
  refine ez_iload_n 11 dX12_keeps_10 rfl rfl ?_
  refine ez_iconst 12 dX12_keeps_11 rfl (nI 1) (by decide) ?_
  refine ez_iadd 13 dX12_keeps_12 rfl ?_
  refine ez_top (nI (a + 1)) (nI_add _ _) ?_
  refine ez_aload_n 14 dX12_keeps_13 rfl rfl ?_
  refine ez_getf 17 (eR 51 0) dX12_keeps_14 rfl fl_X12_41 (by show 0 < 1; omega) rfl ?_
  refine ez_iload_n 18 dX12_keeps_17 rfl rfl ?_
  refine ez_ialdN w 19 dX12_keeps_18 rfl (by decide) (by show 0 < 1; omega) (by show w < 8; omega) ?_
  refine ez_top (M.1 51 0 w) rfl ?_
  refine ez_top (nI S.2.1) hR.2.2.2.1 ?_
  refine ez_iastN (a + 1) 20 dX12_keeps_19 rfl (by decide) (by show 0 < 1; omega) (by show a + 1 < 184; omega) ?_
  refine ez_aload_n 21 dX12_keeps_20 rfl rfl ?_
  refine ez_iload_n 22 dX12_keeps_21 rfl rfl ?_
  refine ez_iconst 23 dX12_keeps_22 rfl (nI 2) (by decide) ?_
  refine ez_iadd 24 dX12_keeps_23 rfl ?_
  refine ez_top (nI (a + 2)) (nI_add _ _) ?_
  refine ez_aload_n 25 dX12_keeps_24 rfl rfl ?_
  refine ez_getf 28 (eR 53 0) dX12_keeps_25 rfl fl_X12_47 (by show 0 < 1; omega) rfl ?_
  refine ez_iload_n 29 dX12_keeps_28 rfl rfl ?_
  refine ez_ialdN w 30 dX12_keeps_29 rfl (by decide) (by show 0 < 1; omega) (by show w < 8; omega) ?_
  refine ez_top (M.1 53 0 w) rfl ?_
  refine ez_top S.2.2.1 hR.2.2.2.2.2.1 ?_
  refine ez_iastN (a + 2) 31 dX12_keeps_30 rfl (by decide) (by show 0 < 1; omega) (by show a + 2 < 184; omega) ?_
  refine ez_iconst 32 dX12_keeps_31 rfl (nI 0) (by decide) ?_
  refine ez_istore 34 [(4, eI (nI 0)), (0, eR 12 0), (1, eI (nI w)), (2, eR 67 0), (3, eI (nI a))] dX12_keeps_32 rfl (by decide) rfl ?_
  exact lp_keepsA_67 g d w a M hw hmz hn hS hR ha _ 0 _ rfl (by omega) (by simp [ez_rd]) (by simp [ez_rd]) (by simp [ez_rd]) (fun r hr => by omega) (((FX.rf.st (by unfold KF; omega)).st (by unfold KF; omega)).st (by unfold KF; omega))
set_option maxRecDepth 20000 in
theorem lp_laysB_67 (g : EzH) (d : Nat) {kind mz num : Nat} {S T : EpW} {n : Nat} (w a : Nat) (v : Int32) (M : EzM) (hw : w < 8) (hmz : mz < 4) (hn : n ≤ 10) (hR : RMW kind mz num S w M) (hK : KP 67 a T M) (ha : a + 23 ≤ 184) : ∀ (z : Nat) (t : Nat) (M1 : EzM), 10 - t = z → t ≤ 10 → M1.1 48 0 w = nI kind ∧ M1.1 49 0 w = nI mz ∧ M1.1 50 0 w = nI T.1 ∧ M1.1 51 0 w = nI T.2.1 ∧ M1.1 52 0 w = nI num ∧ M1.1 53 0 w = T.2.2.1 ∧ M1.1 54 0 w = v → (∀ r, r < 10 → M1.1 55 0 (10 * w + r) = nI (T.2.2.2.2.1 r)) → (∀ r, r < t → M1.1 47 0 (10 * mz + r) = nI (T.2.2.2.2.2 r)) → FX (LF w mz) M M1 → Ez (true, g) mX12_lays d 78 [(5, eI (nI t)), (0, eR 12 0), (1, eI (nI w)), (2, eR 67 0), (3, eI (nI a)), (4, eI v)] [] M1 (fun r M' => r = none ∧ RMW kind mz num (T.1, T.2.1, T.2.2.1, v, T.2.2.2.2.1, T.2.2.2.2.2) w M' ∧ FX (LF w mz) M M') := by
  intro z
  induction z using Nat.strongRecOn with
  | ind z ih =>
    intro t M1 hz ht h0 h4 h5 hF
    have K1 : KP 67 a T M1 := hK.fx hF (fun s _ _ => by unfold LF; omega)
    refine ez_iload 80 dX12_lays_78 rfl rfl ?_
    refine ez_bipush 82 dX12_lays_80 rfl (nI 10) (by decide) ?_
    refine ez_ncmp_ge 85 117 dX12_lays_82 rfl (by decide) (by omega) (by omega) (fun h82 => ?_) (fun h82 => ?_)
    · refine ez_vret dX12_lays_117 rfl ?_
      exact ⟨rfl, ⟨h0.1, h0.2.1, h0.2.2.1, h0.2.2.2.1, h0.2.2.2.2.1, h0.2.2.2.2.2.1, h0.2.2.2.2.2.2, fun r hr => ⟨h4 r hr, h5 r (by omega)⟩⟩, hF⟩
    · refine ez_aload_n 86 dX12_lays_85 rfl rfl ?_
      refine ez_getf 89 (eR 47 0) dX12_lays_86 rfl fl_X12_29 (by show 0 < 1; omega) rfl ?_
      refine ez_bipush 91 dX12_lays_89 rfl (nI 10) (by decide) ?_
      refine ez_aload_n 92 dX12_lays_91 rfl rfl ?_
      refine ez_getf 95 (eR 49 0) dX12_lays_92 rfl fl_X12_35 (by show 0 < 1; omega) rfl ?_
      refine ez_iload_n 96 dX12_lays_95 rfl rfl ?_
      refine ez_ialdN w 97 dX12_lays_96 rfl (by decide) (by show 0 < 1; omega) (by show w < 8; omega) ?_
      refine ez_top (nI mz) h0.2.1 ?_
      refine ez_imul 98 dX12_lays_97 rfl ?_
      refine ez_top (nI (10 * mz)) (pk_mul _ _) ?_
      refine ez_iload 100 dX12_lays_98 rfl rfl ?_
      refine ez_iadd 101 dX12_lays_100 rfl ?_
      refine ez_top (nI (10 * mz + t)) (nI_add _ _) ?_
      refine ez_aload_n 102 dX12_lays_101 rfl rfl ?_
      refine ez_iload_n 103 dX12_lays_102 rfl rfl ?_
      refine ez_bipush 105 dX12_lays_103 rfl (nI 13) (by decide) ?_
      refine ez_iadd 106 dX12_lays_105 rfl ?_
      refine ez_top (nI (a + 13)) (nI_add _ _) ?_
      refine ez_iload 108 dX12_lays_106 rfl rfl ?_
      refine ez_iadd 109 dX12_lays_108 rfl ?_
      refine ez_top (nI (a + 13 + t)) (nI_add _ _) ?_
      refine ez_ialdN (a + 13 + t) 110 dX12_lays_109 rfl (by decide) (by show 0 < 1; omega) (by show a + 13 + t < 184; omega) ?_
      refine ez_top (nI (T.2.2.2.2.2 t)) (K1.2.2.2 t (by omega)).2 ?_
      refine ez_iastN (10 * mz + t) 111 dX12_lays_110 rfl (by decide) (by show 0 < 1; omega) (by show 10 * mz + t < 40; omega) ?_
      refine ez_iinc 114 (nI (t + 1)) [(5, eI (nI (t + 1))), (0, eR 12 0), (1, eI (nI w)), (2, eR 67 0), (3, eI (nI a)), (4, eI v)] dX12_lays_111 rfl rfl (nI_add t 1) (by decide) rfl ?_
      refine ez_goto 78 dX12_lays_114 (by decide) ?_
      exact ih (10 - (t + 1)) (by omega) (t + 1) _ rfl (by omega) ⟨by rw [ez_rd, if_neg (by omega)]; exact h0.1, by rw [ez_rd, if_neg (by omega)]; exact h0.2.1, by rw [ez_rd, if_neg (by omega)]; exact h0.2.2.1, by rw [ez_rd, if_neg (by omega)]; exact h0.2.2.2.1, by rw [ez_rd, if_neg (by omega)]; exact h0.2.2.2.2.1, by rw [ez_rd, if_neg (by omega)]; exact h0.2.2.2.2.2.1, by rw [ez_rd, if_neg (by omega)]; exact h0.2.2.2.2.2.2⟩ (fun r hr => by rw [ez_rd, if_neg (by omega)]; exact h4 r hr) (fun r hr => by
        rw [ez_rd]
        by_cases e : r = t
        · rw [if_pos ⟨rfl, rfl, by omega⟩, e]
        · rw [if_neg (by omega)]; exact h5 r (by omega)) (hF.st (by unfold LF; omega))
set_option maxRecDepth 20000 in
theorem lp_laysA_67 (g : EzH) (d : Nat) {kind mz num : Nat} {S T : EpW} {n : Nat} (w a : Nat) (v : Int32) (M : EzM) (hw : w < 8) (hmz : mz < 4) (hn : n ≤ 10) (hR : RMW kind mz num S w M) (hK : KP 67 a T M) (ha : a + 23 ≤ 184) : ∀ (z : Nat) (t : Nat) (M1 : EzM), 10 - t = z → t ≤ 10 → M1.1 48 0 w = nI kind ∧ M1.1 49 0 w = nI mz ∧ M1.1 50 0 w = nI T.1 ∧ M1.1 51 0 w = nI T.2.1 ∧ M1.1 52 0 w = nI num ∧ M1.1 53 0 w = T.2.2.1 ∧ M1.1 54 0 w = v → (∀ r, r < t → M1.1 55 0 (10 * w + r) = nI (T.2.2.2.2.1 r)) → FX (LF w mz) M M1 → Ez (true, g) mX12_lays d 42 [(5, eI (nI t)), (0, eR 12 0), (1, eI (nI w)), (2, eR 67 0), (3, eI (nI a)), (4, eI v)] [] M1 (fun r M' => r = none ∧ RMW kind mz num (T.1, T.2.1, T.2.2.1, v, T.2.2.2.2.1, T.2.2.2.2.2) w M' ∧ FX (LF w mz) M M') := by
  intro z
  induction z using Nat.strongRecOn with
  | ind z ih =>
    intro t M1 hz ht h0 h5 hF
    have K1 : KP 67 a T M1 := hK.fx hF (fun s _ _ => by unfold LF; omega)
    refine ez_iload 44 dX12_lays_42 rfl rfl ?_
    refine ez_bipush 46 dX12_lays_44 rfl (nI 10) (by decide) ?_
    refine ez_ncmp_ge 49 75 dX12_lays_46 rfl (by decide) (by omega) (by omega) (fun h46 => ?_) (fun h46 => ?_)
    · refine ez_iconst 76 dX12_lays_75 rfl (nI 0) (by decide) ?_
      refine ez_istore 78 [(5, eI (nI 0)), (0, eR 12 0), (1, eI (nI w)), (2, eR 67 0), (3, eI (nI a)), (4, eI v)] dX12_lays_76 rfl (by decide) rfl ?_
      exact lp_laysB_67 g d (n := n) (S := S) w a v M hw hmz hn hR hK ha _ 0 M1 rfl (by omega) h0 (fun r hr => h5 r (by omega)) (fun r hr => by omega) hF
    · refine ez_aload_n 50 dX12_lays_49 rfl rfl ?_
      refine ez_getf 53 (eR 55 0) dX12_lays_50 rfl fl_X12_53 (by show 0 < 1; omega) rfl ?_
      refine ez_bipush 55 dX12_lays_53 rfl (nI 10) (by decide) ?_
      refine ez_iload_n 56 dX12_lays_55 rfl rfl ?_
      refine ez_imul 57 dX12_lays_56 rfl ?_
      refine ez_top (nI (10 * w)) (pk_mul _ _) ?_
      refine ez_iload 59 dX12_lays_57 rfl rfl ?_
      refine ez_iadd 60 dX12_lays_59 rfl ?_
      refine ez_top (nI (10 * w + t)) (nI_add _ _) ?_
      refine ez_aload_n 61 dX12_lays_60 rfl rfl ?_
      refine ez_iload_n 62 dX12_lays_61 rfl rfl ?_
      refine ez_iconst 63 dX12_lays_62 rfl (nI 3) (by decide) ?_
      refine ez_iadd 64 dX12_lays_63 rfl ?_
      refine ez_top (nI (a + 3)) (nI_add _ _) ?_
      refine ez_iload 66 dX12_lays_64 rfl rfl ?_
      refine ez_iadd 67 dX12_lays_66 rfl ?_
      refine ez_top (nI (a + 3 + t)) (nI_add _ _) ?_
      refine ez_ialdN (a + 3 + t) 68 dX12_lays_67 rfl (by decide) (by show 0 < 1; omega) (by show a + 3 + t < 184; omega) ?_
      refine ez_top (nI (T.2.2.2.2.1 t)) (K1.2.2.2 t (by omega)).1 ?_
      refine ez_iastN (10 * w + t) 69 dX12_lays_68 rfl (by decide) (by show 0 < 1; omega) (by show 10 * w + t < 80; omega) ?_
      refine ez_iinc 72 (nI (t + 1)) [(5, eI (nI (t + 1))), (0, eR 12 0), (1, eI (nI w)), (2, eR 67 0), (3, eI (nI a)), (4, eI v)] dX12_lays_69 rfl rfl (nI_add t 1) (by decide) rfl ?_
      refine ez_goto 42 dX12_lays_72 (by decide) ?_
      exact ih (10 - (t + 1)) (by omega) (t + 1) _ rfl (by omega) ⟨by rw [ez_rd, if_neg (by omega)]; exact h0.1, by rw [ez_rd, if_neg (by omega)]; exact h0.2.1, by rw [ez_rd, if_neg (by omega)]; exact h0.2.2.1, by rw [ez_rd, if_neg (by omega)]; exact h0.2.2.2.1, by rw [ez_rd, if_neg (by omega)]; exact h0.2.2.2.2.1, by rw [ez_rd, if_neg (by omega)]; exact h0.2.2.2.2.2.1, by rw [ez_rd, if_neg (by omega)]; exact h0.2.2.2.2.2.2⟩ (fun r hr => by
        rw [ez_rd]
        by_cases e : r = t
        · rw [if_pos ⟨rfl, rfl, by omega⟩, e]
        · rw [if_neg (by omega)]; exact h5 r (by omega)) (hF.st (by unfold LF; omega))
set_option maxRecDepth 20000 in
theorem c_lays_67 (g : EzH) (d : Nat) {kind mz num : Nat} {S T : EpW} {n : Nat} (w a : Nat) (v : Int32) (M : EzM) (hw : w < 8) (hmz : mz < 4) (hn : n ≤ 10) (hR : RMW kind mz num S w M) (hK : KP 67 a T M) (ha : a + 23 ≤ 184) : Ezc (true, g) mX12_lays d [eR 12 0, eI (nI w), eR 67 0, eI (nI a), eI v] M (fun r M' => r = none ∧ RMW kind mz num (T.1, T.2.1, T.2.2.1, v, T.2.2.2.2.1, T.2.2.2.2.2) w M' ∧ FX (LF w mz) M M') := by
  refine Ezc.of (by decide +kernel) (Nat.le_of_ble_eq_true rfl) ?_
  show Ez (true, g) mX12_lays d 0 [(0, eR 12 0), (1, eI (nI w)), (2, eR 67 0), (3, eI (nI a)), (4, eI v)] [] M _
  refine ez_aload_n 1 dX12_lays_0 rfl rfl ?_
  refine ez_getf 4 (eR 50 0) dX12_lays_1 rfl fl_X12_38 (by show 0 < 1; omega) rfl ?_
  refine ez_iload_n 5 dX12_lays_4 rfl rfl ?_
  refine ez_aload_n 6 dX12_lays_5 rfl rfl ?_
  refine ez_iload_n 7 dX12_lays_6 rfl rfl ?_
  refine ez_ialdN a 8 dX12_lays_7 rfl (by decide) (by show 0 < 1; omega) (by show a < 184; omega) ?_
  refine ez_top (nI T.1) hK.1 ?_
  refine ez_iastN w 9 dX12_lays_8 rfl (by decide) (by show 0 < 1; omega) (by show w < 8; omega) ?_
  refine ez_aload_n 10 dX12_lays_9 rfl rfl ?_
  refine ez_getf 13 (eR 51 0) dX12_lays_10 rfl fl_X12_41 (by show 0 < 1; omega) rfl ?_
  refine ez_iload_n 14 dX12_lays_13 rfl rfl ?_
  refine ez_aload_n 15 dX12_lays_14 rfl rfl ?_
  refine ez_iload_n 16 dX12_lays_15 rfl rfl ?_
  refine ez_iconst 17 dX12_lays_16 rfl (nI 1) (by decide) ?_
  refine ez_iadd 18 dX12_lays_17 rfl ?_
  refine ez_top (nI (a + 1)) (nI_add _ _) ?_
  refine ez_ialdN (a + 1) 19 dX12_lays_18 rfl (by decide) (by show 0 < 1; omega) (by show a + 1 < 184; omega) ?_
  refine ez_top (M.1 67 0 (a + 1)) rfl ?_
  refine ez_top (nI T.2.1) hK.2.1 ?_
  refine ez_iastN w 20 dX12_lays_19 rfl (by decide) (by show 0 < 1; omega) (by show w < 8; omega) ?_
  refine ez_aload_n 21 dX12_lays_20 rfl rfl ?_
  refine ez_getf 24 (eR 53 0) dX12_lays_21 rfl fl_X12_47 (by show 0 < 1; omega) rfl ?_
  refine ez_iload_n 25 dX12_lays_24 rfl rfl ?_
  refine ez_aload_n 26 dX12_lays_25 rfl rfl ?_
  refine ez_iload_n 27 dX12_lays_26 rfl rfl ?_
  refine ez_iconst 28 dX12_lays_27 rfl (nI 2) (by decide) ?_
  refine ez_iadd 29 dX12_lays_28 rfl ?_
  refine ez_top (nI (a + 2)) (nI_add _ _) ?_
  refine ez_ialdN (a + 2) 30 dX12_lays_29 rfl (by decide) (by show 0 < 1; omega) (by show a + 2 < 184; omega) ?_
  refine ez_top (M.1 67 0 (a + 2)) rfl ?_
  refine ez_top T.2.2.1 hK.2.2.1 ?_
  refine ez_iastN w 31 dX12_lays_30 rfl (by decide) (by show 0 < 1; omega) (by show w < 8; omega) ?_
  refine ez_aload_n 32 dX12_lays_31 rfl rfl ?_
  refine ez_getf 35 (eR 54 0) dX12_lays_32 rfl fl_X12_50 (by show 0 < 1; omega) rfl ?_
  refine ez_iload_n 36 dX12_lays_35 rfl rfl ?_
  refine ez_iload 38 dX12_lays_36 rfl rfl ?_
  refine ez_iastN w 39 dX12_lays_38 rfl (by decide) (by show 0 < 1; omega) (by show w < 8; omega) ?_
  refine ez_iconst 40 dX12_lays_39 rfl (nI 0) (by decide) ?_
  refine ez_istore 42 [(5, eI (nI 0)), (0, eR 12 0), (1, eI (nI w)), (2, eR 67 0), (3, eI (nI a)), (4, eI v)] dX12_lays_40 rfl (by decide) rfl ?_
  have hF0 : FX (LF w mz) M (ez_st (ez_st (ez_st (ez_st M 50 0 w (nI T.1)) 51 0 w (nI T.2.1)) 53 0 w T.2.2.1) 54 0 w v) := ((((FX.rf.st (by unfold LF; omega)).st (by unfold LF; omega)).st (by unfold LF; omega)).st (by unfold LF; omega))
  exact lp_laysA_67 g d (n := n) (S := S) w a v M hw hmz hn hR hK ha _ 0 _ rfl (by omega) ⟨by simp [ez_rd]; exact hR.1, by simp [ez_rd]; exact hR.2.1, by simp [ez_rd], by simp [ez_rd], by simp [ez_rd]; exact hR.2.2.2.2.1, by simp [ez_rd], by simp [ez_rd]⟩ (fun r hr => by omega) hF0
set_option maxRecDepth 20000 in
theorem lp_mrun (g : EzH) (d : Nat) {q : EpS} (w n c : Nat) (M : EzM) (hd : 67 ≤ d) (hW : WF q) (hC : RM q M) (hw : w < q.2.1.1) (hn : n ≤ 200) (hc : c < 3) : ∀ (z : Nat) (t : Nat) (M1 : EzM), n - t = z → t ≤ n → RMW (q.2.1.2.1 w 0) (q.2.1.2.1 w 1) (q.2.1.2.1 w 4) (ep_nth (s_st q 0 w) t (s_get q.1 q.2.1 w)) w M1 → KP 56 0 (s_get q.1 q.2.1 w) M1 → M1.1 12 0 20 = nI 0 → FX (CHT w w (q.2.1.2.1 w 1)) M M1 → Ez (true, g) mX12_run d 56 [(5, eI (nI t)), (4, eI ((s_get q.1 q.2.1 w).2.2.2.1)), (0, eR 12 0), (1, eI (nI w)), (2, eI (nI n)), (3, eI (nI c))] [] M1 (fun r M' => r = some (eI (if c = 0 then nI (ep_nth (s_st q 0 w) n (s_get q.1 q.2.1 w)).1 else if c = 1 then (ep_nth (s_st q 0 w) n (s_get q.1 q.2.1 w)).2.2.1 else (ep_nth (s_st q 0 w) n (s_get q.1 q.2.1 w)).2.2.2.1)) ∧ RM q M' ∧ FX CM M M') := by
  intro z
  induction z using Nat.strongRecOn with
  | ind z ih =>
    intro t M1 hz ht hR hK h20 hF
    have q8 := hW.2.1.1
    have q4 := hW.1.1
    have qx := hW.2.2.2.2.1
    obtain ⟨k0, k1, k2, k3, k4, k5⟩ := hW.2.1.2 w hw
    have gz := g_WFz hW.1 k1
    have gS := g_WFS hW hw
    have gZ := g_RMz hC.1 k1
    have gR := g_RMW hC.1 hC.2.1 hw k1
    have gX := hC.2.2.2.2.1
    have n10 := gz.2.1
    refine ez_iload 58 dX12_run_56 rfl rfl ?_
    refine ez_iload_n 59 dX12_run_58 rfl rfl ?_
    refine ez_ncmp_ge 62 73 dX12_run_59 rfl (by decide) (by omega) (by omega) (fun h59 => ?_) (fun h59 => ?_)
    · refine ez_iload_n 74 dX12_run_73 rfl rfl ?_
      refine ez_nif_ne 77 86 dX12_run_74 rfl (by decide) (by omega) (fun h74 => ?_) (fun h74 => ?_)
      · refine ez_iload_n 87 dX12_run_86 rfl rfl ?_
        refine ez_iconst 88 dX12_run_87 rfl (nI 1) (by decide) ?_
        refine ez_ncmp_ne 91 100 dX12_run_88 rfl (by decide) (by omega) (by omega) (fun h88 => ?_) (fun h88 => ?_)
        · refine ez_aload_n 101 dX12_run_100 rfl rfl ?_
          refine ez_getf 104 (eR 54 0) dX12_run_101 rfl fl_X12_50 (by show 0 < 1; omega) rfl ?_
          refine ez_iload_n 105 dX12_run_104 rfl rfl ?_
          refine ez_ialdN w 106 dX12_run_105 rfl (by decide) (by show 0 < 1; omega) (by show w < 8; omega) ?_
          refine ez_top ((ep_nth (s_st q 0 w) t (s_get q.1 q.2.1 w)).2.2.2.1) hR.2.2.2.2.2.2.1 ?_
          refine ez_istore 108 [(5, eI ((ep_nth (s_st q 0 w) t (s_get q.1 q.2.1 w)).2.2.2.1)), (4, eI ((s_get q.1 q.2.1 w).2.2.2.1)), (0, eR 12 0), (1, eI (nI w)), (2, eI (nI n)), (3, eI (nI c))] dX12_run_106 rfl (by decide) rfl ?_
          refine ez_aload_n 109 dX12_run_108 rfl rfl ?_
          refine ez_iload_n 110 dX12_run_109 rfl rfl ?_
          refine ez_aload_n 111 dX12_run_110 rfl rfl ?_
          refine ez_getf 114 (eR 56 0) dX12_run_111 rfl fl_X12_56 (by show 0 < 1; omega) rfl ?_
          refine ez_iconst 115 dX12_run_114 rfl (nI 0) (by decide) ?_
          refine ez_iload 117 dX12_run_115 rfl rfl ?_
          refine ez_callV 120 [eI (nI w), eR 56 0, eI (nI 0), eI ((s_get q.1 q.2.1 w).2.2.2.1)] [] dX12_run_117 rfl rfl ok_X12_lays in_X12_lays (by decide) (by show 0 < 1; omega) ln_X12_369 (by omega) (Nat.le_of_ble_eq_true rfl) (c_lays_56 g (d - 1) (T := (s_get q.1 q.2.1 w)) (n := 10) w 0 (s_get q.1 q.2.1 w).2.2.2.1 M1 (by omega) (by omega) (by omega) hR hK (by omega)) (fun r117 M117 q117 => ?_)
          obtain ⟨rfl, R117, f117⟩ := q117
          show Ez (true, g) mX12_run d 120 [(5, eI ((ep_nth (s_st q 0 w) t (s_get q.1 q.2.1 w)).2.2.2.1)), (4, eI ((s_get q.1 q.2.1 w).2.2.2.1)), (0, eR 12 0), (1, eI (nI w)), (2, eI (nI n)), (3, eI (nI c))] [] M117 _
          refine ez_iload 122 dX12_run_120 rfl rfl ?_
          refine ez_iret .int dX12_run_122 rfl rfl ?_
          have e9 : t = n := by omega
          subst e9
          have F9 : FX (CHT w w (q.2.1.2.1 w 1)) M M117 := hF.tr (f117.up (fun k i s z => by unfold LF at z; unfold CHT SM; omega))
          exact ⟨by rw [if_neg (show ¬ c = 0 by omega), if_neg (show ¬ c = 1 by omega)], RM_back hC rfl R117 R117 (by rw [f117 _ _ _ (by unfold LF; omega)]; exact h20) F9, F9.cht⟩
        · refine ez_aload_n 92 dX12_run_91 rfl rfl ?_
          refine ez_getf 95 (eR 53 0) dX12_run_92 rfl fl_X12_47 (by show 0 < 1; omega) rfl ?_
          refine ez_iload_n 96 dX12_run_95 rfl rfl ?_
          refine ez_ialdN w 97 dX12_run_96 rfl (by decide) (by show 0 < 1; omega) (by show w < 8; omega) ?_
          refine ez_top ((ep_nth (s_st q 0 w) t (s_get q.1 q.2.1 w)).2.2.1) hR.2.2.2.2.2.1 ?_
          refine ez_goto 106 dX12_run_97 (by decide) ?_
          refine ez_istore 108 [(5, eI ((ep_nth (s_st q 0 w) t (s_get q.1 q.2.1 w)).2.2.1)), (4, eI ((s_get q.1 q.2.1 w).2.2.2.1)), (0, eR 12 0), (1, eI (nI w)), (2, eI (nI n)), (3, eI (nI c))] dX12_run_106 rfl (by decide) rfl ?_
          refine ez_aload_n 109 dX12_run_108 rfl rfl ?_
          refine ez_iload_n 110 dX12_run_109 rfl rfl ?_
          refine ez_aload_n 111 dX12_run_110 rfl rfl ?_
          refine ez_getf 114 (eR 56 0) dX12_run_111 rfl fl_X12_56 (by show 0 < 1; omega) rfl ?_
          refine ez_iconst 115 dX12_run_114 rfl (nI 0) (by decide) ?_
          refine ez_iload 117 dX12_run_115 rfl rfl ?_
          refine ez_callV 120 [eI (nI w), eR 56 0, eI (nI 0), eI ((s_get q.1 q.2.1 w).2.2.2.1)] [] dX12_run_117 rfl rfl ok_X12_lays in_X12_lays (by decide) (by show 0 < 1; omega) ln_X12_369 (by omega) (Nat.le_of_ble_eq_true rfl) (c_lays_56 g (d - 1) (T := (s_get q.1 q.2.1 w)) (n := 10) w 0 (s_get q.1 q.2.1 w).2.2.2.1 M1 (by omega) (by omega) (by omega) hR hK (by omega)) (fun r117 M117 q117 => ?_)
          obtain ⟨rfl, R117, f117⟩ := q117
          show Ez (true, g) mX12_run d 120 [(5, eI ((ep_nth (s_st q 0 w) t (s_get q.1 q.2.1 w)).2.2.1)), (4, eI ((s_get q.1 q.2.1 w).2.2.2.1)), (0, eR 12 0), (1, eI (nI w)), (2, eI (nI n)), (3, eI (nI c))] [] M117 _
          refine ez_iload 122 dX12_run_120 rfl rfl ?_
          refine ez_iret .int dX12_run_122 rfl rfl ?_
          have e9 : t = n := by omega
          subst e9
          have F9 : FX (CHT w w (q.2.1.2.1 w 1)) M M117 := hF.tr (f117.up (fun k i s z => by unfold LF at z; unfold CHT SM; omega))
          exact ⟨by rw [if_neg (show ¬ c = 0 by omega), if_pos (show c = 1 by omega)], RM_back hC rfl R117 R117 (by rw [f117 _ _ _ (by unfold LF; omega)]; exact h20) F9, F9.cht⟩
      · refine ez_aload_n 78 dX12_run_77 rfl rfl ?_
        refine ez_getf 81 (eR 50 0) dX12_run_78 rfl fl_X12_38 (by show 0 < 1; omega) rfl ?_
        refine ez_iload_n 82 dX12_run_81 rfl rfl ?_
        refine ez_ialdN w 83 dX12_run_82 rfl (by decide) (by show 0 < 1; omega) (by show w < 8; omega) ?_
        refine ez_top (nI ((ep_nth (s_st q 0 w) t (s_get q.1 q.2.1 w)).1)) hR.2.2.1 ?_
        refine ez_goto 106 dX12_run_83 (by decide) ?_
        refine ez_istore 108 [(5, eI (nI ((ep_nth (s_st q 0 w) t (s_get q.1 q.2.1 w)).1))), (4, eI ((s_get q.1 q.2.1 w).2.2.2.1)), (0, eR 12 0), (1, eI (nI w)), (2, eI (nI n)), (3, eI (nI c))] dX12_run_106 rfl (by decide) rfl ?_
        refine ez_aload_n 109 dX12_run_108 rfl rfl ?_
        refine ez_iload_n 110 dX12_run_109 rfl rfl ?_
        refine ez_aload_n 111 dX12_run_110 rfl rfl ?_
        refine ez_getf 114 (eR 56 0) dX12_run_111 rfl fl_X12_56 (by show 0 < 1; omega) rfl ?_
        refine ez_iconst 115 dX12_run_114 rfl (nI 0) (by decide) ?_
        refine ez_iload 117 dX12_run_115 rfl rfl ?_
        refine ez_callV 120 [eI (nI w), eR 56 0, eI (nI 0), eI ((s_get q.1 q.2.1 w).2.2.2.1)] [] dX12_run_117 rfl rfl ok_X12_lays in_X12_lays (by decide) (by show 0 < 1; omega) ln_X12_369 (by omega) (Nat.le_of_ble_eq_true rfl) (c_lays_56 g (d - 1) (T := (s_get q.1 q.2.1 w)) (n := 10) w 0 (s_get q.1 q.2.1 w).2.2.2.1 M1 (by omega) (by omega) (by omega) hR hK (by omega)) (fun r117 M117 q117 => ?_)
        obtain ⟨rfl, R117, f117⟩ := q117
        show Ez (true, g) mX12_run d 120 [(5, eI (nI ((ep_nth (s_st q 0 w) t (s_get q.1 q.2.1 w)).1))), (4, eI ((s_get q.1 q.2.1 w).2.2.2.1)), (0, eR 12 0), (1, eI (nI w)), (2, eI (nI n)), (3, eI (nI c))] [] M117 _
        refine ez_iload 122 dX12_run_120 rfl rfl ?_
        refine ez_iret .int dX12_run_122 rfl rfl ?_
        have e9 : t = n := by omega
        subst e9
        have F9 : FX (CHT w w (q.2.1.2.1 w 1)) M M117 := hF.tr (f117.up (fun k i s z => by unfold LF at z; unfold CHT SM; omega))
        exact ⟨by rw [if_pos (show c = 0 by omega)], RM_back hC rfl R117 R117 (by rw [f117 _ _ _ (by unfold LF; omega)]; exact h20) F9, F9.cht⟩
    · refine ez_aload_n 63 dX12_run_62 rfl rfl ?_
      refine ez_iload_n 64 dX12_run_63 rfl rfl ?_
      refine ez_callV 67 [eI (nI w)] [] dX12_run_64 rfl rfl ok_X12_steps1 in_X12_steps1 (by decide) (by show 0 < 1; omega) ln_X12_244 (by omega) (Nat.le_of_ble_eq_true rfl) (c_X12_steps1 g (d - 1) (S := ep_nth (s_st q 0 w) t (s_get q.1 q.2.1 w)) (lt := (s_lt q w)) (bl := 0) (tf := q.2.2.2.2.1.2.2) w M1 (by omega) k0 k4 (by omega) (by omega) gz (WFS_nth gz t _ gS) hR (gZ.fx hF ⟨by unfold CHT SM; omega, fun x => by unfold CHT SM; omega⟩) qx (by omega) (gX.fx hF ⟨by unfold CHT SM; omega, by unfold CHT SM; omega, fun x hx => ⟨by unfold CHT SM; omega, fun i hi => by unfold CHT SM; omega⟩⟩) h20) (fun r64 M64 q64 => ?_)
      obtain ⟨rfl, R64, f64⟩ := q64
      have h20_64 : M64.1 12 0 20 = nI 0 := by rw [f64 _ _ _ (by omega)]; exact h20
      have F64 := hF.tr (f64.up (fun k i s z => by unfold CHT SM; omega))
      show Ez (true, g) mX12_run d 67 [(5, eI (nI t)), (4, eI ((s_get q.1 q.2.1 w).2.2.2.1)), (0, eR 12 0), (1, eI (nI w)), (2, eI (nI n)), (3, eI (nI c))] [] M64 _
      refine ez_iinc 70 (nI (t + 1)) [(5, eI (nI (t + 1))), (4, eI ((s_get q.1 q.2.1 w).2.2.2.1)), (0, eR 12 0), (1, eI (nI w)), (2, eI (nI n)), (3, eI (nI c))] dX12_run_67 rfl rfl (nI_add t 1) (by decide) rfl ?_
      refine ez_goto 56 dX12_run_70 (by decide) ?_
      exact ih (n - (t + 1)) (by omega) (t + 1) _ rfl (by omega) R64 (hK.fx f64 (fun s _ _ => by omega)) h20_64 F64
set_option maxRecDepth 20000 in
theorem c_X12_run (g : EzH) (d : Nat) {q : EpS} (x y z : Int32) (M : EzM) (hd : 67 ≤ d) (hW : WF q) (hC : RM q M) : Ezc (true, g) mX12_run d [eR 12 0, eI x, eI y, eI z] M (fun r M' => r = some (eI (S_run q x y z)) ∧ RM q M' ∧ FX CM M M') := by
  refine Ezc.of (by decide +kernel) (Nat.le_of_ble_eq_true rfl) ?_
  have q8 := hW.2.1.1
  have q4 := hW.1.1
  have qx := hW.2.2.2.2.1
  show Ez (true, g) mX12_run d 0 [(0, eR 12 0), (1, eI x), (2, eI y), (3, eI z)] [] M _
  refine ez_aload_n 1 dX12_run_0 rfl rfl ?_
  refine ez_iload_n 2 dX12_run_1 rfl rfl ?_
  refine ez_callV 5 [eI x] [] dX12_run_2 rfl rfl ok_X12_isWalker in_X12_isWalker (by decide) (by show 0 < 1; omega) ln_X12_236 (by omega) (Nat.le_of_ble_eq_true rfl) (c_X12_isWalker g (d - 1) x q.2.1.1 M (by omega) hC.2.1.1 (by omega)) (fun r2 M2 q2 => ?_)
  obtain ⟨e2, ⟨rfl, i2⟩ | ⟨j2, b2, rfl, rfl⟩⟩ := q2
  · rw [e2]
    show Ez (true, g) mX12_run d 5 [(0, eR 12 0), (1, eI x), (2, eI y), (3, eI z)] [eI (nI 0)] M _
    refine ez_nif_eq 8 32 dX12_run_5 rfl (by decide) (by omega) (fun h5 => ?_) (fun h5 => ?_)
    · refine ez_bipush 34 dX12_run_32 rfl (-2) (by decide) ?_
      refine ez_iret .int dX12_run_34 rfl rfl ?_
      exact ⟨by simp [S_run, i2], hC, FX.rf⟩
    · exact absurd h5 (by decide)
  · rw [e2]
    have i2 : ep_ix (nI j2) q.2.1.1 = some j2 := ep_ix_nI b2 (by omega)
    obtain ⟨k0, k1, k2, k3, k4, k5⟩ := hW.2.1.2 j2 b2
    have gz := g_WFz hW.1 k1
    have gS := g_WFS hW b2
    have gZ := g_RMz hC.1 k1
    have gR := g_RMW hC.1 hC.2.1 b2 k1
    have n10 := gz.2.1
    have gX := hC.2.2.2.2.1
    show Ez (true, g) mX12_run d 5 [(0, eR 12 0), (1, eI (nI j2)), (2, eI y), (3, eI z)] [eI (nI 1)] M _
    refine ez_nif_eq 8 32 dX12_run_5 rfl (by decide) (by omega) (fun h5 => ?_) (fun h5 => ?_)
    · exact absurd h5 (by decide)
    · refine ez_iload_n 9 dX12_run_8 rfl rfl ?_
      refine ez_i2l 10 dX12_run_9 rfl ?_
      refine ez_lconst 11 dX12_run_10 rfl (nI 0).toInt64 (by decide) ?_
      refine ez_ldc2 14 dX12_run_11 rfl 200 cn_X12_363 ?_
      refine ez_topL (nI 200).toInt64 (by decide) ?_
      refine ez_callS 17 [eL y.toInt64, eL ((nI 0).toInt64), eL ((nI 200).toInt64)] [] dX12_run_14 rfl rfl ok_X12_in st_X12_in ln_X12_133 (by omega) (Nat.le_of_ble_eq_true rfl) (c_in_r g (d - 1) y 0 200 M (by decide) (by decide)) (fun r14 M14 q14 => ?_)
      obtain ⟨e14, ⟨rfl, i14⟩ | ⟨c14, hc1, hc2, rfl, rfl⟩⟩ := q14
      · rw [e14]
        show Ez (true, g) mX12_run d 17 [(0, eR 12 0), (1, eI (nI j2)), (2, eI y), (3, eI z)] [eI (nI 0)] M _
        refine ez_nif_eq 20 32 dX12_run_17 rfl (by decide) (by omega) (fun h17 => ?_) (fun h17 => ?_)
        · refine ez_bipush 34 dX12_run_32 rfl (-2) (by decide) ?_
          refine ez_iret .int dX12_run_34 rfl rfl ?_
          exact ⟨by simp [S_run, i2, i14], hC, FX.rf⟩
        · exact absurd h17 (by decide)
      · rw [e14]
        have i14 : ep_rg (nI c14) 0 200 = some c14 := ep_rg_nI hc1 hc2 (by decide)
        show Ez (true, g) mX12_run d 17 [(0, eR 12 0), (1, eI (nI j2)), (2, eI (nI c14)), (3, eI z)] [eI (nI 1)] M _
        refine ez_nif_eq 20 32 dX12_run_17 rfl (by decide) (by omega) (fun h17 => ?_) (fun h17 => ?_)
        · exact absurd h17 (by decide)
        · refine ez_iload_n 21 dX12_run_20 rfl rfl ?_
          refine ez_i2l 22 dX12_run_21 rfl ?_
          refine ez_lconst 23 dX12_run_22 rfl (nI 0).toInt64 (by decide) ?_
          refine ez_ldc2 26 dX12_run_23 rfl 2 cn_X12_239 ?_
          refine ez_topL (nI 2).toInt64 (by decide) ?_
          refine ez_callS 29 [eL z.toInt64, eL ((nI 0).toInt64), eL ((nI 2).toInt64)] [] dX12_run_26 rfl rfl ok_X12_in st_X12_in ln_X12_133 (by omega) (Nat.le_of_ble_eq_true rfl) (c_in_k g (d - 1) z 2 M (by decide)) (fun r26 M26 q26 => ?_)
          obtain ⟨e26, ⟨rfl, i26⟩ | ⟨j26, b26, rfl, rfl⟩⟩ := q26
          · rw [e26]
            show Ez (true, g) mX12_run d 29 [(0, eR 12 0), (1, eI (nI j2)), (2, eI (nI c14)), (3, eI z)] [eI (nI 0)] M _
            refine ez_nif_ne 32 35 dX12_run_29 rfl (by decide) (by omega) (fun h29 => ?_) (fun h29 => ?_)
            · exact absurd h29 (by decide)
            · refine ez_bipush 34 dX12_run_32 rfl (-2) (by decide) ?_
              refine ez_iret .int dX12_run_34 rfl rfl ?_
              exact ⟨by simp [S_run, i2, i14, i26], hC, FX.rf⟩
          · rw [e26]
            have i26 : ep_ix (nI j26) 3 = some j26 := ep_ix_nI b26 (by omega)
            show Ez (true, g) mX12_run d 29 [(0, eR 12 0), (1, eI (nI j2)), (2, eI (nI c14)), (3, eI (nI j26))] [eI (nI 1)] M _
            refine ez_nif_ne 32 35 dX12_run_29 rfl (by decide) (by omega) (fun h29 => ?_) (fun h29 => ?_)
            · refine ez_aload_n 36 dX12_run_35 rfl rfl ?_
              refine ez_getf 39 (eR 54 0) dX12_run_36 rfl fl_X12_50 (by show 0 < 1; omega) rfl ?_
              refine ez_iload_n 40 dX12_run_39 rfl rfl ?_
              refine ez_ialdN j2 41 dX12_run_40 rfl (by decide) (by show 0 < 1; omega) (by show j2 < 8; omega) ?_
              refine ez_top ((s_get q.1 q.2.1 j2).2.2.2.1) gR.2.2.2.2.2.2.1 ?_
              refine ez_istore 43 [(4, eI ((s_get q.1 q.2.1 j2).2.2.2.1)), (0, eR 12 0), (1, eI (nI j2)), (2, eI (nI c14)), (3, eI (nI j26))] dX12_run_41 rfl (by decide) rfl ?_
              refine ez_aload_n 44 dX12_run_43 rfl rfl ?_
              refine ez_iload_n 45 dX12_run_44 rfl rfl ?_
              refine ez_aload_n 46 dX12_run_45 rfl rfl ?_
              refine ez_getf 49 (eR 56 0) dX12_run_46 rfl fl_X12_56 (by show 0 < 1; omega) rfl ?_
              refine ez_iconst 50 dX12_run_49 rfl (nI 0) (by decide) ?_
              refine ez_callV 53 [eI (nI j2), eR 56 0, eI (nI 0)] [] dX12_run_50 rfl rfl ok_X12_keeps in_X12_keeps (by decide) (by show 0 < 1; omega) ln_X12_365 (by omega) (Nat.le_of_ble_eq_true rfl) (c_keeps_56 g (d - 1) j2 0 M (by omega) (by omega) n10 gS gR (by omega)) (fun r50 M50 q50 => ?_)
              obtain ⟨rfl, K50, f50⟩ := q50
              show Ez (true, g) mX12_run d 53 [(4, eI ((s_get q.1 q.2.1 j2).2.2.2.1)), (0, eR 12 0), (1, eI (nI j2)), (2, eI (nI c14)), (3, eI (nI j26))] [] M50 _
              refine ez_iconst 54 dX12_run_53 rfl (nI 0) (by decide) ?_
              refine ez_istore 56 [(5, eI (nI 0)), (4, eI ((s_get q.1 q.2.1 j2).2.2.2.1)), (0, eR 12 0), (1, eI (nI j2)), (2, eI (nI c14)), (3, eI (nI j26))] dX12_run_54 rfl (by decide) rfl ?_
              have hF : FX (CHT j2 j2 (q.2.1.2.1 j2 1)) M M50 := f50.up (fun k i s z => by unfold KF at z; unfold CHT SM; omega)
              refine ez_wk ?_ (lp_mrun g d j2 c14 j26 M hd hW hC b2 hc2 b26 _ 0 M50 rfl (by omega) (gR.fx f50 ⟨by unfold KF; omega, by unfold KF; omega, by unfold KF; omega, by unfold KF; omega, by unfold KF; omega, by unfold KF; omega, by unfold KF; omega, fun r hr => by unfold KF; omega⟩) K50 (by rw [f50 _ _ _ (by unfold KF; omega)]; exact hC.2.2.2.2.2.2) hF)
              exact fun r M' z9 => ⟨by rw [z9.1]; simp [S_run, i2, i14, i26], z9.2⟩
            · exact absurd h29 (by decide)
