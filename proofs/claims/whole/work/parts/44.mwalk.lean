/-! the model's calls on walkers: told, says, step -/
def CHT (x y mz k i s : Nat) : Prop := ((k = 50 ∨ k = 51 ∨ k = 53 ∨ k = 54) ∧ (s = x ∨ s = y)) ∨ (k = 55 ∧ ((10 * x ≤ s ∧ s < 10 * x + 10) ∨ (10 * y ≤ s ∧ s < 10 * y + 10))) ∨ (k = 47 ∧ 10 * mz ≤ s ∧ s < 10 * mz + 10) ∨ (k = 12 ∧ s = 20) ∨ SM k i s
theorem FX.cht {x y mz : Nat} {M M' : EzM} (h : FX (CHT x y mz) M M') : FX CM M M' := h.up (fun k i s z => by unfold CHT SM at z; unfold CM; omega)
theorem RM_back {q : EpS} {M M' : EzM} {x y : Nat} (hC : RM q M) (hm : q.2.1.2.1 y 1 = q.2.1.2.1 x 1) (hRx : RMW (q.2.1.2.1 x 0) (q.2.1.2.1 x 1) (q.2.1.2.1 x 4) (s_get q.1 q.2.1 x) x M') (hRy : RMW (q.2.1.2.1 y 0) (q.2.1.2.1 y 1) (q.2.1.2.1 y 4) (s_get q.1 q.2.1 y) y M') (h20 : M'.1 12 0 20 = nI 0) (hF : FX (CHT x y (q.2.1.2.1 x 1)) M M') : RM q M' := by
  obtain ⟨a1, a2, a3, a4, a5, a6, a7⟩ := hC
  have n : ∀ k i s, (k = 12 ∧ i = 0 ∧ (s < 20 ∨ 36 ≤ s)) ∨ (42 ≤ k ∧ k < 47) ∨ (47 < k ∧ k < 50) ∨ k = 52 ∨ 67 ≤ k → ¬ CHT x y (q.2.1.2.1 x 1) k i s := fun k i s z => by unfold CHT SM; omega
  refine ⟨⟨by rw [hF _ _ _ (n _ _ _ (by omega))]; exact a1.1, fun m hm2 => ?_⟩, ⟨by rw [hF _ _ _ (n _ _ _ (by omega))]; exact a2.1, fun v hv => ?_⟩, RMt.fx a3 hF ⟨n _ _ _ (by omega), fun i => n _ _ _ (by omega)⟩, RMs.fx a4 hF (fun s => ⟨n _ _ _ (by omega), n _ _ _ (by omega), n _ _ _ (by omega), n _ _ _ (by omega)⟩), RMx.fx a5 hF ⟨n _ _ _ (by omega), n _ _ _ (by omega), fun x hx => ⟨n _ _ _ (by omega), fun i hi => n _ _ _ (by omega)⟩⟩, RMi.fx a6 hF ⟨fun s _ _ => n _ _ _ (by omega), fun s => ⟨n _ _ _ (by omega), n _ _ _ (by omega), n _ _ _ (by omega)⟩⟩, h20⟩
  · obtain ⟨b1, b2, b3⟩ := a1.2 m hm2
    refine ⟨by rw [hF _ _ _ (n _ _ _ (by omega))]; exact b1, fun z hz => by rw [hF _ _ _ (n _ _ _ (by omega))]; exact b2 z hz, fun r hr => ?_⟩
    by_cases e : m = q.2.1.2.1 x 1
    · rw [e]; exact (hRx.2.2.2.2.2.2.2 r hr).2
    · rw [hF _ _ _ (by unfold CHT SM; omega)]; exact b3 r hr
  · by_cases e : v = x
    · subst e
      obtain ⟨b0, b1, b2, b3, b4, b5, b6, b7⟩ := hRx
      exact ⟨b0, b1, b2, b3, b4, b5, b6, fun r hr => (b7 r hr).1⟩
    · by_cases e2 : v = y
      · subst e2
        obtain ⟨b0, b1, b2, b3, b4, b5, b6, b7⟩ := hRy
        exact ⟨b0, b1, b2, b3, b4, b5, b6, fun r hr => (b7 r hr).1⟩
      · obtain ⟨b0, b1, b2, b3, b4, b5, b6, b7⟩ := a2.2 v hv
        have n2 : ∀ k, 48 ≤ k ∧ k < 55 → ¬ CHT x y (q.2.1.2.1 x 1) k 0 v := fun k z => by unfold CHT SM; omega
        exact ⟨by rw [hF _ _ _ (n2 _ (by omega))]; exact b0, by rw [hF _ _ _ (n2 _ (by omega))]; exact b1, by rw [hF _ _ _ (n2 _ (by omega))]; exact b2, by rw [hF _ _ _ (n2 _ (by omega))]; exact b3, by rw [hF _ _ _ (n2 _ (by omega))]; exact b4, by rw [hF _ _ _ (n2 _ (by omega))]; exact b5, by rw [hF _ _ _ (n2 _ (by omega))]; exact b6, fun r hr => by rw [hF _ _ _ (by unfold CHT SM; omega)]; exact b7 r hr⟩
theorem RM_put {q : EpS} {M M' : EzM} {w : Nat} {S : EpW} (hW : WF q) (hC : RM q M) (hw : w < q.2.1.1) (hR : RMW (q.2.1.2.1 w 0) (q.2.1.2.1 w 1) (q.2.1.2.1 w 4) S w M') (h20 : M'.1 12 0 20 = nI 0) (hF : FX (CHT w w (q.2.1.2.1 w 1)) M M') : RM (s_put q w S) M' ∧ FX CM M M' := by
  obtain ⟨a1, a2, a3, a4, a5, a6, a7⟩ := hC
  have hm := (hW.2.1.2 w hw).2.1
  have n : ∀ k i s, (k = 12 ∧ i = 0 ∧ (s < 20 ∨ 36 ≤ s)) ∨ (42 ≤ k ∧ k < 47) ∨ (47 < k ∧ k < 50) ∨ k = 52 ∨ 67 ≤ k → ¬ CHT w w (q.2.1.2.1 w 1) k i s := fun k i s z => by unfold CHT SM; omega
  have n2 : ∀ v, v ≠ w → ∀ k, 48 ≤ k ∧ k < 55 → ¬ CHT w w (q.2.1.2.1 w 1) k 0 v := fun v e k z => by unfold CHT SM; omega
  exact ⟨⟨p_RMM a1 hm hR hF ⟨n _ _ _ (by omega), fun x => ⟨n _ _ _ (by omega), n _ _ _ (by omega), fun e => by unfold CHT SM; omega⟩⟩, p_RMA a2 hw hR rfl rfl rfl hF ⟨n _ _ _ (by omega), fun v e => ⟨n2 v e _ (by omega), n2 v e _ (by omega), n2 v e _ (by omega), n2 v e _ (by omega), n2 v e _ (by omega), n2 v e _ (by omega), n2 v e _ (by omega), fun r hr => by unfold CHT SM; omega⟩⟩, RMt.fx a3 hF ⟨n _ _ _ (by omega), fun i => n _ _ _ (by omega)⟩, RMs.fx a4 hF (fun s => ⟨n _ _ _ (by omega), n _ _ _ (by omega), n _ _ _ (by omega), n _ _ _ (by omega)⟩), RMx.fx a5 hF ⟨n _ _ _ (by omega), n _ _ _ (by omega), fun x hx => ⟨n _ _ _ (by omega), fun i hi => n _ _ _ (by omega)⟩⟩, RMi.fx a6 hF ⟨fun s _ _ => n _ _ _ (by omega), fun s => ⟨n _ _ _ (by omega), n _ _ _ (by omega), n _ _ _ (by omega)⟩⟩, h20⟩, hF.cht⟩
set_option maxRecDepth 20000 in
theorem c_X12_says (g : EzH) (d : Nat) {q : EpS} (x y : Int32) (M : EzM) (hd : 64 ≤ d) (hW : WF q) (hC : RM q M) : Ezc (true, g) mX12_says d [eR 12 0, eI x, eI y] M (fun r M' => r = some (eI (S_says q x y)) ∧ RM q M' ∧ FX CM M M') := by
  refine Ezc.of (by decide +kernel) (Nat.le_of_ble_eq_true rfl) ?_
  have q8 := hW.2.1.1
  have q4 := hW.1.1
  have qx := hW.2.2.2.2.1
  show Ez (true, g) mX12_says d 0 [(0, eR 12 0), (1, eI x), (2, eI y)] [] M _
  refine ez_aload_n 1 dX12_says_0 rfl rfl ?_
  refine ez_iload_n 2 dX12_says_1 rfl rfl ?_
  refine ez_callV 5 [eI x] [] dX12_says_2 rfl rfl ok_X12_isWalker in_X12_isWalker (by decide) (by show 0 < 1; omega) ln_X12_236 (by omega) (Nat.le_of_ble_eq_true rfl) (c_X12_isWalker g (d - 1) x q.2.1.1 M (by omega) hC.2.1.1 (by omega)) (fun r2 M2 q2 => ?_)
  obtain ⟨e2, ⟨rfl, i2⟩ | ⟨j2, b2, rfl, rfl⟩⟩ := q2
  · rw [e2]
    show Ez (true, g) mX12_says d 5 [(0, eR 12 0), (1, eI x), (2, eI y)] [eI (nI 0)] M _
    refine ez_nif_eq 8 29 dX12_says_5 rfl (by decide) (by omega) (fun h5 => ?_) (fun h5 => ?_)
    · refine ez_ldc 31 dX12_says_29 rfl (-1000000) cn_X12_241 ?_
      refine ez_iret .int dX12_says_31 rfl rfl ?_
      exact ⟨by simp [S_says, i2], hC, FX.rf⟩
    · exact absurd h5 (by decide)
  · rw [e2]
    have i2 : ep_ix (nI j2) q.2.1.1 = some j2 := ep_ix_nI b2 (by omega)
    obtain ⟨k0, k1, k2, k3, k4, k5⟩ := hW.2.1.2 j2 b2
    have gz := g_WFz hW.1 k1
    have gS := g_WFS hW b2
    have gZ := g_RMz hC.1 k1
    have gR := g_RMW hC.1 hC.2.1 b2 k1
    have n10 := gz.2.1
    have gX := hC.2.2.2.2.1
    show Ez (true, g) mX12_says d 5 [(0, eR 12 0), (1, eI (nI j2)), (2, eI y)] [eI (nI 1)] M _
    refine ez_nif_eq 8 29 dX12_says_5 rfl (by decide) (by omega) (fun h5 => ?_) (fun h5 => ?_)
    · exact absurd h5 (by decide)
    · refine ez_iload_n 9 dX12_says_8 rfl rfl ?_
      refine ez_i2l 10 dX12_says_9 rfl ?_
      refine ez_lconst 11 dX12_says_10 rfl (nI 0).toInt64 (by decide) ?_
      refine ez_ldc2 14 dX12_says_11 rfl 2 cn_X12_239 ?_
      refine ez_topL (nI 2).toInt64 (by decide) ?_
      refine ez_callS 17 [eL y.toInt64, eL ((nI 0).toInt64), eL ((nI 2).toInt64)] [] dX12_says_14 rfl rfl ok_X12_in st_X12_in ln_X12_133 (by omega) (Nat.le_of_ble_eq_true rfl) (c_in_k g (d - 1) y 2 M (by decide)) (fun r14 M14 q14 => ?_)
      obtain ⟨e14, ⟨rfl, i14⟩ | ⟨j14, b14, rfl, rfl⟩⟩ := q14
      · rw [e14]
        show Ez (true, g) mX12_says d 17 [(0, eR 12 0), (1, eI (nI j2)), (2, eI y)] [eI (nI 0)] M _
        refine ez_nif_eq 20 29 dX12_says_17 rfl (by decide) (by omega) (fun h17 => ?_) (fun h17 => ?_)
        · refine ez_ldc 31 dX12_says_29 rfl (-1000000) cn_X12_241 ?_
          refine ez_iret .int dX12_says_31 rfl rfl ?_
          exact ⟨by simp [S_says, i2, i14], hC, FX.rf⟩
        · exact absurd h17 (by decide)
      · rw [e14]
        have i14 : ep_ix (nI j14) 3 = some j14 := ep_ix_nI b14 (by omega)
        show Ez (true, g) mX12_says d 17 [(0, eR 12 0), (1, eI (nI j2)), (2, eI (nI j14))] [eI (nI 1)] M _
        refine ez_nif_eq 20 29 dX12_says_17 rfl (by decide) (by omega) (fun h17 => ?_) (fun h17 => ?_)
        · exact absurd h17 (by decide)
        · refine ez_aload_n 21 dX12_says_20 rfl rfl ?_
          refine ez_iload_n 22 dX12_says_21 rfl rfl ?_
          refine ez_iload_n 23 dX12_says_22 rfl rfl ?_
          refine ez_callV 26 [eI (nI j2), eI (nI j14)] [] dX12_says_23 rfl rfl ok_X12_says1 in_X12_says1 (by decide) (by show 0 < 1; omega) ln_X12_183 (by omega) (Nat.le_of_ble_eq_true rfl) (c_X12_says1 g (d - 1) (S := (s_get q.1 q.2.1 j2)) (lt := (s_lt q j2)) (bl := 0) (tf := q.2.2.2.2.1.2.2) j2 j14 M (by omega) (by omega) (by omega) (by omega) gz gS gR gZ qx (by omega) gX hC.2.2.2.2.2.2) (fun r23 M23 q23 => ?_)
          obtain ⟨rfl, f23⟩ := q23
          show Ez (true, g) mX12_says d 26 [(0, eR 12 0), (1, eI (nI j2)), (2, eI (nI j14))] [eI (s_tv q j14 (s_nm q j2))] M23 _
          refine ez_goto 31 dX12_says_26 (by decide) ?_
          refine ez_iret .int dX12_says_31 rfl rfl ?_
          have hF : FX SM M M23 := f23.up (fun k i s z => by unfold SM; omega)
          exact ⟨by simp [S_says, i2, i14], hC.sm hF, hF.smm⟩
set_option maxRecDepth 20000 in
theorem c_X12_told (g : EzH) (d : Nat) {q : EpS} (x y : Int32) (M : EzM) (hd : 66 ≤ d) (hW : WF q) (hC : RM q M) : Ezc (true, g) mX12_told d [eR 12 0, eI x, eI y] M (fun r M' => r = some (eI (S_told q x y)) ∧ RM q M' ∧ FX CM M M') := by
  refine Ezc.of (by decide +kernel) (Nat.le_of_ble_eq_true rfl) ?_
  have q8 := hW.2.1.1
  have q4 := hW.1.1
  have qx := hW.2.2.2.2.1
  show Ez (true, g) mX12_told d 0 [(0, eR 12 0), (1, eI x), (2, eI y)] [] M _
  refine ez_aload_n 1 dX12_told_0 rfl rfl ?_
  refine ez_iload_n 2 dX12_told_1 rfl rfl ?_
  refine ez_callV 5 [eI x] [] dX12_told_2 rfl rfl ok_X12_isWalker in_X12_isWalker (by decide) (by show 0 < 1; omega) ln_X12_236 (by omega) (Nat.le_of_ble_eq_true rfl) (c_X12_isWalker g (d - 1) x q.2.1.1 M (by omega) hC.2.1.1 (by omega)) (fun r2 M2 q2 => ?_)
  obtain ⟨e2, ⟨rfl, i2⟩ | ⟨j2, b2, rfl, rfl⟩⟩ := q2
  · rw [e2]
    show Ez (true, g) mX12_told d 5 [(0, eR 12 0), (1, eI x), (2, eI y)] [eI (nI 0)] M _
    refine ez_nif_ne 8 11 dX12_told_5 rfl (by decide) (by omega) (fun h5 => ?_) (fun h5 => ?_)
    · exact absurd h5 (by decide)
    · refine ez_bipush 10 dX12_told_8 rfl (-5) (by decide) ?_
      refine ez_iret .int dX12_told_10 rfl rfl ?_
      exact ⟨by simp [S_told, i2], hC, FX.rf⟩
  · rw [e2]
    have i2 : ep_ix (nI j2) q.2.1.1 = some j2 := ep_ix_nI b2 (by omega)
    obtain ⟨k0, k1, k2, k3, k4, k5⟩ := hW.2.1.2 j2 b2
    have gz := g_WFz hW.1 k1
    have gS := g_WFS hW b2
    have gZ := g_RMz hC.1 k1
    have gR := g_RMW hC.1 hC.2.1 b2 k1
    have n10 := gz.2.1
    have gX := hC.2.2.2.2.1
    show Ez (true, g) mX12_told d 5 [(0, eR 12 0), (1, eI (nI j2)), (2, eI y)] [eI (nI 1)] M _
    refine ez_nif_ne 8 11 dX12_told_5 rfl (by decide) (by omega) (fun h5 => ?_) (fun h5 => ?_)
    · refine ez_iload_n 12 dX12_told_11 rfl rfl ?_
      by_cases e12_0 : y = nI 0
      · subst e12_0
        refine ez_tabIn (off := 52) 64 dX12_told_12 (by decide) (by decide) (by decide) (by decide) ?_
        refine ez_aload_n 65 dX12_told_64 rfl rfl ?_
        refine ez_getf 68 (eR 48 0) dX12_told_65 rfl fl_X12_32 (by show 0 < 1; omega) rfl ?_
        refine ez_iload_n 69 dX12_told_68 rfl rfl ?_
        refine ez_ialdN j2 70 dX12_told_69 rfl (by decide) (by show 0 < 1; omega) (by show j2 < 8; omega) ?_
        refine ez_top (nI (q.2.1.2.1 j2 0)) gR.1 ?_
        refine ez_iret .int dX12_told_70 rfl rfl ?_
        exact ⟨by unfold S_told; rw [i2]; simp only []; rw [if_pos trivial], hC, FX.rf⟩
      by_cases e12_1 : y = nI 1
      · subst e12_1
        refine ez_tabIn (off := 59) 71 dX12_told_12 (by decide) (by decide) (by decide) (by decide) ?_
        refine ez_aload_n 72 dX12_told_71 rfl rfl ?_
        refine ez_getf 75 (eR 49 0) dX12_told_72 rfl fl_X12_35 (by show 0 < 1; omega) rfl ?_
        refine ez_iload_n 76 dX12_told_75 rfl rfl ?_
        refine ez_ialdN j2 77 dX12_told_76 rfl (by decide) (by show 0 < 1; omega) (by show j2 < 8; omega) ?_
        refine ez_top (nI (q.2.1.2.1 j2 1)) gR.2.1 ?_
        refine ez_iret .int dX12_told_77 rfl rfl ?_
        exact ⟨by unfold S_told; rw [i2]; simp only []; rw [if_neg (by decide), if_pos trivial], hC, FX.rf⟩
      by_cases e12_2 : y = nI 2
      · subst e12_2
        refine ez_tabIn (off := 66) 78 dX12_told_12 (by decide) (by decide) (by decide) (by decide) ?_
        refine ez_aload_n 79 dX12_told_78 rfl rfl ?_
        refine ez_getf 82 (eR 50 0) dX12_told_79 rfl fl_X12_38 (by show 0 < 1; omega) rfl ?_
        refine ez_iload_n 83 dX12_told_82 rfl rfl ?_
        refine ez_ialdN j2 84 dX12_told_83 rfl (by decide) (by show 0 < 1; omega) (by show j2 < 8; omega) ?_
        refine ez_top (nI (q.2.1.2.1 j2 2)) gR.2.2.1 ?_
        refine ez_iret .int dX12_told_84 rfl rfl ?_
        exact ⟨by unfold S_told; rw [i2]; simp only []; rw [if_neg (by decide), if_neg (by decide), if_pos trivial], hC, FX.rf⟩
      by_cases e12_3 : y = nI 3
      · subst e12_3
        refine ez_tabIn (off := 73) 85 dX12_told_12 (by decide) (by decide) (by decide) (by decide) ?_
        refine ez_aload_n 86 dX12_told_85 rfl rfl ?_
        refine ez_getf 89 (eR 51 0) dX12_told_86 rfl fl_X12_41 (by show 0 < 1; omega) rfl ?_
        refine ez_iload_n 90 dX12_told_89 rfl rfl ?_
        refine ez_ialdN j2 91 dX12_told_90 rfl (by decide) (by show 0 < 1; omega) (by show j2 < 8; omega) ?_
        refine ez_top (nI (q.2.1.2.1 j2 3)) gR.2.2.2.1 ?_
        refine ez_iret .int dX12_told_91 rfl rfl ?_
        exact ⟨by unfold S_told; rw [i2]; simp only []; rw [if_neg (by decide), if_neg (by decide), if_neg (by decide), if_pos trivial], hC, FX.rf⟩
      by_cases e12_4 : y = nI 4
      · subst e12_4
        refine ez_tabIn (off := 80) 92 dX12_told_12 (by decide) (by decide) (by decide) (by decide) ?_
        refine ez_aload_n 93 dX12_told_92 rfl rfl ?_
        refine ez_getf 96 (eR 52 0) dX12_told_93 rfl fl_X12_44 (by show 0 < 1; omega) rfl ?_
        refine ez_iload_n 97 dX12_told_96 rfl rfl ?_
        refine ez_ialdN j2 98 dX12_told_97 rfl (by decide) (by show 0 < 1; omega) (by show j2 < 8; omega) ?_
        refine ez_top (nI (q.2.1.2.1 j2 4)) gR.2.2.2.2.1 ?_
        refine ez_iret .int dX12_told_98 rfl rfl ?_
        exact ⟨by unfold S_told; rw [i2]; simp only []; rw [if_neg (by decide), if_neg (by decide), if_neg (by decide), if_neg (by decide), if_pos trivial], hC, FX.rf⟩
      by_cases e12_5 : y = nI 5
      · subst e12_5
        refine ez_tabIn (off := 87) 99 dX12_told_12 (by decide) (by decide) (by decide) (by decide) ?_
        refine ez_aload_n 100 dX12_told_99 rfl rfl ?_
        refine ez_getf 103 (eR 53 0) dX12_told_100 rfl fl_X12_47 (by show 0 < 1; omega) rfl ?_
        refine ez_iload_n 104 dX12_told_103 rfl rfl ?_
        refine ez_ialdN j2 105 dX12_told_104 rfl (by decide) (by show 0 < 1; omega) (by show j2 < 8; omega) ?_
        refine ez_top (q.2.1.2.2.1 j2) gR.2.2.2.2.2.1 ?_
        refine ez_iret .int dX12_told_105 rfl rfl ?_
        exact ⟨by unfold S_told; rw [i2]; simp only []; rw [if_neg (by decide), if_neg (by decide), if_neg (by decide), if_neg (by decide), if_neg (by decide), if_pos trivial], hC, FX.rf⟩
      by_cases e12_6 : y = nI 6
      · subst e12_6
        refine ez_tabIn (off := 94) 106 dX12_told_12 (by decide) (by decide) (by decide) (by decide) ?_
        refine ez_aload_n 107 dX12_told_106 rfl rfl ?_
        refine ez_getf 110 (eR 54 0) dX12_told_107 rfl fl_X12_50 (by show 0 < 1; omega) rfl ?_
        refine ez_iload_n 111 dX12_told_110 rfl rfl ?_
        refine ez_ialdN j2 112 dX12_told_111 rfl (by decide) (by show 0 < 1; omega) (by show j2 < 8; omega) ?_
        refine ez_top (q.2.1.2.2.2.1 j2) gR.2.2.2.2.2.2.1 ?_
        refine ez_iret .int dX12_told_112 rfl rfl ?_
        exact ⟨by unfold S_told; rw [i2]; simp only []; rw [if_neg (by decide), if_neg (by decide), if_neg (by decide), if_neg (by decide), if_neg (by decide), if_neg (by decide), if_pos trivial], hC, FX.rf⟩
      by_cases e12_7 : y = nI 7
      · subst e12_7
        refine ez_tabIn (off := 101) 113 dX12_told_12 (by decide) (by decide) (by decide) (by decide) ?_
        refine ez_aload_n 114 dX12_told_113 rfl rfl ?_
        refine ez_iload_n 115 dX12_told_114 rfl rfl ?_
        refine ez_callV 118 [eI (nI j2)] [] dX12_told_115 rfl rfl ok_X12_wants in_X12_wants (by decide) (by show 0 < 1; omega) ln_X12_233 (by omega) (Nat.le_of_ble_eq_true rfl) (c_X12_wants g (d - 1) (S := (s_get q.1 q.2.1 j2)) (lt := (s_lt q j2)) (bl := 0) (tf := q.2.2.2.2.1.2.2) j2 M (by omega) k0 k4 (by omega) (by omega) gz gS gR gZ qx (by omega) gX hC.2.2.2.2.2.2) (fun r115 M115 q115 => ?_)
        obtain ⟨rfl, f115⟩ := q115
        show Ez (true, g) mX12_told d 118 [(0, eR 12 0), (1, eI (nI j2)), (2, eI (nI 7))] [eI (ep_oi (s_dr q j2))] M115 _
        refine ez_iret .int dX12_told_118 rfl rfl ?_
        exact ⟨by unfold S_told; rw [i2]; simp only []; rw [if_neg (by decide), if_neg (by decide), if_neg (by decide), if_neg (by decide), if_neg (by decide), if_neg (by decide), if_neg (by decide), if_pos trivial], hC.sm (f115.up (fun k i s z => by unfold SM; omega)), (f115.up (fun k i s z => by unfold CM; omega))⟩
      by_cases e12_8 : y = nI 8
      · subst e12_8
        refine ez_tabIn (off := 107) 119 dX12_told_12 (by decide) (by decide) (by decide) (by decide) ?_
        refine ez_aload_n 120 dX12_told_119 rfl rfl ?_
        refine ez_getf 123 (eR 55 0) dX12_told_120 rfl fl_X12_53 (by show 0 < 1; omega) rfl ?_
        refine ez_bipush 125 dX12_told_123 rfl (nI 10) (by decide) ?_
        refine ez_iload_n 126 dX12_told_125 rfl rfl ?_
        refine ez_imul 127 dX12_told_126 rfl ?_
        refine ez_top (nI (10 * j2)) (pk_mul _ _) ?_
        refine ez_aload_n 128 dX12_told_127 rfl rfl ?_
        refine ez_getf 131 (eR 50 0) dX12_told_128 rfl fl_X12_38 (by show 0 < 1; omega) rfl ?_
        refine ez_iload_n 132 dX12_told_131 rfl rfl ?_
        refine ez_ialdN j2 133 dX12_told_132 rfl (by decide) (by show 0 < 1; omega) (by show j2 < 8; omega) ?_
        refine ez_top (nI (q.2.1.2.1 j2 2)) gR.2.2.1 ?_
        refine ez_iadd 134 dX12_told_133 rfl ?_
        refine ez_top (nI (10 * j2 + q.2.1.2.1 j2 2)) (nI_add _ _) ?_
        refine ez_ialdN (10 * j2 + q.2.1.2.1 j2 2) 135 dX12_told_134 rfl (by decide) (by show 0 < 1; omega) (by show 10 * j2 + q.2.1.2.1 j2 2 < 80; omega) ?_
        refine ez_top (nI (q.2.1.2.2.2.2 j2 (q.2.1.2.1 j2 2))) (gR.2.2.2.2.2.2.2 (q.2.1.2.1 j2 2) (by omega)).1 ?_
        refine ez_iret .int dX12_told_135 rfl rfl ?_
        exact ⟨by unfold S_told; rw [i2]; simp only []; rw [if_neg (by decide), if_neg (by decide), if_neg (by decide), if_neg (by decide), if_neg (by decide), if_neg (by decide), if_neg (by decide), if_neg (by decide), if_pos trivial], hC, FX.rf⟩
      refine ez_tabOut 136 dX12_told_12 (by have ze12_0 : ¬ (y).toInt = 0 := fun q9 => e12_0 (Int32.toInt_inj.mp (q9.trans (by decide))); have ze12_1 : ¬ (y).toInt = 1 := fun q9 => e12_1 (Int32.toInt_inj.mp (q9.trans (by decide))); have ze12_2 : ¬ (y).toInt = 2 := fun q9 => e12_2 (Int32.toInt_inj.mp (q9.trans (by decide))); have ze12_3 : ¬ (y).toInt = 3 := fun q9 => e12_3 (Int32.toInt_inj.mp (q9.trans (by decide))); have ze12_4 : ¬ (y).toInt = 4 := fun q9 => e12_4 (Int32.toInt_inj.mp (q9.trans (by decide))); have ze12_5 : ¬ (y).toInt = 5 := fun q9 => e12_5 (Int32.toInt_inj.mp (q9.trans (by decide))); have ze12_6 : ¬ (y).toInt = 6 := fun q9 => e12_6 (Int32.toInt_inj.mp (q9.trans (by decide))); have ze12_7 : ¬ (y).toInt = 7 := fun q9 => e12_7 (Int32.toInt_inj.mp (q9.trans (by decide))); have ze12_8 : ¬ (y).toInt = 8 := fun q9 => e12_8 (Int32.toInt_inj.mp (q9.trans (by decide))); omega) (by decide) ?_
      refine ez_bipush 138 dX12_told_136 rfl (-5) (by decide) ?_
      refine ez_iret .int dX12_told_138 rfl rfl ?_
      exact ⟨by unfold S_told; rw [i2]; simp only [e12_0, e12_1, e12_2, e12_3, e12_4, e12_5, e12_6, e12_7, e12_8, if_false], hC, FX.rf⟩
    · exact absurd h5 (by decide)
set_option maxRecDepth 20000 in
theorem lp_mstep (g : EzH) (d : Nat) {q : EpS} (w n : Nat) (M : EzM) (hd : 67 ≤ d) (hW : WF q) (hC : RM q M) (hw : w < q.2.1.1) (hn : n ≤ 100) : ∀ (z : Nat) (t : Nat) (M1 : EzM), n - t = z → t ≤ n → RMW (q.2.1.2.1 w 0) (q.2.1.2.1 w 1) (q.2.1.2.1 w 4) (ep_nth (s_st q 0 w) t (s_get q.1 q.2.1 w)) w M1 → M1.1 12 0 20 = nI 0 → FX (CHT w w (q.2.1.2.1 w 1)) M M1 → Ez (true, g) mX12_step d 25 [(3, eI (nI t)), (0, eR 12 0), (1, eI (nI w)), (2, eI (nI n))] [] M1 (fun r M' => r = some (eI (nI (ep_nth (s_st q 0 w) n (s_get q.1 q.2.1 w)).1)) ∧ RM (s_put q w (ep_nth (s_st q 0 w) n (s_get q.1 q.2.1 w))) M' ∧ FX CM M M') := by
  intro z
  induction z using Nat.strongRecOn with
  | ind z ih =>
    intro t M1 hz ht hR h20 hF
    have q8 := hW.2.1.1
    have q4 := hW.1.1
    have qx := hW.2.2.2.2.1
    obtain ⟨k0, k1, k2, k3, k4, k5⟩ := hW.2.1.2 w hw
    have gz := g_WFz hW.1 k1
    have gS := g_WFS hW hw
    have gZ := g_RMz hC.1 k1
    have gR := g_RMW hC.1 hC.2.1 hw k1
    have gX := hC.2.2.2.2.1
    have n10 := gz.2.1
    refine ez_iload_n 26 dX12_step_25 rfl rfl ?_
    refine ez_iload_n 27 dX12_step_26 rfl rfl ?_
    refine ez_ncmp_ge 30 41 dX12_step_27 rfl (by decide) (by omega) (by omega) (fun h27 => ?_) (fun h27 => ?_)
    · refine ez_aload_n 42 dX12_step_41 rfl rfl ?_
      refine ez_getf 45 (eR 50 0) dX12_step_42 rfl fl_X12_38 (by show 0 < 1; omega) rfl ?_
      refine ez_iload_n 46 dX12_step_45 rfl rfl ?_
      refine ez_ialdN w 47 dX12_step_46 rfl (by decide) (by show 0 < 1; omega) (by show w < 8; omega) ?_
      refine ez_top (nI ((ep_nth (s_st q 0 w) t (s_get q.1 q.2.1 w)).1)) hR.2.2.1 ?_
      refine ez_iret .int dX12_step_47 rfl rfl ?_
      have e9 : t = n := by omega
      subst e9
      exact ⟨rfl, RM_put hW hC hw hR h20 hF⟩
    · refine ez_aload_n 31 dX12_step_30 rfl rfl ?_
      refine ez_iload_n 32 dX12_step_31 rfl rfl ?_
      refine ez_callV 35 [eI (nI w)] [] dX12_step_32 rfl rfl ok_X12_steps1 in_X12_steps1 (by decide) (by show 0 < 1; omega) ln_X12_244 (by omega) (Nat.le_of_ble_eq_true rfl) (c_X12_steps1 g (d - 1) (S := ep_nth (s_st q 0 w) t (s_get q.1 q.2.1 w)) (lt := (s_lt q w)) (bl := 0) (tf := q.2.2.2.2.1.2.2) w M1 (by omega) k0 k4 (by omega) (by omega) gz (WFS_nth gz t _ gS) hR (gZ.fx hF ⟨by unfold CHT SM; omega, fun x => by unfold CHT SM; omega⟩) qx (by omega) (gX.fx hF ⟨by unfold CHT SM; omega, by unfold CHT SM; omega, fun x hx => ⟨by unfold CHT SM; omega, fun i hi => by unfold CHT SM; omega⟩⟩) h20) (fun r32 M32 q32 => ?_)
      obtain ⟨rfl, R32, f32⟩ := q32
      have h20_32 : M32.1 12 0 20 = nI 0 := by rw [f32 _ _ _ (by omega)]; exact h20
      have F32 := hF.tr (f32.up (fun k i s z => by unfold CHT SM; omega))
      show Ez (true, g) mX12_step d 35 [(3, eI (nI t)), (0, eR 12 0), (1, eI (nI w)), (2, eI (nI n))] [] M32 _
      refine ez_iinc 38 (nI (t + 1)) [(3, eI (nI (t + 1))), (0, eR 12 0), (1, eI (nI w)), (2, eI (nI n))] dX12_step_35 rfl rfl (nI_add t 1) (by decide) rfl ?_
      refine ez_goto 25 dX12_step_38 (by decide) ?_
      exact ih (n - (t + 1)) (by omega) (t + 1) _ rfl (by omega) R32 h20_32 F32
set_option maxRecDepth 20000 in
theorem c_X12_step (g : EzH) (d : Nat) {q : EpS} (x y : Int32) (M : EzM) (hd : 67 ≤ d) (hW : WF q) (hC : RM q M) : Ezc (true, g) mX12_step d [eR 12 0, eI x, eI y] M (fun r M' => r = some (eI (S_step q x y).1) ∧ RM (S_step q x y).2 M' ∧ FX CM M M') := by
  refine Ezc.of (by decide +kernel) (Nat.le_of_ble_eq_true rfl) ?_
  have q8 := hW.2.1.1
  have q4 := hW.1.1
  have qx := hW.2.2.2.2.1
  show Ez (true, g) mX12_step d 0 [(0, eR 12 0), (1, eI x), (2, eI y)] [] M _
  refine ez_aload_n 1 dX12_step_0 rfl rfl ?_
  refine ez_iload_n 2 dX12_step_1 rfl rfl ?_
  refine ez_callV 5 [eI x] [] dX12_step_2 rfl rfl ok_X12_isWalker in_X12_isWalker (by decide) (by show 0 < 1; omega) ln_X12_236 (by omega) (Nat.le_of_ble_eq_true rfl) (c_X12_isWalker g (d - 1) x q.2.1.1 M (by omega) hC.2.1.1 (by omega)) (fun r2 M2 q2 => ?_)
  obtain ⟨e2, ⟨rfl, i2⟩ | ⟨j2, b2, rfl, rfl⟩⟩ := q2
  · rw [e2]
    show Ez (true, g) mX12_step d 5 [(0, eR 12 0), (1, eI x), (2, eI y)] [eI (nI 0)] M _
    refine ez_nif_eq 8 20 dX12_step_5 rfl (by decide) (by omega) (fun h5 => ?_) (fun h5 => ?_)
    · refine ez_bipush 22 dX12_step_20 rfl (-2) (by decide) ?_
      refine ez_iret .int dX12_step_22 rfl rfl ?_
      have eS : S_step q x y = (-2, q) := by simp [S_step, i2]
      exact ⟨by rw [eS], by rw [eS]; exact hC, FX.rf⟩
    · exact absurd h5 (by decide)
  · rw [e2]
    have i2 : ep_ix (nI j2) q.2.1.1 = some j2 := ep_ix_nI b2 (by omega)
    obtain ⟨k0, k1, k2, k3, k4, k5⟩ := hW.2.1.2 j2 b2
    have gz := g_WFz hW.1 k1
    have gS := g_WFS hW b2
    have gZ := g_RMz hC.1 k1
    have gR := g_RMW hC.1 hC.2.1 b2 k1
    have n10 := gz.2.1
    have gX := hC.2.2.2.2.1
    show Ez (true, g) mX12_step d 5 [(0, eR 12 0), (1, eI (nI j2)), (2, eI y)] [eI (nI 1)] M _
    refine ez_nif_eq 8 20 dX12_step_5 rfl (by decide) (by omega) (fun h5 => ?_) (fun h5 => ?_)
    · exact absurd h5 (by decide)
    · refine ez_iload_n 9 dX12_step_8 rfl rfl ?_
      refine ez_i2l 10 dX12_step_9 rfl ?_
      refine ez_lconst 11 dX12_step_10 rfl (nI 1).toInt64 (by decide) ?_
      refine ez_ldc2 14 dX12_step_11 rfl 100 cn_X12_242 ?_
      refine ez_topL (nI 100).toInt64 (by decide) ?_
      refine ez_callS 17 [eL y.toInt64, eL ((nI 1).toInt64), eL ((nI 100).toInt64)] [] dX12_step_14 rfl rfl ok_X12_in st_X12_in ln_X12_133 (by omega) (Nat.le_of_ble_eq_true rfl) (c_in_r g (d - 1) y 1 100 M (by decide) (by decide)) (fun r14 M14 q14 => ?_)
      obtain ⟨e14, ⟨rfl, i14⟩ | ⟨c14, hc1, hc2, rfl, rfl⟩⟩ := q14
      · rw [e14]
        show Ez (true, g) mX12_step d 17 [(0, eR 12 0), (1, eI (nI j2)), (2, eI y)] [eI (nI 0)] M _
        refine ez_nif_ne 20 23 dX12_step_17 rfl (by decide) (by omega) (fun h17 => ?_) (fun h17 => ?_)
        · exact absurd h17 (by decide)
        · refine ez_bipush 22 dX12_step_20 rfl (-2) (by decide) ?_
          refine ez_iret .int dX12_step_22 rfl rfl ?_
          have eS : S_step q (nI j2) y = (-2, q) := by simp [S_step, i2, i14]
          exact ⟨by rw [eS], by rw [eS]; exact hC, FX.rf⟩
      · rw [e14]
        have i14 : ep_rg (nI c14) 1 100 = some c14 := ep_rg_nI hc1 hc2 (by decide)
        show Ez (true, g) mX12_step d 17 [(0, eR 12 0), (1, eI (nI j2)), (2, eI (nI c14))] [eI (nI 1)] M _
        refine ez_nif_ne 20 23 dX12_step_17 rfl (by decide) (by omega) (fun h17 => ?_) (fun h17 => ?_)
        · refine ez_iconst 24 dX12_step_23 rfl (nI 0) (by decide) ?_
          refine ez_istore_n 25 [(3, eI (nI 0)), (0, eR 12 0), (1, eI (nI j2)), (2, eI (nI c14))] dX12_step_24 rfl (by decide) rfl ?_
          have eS : S_step q (nI j2) (nI c14) = (nI (ep_nth (s_st q 0 j2) c14 (s_get q.1 q.2.1 j2)).1, s_put q j2 (ep_nth (s_st q 0 j2) c14 (s_get q.1 q.2.1 j2))) := by simp [S_step, i2, i14]
          rw [eS]
          exact lp_mstep g d j2 c14 M hd hW hC b2 hc2 _ 0 M rfl (by omega) gR hC.2.2.2.2.2.2 FX.rf
        · exact absurd h17 (by decide)
