/-! tells: class and model -/
theorem er_neg10 {x : Int32} {mc n : Nat} (h : x < 0) (hm : mc < 2 ^ 31) (hn : n < 2 ^ 31) : ep_ix (x / nI 10) mc = none ∨ ep_ix (x - x / nI 10 * nI 10) n = none := by
  obtain ⟨h1, h2⟩ := ep_remI x (m := 10) (by decide) (by decide)
  have h0 : x.toInt < 0 := by
    have := Int32.lt_iff_toInt_lt.mp h
    rw [show (0 : Int32).toInt = 0 by decide] at this
    exact this
  by_cases q : x / nI 10 < 0
  · exact Or.inl (ep_ix_lo q)
  · refine Or.inr (ep_ix_lo ?_)
    have q2 : ¬ (x / nI 10).toInt < 0 := fun z => q (Int32.lt_iff_toInt_lt.mpr (by rw [show (0 : Int32).toInt = 0 by decide]; exact z))
    apply Int32.lt_iff_toInt_lt.mpr
    rw [show (0 : Int32).toInt = 0 by decide, h2]
    rw [h1] at q2
    have e1 : x.toInt = 10 * x.toInt.tdiv 10 + x.toInt.tmod 10 := (Int.mul_tdiv_add_tmod x.toInt 10).symm
    show x.toInt.tmod 10 < 0
    have q3 : ¬ x.toInt.tdiv 10 < 0 := q2
    omega
noncomputable def S_tells (q : EpS) (x y z : Int32) : Int32 := match ep_ix (x / nI 10) q.1.1 with
  | none => -2
  | some m => match ep_ix (y / nI 10) q.1.1 with
    | none => -2
    | some n => match ep_ix (x - x / nI 10 * nI 10) (q.1.2.1 m) with
      | none => -2
      | some a => match ep_ix (y - y / nI 10 * nI 10) (q.1.2.1 n) with
        | none => -2
        | some b => match ep_ix z 2 with
          | none => -2
          | some c => if c = 0 then t_g (t_go (q.1.2.2.1 m) (q.1.2.2.1 n) a b) else t_w (t_go (q.1.2.2.1 m) (q.1.2.2.1 n) a b)
theorem tells_bad {q : EpS} {x y z : Int32} (h : ep_ix (x / nI 10) q.1.1 = none ∨ (∀ m, ep_ix (x / nI 10) q.1.1 = some m → ep_ix (x - x / nI 10 * nI 10) (q.1.2.1 m) = none) ∨ ep_ix (y / nI 10) q.1.1 = none ∨ (∀ m, ep_ix (y / nI 10) q.1.1 = some m → ep_ix (y - y / nI 10 * nI 10) (q.1.2.1 m) = none) ∨ ep_ix z 2 = none) : S_tells q x y z = -2 := by
  unfold S_tells
  cases h1 : ep_ix (x / nI 10) q.1.1 with
  | none => rfl
  | some m =>
    simp only []
    cases h2 : ep_ix (y / nI 10) q.1.1 with
    | none => rfl
    | some n =>
      simp only []
      cases h3 : ep_ix (x - x / nI 10 * nI 10) (q.1.2.1 m) with
      | none => rfl
      | some a =>
        simp only []
        cases h4 : ep_ix (y - y / nI 10 * nI 10) (q.1.2.1 n) with
        | none => rfl
        | some b =>
          simp only []
          cases h5 : ep_ix z 2 with
          | none => rfl
          | some c =>
            rcases h with h | h | h | h | h
            · rw [h1] at h; cases h
            · rw [h m h1] at h3; cases h3
            · rw [h2] at h; cases h
            · rw [h n h2] at h4; cases h4
            · rw [h5] at h; cases h
theorem FX.pfsc {M M' : EzM} (h : FX PF M M') : FX SC M M' := PF.sc h
set_option maxRecDepth 20000 in
theorem c_X11_tells (G : EzG) (d : Nat) {q : EpS} (x y z : Int32) (M : EzM) (hd : 5 ≤ d) (hW : WF q) (hC : RC q M) : Ezc G mX11_tells d [eR 11 0, eI x, eI y, eI z] M (fun r M' => r = some (eI (S_tells q x y z)) ∧ RC q M' ∧ FX CC M M') := by
  refine Ezc.of (by decide +kernel) (Nat.le_of_ble_eq_true rfl) ?_
  have q8 := hW.2.1.1
  have q4 := hW.1.1
  have qx := hW.2.2.2.2.1
  show Ez G mX11_tells d 0 [(0, eR 11 0), (1, eI x), (2, eI y), (3, eI z)] [] M _
  refine ez_aload_n 1 dX11_tells_0 rfl rfl ?_
  refine ez_iload_n 2 dX11_tells_1 rfl rfl ?_
  refine ez_bipush 4 dX11_tells_2 rfl (nI 10) (by decide) ?_
  refine ez_idiv 5 dX11_tells_4 rfl (by decide) ?_
  refine ez_callV 8 [eI (x / (nI 10))] [] dX11_tells_5 rfl rfl ok_X11_mazeAt in_X11_mazeAt (by decide) (by show 0 < 1; omega) ln_X11_141 (by omega) (Nat.le_of_ble_eq_true rfl) (c_X11_mazeAt G (d - 1) (x / (nI 10)) q.1.1 M (by omega) hC.1.1 (by omega)) (fun r5 M5 q5 => ?_)
  obtain ⟨e5, ⟨rfl, i5⟩ | ⟨j5, b5, x5, rfl⟩⟩ := q5
  · rw [e5]
    show Ez G mX11_tells d 8 [(0, eR 11 0), (1, eI x), (2, eI y), (3, eI z)] [eN] M _
    refine ez_astore 10 [(4, eN), (0, eR 11 0), (1, eI x), (2, eI y), (3, eI z)] dX11_tells_8 rfl (by decide) rfl ?_
    refine ez_aload_n 11 dX11_tells_10 rfl rfl ?_
    refine ez_iload_n 12 dX11_tells_11 rfl rfl ?_
    refine ez_bipush 14 dX11_tells_12 rfl (nI 10) (by decide) ?_
    refine ez_idiv 15 dX11_tells_14 rfl (by decide) ?_
    refine ez_callV 18 [eI (y / (nI 10))] [] dX11_tells_15 rfl rfl ok_X11_mazeAt in_X11_mazeAt (by decide) (by show 0 < 1; omega) ln_X11_141 (by omega) (Nat.le_of_ble_eq_true rfl) (c_X11_mazeAt G (d - 1) (y / (nI 10)) q.1.1 M (by omega) hC.1.1 (by omega)) (fun r15 M15 q15 => ?_)
    obtain ⟨e15, ⟨rfl, i15⟩ | ⟨j15, b15, x15, rfl⟩⟩ := q15
    · rw [e15]
      show Ez G mX11_tells d 18 [(4, eN), (0, eR 11 0), (1, eI x), (2, eI y), (3, eI z)] [eN] M _
      refine ez_astore 20 [(5, eN), (4, eN), (0, eR 11 0), (1, eI x), (2, eI y), (3, eI z)] dX11_tells_18 rfl (by decide) rfl ?_
      refine ez_aload 22 dX11_tells_20 rfl rfl ?_
      refine ez_ifnull_n 54 dX11_tells_22 (by decide) ?_
      refine ez_bipush 56 dX11_tells_54 rfl (-2) (by decide) ?_
      refine ez_iret .int dX11_tells_56 rfl rfl ?_
      exact ⟨by simp [S_tells, i5, i15], hC, FX.rf⟩
    · rw [e15]
      have i15 : ep_ix (y / (nI 10)) q.1.1 = some j15 := by rw [x15]; exact ep_ix_nI b15 (by omega)
      show Ez G mX11_tells d 18 [(4, eN), (0, eR 11 0), (1, eI x), (2, eI y), (3, eI z)] [eR 1 j15] M _
      refine ez_astore 20 [(5, eR 1 j15), (4, eN), (0, eR 11 0), (1, eI x), (2, eI y), (3, eI z)] dX11_tells_18 rfl (by decide) rfl ?_
      refine ez_aload 22 dX11_tells_20 rfl rfl ?_
      refine ez_ifnull_n 54 dX11_tells_22 (by decide) ?_
      refine ez_bipush 56 dX11_tells_54 rfl (-2) (by decide) ?_
      refine ez_iret .int dX11_tells_56 rfl rfl ?_
      exact ⟨by simp [S_tells, i5, i15], hC, FX.rf⟩
  · rw [e5]
    have i5 : ep_ix (x / (nI 10)) q.1.1 = some j5 := by rw [x5]; exact ep_ix_nI b5 (by omega)
    show Ez G mX11_tells d 8 [(0, eR 11 0), (1, eI x), (2, eI y), (3, eI z)] [eR 1 j5] M _
    refine ez_astore 10 [(4, eR 1 j5), (0, eR 11 0), (1, eI x), (2, eI y), (3, eI z)] dX11_tells_8 rfl (by decide) rfl ?_
    refine ez_aload_n 11 dX11_tells_10 rfl rfl ?_
    refine ez_iload_n 12 dX11_tells_11 rfl rfl ?_
    refine ez_bipush 14 dX11_tells_12 rfl (nI 10) (by decide) ?_
    refine ez_idiv 15 dX11_tells_14 rfl (by decide) ?_
    refine ez_callV 18 [eI (y / (nI 10))] [] dX11_tells_15 rfl rfl ok_X11_mazeAt in_X11_mazeAt (by decide) (by show 0 < 1; omega) ln_X11_141 (by omega) (Nat.le_of_ble_eq_true rfl) (c_X11_mazeAt G (d - 1) (y / (nI 10)) q.1.1 M (by omega) hC.1.1 (by omega)) (fun r15 M15 q15 => ?_)
    obtain ⟨e15, ⟨rfl, i15⟩ | ⟨j15, b15, x15, rfl⟩⟩ := q15
    · rw [e15]
      show Ez G mX11_tells d 18 [(4, eR 1 j5), (0, eR 11 0), (1, eI x), (2, eI y), (3, eI z)] [eN] M _
      refine ez_astore 20 [(5, eN), (4, eR 1 j5), (0, eR 11 0), (1, eI x), (2, eI y), (3, eI z)] dX11_tells_18 rfl (by decide) rfl ?_
      refine ez_aload 22 dX11_tells_20 rfl rfl ?_
      refine ez_ifnull_r 25 dX11_tells_22 rfl ?_
      refine ez_aload 27 dX11_tells_25 rfl rfl ?_
      refine ez_ifnull_n 54 dX11_tells_27 (by decide) ?_
      refine ez_bipush 56 dX11_tells_54 rfl (-2) (by decide) ?_
      refine ez_iret .int dX11_tells_56 rfl rfl ?_
      exact ⟨by simp [S_tells, i5, i15], hC, FX.rf⟩
    · rw [e15]
      have i15 : ep_ix (y / (nI 10)) q.1.1 = some j15 := by rw [x15]; exact ep_ix_nI b15 (by omega)
      show Ez G mX11_tells d 18 [(4, eR 1 j5), (0, eR 11 0), (1, eI x), (2, eI y), (3, eI z)] [eR 1 j15] M _
      refine ez_astore 20 [(5, eR 1 j15), (4, eR 1 j5), (0, eR 11 0), (1, eI x), (2, eI y), (3, eI z)] dX11_tells_18 rfl (by decide) rfl ?_
      refine ez_aload 22 dX11_tells_20 rfl rfl ?_
      refine ez_ifnull_r 25 dX11_tells_22 rfl ?_
      refine ez_aload 27 dX11_tells_25 rfl rfl ?_
      refine ez_ifnull_r 30 dX11_tells_27 rfl ?_
      refine ez_aload 32 dX11_tells_30 rfl rfl ?_
      refine ez_iload_n 33 dX11_tells_32 rfl rfl ?_
      refine ez_bipush 35 dX11_tells_33 rfl (nI 10) (by decide) ?_
      refine ez_irem 36 dX11_tells_35 rfl (by decide) ?_
      refine ez_callV 39 [eI (x - x / (nI 10) * (nI 10))] [] dX11_tells_36 rfl rfl ok_X1_hasRoom in_X1_hasRoom (by decide) (by show j5 < 4; omega) ln_X11_148 (by omega) (Nat.le_of_ble_eq_true rfl) (c_hasRoom_c G (d - 1) j5 (x - x / (nI 10) * (nI 10)) (q.1.2.1 j5) M (by omega) (hC.1.2.1 j5 (by omega)).1 (by have := (hW.1.2 j5 (by omega)).2.1; omega)) (fun r36 M36 q36 => ?_)
      obtain ⟨e36, ⟨rfl, i36⟩ | ⟨j36, b36, x36, rfl⟩⟩ := q36
      · rw [e36]
        show Ez G mX11_tells d 39 [(5, eR 1 j15), (4, eR 1 j5), (0, eR 11 0), (1, eI x), (2, eI y), (3, eI z)] [eI (nI 0)] M _
        refine ez_nif_eq 42 54 dX11_tells_39 rfl (by decide) (by omega) (fun h39 => ?_) (fun h39 => ?_)
        · refine ez_bipush 56 dX11_tells_54 rfl (-2) (by decide) ?_
          refine ez_iret .int dX11_tells_56 rfl rfl ?_
          exact ⟨by simp [S_tells, i5, i15, i36], hC, FX.rf⟩
        · exact absurd h39 (by decide)
      · rw [e36]
        have i36 : ep_ix (x - x / (nI 10) * (nI 10)) (q.1.2.1 j5) = some j36 := by rw [x36]; exact ep_ix_nI b36 (by have := (hW.1.2 j5 (by omega)).2.1; omega)
        show Ez G mX11_tells d 39 [(5, eR 1 j15), (4, eR 1 j5), (0, eR 11 0), (1, eI x), (2, eI y), (3, eI z)] [eI (nI 1)] M _
        refine ez_nif_eq 42 54 dX11_tells_39 rfl (by decide) (by omega) (fun h39 => ?_) (fun h39 => ?_)
        · exact absurd h39 (by decide)
        · refine ez_aload 44 dX11_tells_42 rfl rfl ?_
          refine ez_iload_n 45 dX11_tells_44 rfl rfl ?_
          refine ez_bipush 47 dX11_tells_45 rfl (nI 10) (by decide) ?_
          refine ez_irem 48 dX11_tells_47 rfl (by decide) ?_
          refine ez_callV 51 [eI (y - y / (nI 10) * (nI 10))] [] dX11_tells_48 rfl rfl ok_X1_hasRoom in_X1_hasRoom (by decide) (by show j15 < 4; omega) ln_X11_148 (by omega) (Nat.le_of_ble_eq_true rfl) (c_hasRoom_c G (d - 1) j15 (y - y / (nI 10) * (nI 10)) (q.1.2.1 j15) M (by omega) (hC.1.2.1 j15 (by omega)).1 (by have := (hW.1.2 j15 (by omega)).2.1; omega)) (fun r48 M48 q48 => ?_)
          obtain ⟨e48, ⟨rfl, i48⟩ | ⟨j48, b48, x48, rfl⟩⟩ := q48
          · rw [e48]
            show Ez G mX11_tells d 51 [(5, eR 1 j15), (4, eR 1 j5), (0, eR 11 0), (1, eI x), (2, eI y), (3, eI z)] [eI (nI 0)] M _
            refine ez_nif_ne 54 57 dX11_tells_51 rfl (by decide) (by omega) (fun h51 => ?_) (fun h51 => ?_)
            · exact absurd h51 (by decide)
            · refine ez_bipush 56 dX11_tells_54 rfl (-2) (by decide) ?_
              refine ez_iret .int dX11_tells_56 rfl rfl ?_
              exact ⟨by simp [S_tells, i5, i15, i36, i48], hC, FX.rf⟩
          · rw [e48]
            have i48 : ep_ix (y - y / (nI 10) * (nI 10)) (q.1.2.1 j15) = some j48 := by rw [x48]; exact ep_ix_nI b48 (by have := (hW.1.2 j15 (by omega)).2.1; omega)
            show Ez G mX11_tells d 51 [(5, eR 1 j15), (4, eR 1 j5), (0, eR 11 0), (1, eI x), (2, eI y), (3, eI z)] [eI (nI 1)] M _
            refine ez_nif_ne 54 57 dX11_tells_51 rfl (by decide) (by omega) (fun h51 => ?_) (fun h51 => ?_)
            · refine ez_iload_n 58 dX11_tells_57 rfl rfl ?_
              refine ez_iconst 59 dX11_tells_58 rfl (nI 2) (by decide) ?_
              refine ez_callS 62 [eI z, eI (nI 2)] [] dX11_tells_59 rfl rfl ok_X11_isInside st_X11_isInside ln_X11_134 (by omega) (Nat.le_of_ble_eq_true rfl) (c_isInside_c G (d - 1) z 2 M (by omega)) (fun r59 M59 q59 => ?_)
              obtain ⟨e59, ⟨rfl, i59⟩ | ⟨j59, b59, rfl, rfl⟩⟩ := q59
              · rw [e59]
                show Ez G mX11_tells d 62 [(5, eR 1 j15), (4, eR 1 j5), (0, eR 11 0), (1, eI x), (2, eI y), (3, eI z)] [eI (nI 0)] M _
                refine ez_nif_ne 65 68 dX11_tells_62 rfl (by decide) (by omega) (fun h62 => ?_) (fun h62 => ?_)
                · exact absurd h62 (by decide)
                · refine ez_bipush 67 dX11_tells_65 rfl (-2) (by decide) ?_
                  refine ez_iret .int dX11_tells_67 rfl rfl ?_
                  exact ⟨by simp [S_tells, i5, i15, i36, i48, i59], hC, FX.rf⟩
              · rw [e59]
                have i59 : ep_ix (nI j59) 2 = some j59 := ep_ix_nI b59 (by omega)
                show Ez G mX11_tells d 62 [(5, eR 1 j15), (4, eR 1 j5), (0, eR 11 0), (1, eI x), (2, eI y), (3, eI (nI j59))] [eI (nI 1)] M _
                refine ez_nif_ne 65 68 dX11_tells_62 rfl (by decide) (by omega) (fun h62 => ?_) (fun h62 => ?_)
                · refine ez_aload_n 69 dX11_tells_68 rfl rfl ?_
                  refine ez_getf 72 (eR 2 0) dX11_tells_69 rfl fl_X11_83 (by show 0 < 1; omega) rfl ?_
                  refine ez_aload 74 dX11_tells_72 rfl rfl ?_
                  refine ez_iload_n 75 dX11_tells_74 rfl rfl ?_
                  refine ez_bipush 77 dX11_tells_75 rfl (nI 10) (by decide) ?_
                  refine ez_irem 78 dX11_tells_77 rfl (by decide) ?_
                  refine ez_top (nI j36) x36 ?_
                  refine ez_aload 80 dX11_tells_78 rfl rfl ?_
                  refine ez_iload_n 81 dX11_tells_80 rfl rfl ?_
                  refine ez_bipush 83 dX11_tells_81 rfl (nI 10) (by decide) ?_
                  refine ez_irem 84 dX11_tells_83 rfl (by decide) ?_
                  refine ez_top (nI j48) x48 ?_
                  refine ez_callV 87 [eR 1 j5, eI (nI j36), eR 1 j15, eI (nI j48)] [] dX11_tells_84 rfl rfl ok_X2_seek in_X2_seek (by decide) (by show 0 < 1; omega) ln_X11_248 (by omega) (Nat.le_of_ble_eq_true rfl) (c_X2_seek G (d - 1) j5 j15 j36 j48 M (by omega) (by omega) (by omega) (g_WFz hW.1 (by omega)) (g_WFz hW.1 (by omega)) (by omega) (by omega) (g_RCz hC.1 (by omega)) (g_RCz hC.1 (by omega))) (fun r84 M84 q84 => ?_)
                  obtain ⟨rfl, g84, w84, f84⟩ := q84
                  show Ez G mX11_tells d 87 [(5, eR 1 j15), (4, eR 1 j5), (0, eR 11 0), (1, eI x), (2, eI y), (3, eI (nI j59))] [] M84 _
                  refine ez_iload_n 88 dX11_tells_87 rfl rfl ?_
                  refine ez_nif_ne 91 101 dX11_tells_88 rfl (by decide) (by omega) (fun h88 => ?_) (fun h88 => ?_)
                  · refine ez_aload_n 102 dX11_tells_101 rfl rfl ?_
                    refine ez_getf 105 (eR 2 0) dX11_tells_102 rfl fl_X11_83 (by show 0 < 1; omega) rfl ?_
                    refine ez_getf 108 (eI (M84.1 2 0 6)) dX11_tells_105 rfl fl_X11_255 (by show 0 < 1; omega) rfl ?_
                    refine ez_top (t_w (t_go (q.1.2.2.1 j5) (q.1.2.2.1 j15) j36 j48)) w84 ?_
                    refine ez_iret .int dX11_tells_108 rfl rfl ?_
                    exact ⟨by simp only [S_tells, i5, i15, i36, i48, i59]; rw [if_neg (show ¬ j59 = 0 by omega)], RC.sc hW hC f84.pfsc, f84.pfsc.scc⟩
                  · refine ez_aload_n 92 dX11_tells_91 rfl rfl ?_
                    refine ez_getf 95 (eR 2 0) dX11_tells_92 rfl fl_X11_83 (by show 0 < 1; omega) rfl ?_
                    refine ez_getf 98 (eI (M84.1 2 0 5)) dX11_tells_95 rfl fl_X11_252 (by show 0 < 1; omega) rfl ?_
                    refine ez_top (t_g (t_go (q.1.2.2.1 j5) (q.1.2.2.1 j15) j36 j48)) g84 ?_
                    refine ez_goto 108 dX11_tells_98 (by decide) ?_
                    refine ez_iret .int dX11_tells_108 rfl rfl ?_
                    exact ⟨by simp only [S_tells, i5, i15, i36, i48, i59]; rw [if_pos (show j59 = 0 by omega)], RC.sc hW hC f84.pfsc, f84.pfsc.scc⟩
                · exact absurd h62 (by decide)
            · exact absurd h51 (by decide)
set_option maxRecDepth 20000 in
theorem c_X12_isRoom (g : EzH) (d : Nat) {q : EpS} (x y : Int32) (M : EzM) (hd : 2 ≤ d) (hW : WF q) (hC : RM q M) : Ezc (true, g) mX12_isRoom d [eR 12 0, eI x, eI y] M (fun r M' => M' = M ∧ ((r = some (eI (nI 0)) ∧ (ep_ix x q.1.1 = none ∨ ∀ m, ep_ix x q.1.1 = some m → ep_ix y (q.1.2.1 m) = none)) ∨ ∃ a b, a < q.1.1 ∧ b < q.1.2.1 a ∧ x = nI a ∧ y = nI b ∧ r = some (eI (nI 1)))) := by
  refine Ezc.of (by decide +kernel) (Nat.le_of_ble_eq_true rfl) ?_
  have q8 := hW.2.1.1
  have q4 := hW.1.1
  have qx := hW.2.2.2.2.1
  show Ez (true, g) mX12_isRoom d 0 [(0, eR 12 0), (1, eI x), (2, eI y)] [] M _
  refine ez_aload_n 1 dX12_isRoom_0 rfl rfl ?_
  refine ez_iload_n 2 dX12_isRoom_1 rfl rfl ?_
  refine ez_callV 5 [eI x] [] dX12_isRoom_2 rfl rfl ok_X12_isMaze in_X12_isMaze (by decide) (by show 0 < 1; omega) ln_X12_137 (by omega) (Nat.le_of_ble_eq_true rfl) (c_X12_isMaze g (d - 1) x q.1.1 M (by omega) hC.1.1 (by omega)) (fun r2 M2 q2 => ?_)
  obtain ⟨e2, ⟨rfl, i2⟩ | ⟨j2, b2, rfl, rfl⟩⟩ := q2
  · rw [e2]
    show Ez (true, g) mX12_isRoom d 5 [(0, eR 12 0), (1, eI x), (2, eI y)] [eI (nI 0)] M _
    refine ez_nif_eq 8 30 dX12_isRoom_5 rfl (by decide) (by omega) (fun h5 => ?_) (fun h5 => ?_)
    · refine ez_iconst 31 dX12_isRoom_30 rfl (nI 0) (by decide) ?_
      refine ez_iret .boolean dX12_isRoom_31 rfl (by decide) ?_
      exact ⟨rfl, Or.inl ⟨rfl, Or.inl i2⟩⟩
    · exact absurd h5 (by decide)
  · rw [e2]
    have i2 : ep_ix (nI j2) q.1.1 = some j2 := ep_ix_nI b2 (by omega)
    show Ez (true, g) mX12_isRoom d 5 [(0, eR 12 0), (1, eI (nI j2)), (2, eI y)] [eI (nI 1)] M _
    refine ez_nif_eq 8 30 dX12_isRoom_5 rfl (by decide) (by omega) (fun h5 => ?_) (fun h5 => ?_)
    · exact absurd h5 (by decide)
    · refine ez_iload_n 9 dX12_isRoom_8 rfl rfl ?_
      refine ez_i2l 10 dX12_isRoom_9 rfl ?_
      refine ez_lconst 11 dX12_isRoom_10 rfl (nI 0).toInt64 (by decide) ?_
      refine ez_aload_n 12 dX12_isRoom_11 rfl rfl ?_
      refine ez_getf 15 (eR 46 0) dX12_isRoom_12 rfl fl_X12_26 (by show 0 < 1; omega) rfl ?_
      refine ez_iload_n 16 dX12_isRoom_15 rfl rfl ?_
      refine ez_ialdN j2 17 dX12_isRoom_16 rfl (by decide) (by show 0 < 1; omega) (by show j2 < 4; omega) ?_
      refine ez_top (nI (q.1.2.1 j2)) ((hC.1.2 j2 b2).1) ?_
      refine ez_iconst 18 dX12_isRoom_17 rfl (nI 1) (by decide) ?_
      refine ez_isub 19 dX12_isRoom_18 rfl ?_
      refine ez_i2l 20 dX12_isRoom_19 rfl ?_
      refine ez_callS 23 [eL y.toInt64, eL ((nI 0).toInt64), eL (((nI (q.1.2.1 j2)) - (nI 1)).toInt64)] [] dX12_isRoom_20 rfl rfl ok_X12_in st_X12_in ln_X12_133 (by omega) (Nat.le_of_ble_eq_true rfl) (c_in_c g (d - 1) y (q.1.2.1 j2) M (by have := (hW.1.2 j2 b2).2.1; omega)) (fun r20 M20 q20 => ?_)
      obtain ⟨e20, ⟨rfl, i20⟩ | ⟨j20, b20, rfl, rfl⟩⟩ := q20
      · rw [e20]
        show Ez (true, g) mX12_isRoom d 23 [(0, eR 12 0), (1, eI (nI j2)), (2, eI y)] [eI (nI 0)] M _
        refine ez_nif_eq 26 30 dX12_isRoom_23 rfl (by decide) (by omega) (fun h23 => ?_) (fun h23 => ?_)
        · refine ez_iconst 31 dX12_isRoom_30 rfl (nI 0) (by decide) ?_
          refine ez_iret .boolean dX12_isRoom_31 rfl (by decide) ?_
          exact ⟨rfl, Or.inl ⟨rfl, Or.inr (fun m hm => by rw [i2] at hm; cases hm; exact i20)⟩⟩
        · exact absurd h23 (by decide)
      · rw [e20]
        have i20 : ep_ix (nI j20) (q.1.2.1 j2) = some j20 := ep_ix_nI b20 (by have := (hW.1.2 j2 b2).2.1; omega)
        show Ez (true, g) mX12_isRoom d 23 [(0, eR 12 0), (1, eI (nI j2)), (2, eI (nI j20))] [eI (nI 1)] M _
        refine ez_nif_eq 26 30 dX12_isRoom_23 rfl (by decide) (by omega) (fun h23 => ?_) (fun h23 => ?_)
        · exact absurd h23 (by decide)
        · refine ez_iconst 27 dX12_isRoom_26 rfl (nI 1) (by decide) ?_
          refine ez_goto 31 dX12_isRoom_27 (by decide) ?_
          refine ez_iret .boolean dX12_isRoom_31 rfl (by decide) ?_
          exact ⟨rfl, Or.inr ⟨j2, j20, b2, b20, rfl, rfl, rfl⟩⟩
def QP (B : BfS) (M : EzM) : Prop := (∀ i, i < B.1 → M.1 61 0 i = nI (B.2 i).1 ∧ M.1 62 0 (B.2 i).1 = nI (B.2 i).2.1 ∧ M.1 63 0 (B.2 i).1 = (B.2 i).2.2) ∧ ∀ j, j < 100 → (Bvis B j → M.1 60 0 j = nI 1) ∧ (¬ Bvis B j → M.1 60 0 j = nI 0)
def QF (k i s : Nat) : Prop := 60 ≤ k ∧ k ≤ 63
theorem FX.qfsm {M M' : EzM} (h : FX QF M M') : FX SM M M' := h.up (fun k i s z => by unfold QF at z; unfold SM; omega)
theorem QP_new {B : BfS} {M : EzM} {p f : Nat} {w : Int32} (h : QP B M) (hv : ¬ Bvis B p) : QP (bf_add B (p, f, w)) (ez_st (ez_st (ez_st (ez_st M 60 0 p (nI 1)) 62 0 p (nI f)) 63 0 p w) 61 0 B.1 (nI p)) := by
  obtain ⟨a2, a3⟩ := h
  have hb := @Bvis_add B (p, f, w)
  rw [bf_add_new hv] at hb ⊢
  refine ⟨fun i hi => ?_, fun j hj => ⟨fun z => ?_, fun z => ?_⟩⟩
  · have hi' : i < B.1 + 1 := hi
    have e0 : ((B.1 + 1, va_up B.2 B.1 (p, f, w)) : BfS).2 i = va_up B.2 B.1 (p, f, w) i := rfl
    rw [e0]
    by_cases e : i = B.1
    · rw [e, va_up_self]
      simp [ez_rd]
    · rw [va_up_ne _ _ e]
      have e2 : ¬ (B.2 i).1 = p := fun z => hv ⟨i, by omega, z⟩
      have := a2 i (by omega)
      simp [ez_rd, e, e2, this]
  · by_cases e : j = p
    · simp [ez_rd, e]
    · have hv2 : Bvis B j := (hb.mp z).elim id (fun z => absurd z e)
      simp [ez_rd, e, (a3 j hj).1 hv2]
  · have e : ¬ j = p := fun e => z (hb.mpr (Or.inr e))
    have hv2 : ¬ Bvis B j := fun y => z (hb.mpr (Or.inl y))
    simp [ez_rd, e, (a3 j hj).2 hv2]
theorem bz_dn {la lb : Nat → Int32} {r s c : Nat} (h : ep_dn la r = ep_dn lb s) (hc : c < 4) : la (4 * r + c) = -1 ↔ lb (4 * s + c) = -1 := by
  have h1 := ep_dn_b la r hc
  have h2 := ep_dn_b lb s hc
  rw [h] at h1
  constructor
  · intro z
    exact Classical.byContradiction (fun y => (h1.mp (h2.mpr y)) z)
  · intro z
    exact Classical.byContradiction (fun y => (h2.mp (h1.mpr y)) z)
set_option maxRecDepth 20000 in
theorem lp_mt183 (g : EzH) (d : Nat) {B : BfS} {n1 n2 : Nat} {la lb : Nat → Int32} (ma mb k cw : Nat) (P : Option EzV → EzM → Prop) (M0 : EzM) (hd : 4 ≤ d) (hm : ma < 4) (hn : mb < 4) (hcw : cw < 2) (h1 : WFz n1 la) (h2 : WFz n2 lb) (hZ1 : RMz ma n1 la M0) (hZ2 : RMz mb n2 lb M0) (hk : k < B.1) (hA : Bap B) (hI : ∀ i, i < B.1 → t_I n1 n2 la lb (B.2 i)) (hfar : Bfar B) (hstop : ∀ B2 v M', bf_d (t_sf la lb) (B.2 k) B 4 = (B2, some v) → FX QF M0 M' → P (some (eI (if cw = 0 then nI v.1 else v.2))) M') (hon : ∀ B2 M', bf_d (t_sf la lb) (B.2 k) B 4 = (B2, none) → QP B2 M' → FX QF M0 M' → Ez (true, g) mX12_tells d 404 [(8, eI (nI k)), (7, eI (nI B2.1)), (5, eI (nI mb)), (4, eI (nI ma)), (3, eI (nI cw)), (0, eR 12 0)] [] M' P) : ∀ (z : Nat) (c : Nat) (B1 : BfS) (M1 : EzM), 4 - c = z → c ≤ 4 → bf_d (t_sf la lb) (B.2 k) B c = (B1, none) → QP B1 M1 → FX QF M0 M1 → Ez (true, g) mX12_tells d 183 [(10, eI (nI c)), (9, eI (nI ((B.2 k).1))), (8, eI (nI k)), (7, eI (nI B1.1)), (5, eI (nI mb)), (4, eI (nI ma)), (3, eI (nI cw)), (0, eR 12 0)] [] M1 (P) := by
  intro z
  induction z using Nat.strongRecOn with
  | ind z ih =>
    intro c B1 M1 hz hc hD hQ hF
    have n10 := h1.2.1
    have m10 := h2.2.1
    obtain ⟨t1, t2, t3⟩ := hI k hk
    have f9 := hfar k hk
    have A9 : Bap B1 := by have := bf_d_ap (t_sf la lb) (B.2 k) hA c; rw [hD] at this; exact this
    have I9 : ∀ i, i < B1.1 → t_I n1 n2 la lb (B1.2 i) := by have := bf_d_inv (sf := t_sf la lb) (e := B.2 k) hI (fun c e' hc he => t_sf_I h1 h2 _ c e' (hI k hk) hc he) c hc; rw [hD] at this; exact this
    have N9 : ∀ i, i < B1.1 → (B1.2 i).1 < 100 := fun i hi => by have := I9 i hi; unfold t_I at this; omega
    have X9 : BfX B B1 := by have := bf_d_ext (t_sf la lb) (B.2 k) B c; rw [hD] at this; exact this
    have b101 := A9.le N9
    have x9 := X9.1
    have v9 := hQ.1 k (by omega)
    rw [X9.2 k hk] at v9
    refine ez_iload 185 dX12_tells_183 rfl rfl ?_
    refine ez_iconst 186 dX12_tells_185 rfl (nI 4) (by decide) ?_
    refine ez_ncmp_ge 189 404 dX12_tells_186 rfl (by decide) (by omega) (by omega) (fun h186 => ?_) (fun h186 => ?_)
    · have e9 : c = 4 := by omega
      subst e9
      refine ez_drop [(8, eI (nI k)), (7, eI (nI B1.1)), (5, eI (nI mb)), (4, eI (nI ma)), (3, eI (nI cw)), (0, eR 12 0)] (by simp) ?_
      exact hon B1 M1 hD hQ hF
    · refine ez_aload_n 190 dX12_tells_189 rfl rfl ?_
      refine ez_iload 192 dX12_tells_190 rfl rfl ?_
      refine ez_iload 194 dX12_tells_192 rfl rfl ?_
      refine ez_bipush 196 dX12_tells_194 rfl (nI 10) (by decide) ?_
      refine ez_idiv 197 dX12_tells_196 rfl (by decide) ?_
      refine ez_top (nI (((B.2 k).1) / 10)) (pk_div (by omega) (by omega) (by omega)) ?_
      refine ez_iload 199 dX12_tells_197 rfl rfl ?_
      refine ez_callV 202 [eI (nI ma), eI (nI (((B.2 k).1) / 10)), eI (nI c)] [] dX12_tells_199 rfl rfl ok_X12_to in_X12_to (by decide) (by show 0 < 1; omega) ln_X12_170 (by omega) (Nat.le_of_ble_eq_true rfl) (c_X12_to g (d - 1) ma (((B.2 k).1) / 10) c M1 (by omega) (by omega) (by omega)) (fun r199 M199 q199 => ?_)
      obtain ⟨rfl, e199⟩ := q199
      rw [e199, show M1.1 45 0 (40 * ma + (4 * (((B.2 k).1) / 10) + c)) = la (4 * (((B.2 k).1) / 10) + c) from (hZ1.fx hF ⟨by unfold QF; omega, fun x => by unfold QF; omega⟩).2 _ (by omega)]
      show Ez (true, g) mX12_tells d 202 [(10, eI (nI c)), (9, eI (nI ((B.2 k).1))), (8, eI (nI k)), (7, eI (nI B1.1)), (5, eI (nI mb)), (4, eI (nI ma)), (3, eI (nI cw)), (0, eR 12 0)] [eI (la (4 * (((B.2 k).1) / 10) + c))] M1 _
      refine ez_istore 204 [(11, eI (la (4 * (((B.2 k).1) / 10) + c))), (10, eI (nI c)), (9, eI (nI ((B.2 k).1))), (8, eI (nI k)), (7, eI (nI B1.1)), (5, eI (nI mb)), (4, eI (nI ma)), (3, eI (nI cw)), (0, eR 12 0)] dX12_tells_202 rfl (by decide) rfl ?_
      refine ez_iload 206 dX12_tells_204 rfl rfl ?_
      refine ez_iconst 207 dX12_tells_206 rfl (-1) (by decide) ?_
      refine ez_icmp_ne 210 213 dX12_tells_207 rfl (by decide) (fun h207 => ?_) (fun h207 => ?_)
      · rcases h1.2.2 ((B.2 k).1 / 10) c (by omega) (by omega) with z | ⟨-, r1, c1, b1, b2, b3⟩
        · exact absurd z h207
        have h81 : ¬ lb (4 * ((B.2 k).1 % 10) + c) = -1 := fun z => h207 ((bz_dn t3 (by omega)).mpr z)
        rcases h2.2.2 ((B.2 k).1 % 10) c (by omega) (by omega) with z | ⟨-, r2, c2, b4, b5, b6⟩
        · exact absurd z h81
        have d1 := ep_dn16 la ((10 * r1 + c1) / 10)
        have d2 := ep_dn16 lb ((10 * r2 + c2) / 10)
        rw [b3]
        show Ez (true, g) mX12_tells d 213 [(11, eI (nI (10 * r1 + c1))), (10, eI (nI c)), (9, eI (nI ((B.2 k).1))), (8, eI (nI k)), (7, eI (nI B1.1)), (5, eI (nI mb)), (4, eI (nI ma)), (3, eI (nI cw)), (0, eR 12 0)] [] M1 _
        refine ez_aload_n 214 dX12_tells_213 rfl rfl ?_
        refine ez_iload 216 dX12_tells_214 rfl rfl ?_
        refine ez_iload 218 dX12_tells_216 rfl rfl ?_
        refine ez_bipush 220 dX12_tells_218 rfl (nI 10) (by decide) ?_
        refine ez_irem 221 dX12_tells_220 rfl (by decide) ?_
        refine ez_top (nI (((B.2 k).1) % 10)) (pk_rem (by omega) (by omega) (by omega)) ?_
        refine ez_iload 223 dX12_tells_221 rfl rfl ?_
        refine ez_callV 226 [eI (nI mb), eI (nI (((B.2 k).1) % 10)), eI (nI c)] [] dX12_tells_223 rfl rfl ok_X12_to in_X12_to (by decide) (by show 0 < 1; omega) ln_X12_170 (by omega) (Nat.le_of_ble_eq_true rfl) (c_X12_to g (d - 1) mb (((B.2 k).1) % 10) c M1 (by omega) (by omega) (by omega)) (fun r223 M223 q223 => ?_)
        obtain ⟨rfl, e223⟩ := q223
        rw [e223, show M1.1 45 0 (40 * mb + (4 * (((B.2 k).1) % 10) + c)) = lb (4 * (((B.2 k).1) % 10) + c) from (hZ2.fx hF ⟨by unfold QF; omega, fun x => by unfold QF; omega⟩).2 _ (by omega)]
        show Ez (true, g) mX12_tells d 226 [(11, eI (nI (10 * r1 + c1))), (10, eI (nI c)), (9, eI (nI ((B.2 k).1))), (8, eI (nI k)), (7, eI (nI B1.1)), (5, eI (nI mb)), (4, eI (nI ma)), (3, eI (nI cw)), (0, eR 12 0)] [eI (lb (4 * (((B.2 k).1) % 10) + c))] M1 _
        refine ez_top (nI (10 * r2 + c2)) b6 ?_
        refine ez_istore 228 [(12, eI (nI (10 * r2 + c2))), (11, eI (nI (10 * r1 + c1))), (10, eI (nI c)), (9, eI (nI ((B.2 k).1))), (8, eI (nI k)), (7, eI (nI B1.1)), (5, eI (nI mb)), (4, eI (nI ma)), (3, eI (nI cw)), (0, eR 12 0)] dX12_tells_226 rfl (by decide) rfl ?_
        refine ez_aload_n 229 dX12_tells_228 rfl rfl ?_
        refine ez_getf 232 (eR 62 0) dX12_tells_229 rfl fl_X12_75 (by show 0 < 1; omega) rfl ?_
        refine ez_iload 234 dX12_tells_232 rfl rfl ?_
        refine ez_ialdN ((B.2 k).1) 235 dX12_tells_234 rfl (by decide) (by show 0 < 1; omega) (by show (B.2 k).1 < 100; omega) ?_
        refine ez_top (nI ((B.2 k).2.1)) v9.2.1 ?_
        refine ez_bipush 237 dX12_tells_235 rfl (nI 8) (by decide) ?_
        refine ez_ncmp_ge 240 258 dX12_tells_237 rfl (by decide) (by omega) (by omega) (fun h237 => ?_) (fun h237 => ?_)
        · refine ez_aload_n 259 dX12_tells_258 rfl rfl ?_
          refine ez_getf 262 (eR 63 0) dX12_tells_259 rfl fl_X12_78 (by show 0 < 1; omega) rfl ?_
          refine ez_iload 264 dX12_tells_262 rfl rfl ?_
          refine ez_ialdN ((B.2 k).1) 265 dX12_tells_264 rfl (by decide) (by show 0 < 1; omega) (by show (B.2 k).1 < 100; omega) ?_
          refine ez_top ((B.2 k).2.2) v9.2.2 ?_
          refine ez_top (t_dg (B.2 k) c) (by unfold t_dg; rw [if_neg (by omega)]) ?_
          refine ez_istore 267 [(13, eI (t_dg (B.2 k) c)), (12, eI (nI (10 * r2 + c2))), (11, eI (nI (10 * r1 + c1))), (10, eI (nI c)), (9, eI (nI ((B.2 k).1))), (8, eI (nI k)), (7, eI (nI B1.1)), (5, eI (nI mb)), (4, eI (nI ma)), (3, eI (nI cw)), (0, eR 12 0)] dX12_tells_265 rfl (by decide) rfl ?_
          refine ez_iload 269 dX12_tells_267 rfl rfl ?_
          refine ez_bipush 271 dX12_tells_269 rfl (nI 10) (by decide) ?_
          refine ez_irem 272 dX12_tells_271 rfl (by decide) ?_
          refine ez_top (nI ((10 * r1 + c1) % 10)) (pk_rem (by omega) (by omega) (by omega)) ?_
          refine ez_iload 274 dX12_tells_272 rfl rfl ?_
          refine ez_bipush 276 dX12_tells_274 rfl (nI 10) (by decide) ?_
          refine ez_irem 277 dX12_tells_276 rfl (by decide) ?_
          refine ez_top (nI ((10 * r2 + c2) % 10)) (pk_rem (by omega) (by omega) (by omega)) ?_
          refine ez_ncmp_ne 280 305 dX12_tells_277 rfl (by decide) (by omega) (by omega) (fun h277 => ?_) (fun h277 => ?_)
          · refine ez_iload_n 306 dX12_tells_305 rfl rfl ?_
            refine ez_nif_ne 309 321 dX12_tells_306 rfl (by decide) (by omega) (fun h306 => ?_) (fun h306 => ?_)
            · refine ez_iload 323 dX12_tells_321 rfl rfl ?_
              refine ez_iret .int dX12_tells_323 rfl rfl ?_
              have s9 := t_sf_stop (la := la) (lb := lb) (e := B.2 k) (c := c) (show 10 * r1 + c1 < 2 ^ 31 by omega) (show 10 * r2 + c2 < 2 ^ 31 by omega) b3 b6 (Or.inl h277)
              have e9 := bf_d_stay (bf_d_stop hD s9) (3 - c)
              rw [show c + 1 + (3 - c) = 4 by omega] at e9
              have p9 := hstop _ _ M1 e9 hF
              rw [if_neg (show ¬ cw = 0 by omega)] at p9
              exact p9
            · refine ez_aload_n 310 dX12_tells_309 rfl rfl ?_
              refine ez_getf 313 (eR 62 0) dX12_tells_310 rfl fl_X12_75 (by show 0 < 1; omega) rfl ?_
              refine ez_iload 315 dX12_tells_313 rfl rfl ?_
              refine ez_ialdN ((B.2 k).1) 316 dX12_tells_315 rfl (by decide) (by show 0 < 1; omega) (by show (B.2 k).1 < 100; omega) ?_
              refine ez_top (nI ((B.2 k).2.1)) v9.2.1 ?_
              refine ez_iconst 317 dX12_tells_316 rfl (nI 1) (by decide) ?_
              refine ez_iadd 318 dX12_tells_317 rfl ?_
              refine ez_top (nI ((B.2 k).2.1 + 1)) (nI_add _ _) ?_
              refine ez_goto 323 dX12_tells_318 (by decide) ?_
              refine ez_iret .int dX12_tells_323 rfl rfl ?_
              have s9 := t_sf_stop (la := la) (lb := lb) (e := B.2 k) (c := c) (show 10 * r1 + c1 < 2 ^ 31 by omega) (show 10 * r2 + c2 < 2 ^ 31 by omega) b3 b6 (Or.inl h277)
              have e9 := bf_d_stay (bf_d_stop hD s9) (3 - c)
              rw [show c + 1 + (3 - c) = 4 by omega] at e9
              have p9 := hstop _ _ M1 e9 hF
              rw [if_pos (show cw = 0 by omega)] at p9
              exact p9
          · refine ez_aload_n 281 dX12_tells_280 rfl rfl ?_
            refine ez_iload 283 dX12_tells_281 rfl rfl ?_
            refine ez_iload 285 dX12_tells_283 rfl rfl ?_
            refine ez_bipush 287 dX12_tells_285 rfl (nI 10) (by decide) ?_
            refine ez_idiv 288 dX12_tells_287 rfl (by decide) ?_
            refine ez_top (nI ((10 * r1 + c1) / 10)) (pk_div (by omega) (by omega) (by omega)) ?_
            refine ez_callV 291 [eI (nI ma), eI (nI ((10 * r1 + c1) / 10))] [] dX12_tells_288 rfl rfl ok_X12_doorsOf in_X12_doorsOf (by decide) (by show 0 < 1; omega) ln_X12_190 (by omega) (Nat.le_of_ble_eq_true rfl) (c_X12_doorsOf g (d - 1) ma n1 ((10 * r1 + c1) / 10) la M1 (by omega) (by omega) (by omega) (hZ1.fx hF ⟨by unfold QF; omega, fun x => by unfold QF; omega⟩)) (fun r288 M288 q288 => ?_)
            obtain ⟨rfl, e288⟩ := q288
            rw [e288]
            show Ez (true, g) mX12_tells d 291 [(13, eI (t_dg (B.2 k) c)), (12, eI (nI (10 * r2 + c2))), (11, eI (nI (10 * r1 + c1))), (10, eI (nI c)), (9, eI (nI ((B.2 k).1))), (8, eI (nI k)), (7, eI (nI B1.1)), (5, eI (nI mb)), (4, eI (nI ma)), (3, eI (nI cw)), (0, eR 12 0)] [eI (nI (ep_dn la ((10 * r1 + c1) / 10)))] M1 _
            refine ez_aload_n 292 dX12_tells_291 rfl rfl ?_
            refine ez_iload 294 dX12_tells_292 rfl rfl ?_
            refine ez_iload 296 dX12_tells_294 rfl rfl ?_
            refine ez_bipush 298 dX12_tells_296 rfl (nI 10) (by decide) ?_
            refine ez_idiv 299 dX12_tells_298 rfl (by decide) ?_
            refine ez_top (nI ((10 * r2 + c2) / 10)) (pk_div (by omega) (by omega) (by omega)) ?_
            refine ez_callV 302 [eI (nI mb), eI (nI ((10 * r2 + c2) / 10))] [eI (nI (ep_dn la ((10 * r1 + c1) / 10)))] dX12_tells_299 rfl rfl ok_X12_doorsOf in_X12_doorsOf (by decide) (by show 0 < 1; omega) ln_X12_190 (by omega) (Nat.le_of_ble_eq_true rfl) (c_X12_doorsOf g (d - 1) mb n2 ((10 * r2 + c2) / 10) lb M1 (by omega) (by omega) (by omega) (hZ2.fx hF ⟨by unfold QF; omega, fun x => by unfold QF; omega⟩)) (fun r299 M299 q299 => ?_)
            obtain ⟨rfl, e299⟩ := q299
            rw [e299]
            show Ez (true, g) mX12_tells d 302 [(13, eI (t_dg (B.2 k) c)), (12, eI (nI (10 * r2 + c2))), (11, eI (nI (10 * r1 + c1))), (10, eI (nI c)), (9, eI (nI ((B.2 k).1))), (8, eI (nI k)), (7, eI (nI B1.1)), (5, eI (nI mb)), (4, eI (nI ma)), (3, eI (nI cw)), (0, eR 12 0)] [eI (nI (ep_dn lb ((10 * r2 + c2) / 10))), eI (nI (ep_dn la ((10 * r1 + c1) / 10)))] M1 _
            refine ez_ncmp_eq 305 324 dX12_tells_302 rfl (by decide) (by omega) (by omega) (fun h302 => ?_) (fun h302 => ?_)
            · refine ez_bipush 326 dX12_tells_324 rfl (nI 10) (by decide) ?_
              refine ez_iload 328 dX12_tells_326 rfl rfl ?_
              refine ez_bipush 330 dX12_tells_328 rfl (nI 10) (by decide) ?_
              refine ez_idiv 331 dX12_tells_330 rfl (by decide) ?_
              refine ez_top (nI ((10 * r1 + c1) / 10)) (pk_div (by omega) (by omega) (by omega)) ?_
              refine ez_imul 332 dX12_tells_331 rfl ?_
              refine ez_top (nI (10 * ((10 * r1 + c1) / 10))) (pk_mul _ _) ?_
              refine ez_iload 334 dX12_tells_332 rfl rfl ?_
              refine ez_bipush 336 dX12_tells_334 rfl (nI 10) (by decide) ?_
              refine ez_idiv 337 dX12_tells_336 rfl (by decide) ?_
              refine ez_top (nI ((10 * r2 + c2) / 10)) (pk_div (by omega) (by omega) (by omega)) ?_
              refine ez_iadd 338 dX12_tells_337 rfl ?_
              refine ez_top (nI (10 * ((10 * r1 + c1) / 10) + (10 * r2 + c2) / 10)) (nI_add _ _) ?_
              refine ez_istore 340 [(14, eI (nI (10 * ((10 * r1 + c1) / 10) + (10 * r2 + c2) / 10))), (13, eI (t_dg (B.2 k) c)), (12, eI (nI (10 * r2 + c2))), (11, eI (nI (10 * r1 + c1))), (10, eI (nI c)), (9, eI (nI ((B.2 k).1))), (8, eI (nI k)), (7, eI (nI B1.1)), (5, eI (nI mb)), (4, eI (nI ma)), (3, eI (nI cw)), (0, eR 12 0)] dX12_tells_338 rfl (by decide) rfl ?_
              by_cases hv : Bvis B1 (10 * ((10 * r1 + c1) / 10) + (10 * r2 + c2) / 10)
              · skip
                refine ez_aload_n 341 dX12_tells_340 rfl rfl ?_
                refine ez_getf 344 (eR 60 0) dX12_tells_341 rfl fl_X12_68 (by show 0 < 1; omega) rfl ?_
                refine ez_iload 346 dX12_tells_344 rfl rfl ?_
                refine ez_zaldN (10 * ((10 * r1 + c1) / 10) + (10 * r2 + c2) / 10) 347 dX12_tells_346 rfl (by decide) (by show 0 < 1; omega) (by show 10 * ((10 * r1 + c1) / 10) + (10 * r2 + c2) / 10 < 100; omega) ?_
                refine ez_top (nI 1) ((hQ.2 _ (by omega)).1 hv) ?_
                refine ez_nif_eq 350 353 dX12_tells_347 rfl (by decide) (by omega) (fun h347 => ?_) (fun h347 => ?_)
                · exact absurd h347 (by decide)
                · refine ez_goto 398 dX12_tells_350 (by decide) ?_
                  refine ez_iinc 401 (nI (c + 1)) [(10, eI (nI (c + 1))), (14, eI (nI (10 * ((10 * r1 + c1) / 10) + (10 * r2 + c2) / 10))), (13, eI (t_dg (B.2 k) c)), (12, eI (nI (10 * r2 + c2))), (11, eI (nI (10 * r1 + c1))), (9, eI (nI ((B.2 k).1))), (8, eI (nI k)), (7, eI (nI B1.1)), (5, eI (nI mb)), (4, eI (nI ma)), (3, eI (nI cw)), (0, eR 12 0)] dX12_tells_398 rfl rfl (nI_add c 1) (by decide) rfl ?_
                  refine ez_goto 183 dX12_tells_401 (by decide) ?_
                  have s9 := t_sf_new (la := la) (lb := lb) (e := B.2 k) (c := c) (show 10 * r1 + c1 < 2 ^ 31 by omega) (show 10 * r2 + c2 < 2 ^ 31 by omega) b3 b6 h277 h302
                  rw [show (10 * r1 + c1) / 10 * 10 + (10 * r2 + c2) / 10 = 10 * ((10 * r1 + c1) / 10) + (10 * r2 + c2) / 10 by omega] at s9
                  refine ez_drop [(10, eI (nI (c + 1))), (9, eI (nI ((B.2 k).1))), (8, eI (nI k)), (7, eI (nI B1.1)), (5, eI (nI mb)), (4, eI (nI ma)), (3, eI (nI cw)), (0, eR 12 0)] (by simp) ?_
                  have e7 := bf_d_new hD s9
                  rw [bf_add_in hv] at e7
                  exact ih (4 - (c + 1)) (by omega) (c + 1) B1 M1 rfl (by omega) e7 hQ hF
              · have hlt : B1.1 < 100 := A9.lt N9 (by omega) hv
                skip
                refine ez_aload_n 341 dX12_tells_340 rfl rfl ?_
                refine ez_getf 344 (eR 60 0) dX12_tells_341 rfl fl_X12_68 (by show 0 < 1; omega) rfl ?_
                refine ez_iload 346 dX12_tells_344 rfl rfl ?_
                refine ez_zaldN (10 * ((10 * r1 + c1) / 10) + (10 * r2 + c2) / 10) 347 dX12_tells_346 rfl (by decide) (by show 0 < 1; omega) (by show 10 * ((10 * r1 + c1) / 10) + (10 * r2 + c2) / 10 < 100; omega) ?_
                refine ez_top (nI 0) ((hQ.2 _ (by omega)).2 hv) ?_
                refine ez_nif_eq 350 353 dX12_tells_347 rfl (by decide) (by omega) (fun h347 => ?_) (fun h347 => ?_)
                · refine ez_aload_n 354 dX12_tells_353 rfl rfl ?_
                  refine ez_getf 357 (eR 60 0) dX12_tells_354 rfl fl_X12_68 (by show 0 < 1; omega) rfl ?_
                  refine ez_iload 359 dX12_tells_357 rfl rfl ?_
                  refine ez_iconst 360 dX12_tells_359 rfl (nI 1) (by decide) ?_
                  refine ez_zastN (10 * ((10 * r1 + c1) / 10) + (10 * r2 + c2) / 10) 361 dX12_tells_360 rfl (by decide) (by show 0 < 1; omega) (by show 10 * ((10 * r1 + c1) / 10) + (10 * r2 + c2) / 10 < 100; omega) (by decide) ?_
                  refine ez_aload_n 362 dX12_tells_361 rfl rfl ?_
                  refine ez_getf 365 (eR 62 0) dX12_tells_362 rfl fl_X12_75 (by show 0 < 1; omega) rfl ?_
                  refine ez_iload 367 dX12_tells_365 rfl rfl ?_
                  refine ez_aload_n 368 dX12_tells_367 rfl rfl ?_
                  refine ez_getf 371 (eR 62 0) dX12_tells_368 rfl fl_X12_75 (by show 0 < 1; omega) rfl ?_
                  refine ez_iload 373 dX12_tells_371 rfl rfl ?_
                  refine ez_ialdN ((B.2 k).1) 374 dX12_tells_373 rfl (by decide) (by show 0 < 1; omega) (by show (B.2 k).1 < 100; omega) ?_
                  refine ez_top (M1.1 62 0 ((B.2 k).1)) rfl ?_
                  refine ez_top (nI ((B.2 k).2.1)) v9.2.1 ?_
                  refine ez_iconst 375 dX12_tells_374 rfl (nI 1) (by decide) ?_
                  refine ez_iadd 376 dX12_tells_375 rfl ?_
                  refine ez_top (nI ((B.2 k).2.1 + 1)) (nI_add _ _) ?_
                  refine ez_iastN (10 * ((10 * r1 + c1) / 10) + (10 * r2 + c2) / 10) 377 dX12_tells_376 rfl (by decide) (by show 0 < 1; omega) (by show 10 * ((10 * r1 + c1) / 10) + (10 * r2 + c2) / 10 < 100; omega) ?_
                  refine ez_aload_n 378 dX12_tells_377 rfl rfl ?_
                  refine ez_getf 381 (eR 63 0) dX12_tells_378 rfl fl_X12_78 (by show 0 < 1; omega) rfl ?_
                  refine ez_iload 383 dX12_tells_381 rfl rfl ?_
                  refine ez_iload 385 dX12_tells_383 rfl rfl ?_
                  refine ez_iastN (10 * ((10 * r1 + c1) / 10) + (10 * r2 + c2) / 10) 386 dX12_tells_385 rfl (by decide) (by show 0 < 1; omega) (by show 10 * ((10 * r1 + c1) / 10) + (10 * r2 + c2) / 10 < 100; omega) ?_
                  refine ez_aload_n 387 dX12_tells_386 rfl rfl ?_
                  refine ez_getf 390 (eR 61 0) dX12_tells_387 rfl fl_X12_72 (by show 0 < 1; omega) rfl ?_
                  refine ez_iload 392 dX12_tells_390 rfl rfl ?_
                  refine ez_iload 394 dX12_tells_392 rfl rfl ?_
                  refine ez_iastN B1.1 395 dX12_tells_394 rfl (by decide) (by show 0 < 1; omega) (by show B1.1 < 100; omega) ?_
                  refine ez_iinc 398 (nI (B1.1 + 1)) [(7, eI (nI (B1.1 + 1))), (14, eI (nI (10 * ((10 * r1 + c1) / 10) + (10 * r2 + c2) / 10))), (13, eI (t_dg (B.2 k) c)), (12, eI (nI (10 * r2 + c2))), (11, eI (nI (10 * r1 + c1))), (10, eI (nI c)), (9, eI (nI ((B.2 k).1))), (8, eI (nI k)), (5, eI (nI mb)), (4, eI (nI ma)), (3, eI (nI cw)), (0, eR 12 0)] dX12_tells_395 rfl rfl (nI_add B1.1 1) (by decide) rfl ?_
                  refine ez_iinc 401 (nI (c + 1)) [(10, eI (nI (c + 1))), (7, eI (nI (B1.1 + 1))), (14, eI (nI (10 * ((10 * r1 + c1) / 10) + (10 * r2 + c2) / 10))), (13, eI (t_dg (B.2 k) c)), (12, eI (nI (10 * r2 + c2))), (11, eI (nI (10 * r1 + c1))), (9, eI (nI ((B.2 k).1))), (8, eI (nI k)), (5, eI (nI mb)), (4, eI (nI ma)), (3, eI (nI cw)), (0, eR 12 0)] dX12_tells_398 rfl rfl (nI_add c 1) (by decide) rfl ?_
                  refine ez_goto 183 dX12_tells_401 (by decide) ?_
                  have s9 := t_sf_new (la := la) (lb := lb) (e := B.2 k) (c := c) (show 10 * r1 + c1 < 2 ^ 31 by omega) (show 10 * r2 + c2 < 2 ^ 31 by omega) b3 b6 h277 h302
                  rw [show (10 * r1 + c1) / 10 * 10 + (10 * r2 + c2) / 10 = 10 * ((10 * r1 + c1) / 10) + (10 * r2 + c2) / 10 by omega] at s9
                  refine ez_drop [(10, eI (nI (c + 1))), (9, eI (nI ((B.2 k).1))), (8, eI (nI k)), (7, eI (nI (B1.1 + 1))), (5, eI (nI mb)), (4, eI (nI ma)), (3, eI (nI cw)), (0, eR 12 0)] (by simp) ?_
                  have e8 : (bf_add B1 (10 * ((10 * r1 + c1) / 10) + (10 * r2 + c2) / 10, (B.2 k).2.1 + 1, t_dg (B.2 k) c)).1 = B1.1 + 1 := by rw [bf_add_new hv]
                  rw [← e8]
                  exact ih (4 - (c + 1)) (by omega) (c + 1) _ _ rfl (by omega) (bf_d_new hD s9) (QP_new hQ hv) ((((hF.st (by unfold QF; omega)).st (by unfold QF; omega)).st (by unfold QF; omega)).st (by unfold QF; omega))
                · exact absurd h347 (by decide)
            · refine ez_iload_n 306 dX12_tells_305 rfl rfl ?_
              refine ez_nif_ne 309 321 dX12_tells_306 rfl (by decide) (by omega) (fun h306 => ?_) (fun h306 => ?_)
              · refine ez_iload 323 dX12_tells_321 rfl rfl ?_
                refine ez_iret .int dX12_tells_323 rfl rfl ?_
                have s9 := t_sf_stop (la := la) (lb := lb) (e := B.2 k) (c := c) (show 10 * r1 + c1 < 2 ^ 31 by omega) (show 10 * r2 + c2 < 2 ^ 31 by omega) b3 b6 (Or.inr h302)
                have e9 := bf_d_stay (bf_d_stop hD s9) (3 - c)
                rw [show c + 1 + (3 - c) = 4 by omega] at e9
                have p9 := hstop _ _ M1 e9 hF
                rw [if_neg (show ¬ cw = 0 by omega)] at p9
                exact p9
              · refine ez_aload_n 310 dX12_tells_309 rfl rfl ?_
                refine ez_getf 313 (eR 62 0) dX12_tells_310 rfl fl_X12_75 (by show 0 < 1; omega) rfl ?_
                refine ez_iload 315 dX12_tells_313 rfl rfl ?_
                refine ez_ialdN ((B.2 k).1) 316 dX12_tells_315 rfl (by decide) (by show 0 < 1; omega) (by show (B.2 k).1 < 100; omega) ?_
                refine ez_top (nI ((B.2 k).2.1)) v9.2.1 ?_
                refine ez_iconst 317 dX12_tells_316 rfl (nI 1) (by decide) ?_
                refine ez_iadd 318 dX12_tells_317 rfl ?_
                refine ez_top (nI ((B.2 k).2.1 + 1)) (nI_add _ _) ?_
                refine ez_goto 323 dX12_tells_318 (by decide) ?_
                refine ez_iret .int dX12_tells_323 rfl rfl ?_
                have s9 := t_sf_stop (la := la) (lb := lb) (e := B.2 k) (c := c) (show 10 * r1 + c1 < 2 ^ 31 by omega) (show 10 * r2 + c2 < 2 ^ 31 by omega) b3 b6 (Or.inr h302)
                have e9 := bf_d_stay (bf_d_stop hD s9) (3 - c)
                rw [show c + 1 + (3 - c) = 4 by omega] at e9
                have p9 := hstop _ _ M1 e9 hF
                rw [if_pos (show cw = 0 by omega)] at p9
                exact p9
        · refine ez_bipush 242 dX12_tells_240 rfl (nI 10) (by decide) ?_
          refine ez_aload_n 243 dX12_tells_242 rfl rfl ?_
          refine ez_getf 246 (eR 63 0) dX12_tells_243 rfl fl_X12_78 (by show 0 < 1; omega) rfl ?_
          refine ez_iload 248 dX12_tells_246 rfl rfl ?_
          refine ez_ialdN ((B.2 k).1) 249 dX12_tells_248 rfl (by decide) (by show 0 < 1; omega) (by show (B.2 k).1 < 100; omega) ?_
          refine ez_top ((B.2 k).2.2) v9.2.2 ?_
          refine ez_imul 250 dX12_tells_249 rfl ?_
          refine ez_iload 252 dX12_tells_250 rfl rfl ?_
          refine ez_iadd 253 dX12_tells_252 rfl ?_
          refine ez_iconst 254 dX12_tells_253 rfl (nI 1) (by decide) ?_
          refine ez_iadd 255 dX12_tells_254 rfl ?_
          refine ez_goto 265 dX12_tells_255 (by decide) ?_
          refine ez_top (t_dg (B.2 k) c) (by unfold t_dg; rw [if_pos (by omega)]) ?_
          refine ez_istore 267 [(13, eI (t_dg (B.2 k) c)), (12, eI (nI (10 * r2 + c2))), (11, eI (nI (10 * r1 + c1))), (10, eI (nI c)), (9, eI (nI ((B.2 k).1))), (8, eI (nI k)), (7, eI (nI B1.1)), (5, eI (nI mb)), (4, eI (nI ma)), (3, eI (nI cw)), (0, eR 12 0)] dX12_tells_265 rfl (by decide) rfl ?_
          refine ez_iload 269 dX12_tells_267 rfl rfl ?_
          refine ez_bipush 271 dX12_tells_269 rfl (nI 10) (by decide) ?_
          refine ez_irem 272 dX12_tells_271 rfl (by decide) ?_
          refine ez_top (nI ((10 * r1 + c1) % 10)) (pk_rem (by omega) (by omega) (by omega)) ?_
          refine ez_iload 274 dX12_tells_272 rfl rfl ?_
          refine ez_bipush 276 dX12_tells_274 rfl (nI 10) (by decide) ?_
          refine ez_irem 277 dX12_tells_276 rfl (by decide) ?_
          refine ez_top (nI ((10 * r2 + c2) % 10)) (pk_rem (by omega) (by omega) (by omega)) ?_
          refine ez_ncmp_ne 280 305 dX12_tells_277 rfl (by decide) (by omega) (by omega) (fun h277 => ?_) (fun h277 => ?_)
          · refine ez_iload_n 306 dX12_tells_305 rfl rfl ?_
            refine ez_nif_ne 309 321 dX12_tells_306 rfl (by decide) (by omega) (fun h306 => ?_) (fun h306 => ?_)
            · refine ez_iload 323 dX12_tells_321 rfl rfl ?_
              refine ez_iret .int dX12_tells_323 rfl rfl ?_
              have s9 := t_sf_stop (la := la) (lb := lb) (e := B.2 k) (c := c) (show 10 * r1 + c1 < 2 ^ 31 by omega) (show 10 * r2 + c2 < 2 ^ 31 by omega) b3 b6 (Or.inl h277)
              have e9 := bf_d_stay (bf_d_stop hD s9) (3 - c)
              rw [show c + 1 + (3 - c) = 4 by omega] at e9
              have p9 := hstop _ _ M1 e9 hF
              rw [if_neg (show ¬ cw = 0 by omega)] at p9
              exact p9
            · refine ez_aload_n 310 dX12_tells_309 rfl rfl ?_
              refine ez_getf 313 (eR 62 0) dX12_tells_310 rfl fl_X12_75 (by show 0 < 1; omega) rfl ?_
              refine ez_iload 315 dX12_tells_313 rfl rfl ?_
              refine ez_ialdN ((B.2 k).1) 316 dX12_tells_315 rfl (by decide) (by show 0 < 1; omega) (by show (B.2 k).1 < 100; omega) ?_
              refine ez_top (nI ((B.2 k).2.1)) v9.2.1 ?_
              refine ez_iconst 317 dX12_tells_316 rfl (nI 1) (by decide) ?_
              refine ez_iadd 318 dX12_tells_317 rfl ?_
              refine ez_top (nI ((B.2 k).2.1 + 1)) (nI_add _ _) ?_
              refine ez_goto 323 dX12_tells_318 (by decide) ?_
              refine ez_iret .int dX12_tells_323 rfl rfl ?_
              have s9 := t_sf_stop (la := la) (lb := lb) (e := B.2 k) (c := c) (show 10 * r1 + c1 < 2 ^ 31 by omega) (show 10 * r2 + c2 < 2 ^ 31 by omega) b3 b6 (Or.inl h277)
              have e9 := bf_d_stay (bf_d_stop hD s9) (3 - c)
              rw [show c + 1 + (3 - c) = 4 by omega] at e9
              have p9 := hstop _ _ M1 e9 hF
              rw [if_pos (show cw = 0 by omega)] at p9
              exact p9
          · refine ez_aload_n 281 dX12_tells_280 rfl rfl ?_
            refine ez_iload 283 dX12_tells_281 rfl rfl ?_
            refine ez_iload 285 dX12_tells_283 rfl rfl ?_
            refine ez_bipush 287 dX12_tells_285 rfl (nI 10) (by decide) ?_
            refine ez_idiv 288 dX12_tells_287 rfl (by decide) ?_
            refine ez_top (nI ((10 * r1 + c1) / 10)) (pk_div (by omega) (by omega) (by omega)) ?_
            refine ez_callV 291 [eI (nI ma), eI (nI ((10 * r1 + c1) / 10))] [] dX12_tells_288 rfl rfl ok_X12_doorsOf in_X12_doorsOf (by decide) (by show 0 < 1; omega) ln_X12_190 (by omega) (Nat.le_of_ble_eq_true rfl) (c_X12_doorsOf g (d - 1) ma n1 ((10 * r1 + c1) / 10) la M1 (by omega) (by omega) (by omega) (hZ1.fx hF ⟨by unfold QF; omega, fun x => by unfold QF; omega⟩)) (fun r288 M288 q288 => ?_)
            obtain ⟨rfl, e288⟩ := q288
            rw [e288]
            show Ez (true, g) mX12_tells d 291 [(13, eI (t_dg (B.2 k) c)), (12, eI (nI (10 * r2 + c2))), (11, eI (nI (10 * r1 + c1))), (10, eI (nI c)), (9, eI (nI ((B.2 k).1))), (8, eI (nI k)), (7, eI (nI B1.1)), (5, eI (nI mb)), (4, eI (nI ma)), (3, eI (nI cw)), (0, eR 12 0)] [eI (nI (ep_dn la ((10 * r1 + c1) / 10)))] M1 _
            refine ez_aload_n 292 dX12_tells_291 rfl rfl ?_
            refine ez_iload 294 dX12_tells_292 rfl rfl ?_
            refine ez_iload 296 dX12_tells_294 rfl rfl ?_
            refine ez_bipush 298 dX12_tells_296 rfl (nI 10) (by decide) ?_
            refine ez_idiv 299 dX12_tells_298 rfl (by decide) ?_
            refine ez_top (nI ((10 * r2 + c2) / 10)) (pk_div (by omega) (by omega) (by omega)) ?_
            refine ez_callV 302 [eI (nI mb), eI (nI ((10 * r2 + c2) / 10))] [eI (nI (ep_dn la ((10 * r1 + c1) / 10)))] dX12_tells_299 rfl rfl ok_X12_doorsOf in_X12_doorsOf (by decide) (by show 0 < 1; omega) ln_X12_190 (by omega) (Nat.le_of_ble_eq_true rfl) (c_X12_doorsOf g (d - 1) mb n2 ((10 * r2 + c2) / 10) lb M1 (by omega) (by omega) (by omega) (hZ2.fx hF ⟨by unfold QF; omega, fun x => by unfold QF; omega⟩)) (fun r299 M299 q299 => ?_)
            obtain ⟨rfl, e299⟩ := q299
            rw [e299]
            show Ez (true, g) mX12_tells d 302 [(13, eI (t_dg (B.2 k) c)), (12, eI (nI (10 * r2 + c2))), (11, eI (nI (10 * r1 + c1))), (10, eI (nI c)), (9, eI (nI ((B.2 k).1))), (8, eI (nI k)), (7, eI (nI B1.1)), (5, eI (nI mb)), (4, eI (nI ma)), (3, eI (nI cw)), (0, eR 12 0)] [eI (nI (ep_dn lb ((10 * r2 + c2) / 10))), eI (nI (ep_dn la ((10 * r1 + c1) / 10)))] M1 _
            refine ez_ncmp_eq 305 324 dX12_tells_302 rfl (by decide) (by omega) (by omega) (fun h302 => ?_) (fun h302 => ?_)
            · refine ez_bipush 326 dX12_tells_324 rfl (nI 10) (by decide) ?_
              refine ez_iload 328 dX12_tells_326 rfl rfl ?_
              refine ez_bipush 330 dX12_tells_328 rfl (nI 10) (by decide) ?_
              refine ez_idiv 331 dX12_tells_330 rfl (by decide) ?_
              refine ez_top (nI ((10 * r1 + c1) / 10)) (pk_div (by omega) (by omega) (by omega)) ?_
              refine ez_imul 332 dX12_tells_331 rfl ?_
              refine ez_top (nI (10 * ((10 * r1 + c1) / 10))) (pk_mul _ _) ?_
              refine ez_iload 334 dX12_tells_332 rfl rfl ?_
              refine ez_bipush 336 dX12_tells_334 rfl (nI 10) (by decide) ?_
              refine ez_idiv 337 dX12_tells_336 rfl (by decide) ?_
              refine ez_top (nI ((10 * r2 + c2) / 10)) (pk_div (by omega) (by omega) (by omega)) ?_
              refine ez_iadd 338 dX12_tells_337 rfl ?_
              refine ez_top (nI (10 * ((10 * r1 + c1) / 10) + (10 * r2 + c2) / 10)) (nI_add _ _) ?_
              refine ez_istore 340 [(14, eI (nI (10 * ((10 * r1 + c1) / 10) + (10 * r2 + c2) / 10))), (13, eI (t_dg (B.2 k) c)), (12, eI (nI (10 * r2 + c2))), (11, eI (nI (10 * r1 + c1))), (10, eI (nI c)), (9, eI (nI ((B.2 k).1))), (8, eI (nI k)), (7, eI (nI B1.1)), (5, eI (nI mb)), (4, eI (nI ma)), (3, eI (nI cw)), (0, eR 12 0)] dX12_tells_338 rfl (by decide) rfl ?_
              by_cases hv : Bvis B1 (10 * ((10 * r1 + c1) / 10) + (10 * r2 + c2) / 10)
              · skip
                refine ez_aload_n 341 dX12_tells_340 rfl rfl ?_
                refine ez_getf 344 (eR 60 0) dX12_tells_341 rfl fl_X12_68 (by show 0 < 1; omega) rfl ?_
                refine ez_iload 346 dX12_tells_344 rfl rfl ?_
                refine ez_zaldN (10 * ((10 * r1 + c1) / 10) + (10 * r2 + c2) / 10) 347 dX12_tells_346 rfl (by decide) (by show 0 < 1; omega) (by show 10 * ((10 * r1 + c1) / 10) + (10 * r2 + c2) / 10 < 100; omega) ?_
                refine ez_top (nI 1) ((hQ.2 _ (by omega)).1 hv) ?_
                refine ez_nif_eq 350 353 dX12_tells_347 rfl (by decide) (by omega) (fun h347 => ?_) (fun h347 => ?_)
                · exact absurd h347 (by decide)
                · refine ez_goto 398 dX12_tells_350 (by decide) ?_
                  refine ez_iinc 401 (nI (c + 1)) [(10, eI (nI (c + 1))), (14, eI (nI (10 * ((10 * r1 + c1) / 10) + (10 * r2 + c2) / 10))), (13, eI (t_dg (B.2 k) c)), (12, eI (nI (10 * r2 + c2))), (11, eI (nI (10 * r1 + c1))), (9, eI (nI ((B.2 k).1))), (8, eI (nI k)), (7, eI (nI B1.1)), (5, eI (nI mb)), (4, eI (nI ma)), (3, eI (nI cw)), (0, eR 12 0)] dX12_tells_398 rfl rfl (nI_add c 1) (by decide) rfl ?_
                  refine ez_goto 183 dX12_tells_401 (by decide) ?_
                  have s9 := t_sf_new (la := la) (lb := lb) (e := B.2 k) (c := c) (show 10 * r1 + c1 < 2 ^ 31 by omega) (show 10 * r2 + c2 < 2 ^ 31 by omega) b3 b6 h277 h302
                  rw [show (10 * r1 + c1) / 10 * 10 + (10 * r2 + c2) / 10 = 10 * ((10 * r1 + c1) / 10) + (10 * r2 + c2) / 10 by omega] at s9
                  refine ez_drop [(10, eI (nI (c + 1))), (9, eI (nI ((B.2 k).1))), (8, eI (nI k)), (7, eI (nI B1.1)), (5, eI (nI mb)), (4, eI (nI ma)), (3, eI (nI cw)), (0, eR 12 0)] (by simp) ?_
                  have e7 := bf_d_new hD s9
                  rw [bf_add_in hv] at e7
                  exact ih (4 - (c + 1)) (by omega) (c + 1) B1 M1 rfl (by omega) e7 hQ hF
              · have hlt : B1.1 < 100 := A9.lt N9 (by omega) hv
                skip
                refine ez_aload_n 341 dX12_tells_340 rfl rfl ?_
                refine ez_getf 344 (eR 60 0) dX12_tells_341 rfl fl_X12_68 (by show 0 < 1; omega) rfl ?_
                refine ez_iload 346 dX12_tells_344 rfl rfl ?_
                refine ez_zaldN (10 * ((10 * r1 + c1) / 10) + (10 * r2 + c2) / 10) 347 dX12_tells_346 rfl (by decide) (by show 0 < 1; omega) (by show 10 * ((10 * r1 + c1) / 10) + (10 * r2 + c2) / 10 < 100; omega) ?_
                refine ez_top (nI 0) ((hQ.2 _ (by omega)).2 hv) ?_
                refine ez_nif_eq 350 353 dX12_tells_347 rfl (by decide) (by omega) (fun h347 => ?_) (fun h347 => ?_)
                · refine ez_aload_n 354 dX12_tells_353 rfl rfl ?_
                  refine ez_getf 357 (eR 60 0) dX12_tells_354 rfl fl_X12_68 (by show 0 < 1; omega) rfl ?_
                  refine ez_iload 359 dX12_tells_357 rfl rfl ?_
                  refine ez_iconst 360 dX12_tells_359 rfl (nI 1) (by decide) ?_
                  refine ez_zastN (10 * ((10 * r1 + c1) / 10) + (10 * r2 + c2) / 10) 361 dX12_tells_360 rfl (by decide) (by show 0 < 1; omega) (by show 10 * ((10 * r1 + c1) / 10) + (10 * r2 + c2) / 10 < 100; omega) (by decide) ?_
                  refine ez_aload_n 362 dX12_tells_361 rfl rfl ?_
                  refine ez_getf 365 (eR 62 0) dX12_tells_362 rfl fl_X12_75 (by show 0 < 1; omega) rfl ?_
                  refine ez_iload 367 dX12_tells_365 rfl rfl ?_
                  refine ez_aload_n 368 dX12_tells_367 rfl rfl ?_
                  refine ez_getf 371 (eR 62 0) dX12_tells_368 rfl fl_X12_75 (by show 0 < 1; omega) rfl ?_
                  refine ez_iload 373 dX12_tells_371 rfl rfl ?_
                  refine ez_ialdN ((B.2 k).1) 374 dX12_tells_373 rfl (by decide) (by show 0 < 1; omega) (by show (B.2 k).1 < 100; omega) ?_
                  refine ez_top (M1.1 62 0 ((B.2 k).1)) rfl ?_
                  refine ez_top (nI ((B.2 k).2.1)) v9.2.1 ?_
                  refine ez_iconst 375 dX12_tells_374 rfl (nI 1) (by decide) ?_
                  refine ez_iadd 376 dX12_tells_375 rfl ?_
                  refine ez_top (nI ((B.2 k).2.1 + 1)) (nI_add _ _) ?_
                  refine ez_iastN (10 * ((10 * r1 + c1) / 10) + (10 * r2 + c2) / 10) 377 dX12_tells_376 rfl (by decide) (by show 0 < 1; omega) (by show 10 * ((10 * r1 + c1) / 10) + (10 * r2 + c2) / 10 < 100; omega) ?_
                  refine ez_aload_n 378 dX12_tells_377 rfl rfl ?_
                  refine ez_getf 381 (eR 63 0) dX12_tells_378 rfl fl_X12_78 (by show 0 < 1; omega) rfl ?_
                  refine ez_iload 383 dX12_tells_381 rfl rfl ?_
                  refine ez_iload 385 dX12_tells_383 rfl rfl ?_
                  refine ez_iastN (10 * ((10 * r1 + c1) / 10) + (10 * r2 + c2) / 10) 386 dX12_tells_385 rfl (by decide) (by show 0 < 1; omega) (by show 10 * ((10 * r1 + c1) / 10) + (10 * r2 + c2) / 10 < 100; omega) ?_
                  refine ez_aload_n 387 dX12_tells_386 rfl rfl ?_
                  refine ez_getf 390 (eR 61 0) dX12_tells_387 rfl fl_X12_72 (by show 0 < 1; omega) rfl ?_
                  refine ez_iload 392 dX12_tells_390 rfl rfl ?_
                  refine ez_iload 394 dX12_tells_392 rfl rfl ?_
                  refine ez_iastN B1.1 395 dX12_tells_394 rfl (by decide) (by show 0 < 1; omega) (by show B1.1 < 100; omega) ?_
                  refine ez_iinc 398 (nI (B1.1 + 1)) [(7, eI (nI (B1.1 + 1))), (14, eI (nI (10 * ((10 * r1 + c1) / 10) + (10 * r2 + c2) / 10))), (13, eI (t_dg (B.2 k) c)), (12, eI (nI (10 * r2 + c2))), (11, eI (nI (10 * r1 + c1))), (10, eI (nI c)), (9, eI (nI ((B.2 k).1))), (8, eI (nI k)), (5, eI (nI mb)), (4, eI (nI ma)), (3, eI (nI cw)), (0, eR 12 0)] dX12_tells_395 rfl rfl (nI_add B1.1 1) (by decide) rfl ?_
                  refine ez_iinc 401 (nI (c + 1)) [(10, eI (nI (c + 1))), (7, eI (nI (B1.1 + 1))), (14, eI (nI (10 * ((10 * r1 + c1) / 10) + (10 * r2 + c2) / 10))), (13, eI (t_dg (B.2 k) c)), (12, eI (nI (10 * r2 + c2))), (11, eI (nI (10 * r1 + c1))), (9, eI (nI ((B.2 k).1))), (8, eI (nI k)), (5, eI (nI mb)), (4, eI (nI ma)), (3, eI (nI cw)), (0, eR 12 0)] dX12_tells_398 rfl rfl (nI_add c 1) (by decide) rfl ?_
                  refine ez_goto 183 dX12_tells_401 (by decide) ?_
                  have s9 := t_sf_new (la := la) (lb := lb) (e := B.2 k) (c := c) (show 10 * r1 + c1 < 2 ^ 31 by omega) (show 10 * r2 + c2 < 2 ^ 31 by omega) b3 b6 h277 h302
                  rw [show (10 * r1 + c1) / 10 * 10 + (10 * r2 + c2) / 10 = 10 * ((10 * r1 + c1) / 10) + (10 * r2 + c2) / 10 by omega] at s9
                  refine ez_drop [(10, eI (nI (c + 1))), (9, eI (nI ((B.2 k).1))), (8, eI (nI k)), (7, eI (nI (B1.1 + 1))), (5, eI (nI mb)), (4, eI (nI ma)), (3, eI (nI cw)), (0, eR 12 0)] (by simp) ?_
                  have e8 : (bf_add B1 (10 * ((10 * r1 + c1) / 10) + (10 * r2 + c2) / 10, (B.2 k).2.1 + 1, t_dg (B.2 k) c)).1 = B1.1 + 1 := by rw [bf_add_new hv]
                  rw [← e8]
                  exact ih (4 - (c + 1)) (by omega) (c + 1) _ _ rfl (by omega) (bf_d_new hD s9) (QP_new hQ hv) ((((hF.st (by unfold QF; omega)).st (by unfold QF; omega)).st (by unfold QF; omega)).st (by unfold QF; omega))
                · exact absurd h347 (by decide)
            · refine ez_iload_n 306 dX12_tells_305 rfl rfl ?_
              refine ez_nif_ne 309 321 dX12_tells_306 rfl (by decide) (by omega) (fun h306 => ?_) (fun h306 => ?_)
              · refine ez_iload 323 dX12_tells_321 rfl rfl ?_
                refine ez_iret .int dX12_tells_323 rfl rfl ?_
                have s9 := t_sf_stop (la := la) (lb := lb) (e := B.2 k) (c := c) (show 10 * r1 + c1 < 2 ^ 31 by omega) (show 10 * r2 + c2 < 2 ^ 31 by omega) b3 b6 (Or.inr h302)
                have e9 := bf_d_stay (bf_d_stop hD s9) (3 - c)
                rw [show c + 1 + (3 - c) = 4 by omega] at e9
                have p9 := hstop _ _ M1 e9 hF
                rw [if_neg (show ¬ cw = 0 by omega)] at p9
                exact p9
              · refine ez_aload_n 310 dX12_tells_309 rfl rfl ?_
                refine ez_getf 313 (eR 62 0) dX12_tells_310 rfl fl_X12_75 (by show 0 < 1; omega) rfl ?_
                refine ez_iload 315 dX12_tells_313 rfl rfl ?_
                refine ez_ialdN ((B.2 k).1) 316 dX12_tells_315 rfl (by decide) (by show 0 < 1; omega) (by show (B.2 k).1 < 100; omega) ?_
                refine ez_top (nI ((B.2 k).2.1)) v9.2.1 ?_
                refine ez_iconst 317 dX12_tells_316 rfl (nI 1) (by decide) ?_
                refine ez_iadd 318 dX12_tells_317 rfl ?_
                refine ez_top (nI ((B.2 k).2.1 + 1)) (nI_add _ _) ?_
                refine ez_goto 323 dX12_tells_318 (by decide) ?_
                refine ez_iret .int dX12_tells_323 rfl rfl ?_
                have s9 := t_sf_stop (la := la) (lb := lb) (e := B.2 k) (c := c) (show 10 * r1 + c1 < 2 ^ 31 by omega) (show 10 * r2 + c2 < 2 ^ 31 by omega) b3 b6 (Or.inr h302)
                have e9 := bf_d_stay (bf_d_stop hD s9) (3 - c)
                rw [show c + 1 + (3 - c) = 4 by omega] at e9
                have p9 := hstop _ _ M1 e9 hF
                rw [if_pos (show cw = 0 by omega)] at p9
                exact p9
      · refine ez_goto 398 dX12_tells_210 (by decide) ?_
        refine ez_iinc 401 (nI (c + 1)) [(10, eI (nI (c + 1))), (11, eI (la (4 * (((B.2 k).1) / 10) + c))), (9, eI (nI ((B.2 k).1))), (8, eI (nI k)), (7, eI (nI B1.1)), (5, eI (nI mb)), (4, eI (nI ma)), (3, eI (nI cw)), (0, eR 12 0)] dX12_tells_398 rfl rfl (nI_add c 1) (by decide) rfl ?_
        refine ez_goto 183 dX12_tells_401 (by decide) ?_
        refine ez_drop [(10, eI (nI (c + 1))), (9, eI (nI ((B.2 k).1))), (8, eI (nI k)), (7, eI (nI B1.1)), (5, eI (nI mb)), (4, eI (nI ma)), (3, eI (nI cw)), (0, eR 12 0)] (by simp) ?_
        exact ih (4 - (c + 1)) (by omega) (c + 1) B1 M1 rfl (by omega) (bf_d_skip hD (t_sf_skip (Or.inl h207))) hQ hF
set_option maxRecDepth 20000 in
theorem tells_404 (g : EzH) (d : Nat) (ma mb k n cw : Nat) (P : Option EzV → EzM → Prop) (M1 : EzM) (K : Ez (true, g) mX12_tells d 164 [(8, eI (nI (k + 1))), (7, eI (nI n)), (5, eI (nI mb)), (4, eI (nI ma)), (3, eI (nI cw)), (0, eR 12 0)] [] M1 P) : Ez (true, g) mX12_tells d 404 [(8, eI (nI k)), (7, eI (nI n)), (5, eI (nI mb)), (4, eI (nI ma)), (3, eI (nI cw)), (0, eR 12 0)] [] M1 (P) := by
  refine ez_iinc 407 (nI (k + 1)) [(8, eI (nI (k + 1))), (7, eI (nI n)), (5, eI (nI mb)), (4, eI (nI ma)), (3, eI (nI cw)), (0, eR 12 0)] dX12_tells_404 rfl rfl (nI_add k 1) (by decide) rfl ?_
  refine ez_goto 164 dX12_tells_407 (by decide) ?_
  exact K
set_option maxRecDepth 20000 in
theorem lp_mt164 (g : EzH) (d : Nat) {n1 n2 : Nat} {la lb : Nat → Int32} (ma mb a b cw : Nat) (M : EzM) (hd : 4 ≤ d) (hm : ma < 4) (hn : mb < 4) (hcw : cw < 2) (h1 : WFz n1 la) (h2 : WFz n2 lb) (ha : a < n1) (hb : b < n2) (hZ1 : RMz ma n1 la M) (hZ2 : RMz mb n2 lb M) (hdn : ep_dn la a = ep_dn lb b) : ∀ (z : Nat) (k : Nat) (B1 : BfS) (M1 : EzM), 100 - k = z → k ≤ 100 → bf_h (t_sf la lb) (bf_0 (a * 10 + b)) k = (B1, none) → QP B1 M1 → FX QF M M1 → Ez (true, g) mX12_tells d 164 [(8, eI (nI k)), (7, eI (nI B1.1)), (5, eI (nI mb)), (4, eI (nI ma)), (3, eI (nI cw)), (0, eR 12 0)] [] M1 (fun r M' => r = some (eI (if cw = 0 then t_g (t_go la lb a b) else t_w (t_go la lb a b))) ∧ FX QF M M') := by
  intro z
  induction z using Nat.strongRecOn with
  | ind z ih =>
    intro k B1 M1 hz hk hH hQ hF
    have n10 := h1.2.1
    have m10 := h2.2.1
    have i0 : ∀ i, i < (bf_0 (a * 10 + b)).1 → t_I n1 n2 la lb ((bf_0 (a * 10 + b)).2 i) := fun i _ => by
      show (a * 10 + b) / 10 < n1 ∧ (a * 10 + b) % 10 < n2 ∧ ep_dn la ((a * 10 + b) / 10) = ep_dn lb ((a * 10 + b) % 10)
      rw [show (a * 10 + b) / 10 = a by omega, show (a * 10 + b) % 10 = b by omega]
      exact ⟨ha, hb, hdn⟩
    have A9 : Bap B1 := by have := bf_h_ap (t_sf la lb) (bf_0_ap (a * 10 + b)) k; rw [hH] at this; exact this
    have I9 : ∀ i, i < B1.1 → t_I n1 n2 la lb (B1.2 i) := by have := bf_h_inv i0 (t_sf_I h1 h2) k; rw [hH] at this; exact this
    have F9 : Bfar B1 := by have := bf_h_far (t_sf_far la lb) (bf_0_far (a * 10 + b)) k; rw [hH] at this; exact this
    have N9 : ∀ i, i < B1.1 → (B1.2 i).1 < 100 := fun i hi => by have := I9 i hi; unfold t_I at this; omega
    have b101 := A9.le N9
    refine ez_iload 166 dX12_tells_164 rfl rfl ?_
    refine ez_iload 168 dX12_tells_166 rfl rfl ?_
    refine ez_ncmp_ge 171 410 dX12_tells_168 rfl (by decide) (by omega) (by omega) (fun h168 => ?_) (fun h168 => ?_)
    · refine ez_iconst 411 dX12_tells_410 rfl (-1) (by decide) ?_
      refine ez_iret .int dX12_tells_411 rfl rfl ?_
      have e9 := bf_h_end hH (by omega) (100 - k)
      rw [show k + (100 - k) = 100 by omega] at e9
      have e8 : t_go la lb a b = none := by unfold t_go; rw [if_pos hdn, e9]
      exact ⟨by rw [e8]; unfold t_g t_w; simp, hF⟩
    · refine ez_aload_n 172 dX12_tells_171 rfl rfl ?_
      refine ez_getf 175 (eR 61 0) dX12_tells_172 rfl fl_X12_72 (by show 0 < 1; omega) rfl ?_
      refine ez_iload 177 dX12_tells_175 rfl rfl ?_
      refine ez_ialdN k 178 dX12_tells_177 rfl (by decide) (by show 0 < 1; omega) (by show k < 100; omega) ?_
      refine ez_top (nI ((B1.2 k).1)) (hQ.1 k (by omega)).1 ?_
      refine ez_istore 180 [(9, eI (nI ((B1.2 k).1))), (8, eI (nI k)), (7, eI (nI B1.1)), (5, eI (nI mb)), (4, eI (nI ma)), (3, eI (nI cw)), (0, eR 12 0)] dX12_tells_178 rfl (by decide) rfl ?_
      refine ez_iconst 181 dX12_tells_180 rfl (nI 0) (by decide) ?_
      refine ez_istore 183 [(10, eI (nI 0)), (9, eI (nI ((B1.2 k).1))), (8, eI (nI k)), (7, eI (nI B1.1)), (5, eI (nI mb)), (4, eI (nI ma)), (3, eI (nI cw)), (0, eR 12 0)] dX12_tells_181 rfl (by decide) rfl ?_
      refine ez_drop [(10, eI (nI 0)), (9, eI (nI ((B1.2 k).1))), (8, eI (nI k)), (7, eI (nI B1.1)), (5, eI (nI mb)), (4, eI (nI ma)), (3, eI (nI cw)), (0, eR 12 0)] (by simp) ?_
      refine lp_mt183 g d ma mb k cw _ M hd hm hn hcw h1 h2 hZ1 hZ2 (by omega) A9 I9 F9 (fun B2 v M' e91 f91 => ?_) (fun B2 M' e91 q91 f91 => ?_) _ 0 B1 M1 rfl (by omega) rfl hQ hF
      · have e9 := bf_h_stop (bf_h_go hH (by omega) e91) (99 - k)
        rw [show k + 1 + (99 - k) = 100 by omega] at e9
        have e8 : t_go la lb a b = some v := by unfold t_go; rw [if_pos hdn, e9]
        exact ⟨by rw [e8]; rfl, f91⟩
      · refine tells_404 g d ma mb k B2.1 cw _ M' ?_
        exact ih (100 - (k + 1)) (by omega) (k + 1) B2 M' rfl (by omega) (bf_h_go hH (by omega) e91) q91 f91
set_option maxRecDepth 20000 in
theorem tells_112 (g : EzH) (d : Nat) {n1 n2 : Nat} {la lb : Nat → Int32} (ma mb a b cw : Nat) (x y : Int32) (M M1 : EzM) (hd : 4 ≤ d) (hm : ma < 4) (hn : mb < 4) (hcw : cw < 2) (h1 : WFz n1 la) (h2 : WFz n2 lb) (ha : a < n1) (hb : b < n2) (hZ1 : RMz ma n1 la M) (hZ2 : RMz mb n2 lb M) (hdn : ep_dn la a = ep_dn lb b) (hx : x - x / nI 10 * nI 10 = nI a) (hy : y - y / nI 10 * nI 10 = nI b) (hM : ∀ j, j < 100 → M1.1 60 0 j = nI 0) (hF : FX QF M M1) : Ez (true, g) mX12_tells d 112 [(5, eI (nI mb)), (4, eI (nI ma)), (0, eR 12 0), (1, eI x), (2, eI y), (3, eI (nI cw))] [] M1 (fun r M' => r = some (eI (if cw = 0 then t_g (t_go la lb a b) else t_w (t_go la lb a b))) ∧ FX QF M M') := by
  have n10 := h1.2.1
  have m10 := h2.2.1
  refine ez_bipush 114 dX12_tells_112 rfl (nI 10) (by decide) ?_
  refine ez_iload_n 115 dX12_tells_114 rfl rfl ?_
  refine ez_bipush 117 dX12_tells_115 rfl (nI 10) (by decide) ?_
  refine ez_irem 118 dX12_tells_117 rfl (by decide) ?_
  refine ez_top (nI a) hx ?_
  refine ez_imul 119 dX12_tells_118 rfl ?_
  refine ez_top (nI (10 * a)) (pk_mul _ _) ?_
  refine ez_iload_n 120 dX12_tells_119 rfl rfl ?_
  refine ez_bipush 122 dX12_tells_120 rfl (nI 10) (by decide) ?_
  refine ez_irem 123 dX12_tells_122 rfl (by decide) ?_
  refine ez_top (nI b) hy ?_
  refine ez_iadd 124 dX12_tells_123 rfl ?_
  refine ez_top (nI (10 * a + b)) (nI_add _ _) ?_
  refine ez_istore 126 [(6, eI (nI (10 * a + b))), (5, eI (nI mb)), (4, eI (nI ma)), (0, eR 12 0), (1, eI x), (2, eI y), (3, eI (nI cw))] dX12_tells_124 rfl (by decide) rfl ?_
  refine ez_aload_n 127 dX12_tells_126 rfl rfl ?_
  refine ez_getf 130 (eR 60 0) dX12_tells_127 rfl fl_X12_68 (by show 0 < 1; omega) rfl ?_
  refine ez_iload 132 dX12_tells_130 rfl rfl ?_
  refine ez_iconst 133 dX12_tells_132 rfl (nI 1) (by decide) ?_
  refine ez_zastN (10 * a + b) 134 dX12_tells_133 rfl (by decide) (by show 0 < 1; omega) (by show 10 * a + b < 100; omega) (by decide) ?_
  refine ez_aload_n 135 dX12_tells_134 rfl rfl ?_
  refine ez_getf 138 (eR 61 0) dX12_tells_135 rfl fl_X12_72 (by show 0 < 1; omega) rfl ?_
  refine ez_iconst 139 dX12_tells_138 rfl (nI 0) (by decide) ?_
  refine ez_iload 141 dX12_tells_139 rfl rfl ?_
  refine ez_iastN 0 142 dX12_tells_141 rfl (by decide) (by show 0 < 1; omega) (by show 0 < 100; omega) ?_
  refine ez_aload_n 143 dX12_tells_142 rfl rfl ?_
  refine ez_getf 146 (eR 62 0) dX12_tells_143 rfl fl_X12_75 (by show 0 < 1; omega) rfl ?_
  refine ez_iload 148 dX12_tells_146 rfl rfl ?_
  refine ez_iconst 149 dX12_tells_148 rfl (nI 0) (by decide) ?_
  refine ez_iastN (10 * a + b) 150 dX12_tells_149 rfl (by decide) (by show 0 < 1; omega) (by show 10 * a + b < 100; omega) ?_
  refine ez_aload_n 151 dX12_tells_150 rfl rfl ?_
  refine ez_getf 154 (eR 63 0) dX12_tells_151 rfl fl_X12_78 (by show 0 < 1; omega) rfl ?_
  refine ez_iload 156 dX12_tells_154 rfl rfl ?_
  refine ez_iconst 157 dX12_tells_156 rfl (nI 0) (by decide) ?_
  refine ez_iastN (10 * a + b) 158 dX12_tells_157 rfl (by decide) (by show 0 < 1; omega) (by show 10 * a + b < 100; omega) ?_
  refine ez_iconst 159 dX12_tells_158 rfl (nI 1) (by decide) ?_
  refine ez_istore 161 [(7, eI (nI 1)), (6, eI (nI (10 * a + b))), (5, eI (nI mb)), (4, eI (nI ma)), (0, eR 12 0), (1, eI x), (2, eI y), (3, eI (nI cw))] dX12_tells_159 rfl (by decide) rfl ?_
  refine ez_iconst 162 dX12_tells_161 rfl (nI 0) (by decide) ?_
  refine ez_istore 164 [(8, eI (nI 0)), (7, eI (nI 1)), (6, eI (nI (10 * a + b))), (5, eI (nI mb)), (4, eI (nI ma)), (0, eR 12 0), (1, eI x), (2, eI y), (3, eI (nI cw))] dX12_tells_162 rfl (by decide) rfl ?_
  have Q9 : QP (bf_0 (a * 10 + b)) (ez_st (ez_st (ez_st (ez_st M1 60 0 (10 * a + b) (nI 1)) 61 0 0 (nI (10 * a + b))) 62 0 (10 * a + b) (nI 0)) 63 0 (10 * a + b) (nI 0)) := by
    refine ⟨fun i hi => ?_, fun j hj => ⟨fun z => ?_, fun z => ?_⟩⟩
    · have hi' : i < 1 := hi
      rw [show i = 0 by omega]
      have e0 : (bf_0 (a * 10 + b)).2 0 = (a * 10 + b, 0, nI 0) := rfl
      rw [e0]
      rw [show a * 10 + b = 10 * a + b by omega]
      simp [ez_rd]
    · rw [bf_0_vis.mp z, show a * 10 + b = 10 * a + b by omega]
      simp [ez_rd]
    · have e : ¬ j = 10 * a + b := fun e => z (bf_0_vis.mpr (by omega))
      simp [ez_rd, e, hM j hj]
  refine ez_drop [(8, eI (nI 0)), (7, eI (nI 1)), (5, eI (nI mb)), (4, eI (nI ma)), (3, eI (nI cw)), (0, eR 12 0)] (by simp) ?_
  exact lp_mt164 g d ma mb a b cw M hd hm hn hcw h1 h2 ha hb hZ1 hZ2 hdn _ 0 (bf_0 (a * 10 + b)) _ rfl (by omega) rfl Q9 ((((hF.st (by unfold QF; omega)).st (by unfold QF; omega)).st (by unfold QF; omega)).st (by unfold QF; omega))
set_option maxRecDepth 20000 in
theorem lp_mt91 (g : EzH) (d : Nat) {n1 n2 : Nat} {la lb : Nat → Int32} (ma mb a b cw : Nat) (x y : Int32) (M : EzM) (hd : 4 ≤ d) (hm : ma < 4) (hn : mb < 4) (hcw : cw < 2) (h1 : WFz n1 la) (h2 : WFz n2 lb) (ha : a < n1) (hb : b < n2) (hZ1 : RMz ma n1 la M) (hZ2 : RMz mb n2 lb M) (hdn : ep_dn la a = ep_dn lb b) (hx : x - x / nI 10 * nI 10 = nI a) (hy : y - y / nI 10 * nI 10 = nI b) : ∀ (z : Nat) (t : Nat) (M1 : EzM), 100 - t = z → t ≤ 100 → (∀ j, j < t → M1.1 60 0 j = nI 0) → FX QF M M1 → Ez (true, g) mX12_tells d 91 [(6, eI (nI t)), (5, eI (nI mb)), (4, eI (nI ma)), (0, eR 12 0), (1, eI x), (2, eI y), (3, eI (nI cw))] [] M1 (fun r M' => r = some (eI (if cw = 0 then t_g (t_go la lb a b) else t_w (t_go la lb a b))) ∧ FX QF M M') := by
  intro z
  induction z using Nat.strongRecOn with
  | ind z ih =>
    intro t M1 hz ht hM hF
    refine ez_iload 93 dX12_tells_91 rfl rfl ?_
    refine ez_bipush 95 dX12_tells_93 rfl (nI 100) (by decide) ?_
    refine ez_ncmp_ge 98 112 dX12_tells_95 rfl (by decide) (by omega) (by omega) (fun h95 => ?_) (fun h95 => ?_)
    · refine ez_drop [(5, eI (nI mb)), (4, eI (nI ma)), (0, eR 12 0), (1, eI x), (2, eI y), (3, eI (nI cw))] (by simp) ?_
      exact tells_112 g d ma mb a b cw x y M M1 hd hm hn hcw h1 h2 ha hb hZ1 hZ2 hdn hx hy (fun j hj => hM j (by omega)) hF
    · refine ez_aload_n 99 dX12_tells_98 rfl rfl ?_
      refine ez_getf 102 (eR 60 0) dX12_tells_99 rfl fl_X12_68 (by show 0 < 1; omega) rfl ?_
      refine ez_iload 104 dX12_tells_102 rfl rfl ?_
      refine ez_iconst 105 dX12_tells_104 rfl (nI 0) (by decide) ?_
      refine ez_zastN t 106 dX12_tells_105 rfl (by decide) (by show 0 < 1; omega) (by show t < 100; omega) (by decide) ?_
      refine ez_iinc 109 (nI (t + 1)) [(6, eI (nI (t + 1))), (5, eI (nI mb)), (4, eI (nI ma)), (0, eR 12 0), (1, eI x), (2, eI y), (3, eI (nI cw))] dX12_tells_106 rfl rfl (nI_add t 1) (by decide) rfl ?_
      refine ez_goto 91 dX12_tells_109 (by decide) ?_
      exact ih (100 - (t + 1)) (by omega) (t + 1) _ rfl (by omega) (fun j hj => by
        rw [ez_rd]
        by_cases e : j = t
        · rw [if_pos ⟨rfl, rfl, e⟩]
        · rw [if_neg (by omega)]; exact hM j (by omega)) (hF.st (by unfold QF; omega))
theorem ep_ix_in {x : Int32} {n j : Nat} (h : ep_ix x n = some j) : j < n := by
  unfold ep_ix at h
  by_cases a : x < 0 ∨ nI n ≤ x
  · rw [if_pos a] at h; cases h
  · rw [if_neg a] at h
    cases h
    have h1 : ¬ x < 0 := fun z => a (Or.inl z)
    have h2 : ¬ nI n ≤ x := fun z => a (Or.inr z)
    by_cases hn : n < 2 ^ 31
    · rcases pk_ix x hn with z | z | ⟨j, hj, e⟩
      · exact absurd z h1
      · exact absurd z h2
      · rw [e, nI_clamp (by omega)]; exact hj
    · have h3 : x.toInt < 2 ^ 31 := x.toInt_lt
      have h4 : (x.toNatClampNeg : Int) = x.toInt := by
        rw [Int32.lt_iff_toInt_lt, show (0 : Int32).toInt = 0 by decide] at h1
        unfold Int32.toNatClampNeg
        omega
      omega
set_option maxRecDepth 20000 in
theorem c_X12_tells (g : EzH) (d : Nat) {q : EpS} (x y z : Int32) (M : EzM) (hd : 4 ≤ d) (hW : WF q) (hC : RM q M) : Ezc (true, g) mX12_tells d [eR 12 0, eI x, eI y, eI z] M (fun r M' => r = some (eI (S_tells q x y z)) ∧ RM q M' ∧ FX CM M M') := by
  refine Ezc.of (by decide +kernel) (Nat.le_of_ble_eq_true rfl) ?_
  have q8 := hW.2.1.1
  have q4 := hW.1.1
  have qx := hW.2.2.2.2.1
  show Ez (true, g) mX12_tells d 0 [(0, eR 12 0), (1, eI x), (2, eI y), (3, eI z)] [] M _
  refine ez_iload_n 1 dX12_tells_0 rfl rfl ?_
  refine ez_if_lt 4 48 dX12_tells_1 rfl (by decide) (fun h1 => ?_) (fun h1 => ?_)
  · refine ez_bipush 50 dX12_tells_48 rfl (-2) (by decide) ?_
    refine ez_iret .int dX12_tells_50 rfl rfl ?_
    exact ⟨by rw [tells_bad (Or.inr (Or.inl (fun m hm => (er_neg10 (mc := q.1.1) (n := q.1.2.1 m) h1 (by omega) (by have := ep_ix_in hm; have := (hW.1.2 m this).2.1; omega)).elim (fun z => by rw [hm] at z; cases z) id)))], hC, FX.rf⟩
  · refine ez_iload_n 5 dX12_tells_4 rfl rfl ?_
    refine ez_if_lt 8 48 dX12_tells_5 rfl (by decide) (fun h5 => ?_) (fun h5 => ?_)
    · refine ez_bipush 50 dX12_tells_48 rfl (-2) (by decide) ?_
      refine ez_iret .int dX12_tells_50 rfl rfl ?_
      exact ⟨by rw [tells_bad (Or.inr (Or.inr (Or.inr (Or.inl (fun m hm => (er_neg10 (mc := q.1.1) (n := q.1.2.1 m) h5 (by omega) (by have := ep_ix_in hm; have := (hW.1.2 m this).2.1; omega)).elim (fun z => by rw [hm] at z; cases z) id)))))], hC, FX.rf⟩
    · refine ez_aload_n 9 dX12_tells_8 rfl rfl ?_
      refine ez_iload_n 10 dX12_tells_9 rfl rfl ?_
      refine ez_bipush 12 dX12_tells_10 rfl (nI 10) (by decide) ?_
      refine ez_idiv 13 dX12_tells_12 rfl (by decide) ?_
      refine ez_iload_n 14 dX12_tells_13 rfl rfl ?_
      refine ez_bipush 16 dX12_tells_14 rfl (nI 10) (by decide) ?_
      refine ez_irem 17 dX12_tells_16 rfl (by decide) ?_
      refine ez_callV 20 [eI (x / (nI 10)), eI (x - x / (nI 10) * (nI 10))] [] dX12_tells_17 rfl rfl ok_X12_isRoom in_X12_isRoom (by decide) (by show 0 < 1; omega) ln_X12_165 (by omega) (Nat.le_of_ble_eq_true rfl) (c_X12_isRoom g (d - 1) (x / (nI 10)) (x - x / (nI 10) * (nI 10)) M (by omega) hW hC) (fun r17 M17 q17 => ?_)
      obtain ⟨e17, ⟨rfl, i17⟩ | ⟨a17, b17, p17, s17, x17, y17, rfl⟩⟩ := q17
      · rw [e17]
        show Ez (true, g) mX12_tells d 20 [(0, eR 12 0), (1, eI x), (2, eI y), (3, eI z)] [eI (nI 0)] M _
        refine ez_nif_eq 23 48 dX12_tells_20 rfl (by decide) (by omega) (fun h20 => ?_) (fun h20 => ?_)
        · refine ez_bipush 50 dX12_tells_48 rfl (-2) (by decide) ?_
          refine ez_iret .int dX12_tells_50 rfl rfl ?_
          exact ⟨by rw [tells_bad (i17.elim Or.inl (fun z => Or.inr (Or.inl z)))], hC, FX.rf⟩
        · exact absurd h20 (by decide)
      · rw [e17]
        have t17 := (hW.1.2 a17 p17).2.1
        have u17 : ep_ix (x / (nI 10)) q.1.1 = some a17 := by rw [x17]; exact ep_ix_nI p17 (by omega)
        have v17 : ep_ix (x - x / (nI 10) * (nI 10)) (q.1.2.1 a17) = some b17 := by rw [y17]; exact ep_ix_nI s17 (by omega)
        show Ez (true, g) mX12_tells d 20 [(0, eR 12 0), (1, eI x), (2, eI y), (3, eI z)] [eI (nI 1)] M _
        refine ez_nif_eq 23 48 dX12_tells_20 rfl (by decide) (by omega) (fun h20 => ?_) (fun h20 => ?_)
        · exact absurd h20 (by decide)
        · refine ez_aload_n 24 dX12_tells_23 rfl rfl ?_
          refine ez_iload_n 25 dX12_tells_24 rfl rfl ?_
          refine ez_bipush 27 dX12_tells_25 rfl (nI 10) (by decide) ?_
          refine ez_idiv 28 dX12_tells_27 rfl (by decide) ?_
          refine ez_iload_n 29 dX12_tells_28 rfl rfl ?_
          refine ez_bipush 31 dX12_tells_29 rfl (nI 10) (by decide) ?_
          refine ez_irem 32 dX12_tells_31 rfl (by decide) ?_
          refine ez_callV 35 [eI (y / (nI 10)), eI (y - y / (nI 10) * (nI 10))] [] dX12_tells_32 rfl rfl ok_X12_isRoom in_X12_isRoom (by decide) (by show 0 < 1; omega) ln_X12_165 (by omega) (Nat.le_of_ble_eq_true rfl) (c_X12_isRoom g (d - 1) (y / (nI 10)) (y - y / (nI 10) * (nI 10)) M (by omega) hW hC) (fun r32 M32 q32 => ?_)
          obtain ⟨e32, ⟨rfl, i32⟩ | ⟨a32, b32, p32, s32, x32, y32, rfl⟩⟩ := q32
          · rw [e32]
            show Ez (true, g) mX12_tells d 35 [(0, eR 12 0), (1, eI x), (2, eI y), (3, eI z)] [eI (nI 0)] M _
            refine ez_nif_eq 38 48 dX12_tells_35 rfl (by decide) (by omega) (fun h35 => ?_) (fun h35 => ?_)
            · refine ez_bipush 50 dX12_tells_48 rfl (-2) (by decide) ?_
              refine ez_iret .int dX12_tells_50 rfl rfl ?_
              exact ⟨by rw [tells_bad (i32.elim (fun z => Or.inr (Or.inr (Or.inl z))) (fun z => Or.inr (Or.inr (Or.inr (Or.inl z)))))], hC, FX.rf⟩
            · exact absurd h35 (by decide)
          · rw [e32]
            have t32 := (hW.1.2 a32 p32).2.1
            have u32 : ep_ix (y / (nI 10)) q.1.1 = some a32 := by rw [x32]; exact ep_ix_nI p32 (by omega)
            have v32 : ep_ix (y - y / (nI 10) * (nI 10)) (q.1.2.1 a32) = some b32 := by rw [y32]; exact ep_ix_nI s32 (by omega)
            show Ez (true, g) mX12_tells d 35 [(0, eR 12 0), (1, eI x), (2, eI y), (3, eI z)] [eI (nI 1)] M _
            refine ez_nif_eq 38 48 dX12_tells_35 rfl (by decide) (by omega) (fun h35 => ?_) (fun h35 => ?_)
            · exact absurd h35 (by decide)
            · refine ez_iload_n 39 dX12_tells_38 rfl rfl ?_
              refine ez_i2l 40 dX12_tells_39 rfl ?_
              refine ez_lconst 41 dX12_tells_40 rfl (nI 0).toInt64 (by decide) ?_
              refine ez_lconst 42 dX12_tells_41 rfl (nI 1).toInt64 (by decide) ?_
              refine ez_callS 45 [eL z.toInt64, eL ((nI 0).toInt64), eL ((nI 1).toInt64)] [] dX12_tells_42 rfl rfl ok_X12_in st_X12_in ln_X12_133 (by omega) (Nat.le_of_ble_eq_true rfl) (c_in_k g (d - 1) z 1 M (by decide)) (fun r42 M42 q42 => ?_)
              obtain ⟨e42, ⟨rfl, i42⟩ | ⟨j42, b42, rfl, rfl⟩⟩ := q42
              · rw [e42]
                show Ez (true, g) mX12_tells d 45 [(0, eR 12 0), (1, eI x), (2, eI y), (3, eI z)] [eI (nI 0)] M _
                refine ez_nif_ne 48 51 dX12_tells_45 rfl (by decide) (by omega) (fun h45 => ?_) (fun h45 => ?_)
                · exact absurd h45 (by decide)
                · refine ez_bipush 50 dX12_tells_48 rfl (-2) (by decide) ?_
                  refine ez_iret .int dX12_tells_50 rfl rfl ?_
                  exact ⟨by rw [tells_bad (Or.inr (Or.inr (Or.inr (Or.inr i42))))], hC, FX.rf⟩
              · rw [e42]
                have i42 : ep_ix (nI j42) 2 = some j42 := ep_ix_nI b42 (by omega)
                show Ez (true, g) mX12_tells d 45 [(0, eR 12 0), (1, eI x), (2, eI y), (3, eI (nI j42))] [eI (nI 1)] M _
                refine ez_nif_ne 48 51 dX12_tells_45 rfl (by decide) (by omega) (fun h45 => ?_) (fun h45 => ?_)
                · refine ez_iload_n 52 dX12_tells_51 rfl rfl ?_
                  refine ez_bipush 54 dX12_tells_52 rfl (nI 10) (by decide) ?_
                  refine ez_idiv 55 dX12_tells_54 rfl (by decide) ?_
                  refine ez_top (nI a17) x17 ?_
                  refine ez_istore 57 [(4, eI (nI a17)), (0, eR 12 0), (1, eI x), (2, eI y), (3, eI (nI j42))] dX12_tells_55 rfl (by decide) rfl ?_
                  refine ez_iload_n 58 dX12_tells_57 rfl rfl ?_
                  refine ez_bipush 60 dX12_tells_58 rfl (nI 10) (by decide) ?_
                  refine ez_idiv 61 dX12_tells_60 rfl (by decide) ?_
                  refine ez_top (nI a32) x32 ?_
                  refine ez_istore 63 [(5, eI (nI a32)), (4, eI (nI a17)), (0, eR 12 0), (1, eI x), (2, eI y), (3, eI (nI j42))] dX12_tells_61 rfl (by decide) rfl ?_
                  have d1 := ep_dn16 (q.1.2.2.1 a17) b17
                  have d2 := ep_dn16 (q.1.2.2.1 a32) b32
                  refine ez_aload_n 64 dX12_tells_63 rfl rfl ?_
                  refine ez_iload 66 dX12_tells_64 rfl rfl ?_
                  refine ez_iload_n 67 dX12_tells_66 rfl rfl ?_
                  refine ez_bipush 69 dX12_tells_67 rfl (nI 10) (by decide) ?_
                  refine ez_irem 70 dX12_tells_69 rfl (by decide) ?_
                  refine ez_top (nI b17) y17 ?_
                  refine ez_callV 73 [eI (nI a17), eI (nI b17)] [] dX12_tells_70 rfl rfl ok_X12_doorsOf in_X12_doorsOf (by decide) (by show 0 < 1; omega) ln_X12_190 (by omega) (Nat.le_of_ble_eq_true rfl) (c_X12_doorsOf g (d - 1) a17 (q.1.2.1 a17) b17 (q.1.2.2.1 a17) M (by omega) (by omega) (by omega) (g_RMz hC.1 (by omega))) (fun r70 M70 q70 => ?_)
                  obtain ⟨rfl, e70⟩ := q70
                  rw [e70]
                  show Ez (true, g) mX12_tells d 73 [(5, eI (nI a32)), (4, eI (nI a17)), (0, eR 12 0), (1, eI x), (2, eI y), (3, eI (nI j42))] [eI (nI (ep_dn (q.1.2.2.1 a17) b17))] M _
                  refine ez_aload_n 74 dX12_tells_73 rfl rfl ?_
                  refine ez_iload 76 dX12_tells_74 rfl rfl ?_
                  refine ez_iload_n 77 dX12_tells_76 rfl rfl ?_
                  refine ez_bipush 79 dX12_tells_77 rfl (nI 10) (by decide) ?_
                  refine ez_irem 80 dX12_tells_79 rfl (by decide) ?_
                  refine ez_top (nI b32) y32 ?_
                  refine ez_callV 83 [eI (nI a32), eI (nI b32)] [eI (nI (ep_dn (q.1.2.2.1 a17) b17))] dX12_tells_80 rfl rfl ok_X12_doorsOf in_X12_doorsOf (by decide) (by show 0 < 1; omega) ln_X12_190 (by omega) (Nat.le_of_ble_eq_true rfl) (c_X12_doorsOf g (d - 1) a32 (q.1.2.1 a32) b32 (q.1.2.2.1 a32) M (by omega) (by omega) (by omega) (g_RMz hC.1 (by omega))) (fun r80 M80 q80 => ?_)
                  obtain ⟨rfl, e80⟩ := q80
                  rw [e80]
                  show Ez (true, g) mX12_tells d 83 [(5, eI (nI a32)), (4, eI (nI a17)), (0, eR 12 0), (1, eI x), (2, eI y), (3, eI (nI j42))] [eI (nI (ep_dn (q.1.2.2.1 a32) b32)), eI (nI (ep_dn (q.1.2.2.1 a17) b17))] M _
                  refine ez_ncmp_eq 86 88 dX12_tells_83 rfl (by decide) (by omega) (by omega) (fun h83 => ?_) (fun h83 => ?_)
                  · refine ez_iconst 89 dX12_tells_88 rfl (nI 0) (by decide) ?_
                    refine ez_istore 91 [(6, eI (nI 0)), (5, eI (nI a32)), (4, eI (nI a17)), (0, eR 12 0), (1, eI x), (2, eI y), (3, eI (nI j42))] dX12_tells_89 rfl (by decide) rfl ?_
                    refine ez_drop [(6, eI (nI 0)), (5, eI (nI a32)), (4, eI (nI a17)), (0, eR 12 0), (1, eI x), (2, eI y), (3, eI (nI j42))] (by simp) ?_
                    refine ez_wk ?_ (lp_mt91 g d a17 a32 b17 b32 j42 x y M hd (by omega) (by omega) b42 (g_WFz hW.1 (by omega)) (g_WFz hW.1 (by omega)) s17 s32 (g_RMz hC.1 (by omega)) (g_RMz hC.1 (by omega)) h83 y17 y32 _ 0 M rfl (by omega) (fun j hj => by omega) FX.rf)
                    exact fun r M' z9 => ⟨by rw [z9.1]; simp only [S_tells, u17, u32, v17, v32, i42], hC.sm z9.2.qfsm, z9.2.qfsm.smm⟩
                  · refine ez_iconst 87 dX12_tells_86 rfl (nI 0) (by decide) ?_
                    refine ez_iret .int dX12_tells_87 rfl rfl ?_
                    have e8 : t_go (q.1.2.2.1 a17) (q.1.2.2.1 a32) b17 b32 = some (0, nI 0) := by unfold t_go; rw [if_neg h83]
                    exact ⟨by simp only [S_tells, u17, u32, v17, v32, i42, e8]; split <;> rfl, hC, FX.rf⟩
                · exact absurd h45 (by decide)
