/-! a walker's state, its names, what it wants: class and model -/
abbrev EpW : Type := Nat × Nat × Int32 × Int32 × (Nat → Nat) × (Nat → Nat)
def WFz (n : Nat) (lt : Nat → Int32) : Prop := 1 ≤ n ∧ n ≤ 10 ∧ ∀ r c, r < 10 → c < 4 → lt (4 * r + c) = -1 ∨ (r < n ∧ ∃ r' c', r' < n ∧ c' < 4 ∧ lt (4 * r + c) = nI (10 * r' + c'))
def RCz (m n : Nat) (lt : Nat → Int32) (M : EzM) : Prop := M.1 1 m 0 = nI n ∧ (∀ x, x < 40 → M.1 18 m x = lt x) ∧ ∀ r, r < 10 → M.1 19 m r = nI (ep_dn lt r)
def RMz (m n : Nat) (lt : Nat → Int32) (M : EzM) : Prop := M.1 46 0 m = nI n ∧ ∀ x, x < 40 → M.1 45 0 (40 * m + x) = lt x
def WFS (n : Nat) (S : EpW) : Prop := S.1 < n ∧ S.2.1 < 4 ∧ ∀ r, r < 10 → S.2.2.2.2.1 r < 16 ∧ S.2.2.2.2.2 r ≤ 99
def RCW (kind mz num : Nat) (S : EpW) (wi pi : Nat) (M : EzM) : Prop := M.1 10 wi 0 = nI kind ∧ M.1 10 wi 1 = nI mz ∧ M.1 10 wi 2 = nI S.1 ∧ M.1 10 wi 3 = nI S.2.1 ∧ M.1 10 wi 4 = nI num ∧ M.1 10 wi 5 = S.2.2.1 ∧ M.1 10 wi 6 = S.2.2.2.1 ∧ ∀ r, r < 10 → M.1 21 wi r = nI (S.2.2.2.2.1 r) ∧ M.1 20 pi r = nI (S.2.2.2.2.2 r)
def RMW (kind mz num : Nat) (S : EpW) (w : Nat) (M : EzM) : Prop := M.1 48 0 w = nI kind ∧ M.1 49 0 w = nI mz ∧ M.1 50 0 w = nI S.1 ∧ M.1 51 0 w = nI S.2.1 ∧ M.1 52 0 w = nI num ∧ M.1 53 0 w = S.2.2.1 ∧ M.1 54 0 w = S.2.2.2.1 ∧ ∀ r, r < 10 → M.1 55 0 (10 * w + r) = nI (S.2.2.2.2.1 r) ∧ M.1 47 0 (10 * mz + r) = nI (S.2.2.2.2.2 r)
def ep_nm (lt : Nat → Int32) (bl num : Nat) (S : EpW) (j : Nat) : Int32 := if j = 0 then nI S.2.1 else if j = 1 then nI (ep_bc (ep_dn lt S.1)) else if j = 2 then nI (S.2.2.2.2.2 S.1) else if j = 3 then S.2.2.1 else if j = 4 then (if bl = 0 then S.2.2.2.1 else nI 0) else nI num
theorem ep_dn16 (lt : Nat → Int32) (r : Nat) : ep_dn lt r < 16 := by
  unfold ep_dn
  repeat' split
  all_goals omega
theorem ep_bc5 (x : Nat) : ep_bc x < 5 := by unfold ep_bc; omega
theorem RCz.fx {m n : Nat} {lt : Nat → Int32} {M M' : EzM} {ch : Nat → Nat → Nat → Prop} (h : RCz m n lt M) (hF : FX ch M M') (hc : ¬ ch 1 m 0 ∧ ∀ x, ¬ ch 18 m x ∧ ¬ ch 19 m x) : RCz m n lt M' := ⟨by rw [hF _ _ _ hc.1]; exact h.1, fun x hx => by rw [hF _ _ _ (hc.2 x).1]; exact h.2.1 x hx, fun r hr => by rw [hF _ _ _ (hc.2 r).2]; exact h.2.2 r hr⟩
theorem RMz.fx {m n : Nat} {lt : Nat → Int32} {M M' : EzM} {ch : Nat → Nat → Nat → Prop} (h : RMz m n lt M) (hF : FX ch M M') (hc : ¬ ch 46 0 m ∧ ∀ x, ¬ ch 45 0 x) : RMz m n lt M' := ⟨by rw [hF _ _ _ hc.1]; exact h.1, fun x hx => by rw [hF _ _ _ (hc.2 _)]; exact h.2 x hx⟩
theorem RCW.fx {kind mz num wi pi : Nat} {S : EpW} {M M' : EzM} {ch : Nat → Nat → Nat → Prop} (h : RCW kind mz num S wi pi M) (hF : FX ch M M') (hc : ∀ s, ¬ ch 10 wi s ∧ ¬ ch 21 wi s ∧ ¬ ch 20 pi s) : RCW kind mz num S wi pi M' := by
  obtain ⟨a0, a1, a2, a3, a4, a5, a6, a7⟩ := h
  exact ⟨by rw [hF _ _ _ (hc 0).1]; exact a0, by rw [hF _ _ _ (hc 1).1]; exact a1, by rw [hF _ _ _ (hc 2).1]; exact a2, by rw [hF _ _ _ (hc 3).1]; exact a3, by rw [hF _ _ _ (hc 4).1]; exact a4, by rw [hF _ _ _ (hc 5).1]; exact a5, by rw [hF _ _ _ (hc 6).1]; exact a6, fun r hr => ⟨by rw [hF _ _ _ (hc r).2.1]; exact (a7 r hr).1, by rw [hF _ _ _ (hc r).2.2]; exact (a7 r hr).2⟩⟩
theorem RMW.fx {kind mz num w : Nat} {S : EpW} {M M' : EzM} {ch : Nat → Nat → Nat → Prop} (h : RMW kind mz num S w M) (hF : FX ch M M') (hc : ¬ ch 48 0 w ∧ ¬ ch 49 0 w ∧ ¬ ch 50 0 w ∧ ¬ ch 51 0 w ∧ ¬ ch 52 0 w ∧ ¬ ch 53 0 w ∧ ¬ ch 54 0 w ∧ ∀ r, r < 10 → ¬ ch 55 0 (10 * w + r) ∧ ¬ ch 47 0 (10 * mz + r)) : RMW kind mz num S w M' := by
  obtain ⟨a0, a1, a2, a3, a4, a5, a6, a7⟩ := h
  obtain ⟨c0, c1, c2, c3, c4, c5, c6, c7⟩ := hc
  exact ⟨by rw [hF _ _ _ c0]; exact a0, by rw [hF _ _ _ c1]; exact a1, by rw [hF _ _ _ c2]; exact a2, by rw [hF _ _ _ c3]; exact a3, by rw [hF _ _ _ c4]; exact a4, by rw [hF _ _ _ c5]; exact a5, by rw [hF _ _ _ c6]; exact a6, fun r hr => ⟨by rw [hF _ _ _ (c7 r hr).1]; exact (a7 r hr).1, by rw [hF _ _ _ (c7 r hr).2]; exact (a7 r hr).2⟩⟩
theorem c_leading_n (G : EzG) (d : Nat) (m n r : Nat) (lt : Nat → Int32) (M : EzM) (hd : 1 ≤ d) (hm : m < 4) (hn : n ≤ 10) (hr : r < n) (hz : RCz m n lt M) : Ezc G mX1_leading d [eR 1 m, eI (nI r)] M (fun q M' => q = some (eI (nI (ep_dn lt r))) ∧ M' = M) :=
  (c_X1_leading G d m (nI r) M hd hm).wk (fun q M' h => ⟨by
    rw [h.1, ep_lg, hz.1]
    have e : ep_in (nI r) (nI n) = nI 1 := by
      unfold ep_in
      rw [if_neg]
      rintro (q | q)
      · exact nI_pos (by omega) q
      · have := (nI_leI (by omega) (by omega)).mp q; omega
    rw [e, if_neg (by decide), ep_it_nI (by omega) (by decide), hz.2.2 r (by omega)], h.2⟩)
set_option maxRecDepth 20000 in
theorem c_X5_look (G : EzG) (d : Nat) {kind mz num : Nat} {S : EpW} {n : Nat} {lt : Nat → Int32} {bl : Nat} (wi pi m : Nat) (M : EzM) (hd : 3 ≤ d) (hwi : wi < 18) (hpi : pi < 9) (hm : m < 4) (hz : WFz n lt) (hS : WFS n S) (hR : RCW kind mz num S wi pi M) (hZ : RCz m n lt M) (hbl : M.1 5 0 2 = nI bl) (hb2 : bl < 2) : Ezc G mX5_look d [eR 5 0, eR 10 wi, eR 1 m, eR 20 pi] M (fun r M' => r = none ∧ (∀ j, j < 6 → M'.1 23 0 j = ep_nm lt bl num S j) ∧ FX (fun k i s => k = 23) M M' ∧ M'.2 = M.2) := by
  refine Ezc.of (by decide +kernel) (Nat.le_of_ble_eq_true rfl) ?_
  have z1 := hz.2.1
  have s1 := hS.1
  have d16 := ep_dn16 lt S.1
  show Ez G mX5_look d 0 [(0, eR 5 0), (1, eR 10 wi), (2, eR 1 m), (3, eR 20 pi)] [] M _
  refine ez_aload_n 1 dX5_look_0 rfl rfl ?_
  refine ez_getf 4 (eR 23 0) dX5_look_1 rfl fl_X5_9 (by show 0 < 1; omega) rfl ?_
  refine ez_iconst 5 dX5_look_4 rfl (nI 0) (by decide) ?_
  refine ez_aload_n 6 dX5_look_5 rfl rfl ?_
  refine ez_getf 9 (eI (M.1 10 wi 3)) dX5_look_6 rfl fl_X5_18 (by show wi < 18; omega) rfl ?_
  refine ez_top (nI S.2.1) hR.2.2.2.1 ?_
  refine ez_iastN 0 10 dX5_look_9 rfl (by decide) (by show 0 < 1; omega) (by show 0 < 6; omega) ?_
  refine ez_aload_n 11 dX5_look_10 rfl rfl ?_
  refine ez_getf 14 (eR 23 0) dX5_look_11 rfl fl_X5_9 (by show 0 < 1; omega) rfl ?_
  refine ez_iconst 15 dX5_look_14 rfl (nI 1) (by decide) ?_
  refine ez_aload_n 16 dX5_look_15 rfl rfl ?_
  refine ez_aload_n 17 dX5_look_16 rfl rfl ?_
  refine ez_getf 20 (eI (M.1 10 wi 2)) dX5_look_17 rfl fl_X5_24 (by show wi < 18; omega) rfl ?_
  refine ez_top (nI S.1) hR.2.2.1 ?_
  refine ez_callV 23 [eI (nI S.1)] [eI (nI 1), eR 23 0] dX5_look_20 rfl rfl ok_X1_leading in_X1_leading (by decide) (by show m < 4; omega) ln_X5_27 (by omega) (Nat.le_of_ble_eq_true rfl) (c_leading_n G (d - 1) m n S.1 lt (ez_st M 23 0 0 (nI S.2.1)) (by omega) (by omega) (by omega) (by omega) (hZ.fx (ch := fun k i s => k = 23) (FX.rf.st (by omega)) ⟨by omega, fun x => by omega⟩)) (fun r20 M20 q20 => ?_)
  obtain ⟨rfl, e20⟩ := q20
  rw [e20]
  show Ez G mX5_look d 23 [(0, eR 5 0), (1, eR 10 wi), (2, eR 1 m), (3, eR 20 pi)] [eI (nI (ep_dn lt S.1)), eI (nI 1), eR 23 0] (ez_st M 23 0 0 (nI S.2.1)) _
  refine ez_callS 26 [eI (nI (ep_dn lt S.1))] [eI (nI 1), eR 23 0] dX5_look_23 rfl rfl ok_J6_bitCount_0f7a4 st_J6_bitCount_0f7a4 ln_X5_33 (by omega) (Nat.le_of_ble_eq_true rfl) (c_bitCount G (d - 1) (ep_dn lt S.1) (ez_st M 23 0 0 (nI S.2.1)) (by omega)) (fun r23 M23 q23 => ?_)
  obtain ⟨rfl, e23⟩ := q23
  rw [e23]
  show Ez G mX5_look d 26 [(0, eR 5 0), (1, eR 10 wi), (2, eR 1 m), (3, eR 20 pi)] [eI (nI (ep_bc (ep_dn lt S.1))), eI (nI 1), eR 23 0] (ez_st M 23 0 0 (nI S.2.1)) _
  refine ez_iastN 1 27 dX5_look_26 rfl (by decide) (by show 0 < 1; omega) (by show 1 < 6; omega) ?_
  refine ez_aload_n 28 dX5_look_27 rfl rfl ?_
  refine ez_getf 31 (eR 23 0) dX5_look_28 rfl fl_X5_9 (by show 0 < 1; omega) rfl ?_
  refine ez_iconst 32 dX5_look_31 rfl (nI 2) (by decide) ?_
  refine ez_aload_n 33 dX5_look_32 rfl rfl ?_
  refine ez_aload_n 34 dX5_look_33 rfl rfl ?_
  refine ez_getf 37 (eI (M.1 10 wi 2)) dX5_look_34 rfl fl_X5_24 (by show wi < 18; omega) rfl ?_
  refine ez_top (nI S.1) hR.2.2.1 ?_
  refine ez_callSN 40 [eR 20 pi, eI (nI S.1)] [eI (nI 2), eR 23 0] dX5_look_37 rfl rfl ok_X11_itemAt st_X11_itemAt "ElevenPebbles" nn_X5_38 (by omega) (Nat.le_of_ble_eq_true rfl) (c_itemAt_n G (d - 1) 20 pi S.1 (ez_st (ez_st M 23 0 0 (nI S.2.1)) 23 0 1 (nI (ep_bc (ep_dn lt S.1)))) (by decide) (by show pi < 9; omega) (by show S.1 < 10; omega)) (fun r37 M37 q37 => ?_)
  obtain ⟨rfl, e37⟩ := q37
  rw [e37, show (ez_st (ez_st M 23 0 0 (nI S.2.1)) 23 0 1 (nI (ep_bc (ep_dn lt S.1)))).1 20 pi S.1 = nI (S.2.2.2.2.2 S.1) from (by simp only [ez_rd]; simp; exact (hR.2.2.2.2.2.2.2 S.1 (by omega)).2)]
  show Ez G mX5_look d 40 [(0, eR 5 0), (1, eR 10 wi), (2, eR 1 m), (3, eR 20 pi)] [eI (nI (S.2.2.2.2.2 S.1)), eI (nI 2), eR 23 0] (ez_st (ez_st M 23 0 0 (nI S.2.1)) 23 0 1 (nI (ep_bc (ep_dn lt S.1)))) _
  refine ez_iastN 2 41 dX5_look_40 rfl (by decide) (by show 0 < 1; omega) (by show 2 < 6; omega) ?_
  refine ez_aload_n 42 dX5_look_41 rfl rfl ?_
  refine ez_getf 45 (eR 23 0) dX5_look_42 rfl fl_X5_9 (by show 0 < 1; omega) rfl ?_
  refine ez_iconst 46 dX5_look_45 rfl (nI 3) (by decide) ?_
  refine ez_aload_n 47 dX5_look_46 rfl rfl ?_
  refine ez_getf 50 (eI (M.1 10 wi 5)) dX5_look_47 rfl fl_X5_42 (by show wi < 18; omega) rfl ?_
  refine ez_top S.2.2.1 hR.2.2.2.2.2.1 ?_
  refine ez_iastN 3 51 dX5_look_50 rfl (by decide) (by show 0 < 1; omega) (by show 3 < 6; omega) ?_
  refine ez_aload_n 52 dX5_look_51 rfl rfl ?_
  refine ez_getf 55 (eR 23 0) dX5_look_52 rfl fl_X5_9 (by show 0 < 1; omega) rfl ?_
  refine ez_iconst 56 dX5_look_55 rfl (nI 4) (by decide) ?_
  refine ez_aload_n 57 dX5_look_56 rfl rfl ?_
  refine ez_getf 60 (eI (M.1 5 0 2)) dX5_look_57 rfl fl_X5_45 (by show 0 < 1; omega) rfl ?_
  refine ez_top (nI bl) hbl ?_
  refine ez_nif_eq 63 67 dX5_look_60 rfl (by decide) (by omega) (fun h60 => ?_) (fun h60 => ?_)
  · refine ez_aload_n 68 dX5_look_67 rfl rfl ?_
    refine ez_getf 71 (eI (M.1 10 wi 6)) dX5_look_68 rfl fl_X5_49 (by show wi < 18; omega) rfl ?_
    refine ez_top S.2.2.2.1 hR.2.2.2.2.2.2.1 ?_
    refine ez_iastN 4 72 dX5_look_71 rfl (by decide) (by show 0 < 1; omega) (by show 4 < 6; omega) ?_
    refine ez_aload_n 73 dX5_look_72 rfl rfl ?_
    refine ez_getf 76 (eR 23 0) dX5_look_73 rfl fl_X5_9 (by show 0 < 1; omega) rfl ?_
    refine ez_iconst 77 dX5_look_76 rfl (nI 5) (by decide) ?_
    refine ez_aload_n 78 dX5_look_77 rfl rfl ?_
    refine ez_getf 81 (eI (M.1 10 wi 4)) dX5_look_78 rfl fl_X5_52 (by show wi < 18; omega) rfl ?_
    refine ez_top (nI num) hR.2.2.2.2.1 ?_
    refine ez_iastN 5 82 dX5_look_81 rfl (by decide) (by show 0 < 1; omega) (by show 5 < 6; omega) ?_
    refine ez_vret dX5_look_82 rfl ?_
    refine ⟨rfl, fun j hj => ?_, (((((FX.rf.st (by omega)).st (by omega)).st (by omega)).st (by omega)).st (by omega)).st (by omega), rfl⟩
    simp only [ez_rd, true_and]
    rcases (show j = 0 ∨ j = 1 ∨ j = 2 ∨ j = 3 ∨ j = 4 ∨ j = 5 by omega) with rfl | rfl | rfl | rfl | rfl | rfl <;> simp [ep_nm, h60]
  · refine ez_iconst 64 dX5_look_63 rfl (nI 0) (by decide) ?_
    refine ez_goto 71 dX5_look_64 (by decide) ?_
    refine ez_iastN 4 72 dX5_look_71 rfl (by decide) (by show 0 < 1; omega) (by show 4 < 6; omega) ?_
    refine ez_aload_n 73 dX5_look_72 rfl rfl ?_
    refine ez_getf 76 (eR 23 0) dX5_look_73 rfl fl_X5_9 (by show 0 < 1; omega) rfl ?_
    refine ez_iconst 77 dX5_look_76 rfl (nI 5) (by decide) ?_
    refine ez_aload_n 78 dX5_look_77 rfl rfl ?_
    refine ez_getf 81 (eI (M.1 10 wi 4)) dX5_look_78 rfl fl_X5_52 (by show wi < 18; omega) rfl ?_
    refine ez_top (nI num) hR.2.2.2.2.1 ?_
    refine ez_iastN 5 82 dX5_look_81 rfl (by decide) (by show 0 < 1; omega) (by show 5 < 6; omega) ?_
    refine ez_vret dX5_look_82 rfl ?_
    refine ⟨rfl, fun j hj => ?_, (((((FX.rf.st (by omega)).st (by omega)).st (by omega)).st (by omega)).st (by omega)).st (by omega), rfl⟩
    simp only [ez_rd, true_and]
    rcases (show j = 0 ∨ j = 1 ∨ j = 2 ∨ j = 3 ∨ j = 4 ∨ j = 5 by omega) with rfl | rfl | rfl | rfl | rfl | rfl <;> simp [ep_nm, show ¬ bl = 0 by omega]
set_option maxRecDepth 20000 in
theorem c_X11_saying (G : EzG) (d : Nat) {xc xr : Nat} {tf : Nat → EpF} {nm : Nat → Int32} (key : Nat) (M : EzM) (hd : 4 ≤ d) (hk : key < 3) (hW : WFx xc xr tf) (hX : RCx xc xr tf M) (hnm : ∀ j, j < 6 → M.1 23 0 j = nm j) : Ezc G mX11_saying d [eR 11 0, eI (nI key)] M (fun r M' => r = some (eI ((tf xr key).2 nm)) ∧ FX (fun k i s => k = 24) M M' ∧ M'.2 = M.2) := by
  refine Ezc.of (by decide +kernel) (Nat.le_of_ble_eq_true rfl) ?_
  have x1 := hW.2.1
  have x2 := hW.2.2.1
  show Ez G mX11_saying d 0 [(0, eR 11 0), (1, eI (nI key))] [] M _
  refine ez_aload_n 1 dX11_saying_0 rfl rfl ?_
  refine ez_getf 4 (eI (M.1 11 0 7)) dX11_saying_1 rfl fl_X11_138 (by show 0 < 1; omega) rfl ?_
  refine ez_top (nI xr) hX.2.1 ?_
  refine ez_bipush 6 dX11_saying_4 rfl (nI 6) (by decide) ?_
  refine ez_callS 9 [eI (nI xr), eI (nI 6)] [] dX11_saying_6 rfl rfl ok_X11_isInside st_X11_isInside ln_X11_134 (by omega) (Nat.le_of_ble_eq_true rfl) (c_isInside_n G (d - 1) xr 6 M (by omega) (by omega)) (fun r6 M6 q6 => ?_)
  obtain ⟨rfl, e6⟩ := q6
  rw [e6]
  show Ez G mX11_saying d 9 [(0, eR 11 0), (1, eI (nI key))] [eI (nI 1)] M _
  refine ez_nif_eq 12 19 dX11_saying_9 rfl (by decide) (by omega) (fun h9 => ?_) (fun h9 => ?_)
  · exact absurd h9 (by decide)
  · refine ez_aload_n 13 dX11_saying_12 rfl rfl ?_
    refine ez_getf 16 (eI (M.1 11 0 7)) dX11_saying_13 rfl fl_X11_138 (by show 0 < 1; omega) rfl ?_
    refine ez_top (nI xr) hX.2.1 ?_
    refine ez_goto 20 dX11_saying_16 (by decide) ?_
    refine ez_istore_n 21 [(2, eI (nI xr)), (0, eR 11 0), (1, eI (nI key))] dX11_saying_20 rfl (by decide) rfl ?_
    refine ez_aload_n 22 dX11_saying_21 rfl rfl ?_
    refine ez_getf 25 (eR 38 0) dX11_saying_22 rfl fl_X11_30 (by show 0 < 1; omega) rfl ?_
    refine ez_iload_n 26 dX11_saying_25 rfl rfl ?_
    refine ez_aaldN xr 27 (eR 3 xr) dX11_saying_26 rfl (by decide) rfl (by show 0 < 1; omega) (by show xr < 6; omega) (by rw [show (ez_ark 38) = (3, 0) from rfl]; simp) ?_
    refine ez_iload_n 28 dX11_saying_27 rfl rfl ?_
    refine ez_aload_n 29 dX11_saying_28 rfl rfl ?_
    refine ez_getf 32 (eR 5 0) dX11_saying_29 rfl fl_X11_50 (by show 0 < 1; omega) rfl ?_
    refine ez_getf 35 (eR 23 0) dX11_saying_32 rfl fl_X11_347 (by show 0 < 1; omega) rfl ?_
    refine ez_aload_n 36 dX11_saying_35 rfl rfl ?_
    refine ez_getf 39 (eR 5 0) dX11_saying_36 rfl fl_X11_50 (by show 0 < 1; omega) rfl ?_
    refine ez_getf 42 (eR 24 0) dX11_saying_39 rfl fl_X11_350 (by show 0 < 1; omega) rfl ?_
    refine ez_callV 45 [eI (nI key), eR 23 0, eR 24 0] [] dX11_saying_42 rfl rfl ok_X3_comesTo in_X3_comesTo (by decide) (by show xr < 7; omega) ln_X11_353 (by omega) (Nat.le_of_ble_eq_true rfl) (c_comes G (d - 1) xr key (tf xr) nm M (by omega) (by omega) hk (hX.2.2 xr hW.2.2.1) (hW.2.2.2 xr hW.2.2.1 key hk) hnm) (fun r42 M42 q42 => ?_)
    obtain ⟨rfl, s42, e42⟩ := q42
    show Ez G mX11_saying d 45 [(2, eI (nI xr)), (0, eR 11 0), (1, eI (nI key))] [eI ((tf xr key).2 nm)] M42 _
    refine ez_iret .int dX11_saying_45 rfl rfl ?_
    exact ⟨rfl, by rw [e42]; exact FX.rf.row (fun s => by omega), by rw [e42]; rfl⟩
def ep_wt (kind came num dn gn hp : Nat) (go : Int32) : Option Nat :=
  if kind = 1 then ep_ff dn (ep_m4 (nI (came + 1)))
  else if kind = 3 then ep_ff dn (ep_m4 (nI (came + if hp = 0 then 1 else num)))
  else if kind = 2 then (if ep_fr dn gn = 0 then ep_ff dn (ep_m4 (nI came + go)) else ep_ff (ep_fr dn gn) 0)
  else if kind = 5 then (if ep_fr dn gn = 0 then ep_ff dn (ep_m4 (nI came + go)) else ep_gr (ep_fr dn gn))
  else if kind = 4 then (if 0 < hp ∧ ep_b dn came = 1 then some came else if ep_fr dn gn = 0 then ep_ff dn (ep_m4 (nI came + go)) else ep_ff (ep_fr dn gn) 0)
  else ep_ff dn (ep_m4 (nI came + go))
set_option maxRecDepth 20000 in
theorem c_X10_goneFromHere (G : EzG) (d : Nat) {kind mz num : Nat} {S : EpW} {n : Nat} (wi pi : Nat) (M : EzM) (hd : 1 ≤ d) (hwi : wi < 18) (hn : n ≤ 10) (hS : WFS n S) (hR : RCW kind mz num S wi pi M) : Ezc G mX10_goneFromHere d [eR 10 wi] M (fun r M' => r = some (eI (nI (S.2.2.2.2.1 S.1))) ∧ M' = M) := by
  refine Ezc.of (by decide +kernel) (Nat.le_of_ble_eq_true rfl) ?_
  have s1 := hS.1
  show Ez G mX10_goneFromHere d 0 [(0, eR 10 wi)] [] M _
  refine ez_aload_n 1 dX10_goneFromHere_0 rfl rfl ?_
  refine ez_getf 4 (eR 21 wi) dX10_goneFromHere_1 rfl fl_X10_9 (by show wi < 18; omega) rfl ?_
  refine ez_aload_n 5 dX10_goneFromHere_4 rfl rfl ?_
  refine ez_getf 8 (eI (M.1 10 wi 2)) dX10_goneFromHere_5 rfl fl_X10_22 (by show wi < 18; omega) rfl ?_
  refine ez_top (nI S.1) hR.2.2.1 ?_
  refine ez_callSN 11 [eR 21 wi, eI (nI S.1)] [] dX10_goneFromHere_8 rfl rfl ok_X11_itemAt st_X11_itemAt "ElevenPebbles" nn_X10_41 (by omega) (Nat.le_of_ble_eq_true rfl) (c_itemAt_n G (d - 1) 21 wi S.1 M (by decide) (by show wi < 18; omega) (by show S.1 < 10; omega)) (fun r8 M8 q8 => ?_)
  obtain ⟨rfl, e8⟩ := q8
  rw [e8, show M.1 21 wi S.1 = nI (S.2.2.2.2.1 S.1) from (hR.2.2.2.2.2.2.2 S.1 (by omega)).1]
  show Ez G mX10_goneFromHere d 11 [(0, eR 10 wi)] [eI (nI (S.2.2.2.2.1 S.1))] M _
  refine ez_iret .int dX10_goneFromHere_11 rfl rfl ?_
  exact ⟨rfl, rfl⟩
theorem ep_m40 : ep_m4 (nI 0) = 0 := by decide
set_option maxRecDepth 20000 in
theorem c_wants_0 (G : EzG) (d : Nat) {mz num : Nat} {S : EpW} {n dn hp : Nat} {go : Int32} (wi pi : Nat) (M : EzM) (hd : 2 ≤ d) (hwi : wi < 18) (hn : n ≤ 10) (hnum : num ≤ 9) (hdn : dn < 16) (hhp : hp < 2) (hS : WFS n S) (hR : RCW 0 mz num S wi pi M) : Ezc G mX11_wants d [eR 10 wi, eI (nI dn), eI (nI hp), eI go] M (fun r M' => r = some (eI (ep_oi (ep_wt 0 S.2.1 num dn (S.2.2.2.2.1 S.1) hp go))) ∧ M' = M) := by
  refine Ezc.of (by decide +kernel) (Nat.le_of_ble_eq_true rfl) ?_
  have s1 := hS.1
  have s2 := hS.2.1
  have hk0 := hR.1
  have g16 := (hS.2.2 S.1 (by omega)).1
  have f16 := (ep_frn dn hdn _ g16).2
  have b2 := ep_b2 dn S.2.1
  show Ez G mX11_wants d 0 [(0, eR 10 wi), (1, eI (nI dn)), (2, eI (nI hp)), (3, eI go)] [] M _
  refine ez_iload_n 1 dX11_wants_0 rfl rfl ?_
  refine ez_aload_n 2 dX11_wants_1 rfl rfl ?_
  refine ez_callV 5 [] [eI (nI dn)] dX11_wants_2 rfl rfl ok_X10_goneFromHere in_X10_goneFromHere (by decide) (by show wi < 18; omega) ln_X11_199 (by omega) (Nat.le_of_ble_eq_true rfl) (c_X10_goneFromHere G (d - 1) wi pi M (by omega) (by omega) (by omega) hS hR) (fun r2 M2 q2 => ?_)
  obtain ⟨rfl, e2⟩ := q2
  rw [e2]
  show Ez G mX11_wants d 5 [(0, eR 10 wi), (1, eI (nI dn)), (2, eI (nI hp)), (3, eI go)] [eI (nI (S.2.2.2.2.1 S.1)), eI (nI dn)] M _
  refine ez_iconst 6 dX11_wants_5 rfl (-1) (by decide) ?_
  refine ez_ixor 7 dX11_wants_6 rfl ?_
  refine ez_iand 8 dX11_wants_7 rfl ?_
  refine ez_top (nI (ep_fr dn (S.2.2.2.2.1 S.1))) (ep_frn dn hdn _ g16).1 ?_
  refine ez_istore 10 [(4, eI (nI (ep_fr dn (S.2.2.2.2.1 S.1)))), (0, eR 10 wi), (1, eI (nI dn)), (2, eI (nI hp)), (3, eI go)] dX11_wants_8 rfl (by decide) rfl ?_
  refine ez_iload_n 11 dX11_wants_10 rfl rfl ?_
  refine ez_aload_n 12 dX11_wants_11 rfl rfl ?_
  refine ez_getf 15 (eI (M.1 10 wi 3)) dX11_wants_12 rfl fl_X11_189 (by show wi < 18; omega) rfl ?_
  refine ez_top (nI S.2.1) hR.2.2.2.1 ?_
  refine ez_iload_n 16 dX11_wants_15 rfl rfl ?_
  refine ez_iadd 17 dX11_wants_16 rfl ?_
  refine ez_callS 20 [eI (nI dn), eI ((nI S.2.1) + go)] [] dX11_wants_17 rfl rfl ok_X11_firstFrom st_X11_firstFrom ln_X11_364 (by omega) (Nat.le_of_ble_eq_true rfl) (c_X11_firstFrom G (d - 1) dn ((nI S.2.1) + go) M (by omega)) (fun r17 M17 q17 => ?_)
  obtain ⟨rfl, e17⟩ := q17
  rw [e17]
  show Ez G mX11_wants d 20 [(4, eI (nI (ep_fr dn (S.2.2.2.2.1 S.1)))), (0, eR 10 wi), (1, eI (nI dn)), (2, eI (nI hp)), (3, eI go)] [eI (ep_oi (ep_ff dn (ep_m4 ((nI S.2.1) + go))))] M _
  refine ez_istore 22 [(5, eI (ep_oi (ep_ff dn (ep_m4 ((nI S.2.1) + go))))), (4, eI (nI (ep_fr dn (S.2.2.2.2.1 S.1)))), (0, eR 10 wi), (1, eI (nI dn)), (2, eI (nI hp)), (3, eI go)] dX11_wants_20 rfl (by decide) rfl ?_
  refine ez_aload_n 23 dX11_wants_22 rfl rfl ?_
  refine ez_getf 26 (eI (M.1 10 wi 0)) dX11_wants_23 rfl fl_X11_170 (by show wi < 18; omega) rfl ?_
  refine ez_top (nI 0) hk0 ?_
  refine ez_tabOut 163 dX11_wants_26 (by decide) (by decide) ?_
  refine ez_iload 165 dX11_wants_163 rfl rfl ?_
  refine ez_iret .int dX11_wants_165 rfl rfl ?_
  exact ⟨by simp [ep_wt, ep_m40, ep_oi], rfl⟩
set_option maxRecDepth 20000 in
theorem c_wants_1 (G : EzG) (d : Nat) {mz num : Nat} {S : EpW} {n dn hp : Nat} {go : Int32} (wi pi : Nat) (M : EzM) (hd : 2 ≤ d) (hwi : wi < 18) (hn : n ≤ 10) (hnum : num ≤ 9) (hdn : dn < 16) (hhp : hp < 2) (hS : WFS n S) (hR : RCW 1 mz num S wi pi M) : Ezc G mX11_wants d [eR 10 wi, eI (nI dn), eI (nI hp), eI go] M (fun r M' => r = some (eI (ep_oi (ep_wt 1 S.2.1 num dn (S.2.2.2.2.1 S.1) hp go))) ∧ M' = M) := by
  refine Ezc.of (by decide +kernel) (Nat.le_of_ble_eq_true rfl) ?_
  have s1 := hS.1
  have s2 := hS.2.1
  have hk0 := hR.1
  have g16 := (hS.2.2 S.1 (by omega)).1
  have f16 := (ep_frn dn hdn _ g16).2
  have b2 := ep_b2 dn S.2.1
  show Ez G mX11_wants d 0 [(0, eR 10 wi), (1, eI (nI dn)), (2, eI (nI hp)), (3, eI go)] [] M _
  refine ez_iload_n 1 dX11_wants_0 rfl rfl ?_
  refine ez_aload_n 2 dX11_wants_1 rfl rfl ?_
  refine ez_callV 5 [] [eI (nI dn)] dX11_wants_2 rfl rfl ok_X10_goneFromHere in_X10_goneFromHere (by decide) (by show wi < 18; omega) ln_X11_199 (by omega) (Nat.le_of_ble_eq_true rfl) (c_X10_goneFromHere G (d - 1) wi pi M (by omega) (by omega) (by omega) hS hR) (fun r2 M2 q2 => ?_)
  obtain ⟨rfl, e2⟩ := q2
  rw [e2]
  show Ez G mX11_wants d 5 [(0, eR 10 wi), (1, eI (nI dn)), (2, eI (nI hp)), (3, eI go)] [eI (nI (S.2.2.2.2.1 S.1)), eI (nI dn)] M _
  refine ez_iconst 6 dX11_wants_5 rfl (-1) (by decide) ?_
  refine ez_ixor 7 dX11_wants_6 rfl ?_
  refine ez_iand 8 dX11_wants_7 rfl ?_
  refine ez_top (nI (ep_fr dn (S.2.2.2.2.1 S.1))) (ep_frn dn hdn _ g16).1 ?_
  refine ez_istore 10 [(4, eI (nI (ep_fr dn (S.2.2.2.2.1 S.1)))), (0, eR 10 wi), (1, eI (nI dn)), (2, eI (nI hp)), (3, eI go)] dX11_wants_8 rfl (by decide) rfl ?_
  refine ez_iload_n 11 dX11_wants_10 rfl rfl ?_
  refine ez_aload_n 12 dX11_wants_11 rfl rfl ?_
  refine ez_getf 15 (eI (M.1 10 wi 3)) dX11_wants_12 rfl fl_X11_189 (by show wi < 18; omega) rfl ?_
  refine ez_top (nI S.2.1) hR.2.2.2.1 ?_
  refine ez_iload_n 16 dX11_wants_15 rfl rfl ?_
  refine ez_iadd 17 dX11_wants_16 rfl ?_
  refine ez_callS 20 [eI (nI dn), eI ((nI S.2.1) + go)] [] dX11_wants_17 rfl rfl ok_X11_firstFrom st_X11_firstFrom ln_X11_364 (by omega) (Nat.le_of_ble_eq_true rfl) (c_X11_firstFrom G (d - 1) dn ((nI S.2.1) + go) M (by omega)) (fun r17 M17 q17 => ?_)
  obtain ⟨rfl, e17⟩ := q17
  rw [e17]
  show Ez G mX11_wants d 20 [(4, eI (nI (ep_fr dn (S.2.2.2.2.1 S.1)))), (0, eR 10 wi), (1, eI (nI dn)), (2, eI (nI hp)), (3, eI go)] [eI (ep_oi (ep_ff dn (ep_m4 ((nI S.2.1) + go))))] M _
  refine ez_istore 22 [(5, eI (ep_oi (ep_ff dn (ep_m4 ((nI S.2.1) + go))))), (4, eI (nI (ep_fr dn (S.2.2.2.2.1 S.1)))), (0, eR 10 wi), (1, eI (nI dn)), (2, eI (nI hp)), (3, eI go)] dX11_wants_20 rfl (by decide) rfl ?_
  refine ez_aload_n 23 dX11_wants_22 rfl rfl ?_
  refine ez_getf 26 (eI (M.1 10 wi 0)) dX11_wants_23 rfl fl_X11_170 (by show wi < 18; omega) rfl ?_
  refine ez_top (nI 1) hk0 ?_
  refine ez_tabIn (off := 34) 60 dX11_wants_26 (by decide) (by decide) (by decide) (by decide) ?_
  refine ez_iload_n 61 dX11_wants_60 rfl rfl ?_
  refine ez_aload_n 62 dX11_wants_61 rfl rfl ?_
  refine ez_getf 65 (eI (M.1 10 wi 3)) dX11_wants_62 rfl fl_X11_189 (by show wi < 18; omega) rfl ?_
  refine ez_top (nI S.2.1) hR.2.2.2.1 ?_
  refine ez_iconst 66 dX11_wants_65 rfl (nI 1) (by decide) ?_
  refine ez_iadd 67 dX11_wants_66 rfl ?_
  refine ez_top (nI (S.2.1 + 1)) (nI_add _ _) ?_
  refine ez_callS 70 [eI (nI dn), eI (nI (S.2.1 + 1))] [] dX11_wants_67 rfl rfl ok_X11_firstFrom st_X11_firstFrom ln_X11_364 (by omega) (Nat.le_of_ble_eq_true rfl) (c_X11_firstFrom G (d - 1) dn (nI (S.2.1 + 1)) M (by omega)) (fun r67 M67 q67 => ?_)
  obtain ⟨rfl, e67⟩ := q67
  rw [e67]
  show Ez G mX11_wants d 70 [(5, eI (ep_oi (ep_ff dn (ep_m4 ((nI S.2.1) + go))))), (4, eI (nI (ep_fr dn (S.2.2.2.2.1 S.1)))), (0, eR 10 wi), (1, eI (nI dn)), (2, eI (nI hp)), (3, eI go)] [eI (ep_oi (ep_ff dn (ep_m4 (nI (S.2.1 + 1)))))] M _
  refine ez_iret .int dX11_wants_70 rfl rfl ?_
  exact ⟨by simp [ep_wt, ep_m40, ep_oi], rfl⟩
set_option maxRecDepth 20000 in
theorem c_wants_2 (G : EzG) (d : Nat) {mz num : Nat} {S : EpW} {n dn hp : Nat} {go : Int32} (wi pi : Nat) (M : EzM) (hd : 2 ≤ d) (hwi : wi < 18) (hn : n ≤ 10) (hnum : num ≤ 9) (hdn : dn < 16) (hhp : hp < 2) (hS : WFS n S) (hR : RCW 2 mz num S wi pi M) : Ezc G mX11_wants d [eR 10 wi, eI (nI dn), eI (nI hp), eI go] M (fun r M' => r = some (eI (ep_oi (ep_wt 2 S.2.1 num dn (S.2.2.2.2.1 S.1) hp go))) ∧ M' = M) := by
  refine Ezc.of (by decide +kernel) (Nat.le_of_ble_eq_true rfl) ?_
  have s1 := hS.1
  have s2 := hS.2.1
  have hk0 := hR.1
  have g16 := (hS.2.2 S.1 (by omega)).1
  have f16 := (ep_frn dn hdn _ g16).2
  have b2 := ep_b2 dn S.2.1
  show Ez G mX11_wants d 0 [(0, eR 10 wi), (1, eI (nI dn)), (2, eI (nI hp)), (3, eI go)] [] M _
  refine ez_iload_n 1 dX11_wants_0 rfl rfl ?_
  refine ez_aload_n 2 dX11_wants_1 rfl rfl ?_
  refine ez_callV 5 [] [eI (nI dn)] dX11_wants_2 rfl rfl ok_X10_goneFromHere in_X10_goneFromHere (by decide) (by show wi < 18; omega) ln_X11_199 (by omega) (Nat.le_of_ble_eq_true rfl) (c_X10_goneFromHere G (d - 1) wi pi M (by omega) (by omega) (by omega) hS hR) (fun r2 M2 q2 => ?_)
  obtain ⟨rfl, e2⟩ := q2
  rw [e2]
  show Ez G mX11_wants d 5 [(0, eR 10 wi), (1, eI (nI dn)), (2, eI (nI hp)), (3, eI go)] [eI (nI (S.2.2.2.2.1 S.1)), eI (nI dn)] M _
  refine ez_iconst 6 dX11_wants_5 rfl (-1) (by decide) ?_
  refine ez_ixor 7 dX11_wants_6 rfl ?_
  refine ez_iand 8 dX11_wants_7 rfl ?_
  refine ez_top (nI (ep_fr dn (S.2.2.2.2.1 S.1))) (ep_frn dn hdn _ g16).1 ?_
  refine ez_istore 10 [(4, eI (nI (ep_fr dn (S.2.2.2.2.1 S.1)))), (0, eR 10 wi), (1, eI (nI dn)), (2, eI (nI hp)), (3, eI go)] dX11_wants_8 rfl (by decide) rfl ?_
  refine ez_iload_n 11 dX11_wants_10 rfl rfl ?_
  refine ez_aload_n 12 dX11_wants_11 rfl rfl ?_
  refine ez_getf 15 (eI (M.1 10 wi 3)) dX11_wants_12 rfl fl_X11_189 (by show wi < 18; omega) rfl ?_
  refine ez_top (nI S.2.1) hR.2.2.2.1 ?_
  refine ez_iload_n 16 dX11_wants_15 rfl rfl ?_
  refine ez_iadd 17 dX11_wants_16 rfl ?_
  refine ez_callS 20 [eI (nI dn), eI ((nI S.2.1) + go)] [] dX11_wants_17 rfl rfl ok_X11_firstFrom st_X11_firstFrom ln_X11_364 (by omega) (Nat.le_of_ble_eq_true rfl) (c_X11_firstFrom G (d - 1) dn ((nI S.2.1) + go) M (by omega)) (fun r17 M17 q17 => ?_)
  obtain ⟨rfl, e17⟩ := q17
  rw [e17]
  show Ez G mX11_wants d 20 [(4, eI (nI (ep_fr dn (S.2.2.2.2.1 S.1)))), (0, eR 10 wi), (1, eI (nI dn)), (2, eI (nI hp)), (3, eI go)] [eI (ep_oi (ep_ff dn (ep_m4 ((nI S.2.1) + go))))] M _
  refine ez_istore 22 [(5, eI (ep_oi (ep_ff dn (ep_m4 ((nI S.2.1) + go))))), (4, eI (nI (ep_fr dn (S.2.2.2.2.1 S.1)))), (0, eR 10 wi), (1, eI (nI dn)), (2, eI (nI hp)), (3, eI go)] dX11_wants_20 rfl (by decide) rfl ?_
  refine ez_aload_n 23 dX11_wants_22 rfl rfl ?_
  refine ez_getf 26 (eI (M.1 10 wi 0)) dX11_wants_23 rfl fl_X11_170 (by show wi < 18; omega) rfl ?_
  refine ez_top (nI 2) hk0 ?_
  refine ez_tabIn (off := 67) 93 dX11_wants_26 (by decide) (by decide) (by decide) (by decide) ?_
  refine ez_iload 95 dX11_wants_93 rfl rfl ?_
  refine ez_nif_eq 98 107 dX11_wants_95 rfl (by decide) (by omega) (fun h95 => ?_) (fun h95 => ?_)
  · refine ez_iload 109 dX11_wants_107 rfl rfl ?_
    refine ez_iret .int dX11_wants_109 rfl rfl ?_
    exact ⟨by simp [ep_wt, ep_m40, ep_oi, h95], rfl⟩
  · refine ez_iload 100 dX11_wants_98 rfl rfl ?_
    refine ez_iconst 101 dX11_wants_100 rfl (nI 0) (by decide) ?_
    refine ez_callS 104 [eI (nI (ep_fr dn (S.2.2.2.2.1 S.1))), eI (nI 0)] [] dX11_wants_101 rfl rfl ok_X11_firstFrom st_X11_firstFrom ln_X11_364 (by omega) (Nat.le_of_ble_eq_true rfl) (c_X11_firstFrom G (d - 1) (ep_fr dn (S.2.2.2.2.1 S.1)) (nI 0) M (by omega)) (fun r101 M101 q101 => ?_)
    obtain ⟨rfl, e101⟩ := q101
    rw [e101]
    show Ez G mX11_wants d 104 [(5, eI (ep_oi (ep_ff dn (ep_m4 ((nI S.2.1) + go))))), (4, eI (nI (ep_fr dn (S.2.2.2.2.1 S.1)))), (0, eR 10 wi), (1, eI (nI dn)), (2, eI (nI hp)), (3, eI go)] [eI (ep_oi (ep_ff (ep_fr dn (S.2.2.2.2.1 S.1)) (ep_m4 (nI 0))))] M _
    refine ez_goto 109 dX11_wants_104 (by decide) ?_
    refine ez_iret .int dX11_wants_109 rfl rfl ?_
    exact ⟨by simp [ep_wt, ep_m40, ep_oi, show ¬ ep_fr dn (S.2.2.2.2.1 S.1) = 0 by omega], rfl⟩
set_option maxRecDepth 20000 in
theorem c_wants_3 (G : EzG) (d : Nat) {mz num : Nat} {S : EpW} {n dn hp : Nat} {go : Int32} (wi pi : Nat) (M : EzM) (hd : 2 ≤ d) (hwi : wi < 18) (hn : n ≤ 10) (hnum : num ≤ 9) (hdn : dn < 16) (hhp : hp < 2) (hS : WFS n S) (hR : RCW 3 mz num S wi pi M) : Ezc G mX11_wants d [eR 10 wi, eI (nI dn), eI (nI hp), eI go] M (fun r M' => r = some (eI (ep_oi (ep_wt 3 S.2.1 num dn (S.2.2.2.2.1 S.1) hp go))) ∧ M' = M) := by
  refine Ezc.of (by decide +kernel) (Nat.le_of_ble_eq_true rfl) ?_
  have s1 := hS.1
  have s2 := hS.2.1
  have hk0 := hR.1
  have g16 := (hS.2.2 S.1 (by omega)).1
  have f16 := (ep_frn dn hdn _ g16).2
  have b2 := ep_b2 dn S.2.1
  show Ez G mX11_wants d 0 [(0, eR 10 wi), (1, eI (nI dn)), (2, eI (nI hp)), (3, eI go)] [] M _
  refine ez_iload_n 1 dX11_wants_0 rfl rfl ?_
  refine ez_aload_n 2 dX11_wants_1 rfl rfl ?_
  refine ez_callV 5 [] [eI (nI dn)] dX11_wants_2 rfl rfl ok_X10_goneFromHere in_X10_goneFromHere (by decide) (by show wi < 18; omega) ln_X11_199 (by omega) (Nat.le_of_ble_eq_true rfl) (c_X10_goneFromHere G (d - 1) wi pi M (by omega) (by omega) (by omega) hS hR) (fun r2 M2 q2 => ?_)
  obtain ⟨rfl, e2⟩ := q2
  rw [e2]
  show Ez G mX11_wants d 5 [(0, eR 10 wi), (1, eI (nI dn)), (2, eI (nI hp)), (3, eI go)] [eI (nI (S.2.2.2.2.1 S.1)), eI (nI dn)] M _
  refine ez_iconst 6 dX11_wants_5 rfl (-1) (by decide) ?_
  refine ez_ixor 7 dX11_wants_6 rfl ?_
  refine ez_iand 8 dX11_wants_7 rfl ?_
  refine ez_top (nI (ep_fr dn (S.2.2.2.2.1 S.1))) (ep_frn dn hdn _ g16).1 ?_
  refine ez_istore 10 [(4, eI (nI (ep_fr dn (S.2.2.2.2.1 S.1)))), (0, eR 10 wi), (1, eI (nI dn)), (2, eI (nI hp)), (3, eI go)] dX11_wants_8 rfl (by decide) rfl ?_
  refine ez_iload_n 11 dX11_wants_10 rfl rfl ?_
  refine ez_aload_n 12 dX11_wants_11 rfl rfl ?_
  refine ez_getf 15 (eI (M.1 10 wi 3)) dX11_wants_12 rfl fl_X11_189 (by show wi < 18; omega) rfl ?_
  refine ez_top (nI S.2.1) hR.2.2.2.1 ?_
  refine ez_iload_n 16 dX11_wants_15 rfl rfl ?_
  refine ez_iadd 17 dX11_wants_16 rfl ?_
  refine ez_callS 20 [eI (nI dn), eI ((nI S.2.1) + go)] [] dX11_wants_17 rfl rfl ok_X11_firstFrom st_X11_firstFrom ln_X11_364 (by omega) (Nat.le_of_ble_eq_true rfl) (c_X11_firstFrom G (d - 1) dn ((nI S.2.1) + go) M (by omega)) (fun r17 M17 q17 => ?_)
  obtain ⟨rfl, e17⟩ := q17
  rw [e17]
  show Ez G mX11_wants d 20 [(4, eI (nI (ep_fr dn (S.2.2.2.2.1 S.1)))), (0, eR 10 wi), (1, eI (nI dn)), (2, eI (nI hp)), (3, eI go)] [eI (ep_oi (ep_ff dn (ep_m4 ((nI S.2.1) + go))))] M _
  refine ez_istore 22 [(5, eI (ep_oi (ep_ff dn (ep_m4 ((nI S.2.1) + go))))), (4, eI (nI (ep_fr dn (S.2.2.2.2.1 S.1)))), (0, eR 10 wi), (1, eI (nI dn)), (2, eI (nI hp)), (3, eI go)] dX11_wants_20 rfl (by decide) rfl ?_
  refine ez_aload_n 23 dX11_wants_22 rfl rfl ?_
  refine ez_getf 26 (eI (M.1 10 wi 0)) dX11_wants_23 rfl fl_X11_170 (by show wi < 18; omega) rfl ?_
  refine ez_top (nI 3) hk0 ?_
  refine ez_tabIn (off := 45) 71 dX11_wants_26 (by decide) (by decide) (by decide) (by decide) ?_
  refine ez_iload_n 72 dX11_wants_71 rfl rfl ?_
  refine ez_aload_n 73 dX11_wants_72 rfl rfl ?_
  refine ez_getf 76 (eI (M.1 10 wi 3)) dX11_wants_73 rfl fl_X11_189 (by show wi < 18; omega) rfl ?_
  refine ez_top (nI S.2.1) hR.2.2.2.1 ?_
  refine ez_iload_n 77 dX11_wants_76 rfl rfl ?_
  refine ez_nif_eq 80 87 dX11_wants_77 rfl (by decide) (by omega) (fun h77 => ?_) (fun h77 => ?_)
  · refine ez_iconst 88 dX11_wants_87 rfl (nI 1) (by decide) ?_
    refine ez_iadd 89 dX11_wants_88 rfl ?_
    refine ez_top (nI (S.2.1 + 1)) (nI_add _ _) ?_
    refine ez_callS 92 [eI (nI dn), eI (nI (S.2.1 + 1))] [] dX11_wants_89 rfl rfl ok_X11_firstFrom st_X11_firstFrom ln_X11_364 (by omega) (Nat.le_of_ble_eq_true rfl) (c_X11_firstFrom G (d - 1) dn (nI (S.2.1 + 1)) M (by omega)) (fun r89 M89 q89 => ?_)
    obtain ⟨rfl, e89⟩ := q89
    rw [e89]
    show Ez G mX11_wants d 92 [(5, eI (ep_oi (ep_ff dn (ep_m4 ((nI S.2.1) + go))))), (4, eI (nI (ep_fr dn (S.2.2.2.2.1 S.1)))), (0, eR 10 wi), (1, eI (nI dn)), (2, eI (nI hp)), (3, eI go)] [eI (ep_oi (ep_ff dn (ep_m4 (nI (S.2.1 + 1)))))] M _
    refine ez_iret .int dX11_wants_92 rfl rfl ?_
    exact ⟨by simp [ep_wt, ep_m40, ep_oi, h77], rfl⟩
  · refine ez_aload_n 81 dX11_wants_80 rfl rfl ?_
    refine ez_getf 84 (eI (M.1 10 wi 4)) dX11_wants_81 rfl fl_X11_179 (by show wi < 18; omega) rfl ?_
    refine ez_top (nI num) hR.2.2.2.2.1 ?_
    refine ez_goto 88 dX11_wants_84 (by decide) ?_
    refine ez_iadd 89 dX11_wants_88 rfl ?_
    refine ez_top (nI (S.2.1 + num)) (nI_add _ _) ?_
    refine ez_callS 92 [eI (nI dn), eI (nI (S.2.1 + num))] [] dX11_wants_89 rfl rfl ok_X11_firstFrom st_X11_firstFrom ln_X11_364 (by omega) (Nat.le_of_ble_eq_true rfl) (c_X11_firstFrom G (d - 1) dn (nI (S.2.1 + num)) M (by omega)) (fun r89 M89 q89 => ?_)
    obtain ⟨rfl, e89⟩ := q89
    rw [e89]
    show Ez G mX11_wants d 92 [(5, eI (ep_oi (ep_ff dn (ep_m4 ((nI S.2.1) + go))))), (4, eI (nI (ep_fr dn (S.2.2.2.2.1 S.1)))), (0, eR 10 wi), (1, eI (nI dn)), (2, eI (nI hp)), (3, eI go)] [eI (ep_oi (ep_ff dn (ep_m4 (nI (S.2.1 + num)))))] M _
    refine ez_iret .int dX11_wants_92 rfl rfl ?_
    exact ⟨by simp [ep_wt, ep_m40, ep_oi, show ¬ hp = 0 by omega], rfl⟩
set_option maxRecDepth 20000 in
theorem c_wants_4 (G : EzG) (d : Nat) {mz num : Nat} {S : EpW} {n dn hp : Nat} {go : Int32} (wi pi : Nat) (M : EzM) (hd : 2 ≤ d) (hwi : wi < 18) (hn : n ≤ 10) (hnum : num ≤ 9) (hdn : dn < 16) (hhp : hp < 2) (hS : WFS n S) (hR : RCW 4 mz num S wi pi M) : Ezc G mX11_wants d [eR 10 wi, eI (nI dn), eI (nI hp), eI go] M (fun r M' => r = some (eI (ep_oi (ep_wt 4 S.2.1 num dn (S.2.2.2.2.1 S.1) hp go))) ∧ M' = M) := by
  refine Ezc.of (by decide +kernel) (Nat.le_of_ble_eq_true rfl) ?_
  have s1 := hS.1
  have s2 := hS.2.1
  have hk0 := hR.1
  have g16 := (hS.2.2 S.1 (by omega)).1
  have f16 := (ep_frn dn hdn _ g16).2
  have b2 := ep_b2 dn S.2.1
  show Ez G mX11_wants d 0 [(0, eR 10 wi), (1, eI (nI dn)), (2, eI (nI hp)), (3, eI go)] [] M _
  refine ez_iload_n 1 dX11_wants_0 rfl rfl ?_
  refine ez_aload_n 2 dX11_wants_1 rfl rfl ?_
  refine ez_callV 5 [] [eI (nI dn)] dX11_wants_2 rfl rfl ok_X10_goneFromHere in_X10_goneFromHere (by decide) (by show wi < 18; omega) ln_X11_199 (by omega) (Nat.le_of_ble_eq_true rfl) (c_X10_goneFromHere G (d - 1) wi pi M (by omega) (by omega) (by omega) hS hR) (fun r2 M2 q2 => ?_)
  obtain ⟨rfl, e2⟩ := q2
  rw [e2]
  show Ez G mX11_wants d 5 [(0, eR 10 wi), (1, eI (nI dn)), (2, eI (nI hp)), (3, eI go)] [eI (nI (S.2.2.2.2.1 S.1)), eI (nI dn)] M _
  refine ez_iconst 6 dX11_wants_5 rfl (-1) (by decide) ?_
  refine ez_ixor 7 dX11_wants_6 rfl ?_
  refine ez_iand 8 dX11_wants_7 rfl ?_
  refine ez_top (nI (ep_fr dn (S.2.2.2.2.1 S.1))) (ep_frn dn hdn _ g16).1 ?_
  refine ez_istore 10 [(4, eI (nI (ep_fr dn (S.2.2.2.2.1 S.1)))), (0, eR 10 wi), (1, eI (nI dn)), (2, eI (nI hp)), (3, eI go)] dX11_wants_8 rfl (by decide) rfl ?_
  refine ez_iload_n 11 dX11_wants_10 rfl rfl ?_
  refine ez_aload_n 12 dX11_wants_11 rfl rfl ?_
  refine ez_getf 15 (eI (M.1 10 wi 3)) dX11_wants_12 rfl fl_X11_189 (by show wi < 18; omega) rfl ?_
  refine ez_top (nI S.2.1) hR.2.2.2.1 ?_
  refine ez_iload_n 16 dX11_wants_15 rfl rfl ?_
  refine ez_iadd 17 dX11_wants_16 rfl ?_
  refine ez_callS 20 [eI (nI dn), eI ((nI S.2.1) + go)] [] dX11_wants_17 rfl rfl ok_X11_firstFrom st_X11_firstFrom ln_X11_364 (by omega) (Nat.le_of_ble_eq_true rfl) (c_X11_firstFrom G (d - 1) dn ((nI S.2.1) + go) M (by omega)) (fun r17 M17 q17 => ?_)
  obtain ⟨rfl, e17⟩ := q17
  rw [e17]
  show Ez G mX11_wants d 20 [(4, eI (nI (ep_fr dn (S.2.2.2.2.1 S.1)))), (0, eR 10 wi), (1, eI (nI dn)), (2, eI (nI hp)), (3, eI go)] [eI (ep_oi (ep_ff dn (ep_m4 ((nI S.2.1) + go))))] M _
  refine ez_istore 22 [(5, eI (ep_oi (ep_ff dn (ep_m4 ((nI S.2.1) + go))))), (4, eI (nI (ep_fr dn (S.2.2.2.2.1 S.1)))), (0, eR 10 wi), (1, eI (nI dn)), (2, eI (nI hp)), (3, eI go)] dX11_wants_20 rfl (by decide) rfl ?_
  refine ez_aload_n 23 dX11_wants_22 rfl rfl ?_
  refine ez_getf 26 (eI (M.1 10 wi 0)) dX11_wants_23 rfl fl_X11_170 (by show wi < 18; omega) rfl ?_
  refine ez_top (nI 4) hk0 ?_
  refine ez_tabIn (off := 100) 126 dX11_wants_26 (by decide) (by decide) (by decide) (by decide) ?_
  refine ez_iload_n 127 dX11_wants_126 rfl rfl ?_
  refine ez_nif_eq 130 146 dX11_wants_127 rfl (by decide) (by omega) (fun h127 => ?_) (fun h127 => ?_)
  · refine ez_iload 148 dX11_wants_146 rfl rfl ?_
    refine ez_nif_eq 151 160 dX11_wants_148 rfl (by decide) (by omega) (fun h148 => ?_) (fun h148 => ?_)
    · refine ez_iload 162 dX11_wants_160 rfl rfl ?_
      refine ez_iret .int dX11_wants_162 rfl rfl ?_
      exact ⟨by simp [ep_wt, ep_m40, ep_oi, h127, h148], rfl⟩
    · refine ez_iload 153 dX11_wants_151 rfl rfl ?_
      refine ez_iconst 154 dX11_wants_153 rfl (nI 0) (by decide) ?_
      refine ez_callS 157 [eI (nI (ep_fr dn (S.2.2.2.2.1 S.1))), eI (nI 0)] [] dX11_wants_154 rfl rfl ok_X11_firstFrom st_X11_firstFrom ln_X11_364 (by omega) (Nat.le_of_ble_eq_true rfl) (c_X11_firstFrom G (d - 1) (ep_fr dn (S.2.2.2.2.1 S.1)) (nI 0) M (by omega)) (fun r154 M154 q154 => ?_)
      obtain ⟨rfl, e154⟩ := q154
      rw [e154]
      show Ez G mX11_wants d 157 [(5, eI (ep_oi (ep_ff dn (ep_m4 ((nI S.2.1) + go))))), (4, eI (nI (ep_fr dn (S.2.2.2.2.1 S.1)))), (0, eR 10 wi), (1, eI (nI dn)), (2, eI (nI hp)), (3, eI go)] [eI (ep_oi (ep_ff (ep_fr dn (S.2.2.2.2.1 S.1)) (ep_m4 (nI 0))))] M _
      refine ez_goto 162 dX11_wants_157 (by decide) ?_
      refine ez_iret .int dX11_wants_162 rfl rfl ?_
      exact ⟨by simp [ep_wt, ep_m40, ep_oi, h127, show ¬ ep_fr dn (S.2.2.2.2.1 S.1) = 0 by omega], rfl⟩
  · refine ez_iload_n 131 dX11_wants_130 rfl rfl ?_
    refine ez_aload_n 132 dX11_wants_131 rfl rfl ?_
    refine ez_getf 135 (eI (M.1 10 wi 3)) dX11_wants_132 rfl fl_X11_189 (by show wi < 18; omega) rfl ?_
    refine ez_top (nI S.2.1) hR.2.2.2.1 ?_
    refine ez_ishr 136 dX11_wants_135 rfl ?_
    refine ez_iconst 137 dX11_wants_136 rfl (nI 1) (by decide) ?_
    refine ez_iand 138 dX11_wants_137 rfl ?_
    refine ez_top (nI (ep_b dn S.2.1)) (ep_bshr dn hdn _ hS.2.1) ?_
    refine ez_nif_eq 141 146 dX11_wants_138 rfl (by decide) (by omega) (fun h138 => ?_) (fun h138 => ?_)
    · refine ez_iload 148 dX11_wants_146 rfl rfl ?_
      refine ez_nif_eq 151 160 dX11_wants_148 rfl (by decide) (by omega) (fun h148 => ?_) (fun h148 => ?_)
      · refine ez_iload 162 dX11_wants_160 rfl rfl ?_
        refine ez_iret .int dX11_wants_162 rfl rfl ?_
        exact ⟨by simp [ep_wt, ep_m40, ep_oi, h127, h138, h148], rfl⟩
      · refine ez_iload 153 dX11_wants_151 rfl rfl ?_
        refine ez_iconst 154 dX11_wants_153 rfl (nI 0) (by decide) ?_
        refine ez_callS 157 [eI (nI (ep_fr dn (S.2.2.2.2.1 S.1))), eI (nI 0)] [] dX11_wants_154 rfl rfl ok_X11_firstFrom st_X11_firstFrom ln_X11_364 (by omega) (Nat.le_of_ble_eq_true rfl) (c_X11_firstFrom G (d - 1) (ep_fr dn (S.2.2.2.2.1 S.1)) (nI 0) M (by omega)) (fun r154 M154 q154 => ?_)
        obtain ⟨rfl, e154⟩ := q154
        rw [e154]
        show Ez G mX11_wants d 157 [(5, eI (ep_oi (ep_ff dn (ep_m4 ((nI S.2.1) + go))))), (4, eI (nI (ep_fr dn (S.2.2.2.2.1 S.1)))), (0, eR 10 wi), (1, eI (nI dn)), (2, eI (nI hp)), (3, eI go)] [eI (ep_oi (ep_ff (ep_fr dn (S.2.2.2.2.1 S.1)) (ep_m4 (nI 0))))] M _
        refine ez_goto 162 dX11_wants_157 (by decide) ?_
        refine ez_iret .int dX11_wants_162 rfl rfl ?_
        exact ⟨by simp [ep_wt, ep_m40, ep_oi, h127, h138, show ¬ ep_fr dn (S.2.2.2.2.1 S.1) = 0 by omega], rfl⟩
    · refine ez_aload_n 142 dX11_wants_141 rfl rfl ?_
      refine ez_getf 145 (eI (M.1 10 wi 3)) dX11_wants_142 rfl fl_X11_189 (by show wi < 18; omega) rfl ?_
      refine ez_top (nI S.2.1) hR.2.2.2.1 ?_
      refine ez_iret .int dX11_wants_145 rfl rfl ?_
      exact ⟨by simp [ep_wt, ep_m40, ep_oi, h127, show ep_b dn S.2.1 = 1 by omega], rfl⟩
set_option maxRecDepth 20000 in
theorem c_wants_5 (G : EzG) (d : Nat) {mz num : Nat} {S : EpW} {n dn hp : Nat} {go : Int32} (wi pi : Nat) (M : EzM) (hd : 2 ≤ d) (hwi : wi < 18) (hn : n ≤ 10) (hnum : num ≤ 9) (hdn : dn < 16) (hhp : hp < 2) (hS : WFS n S) (hR : RCW 5 mz num S wi pi M) : Ezc G mX11_wants d [eR 10 wi, eI (nI dn), eI (nI hp), eI go] M (fun r M' => r = some (eI (ep_oi (ep_wt 5 S.2.1 num dn (S.2.2.2.2.1 S.1) hp go))) ∧ M' = M) := by
  refine Ezc.of (by decide +kernel) (Nat.le_of_ble_eq_true rfl) ?_
  have s1 := hS.1
  have s2 := hS.2.1
  have hk0 := hR.1
  have g16 := (hS.2.2 S.1 (by omega)).1
  have f16 := (ep_frn dn hdn _ g16).2
  have b2 := ep_b2 dn S.2.1
  show Ez G mX11_wants d 0 [(0, eR 10 wi), (1, eI (nI dn)), (2, eI (nI hp)), (3, eI go)] [] M _
  refine ez_iload_n 1 dX11_wants_0 rfl rfl ?_
  refine ez_aload_n 2 dX11_wants_1 rfl rfl ?_
  refine ez_callV 5 [] [eI (nI dn)] dX11_wants_2 rfl rfl ok_X10_goneFromHere in_X10_goneFromHere (by decide) (by show wi < 18; omega) ln_X11_199 (by omega) (Nat.le_of_ble_eq_true rfl) (c_X10_goneFromHere G (d - 1) wi pi M (by omega) (by omega) (by omega) hS hR) (fun r2 M2 q2 => ?_)
  obtain ⟨rfl, e2⟩ := q2
  rw [e2]
  show Ez G mX11_wants d 5 [(0, eR 10 wi), (1, eI (nI dn)), (2, eI (nI hp)), (3, eI go)] [eI (nI (S.2.2.2.2.1 S.1)), eI (nI dn)] M _
  refine ez_iconst 6 dX11_wants_5 rfl (-1) (by decide) ?_
  refine ez_ixor 7 dX11_wants_6 rfl ?_
  refine ez_iand 8 dX11_wants_7 rfl ?_
  refine ez_top (nI (ep_fr dn (S.2.2.2.2.1 S.1))) (ep_frn dn hdn _ g16).1 ?_
  refine ez_istore 10 [(4, eI (nI (ep_fr dn (S.2.2.2.2.1 S.1)))), (0, eR 10 wi), (1, eI (nI dn)), (2, eI (nI hp)), (3, eI go)] dX11_wants_8 rfl (by decide) rfl ?_
  refine ez_iload_n 11 dX11_wants_10 rfl rfl ?_
  refine ez_aload_n 12 dX11_wants_11 rfl rfl ?_
  refine ez_getf 15 (eI (M.1 10 wi 3)) dX11_wants_12 rfl fl_X11_189 (by show wi < 18; omega) rfl ?_
  refine ez_top (nI S.2.1) hR.2.2.2.1 ?_
  refine ez_iload_n 16 dX11_wants_15 rfl rfl ?_
  refine ez_iadd 17 dX11_wants_16 rfl ?_
  refine ez_callS 20 [eI (nI dn), eI ((nI S.2.1) + go)] [] dX11_wants_17 rfl rfl ok_X11_firstFrom st_X11_firstFrom ln_X11_364 (by omega) (Nat.le_of_ble_eq_true rfl) (c_X11_firstFrom G (d - 1) dn ((nI S.2.1) + go) M (by omega)) (fun r17 M17 q17 => ?_)
  obtain ⟨rfl, e17⟩ := q17
  rw [e17]
  show Ez G mX11_wants d 20 [(4, eI (nI (ep_fr dn (S.2.2.2.2.1 S.1)))), (0, eR 10 wi), (1, eI (nI dn)), (2, eI (nI hp)), (3, eI go)] [eI (ep_oi (ep_ff dn (ep_m4 ((nI S.2.1) + go))))] M _
  refine ez_istore 22 [(5, eI (ep_oi (ep_ff dn (ep_m4 ((nI S.2.1) + go))))), (4, eI (nI (ep_fr dn (S.2.2.2.2.1 S.1)))), (0, eR 10 wi), (1, eI (nI dn)), (2, eI (nI hp)), (3, eI go)] dX11_wants_20 rfl (by decide) rfl ?_
  refine ez_aload_n 23 dX11_wants_22 rfl rfl ?_
  refine ez_getf 26 (eI (M.1 10 wi 0)) dX11_wants_23 rfl fl_X11_170 (by show wi < 18; omega) rfl ?_
  refine ez_top (nI 5) hk0 ?_
  refine ez_tabIn (off := 84) 110 dX11_wants_26 (by decide) (by decide) (by decide) (by decide) ?_
  refine ez_iload 112 dX11_wants_110 rfl rfl ?_
  refine ez_nif_eq 115 123 dX11_wants_112 rfl (by decide) (by omega) (fun h112 => ?_) (fun h112 => ?_)
  · refine ez_iload 125 dX11_wants_123 rfl rfl ?_
    refine ez_iret .int dX11_wants_125 rfl rfl ?_
    exact ⟨by simp [ep_wt, ep_m40, ep_oi, h112], rfl⟩
  · refine ez_iload 117 dX11_wants_115 rfl rfl ?_
    refine ez_callS 120 [eI (nI (ep_fr dn (S.2.2.2.2.1 S.1)))] [] dX11_wants_117 rfl rfl ok_X11_greatestOf st_X11_greatestOf ln_X11_367 (by omega) (Nat.le_of_ble_eq_true rfl) (c_X11_greatestOf G (d - 1) (ep_fr dn (S.2.2.2.2.1 S.1)) M (by omega)) (fun r117 M117 q117 => ?_)
    obtain ⟨rfl, e117⟩ := q117
    rw [e117]
    show Ez G mX11_wants d 120 [(5, eI (ep_oi (ep_ff dn (ep_m4 ((nI S.2.1) + go))))), (4, eI (nI (ep_fr dn (S.2.2.2.2.1 S.1)))), (0, eR 10 wi), (1, eI (nI dn)), (2, eI (nI hp)), (3, eI go)] [eI (ep_oi (ep_gr (ep_fr dn (S.2.2.2.2.1 S.1))))] M _
    refine ez_goto 125 dX11_wants_120 (by decide) ?_
    refine ez_iret .int dX11_wants_125 rfl rfl ?_
    exact ⟨by simp [ep_wt, ep_m40, ep_oi, show ¬ ep_fr dn (S.2.2.2.2.1 S.1) = 0 by omega], rfl⟩
theorem c_X11_wants (G : EzG) (d : Nat) {kind mz num : Nat} {S : EpW} {n dn hp : Nat} {go : Int32} (wi pi : Nat) (M : EzM) (hd : 2 ≤ d) (hwi : wi < 18) (hn : n ≤ 10) (hnum : num ≤ 9) (hdn : dn < 16) (hhp : hp < 2) (hkd : kind < 6) (hS : WFS n S) (hR : RCW kind mz num S wi pi M) : Ezc G mX11_wants d [eR 10 wi, eI (nI dn), eI (nI hp), eI go] M (fun r M' => r = some (eI (ep_oi (ep_wt kind S.2.1 num dn (S.2.2.2.2.1 S.1) hp go))) ∧ M' = M) := by
  rcases (show kind = 0 ∨ kind = 1 ∨ kind = 2 ∨ kind = 3 ∨ kind = 4 ∨ kind = 5 by omega) with rfl | rfl | rfl | rfl | rfl | rfl
  · exact c_wants_0 G d wi pi M hd hwi hn hnum hdn hhp hS hR
  · exact c_wants_1 G d wi pi M hd hwi hn hnum hdn hhp hS hR
  · exact c_wants_2 G d wi pi M hd hwi hn hnum hdn hhp hS hR
  · exact c_wants_3 G d wi pi M hd hwi hn hnum hdn hhp hS hR
  · exact c_wants_4 G d wi pi M hd hwi hn hnum hdn hhp hS hR
  · exact c_wants_5 G d wi pi M hd hwi hn hnum hdn hhp hS hR
