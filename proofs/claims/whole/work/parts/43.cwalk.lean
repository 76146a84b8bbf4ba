/-! the class's calls on walkers: told, says, step, run -/
def SC (k i s : Nat) : Prop := (k = 10 ∧ 16 ≤ i) ∨ (k = 21 ∧ 16 ≤ i) ∨ (k = 20 ∧ i = 4) ∨ k = 23 ∨ k = 24 ∨ (25 ≤ k ∧ k ≤ 35) ∨ k = 2 ∨ k = 6 ∨ k = 8 ∨ k = 9
def SM (k i s : Nat) : Prop := (k = 12 ∧ (i ≠ 0 ∨ (21 ≤ s ∧ s < 36))) ∨ (56 ≤ k ∧ k ≤ 66)
theorem RC.sc {q : EpS} {M M' : EzM} (hW : WF q) (h : RC q M) (hF : FX SC M M') : RC q M' := by
  obtain ⟨a1, a2, a3, a4, a5, a6, a7⟩ := h
  obtain ⟨w1, w2, w3, w4, w5, w6⟩ := hW
  have h4 := w1.1
  have h8 := w2.1
  have n : ∀ k i s, (k = 10 ∧ i < 16) ∨ (k = 21 ∧ i < 16) ∨ (k = 20 ∧ i ≠ 4) ∨ k = 0 ∨ k = 1 ∨ k = 3 ∨ k = 4 ∨ k = 5 ∨ k = 7 ∨ k = 11 ∨ (12 ≤ k ∧ k < 20) ∨ k = 22 ∨ 36 ≤ k → ¬ SC k i s := fun k i s z => by unfold SC; omega
  exact ⟨RCm.fx a1 hF h4 ⟨n _ _ _ (by omega), fun m _ => ⟨n _ _ _ (by omega), fun x => ⟨n _ _ _ (by omega), n _ _ _ (by omega), n _ _ _ (by omega)⟩⟩⟩, RCw.fx a2 hF h8 ⟨n _ _ _ (by omega), fun w _ x => ⟨n _ _ _ (by omega), n _ _ _ (by omega)⟩⟩, RCt.fx a3 hF ⟨n _ _ _ (by omega), fun i => n _ _ _ (by omega)⟩, RCs.fx a4 hF (fun i _ s => ⟨n _ _ _ (by omega), n _ _ _ (by omega)⟩), RCx.fx a5 hF w5.2.1 ⟨n _ _ _ (by omega), n _ _ _ (by omega), fun i s _ => ⟨n _ _ _ (by omega), n _ _ _ (by omega)⟩⟩, RCi.fx a6 hF (fun q => ⟨by have := (w6.2 q).1; omega, by have := (w6.2 q).2.1; omega⟩) ⟨fun s _ => n _ _ _ (by omega), fun i _ _ s => n _ _ _ (by omega), fun i _ _ s => ⟨n _ _ _ (by omega), n _ _ _ (by omega)⟩⟩, by rw [hF _ _ _ (n _ _ _ (by omega))]; exact a7⟩
theorem FX.scc {M M' : EzM} (h : FX SC M M') : FX CC M M' := h.up (fun k i s z => by unfold SC at z; unfold CC; omega)
theorem RM.sm {q : EpS} {M M' : EzM} (h : RM q M) (hF : FX SM M M') : RM q M' := by
  obtain ⟨a1, a2, a3, a4, a5, a6, a7⟩ := h
  have n : ∀ k i s, (k = 12 ∧ i = 0 ∧ (s < 21 ∨ 36 ≤ s)) ∨ (42 ≤ k ∧ k < 56) ∨ 67 ≤ k → ¬ SM k i s := fun k i s z => by unfold SM; omega
  exact ⟨RMm.fx a1 hF ⟨n _ _ _ (by omega), fun x => ⟨n _ _ _ (by omega), n _ _ _ (by omega), n _ _ _ (by omega)⟩⟩, RMw.fx a2 hF ⟨n _ _ _ (by omega), fun x => ⟨n _ _ _ (by omega), n _ _ _ (by omega), n _ _ _ (by omega), n _ _ _ (by omega), n _ _ _ (by omega), n _ _ _ (by omega), n _ _ _ (by omega), n _ _ _ (by omega)⟩⟩, RMt.fx a3 hF ⟨n _ _ _ (by omega), fun i => n _ _ _ (by omega)⟩, RMs.fx a4 hF (fun s => ⟨n _ _ _ (by omega), n _ _ _ (by omega), n _ _ _ (by omega), n _ _ _ (by omega)⟩), RMx.fx a5 hF ⟨n _ _ _ (by omega), n _ _ _ (by omega), fun x hx => ⟨n _ _ _ (by omega), fun i hi => n _ _ _ (by omega)⟩⟩, RMi.fx a6 hF ⟨fun s _ _ => n _ _ _ (by omega), fun s => ⟨n _ _ _ (by omega), n _ _ _ (by omega), n _ _ _ (by omega)⟩⟩, by rw [hF _ _ _ (n _ _ _ (by omega))]; exact a7⟩
theorem FX.smm {M M' : EzM} (h : FX SM M M') : FX CM M M' := h.up (fun k i s z => by unfold SM at z; unfold CM; omega)
def s_tv (q : EpS) (key : Nat) : EpV := (q.2.2.2.2.1.2.2 q.2.2.2.2.1.2.1 key).2
def s_lt (q : EpS) (w : Nat) : Nat → Int32 := q.1.2.2.1 (q.2.1.2.1 w 1)
def s_nm (q : EpS) (w : Nat) : Nat → Int32 := ep_nm (s_lt q w) 0 (q.2.1.2.1 w 4) (s_get q.1 q.2.1 w)
def s_st (q : EpS) (bl w : Nat) : EpW → EpW := ep_step (s_lt q w) (s_tv q) bl (q.2.1.2.1 w 0) (q.2.1.2.1 w 4)
def s_dr (q : EpS) (w : Nat) : Option Nat := ep_dr (s_lt q w) (q.2.1.2.1 w 0) (q.2.1.2.1 w 4) (s_tv q 0 (s_nm q w)) (s_get q.1 q.2.1 w)
def ep_nth (f : EpW → EpW) : Nat → EpW → EpW
  | 0, S => S
  | t + 1, S => f (ep_nth f t S)
theorem WFS_nth {q : EpS} {bl w n : Nat} (hz : WFz n (s_lt q w)) : ∀ (t : Nat) (S : EpW), WFS n S → WFS n (ep_nth (s_st q bl w) t S)
  | 0, _, h => h
  | t + 1, S, h => WFS_step hz (WFS_nth hz t S h)
def s_put (q : EpS) (w : Nat) (S : EpW) : EpS := (s_putM q.1 q.2.1 w S, s_putA q.2.1 w S, q.2.2)
theorem c_mazeAt_n (G : EzG) (d : Nat) (a n : Nat) (M : EzM) (hd : 1 ≤ d) (h0 : M.1 11 0 2 = nI n) (hn : n ≤ 4) (ha : a < n) : Ezc G mX11_mazeAt d [eR 11 0, eI (nI a)] M (fun r M' => r = some (eR 1 a) ∧ M' = M) :=
  (c_X11_mazeAt G d (nI a) n M hd h0 hn).wk (fun r M' h => by
    obtain ⟨e, ⟨-, i⟩ | ⟨j, hj, ej, rfl⟩⟩ := h
    · rw [ep_ix_nI ha (by omega)] at i; cases i
    · rw [(nI_eq (by omega) (by omega)).mp ej]; exact ⟨rfl, e⟩)
def CHS (wi pi k i s : Nat) : Prop := (k = 10 ∧ i = wi ∧ (s = 2 ∨ s = 3 ∨ s = 5 ∨ s = 6)) ∨ (k = 21 ∧ i = wi) ∨ (k = 20 ∧ i = pi) ∨ k = 23 ∨ k = 24
theorem RC_put {q : EpS} {M M' : EzM} {w : Nat} {S : EpW} (hW : WF q) (hC : RC q M) (hw : w < q.2.1.1) (hR : RCW (q.2.1.2.1 w 0) (q.2.1.2.1 w 1) (q.2.1.2.1 w 4) S w (q.2.1.2.1 w 1) M') (hF : FX (CHS w (q.2.1.2.1 w 1)) M M') : RC (s_put q w S) M' ∧ FX CC M M' := by
  obtain ⟨a1, a2, a3, a4, a5, a6, a7⟩ := hC
  obtain ⟨w1, w2, w3, w4, w5, w6⟩ := hW
  have h4 := w1.1
  have h8 := w2.1
  have hm := (w2.2 w hw).2.1
  have n : ∀ k i s, (k = 10 ∧ i ≠ w) ∨ (k = 21 ∧ i ≠ w) ∨ (k = 20 ∧ i ≠ q.2.1.2.1 w 1) ∨ k < 10 ∨ (11 ≤ k ∧ k < 20) ∨ k = 22 ∨ 25 ≤ k → ¬ CHS w (q.2.1.2.1 w 1) k i s := fun k i s z => by unfold CHS; omega
  refine ⟨⟨p_RCM a1 h4 hm hR hF ⟨n _ _ _ (by omega), fun m _ => ⟨n _ _ _ (by omega), fun x => ⟨n _ _ _ (by omega), n _ _ _ (by omega), fun e => n _ _ _ (by omega)⟩⟩⟩, p_RCA a2 h8 hw hR rfl rfl rfl hF ⟨n _ _ _ (by omega), fun v _ e x => ⟨n _ _ _ (by omega), n _ _ _ (by omega)⟩⟩, RCt.fx a3 hF ⟨n _ _ _ (by omega), fun i => n _ _ _ (by omega)⟩, RCs.fx a4 hF (fun i _ s => ⟨n _ _ _ (by omega), n _ _ _ (by omega)⟩), RCx.fx a5 hF w5.2.1 ⟨n _ _ _ (by omega), n _ _ _ (by omega), fun i s _ => ⟨n _ _ _ (by omega), n _ _ _ (by omega)⟩⟩, RCi.fx a6 hF (fun z => ⟨Nat.le_trans (w6.2 z).1 h4, Nat.le_trans (w6.2 z).2.1 h8⟩) ⟨fun s _ => n _ _ _ (by omega), fun i _ _ s => n _ _ _ (by omega), fun i _ _ s => ⟨n _ _ _ (by omega), n _ _ _ (by omega)⟩⟩, by rw [hF _ _ _ (n _ _ _ (by omega))]; exact a7⟩, hF.up (fun k i s z => by unfold CHS at z; unfold CC; omega)⟩
def S_told (q : EpS) (x y : Int32) : Int32 := match ep_ix x q.2.1.1 with
  | none => -5
  | some w => if y = nI 0 then nI (q.2.1.2.1 w 0) else if y = nI 1 then nI (q.2.1.2.1 w 1) else if y = nI 2 then nI (q.2.1.2.1 w 2) else if y = nI 3 then nI (q.2.1.2.1 w 3) else if y = nI 4 then nI (q.2.1.2.1 w 4) else if y = nI 5 then q.2.1.2.2.1 w else if y = nI 6 then q.2.1.2.2.2.1 w else if y = nI 7 then ep_oi (s_dr q w) else if y = nI 8 then nI (q.2.1.2.2.2.2 w (q.2.1.2.1 w 2)) else -5
def S_says (q : EpS) (x y : Int32) : Int32 := match ep_ix x q.2.1.1 with
  | none => -1000000
  | some w => match ep_ix y 3 with
    | none => -1000000
    | some key => s_tv q key (s_nm q w)
def S_step (q : EpS) (x y : Int32) : Int32 × EpS := match ep_ix x q.2.1.1 with
  | none => (-2, q)
  | some w => match ep_rg y 1 100 with
    | none => (-2, q)
    | some n => (nI (ep_nth (s_st q 0 w) n (s_get q.1 q.2.1 w)).1, s_put q w (ep_nth (s_st q 0 w) n (s_get q.1 q.2.1 w)))
def S_run (q : EpS) (x y z : Int32) : Int32 := match ep_ix x q.2.1.1 with
  | none => -2
  | some w => match ep_rg y 0 200 with
    | none => -2
    | some n => match ep_ix z 3 with
      | none => -2
      | some c => if c = 0 then nI (ep_nth (s_st q 0 w) n (s_get q.1 q.2.1 w)).1 else if c = 1 then (ep_nth (s_st q 0 w) n (s_get q.1 q.2.1 w)).2.2.1 else (ep_nth (s_st q 0 w) n (s_get q.1 q.2.1 w)).2.2.2.1
set_option maxRecDepth 20000 in
theorem c_X11_says (G : EzG) (d : Nat) {q : EpS} (x y : Int32) (M : EzM) (hd : 5 ≤ d) (hW : WF q) (hC : RC q M) : Ezc G mX11_says d [eR 11 0, eI x, eI y] M (fun r M' => r = some (eI (S_says q x y)) ∧ RC q M' ∧ FX CC M M') := by
  refine Ezc.of (by decide +kernel) (Nat.le_of_ble_eq_true rfl) ?_
  have q8 := hW.2.1.1
  have q4 := hW.1.1
  have qx := hW.2.2.2.2.1
  show Ez G mX11_says d 0 [(0, eR 11 0), (1, eI x), (2, eI y)] [] M _
  refine ez_aload_n 1 dX11_says_0 rfl rfl ?_
  refine ez_iload_n 2 dX11_says_1 rfl rfl ?_
  refine ez_callV 5 [eI x] [] dX11_says_2 rfl rfl ok_X11_walkerAt in_X11_walkerAt (by decide) (by show 0 < 1; omega) ln_X11_185 (by omega) (Nat.le_of_ble_eq_true rfl) (c_X11_walkerAt G (d - 1) x q.2.1.1 M (by omega) hC.2.1.1 (by omega)) (fun r2 M2 q2 => ?_)
  obtain ⟨e2, ⟨rfl, i2⟩ | ⟨j2, b2, rfl, rfl⟩⟩ := q2
  · rw [e2]
    show Ez G mX11_says d 5 [(0, eR 11 0), (1, eI x), (2, eI y)] [eN] M _
    refine ez_astore_n 6 [(3, eN), (0, eR 11 0), (1, eI x), (2, eI y)] dX11_says_5 rfl (by decide) rfl ?_
    refine ez_aload_n 7 dX11_says_6 rfl rfl ?_
    refine ez_ifnull_n 18 dX11_says_7 (by decide) ?_
    refine ez_ldc 20 dX11_says_18 rfl (-1000000) cn_X11_202 ?_
    refine ez_iret .int dX11_says_20 rfl rfl ?_
    exact ⟨by simp [S_says, i2], hC, FX.rf⟩
  · rw [e2]
    have i2 : ep_ix (nI j2) q.2.1.1 = some j2 := ep_ix_nI b2 (by omega)
    obtain ⟨k0, k1, k2, k3, k4, k5⟩ := hW.2.1.2 j2 b2
    have gz := g_WFz hW.1 k1
    have gS := g_WFS hW b2
    have gZ := g_RCz hC.1 k1
    have gR := g_RCW hC.1 hC.2.1 b2 k1
    have n10 := gz.2.1
    have gX := hC.2.2.2.2.1
    show Ez G mX11_says d 5 [(0, eR 11 0), (1, eI (nI j2)), (2, eI y)] [eR 10 j2] M _
    refine ez_astore_n 6 [(3, eR 10 j2), (0, eR 11 0), (1, eI (nI j2)), (2, eI y)] dX11_says_5 rfl (by decide) rfl ?_
    refine ez_aload_n 7 dX11_says_6 rfl rfl ?_
    refine ez_ifnull_r 10 dX11_says_7 rfl ?_
    refine ez_iload_n 11 dX11_says_10 rfl rfl ?_
    refine ez_iconst 12 dX11_says_11 rfl (nI 3) (by decide) ?_
    refine ez_callS 15 [eI y, eI (nI 3)] [] dX11_says_12 rfl rfl ok_X11_isInside st_X11_isInside ln_X11_134 (by omega) (Nat.le_of_ble_eq_true rfl) (c_isInside_c G (d - 1) y 3 M (by omega)) (fun r12 M12 q12 => ?_)
    obtain ⟨e12, ⟨rfl, i12⟩ | ⟨j12, b12, rfl, rfl⟩⟩ := q12
    · rw [e12]
      show Ez G mX11_says d 15 [(3, eR 10 j2), (0, eR 11 0), (1, eI (nI j2)), (2, eI y)] [eI (nI 0)] M _
      refine ez_nif_ne 18 21 dX11_says_15 rfl (by decide) (by omega) (fun h15 => ?_) (fun h15 => ?_)
      · exact absurd h15 (by decide)
      · refine ez_ldc 20 dX11_says_18 rfl (-1000000) cn_X11_202 ?_
        refine ez_iret .int dX11_says_20 rfl rfl ?_
        exact ⟨by simp [S_says, i2, i12, h15], hC, FX.rf⟩
    · rw [e12]
      have i12 : ep_ix (nI j12) 3 = some j12 := ep_ix_nI b12 (by omega)
      show Ez G mX11_says d 15 [(3, eR 10 j2), (0, eR 11 0), (1, eI (nI j2)), (2, eI (nI j12))] [eI (nI 1)] M _
      refine ez_nif_ne 18 21 dX11_says_15 rfl (by decide) (by omega) (fun h15 => ?_) (fun h15 => ?_)
      · refine ez_aload_n 22 dX11_says_21 rfl rfl ?_
        refine ez_aload_n 23 dX11_says_22 rfl rfl ?_
        refine ez_getf 26 (eI (M.1 10 j2 1)) dX11_says_23 rfl fl_X11_173 (by show j2 < 18; omega) rfl ?_
        refine ez_top (nI (q.2.1.2.1 j2 1)) gR.2.1 ?_
        refine ez_callV 29 [eI (nI (q.2.1.2.1 j2 1))] [] dX11_says_26 rfl rfl ok_X11_mazeAt in_X11_mazeAt (by decide) (by show 0 < 1; omega) ln_X11_141 (by omega) (Nat.le_of_ble_eq_true rfl) (c_mazeAt_n G (d - 1) (q.2.1.2.1 j2 1) q.1.1 M (by omega) hC.1.1 q4 k1) (fun r26 M26 q26 => ?_)
        obtain ⟨rfl, e26⟩ := q26
        rw [e26]
        show Ez G mX11_says d 29 [(3, eR 10 j2), (0, eR 11 0), (1, eI (nI j2)), (2, eI (nI j12))] [eR 1 (q.2.1.2.1 j2 1)] M _
        refine ez_astore 31 [(4, eR 1 (q.2.1.2.1 j2 1)), (3, eR 10 j2), (0, eR 11 0), (1, eI (nI j2)), (2, eI (nI j12))] dX11_says_29 rfl (by decide) rfl ?_
        refine ez_aload 33 dX11_says_31 rfl rfl ?_
        refine ez_ifnonnull_r 39 dX11_says_33 (by decide) ?_
        refine ez_aload_n 40 dX11_says_39 rfl rfl ?_
        refine ez_getf 43 (eR 5 0) dX11_says_40 rfl fl_X11_50 (by show 0 < 1; omega) rfl ?_
        refine ez_aload_n 44 dX11_says_43 rfl rfl ?_
        refine ez_aload 46 dX11_says_44 rfl rfl ?_
        refine ez_aload 48 dX11_says_46 rfl rfl ?_
        refine ez_getf 51 (eR 20 (q.2.1.2.1 j2 1)) dX11_says_48 rfl fl_X11_156 (by show (q.2.1.2.1 j2 1) < 4; omega) rfl ?_
        refine ez_callV 54 [eR 10 j2, eR 1 (q.2.1.2.1 j2 1), eR 20 (q.2.1.2.1 j2 1)] [] dX11_says_51 rfl rfl ok_X5_look in_X5_look (by decide) (by show 0 < 1; omega) ln_X11_203 (by omega) (Nat.le_of_ble_eq_true rfl) (c_X5_look G (d - 1) (S := (s_get q.1 q.2.1 j2)) (lt := (s_lt q j2)) (bl := 0) j2 (q.2.1.2.1 j2 1) (q.2.1.2.1 j2 1) M (by omega) (by omega) (by omega) (by omega) gz gS gR gZ hC.2.2.2.2.2.2 (by omega)) (fun r51 M51 q51 => ?_)
        obtain ⟨rfl, n51, f51, -⟩ := q51
        have R51 := gR.fx f51 (fun s => by omega)
        have X51 := gX.fx f51 qx.2.1 ⟨by omega, by omega, fun i s hi => by omega⟩
        have Z51 := gZ.fx f51 ⟨by omega, fun x => by omega⟩
        show Ez G mX11_says d 54 [(4, eR 1 (q.2.1.2.1 j2 1)), (3, eR 10 j2), (0, eR 11 0), (1, eI (nI j2)), (2, eI (nI j12))] [] M51 _
        refine ez_aload_n 55 dX11_says_54 rfl rfl ?_
        refine ez_iload_n 56 dX11_says_55 rfl rfl ?_
        refine ez_callV 59 [eI (nI j12)] [] dX11_says_56 rfl rfl ok_X11_saying in_X11_saying (by decide) (by show 0 < 1; omega) ln_X11_207 (by omega) (Nat.le_of_ble_eq_true rfl) (c_X11_saying G (d - 1) j12 M51 (by omega) (by omega) qx X51 n51) (fun r56 M56 q56 => ?_)
        obtain ⟨rfl, f56, -⟩ := q56
        show Ez G mX11_says d 59 [(4, eR 1 (q.2.1.2.1 j2 1)), (3, eR 10 j2), (0, eR 11 0), (1, eI (nI j2)), (2, eI (nI j12))] [eI (s_tv q j12 (s_nm q j2))] M56 _
        refine ez_iret .int dX11_says_59 rfl rfl ?_
        have hF : FX SC M M56 := (f51.up (fun k i s z => by unfold SC; omega)).tr (f56.up (fun k i s z => by unfold SC; omega))
        exact ⟨by simp [S_says, i2, i12], RC.sc hW hC hF, hF.scc⟩
      · exact absurd h15 (by decide)
set_option maxRecDepth 20000 in
theorem c_X11_wantsNow (G : EzG) (d : Nat) {q : EpS} (w : Nat) (M : EzM) (hd : 5 ≤ d) (hW : WF q) (hC : RC q M) (hw : w < q.2.1.1) : Ezc G mX11_wantsNow d [eR 11 0, eR 10 w] M (fun r M' => r = some (eI (ep_oi (s_dr q w))) ∧ FX SC M M') := by
  refine Ezc.of (by decide +kernel) (Nat.le_of_ble_eq_true rfl) ?_
  have q8 := hW.2.1.1
  have q4 := hW.1.1
  have qx := hW.2.2.2.2.1
  obtain ⟨k0, k1, k2, k3, k4, k5⟩ := hW.2.1.2 w hw
  have gz := g_WFz hW.1 k1
  have gS := g_WFS hW hw
  have gZ := g_RCz hC.1 k1
  have gR := g_RCW hC.1 hC.2.1 hw k1
  have n10 := gz.2.1
  have gX := hC.2.2.2.2.1
  have s10 := gS.1
  have p99 := (gS.2.2 _ (show (s_get q.1 q.2.1 w).1 < 10 by omega)).2
  have d16 := ep_dn16 (s_lt q w) (s_get q.1 q.2.1 w).1
  show Ez G mX11_wantsNow d 0 [(0, eR 11 0), (1, eR 10 w)] [] M _
  refine ez_aload_n 1 dX11_wantsNow_0 rfl rfl ?_
  refine ez_aload_n 2 dX11_wantsNow_1 rfl rfl ?_
  refine ez_getf 5 (eI (M.1 10 w 1)) dX11_wantsNow_2 rfl fl_X11_173 (by show w < 18; omega) rfl ?_
  refine ez_top (nI (q.2.1.2.1 w 1)) gR.2.1 ?_
  refine ez_callV 8 [eI (nI (q.2.1.2.1 w 1))] [] dX11_wantsNow_5 rfl rfl ok_X11_mazeAt in_X11_mazeAt (by decide) (by show 0 < 1; omega) ln_X11_141 (by omega) (Nat.le_of_ble_eq_true rfl) (c_mazeAt_n G (d - 1) (q.2.1.2.1 w 1) q.1.1 M (by omega) hC.1.1 q4 k1) (fun r5 M5 q5 => ?_)
  obtain ⟨rfl, e5⟩ := q5
  rw [e5]
  show Ez G mX11_wantsNow d 8 [(0, eR 11 0), (1, eR 10 w)] [eR 1 (q.2.1.2.1 w 1)] M _
  refine ez_astore_n 9 [(2, eR 1 (q.2.1.2.1 w 1)), (0, eR 11 0), (1, eR 10 w)] dX11_wantsNow_8 rfl (by decide) rfl ?_
  refine ez_aload_n 10 dX11_wantsNow_9 rfl rfl ?_
  refine ez_ifnonnull_r 15 dX11_wantsNow_10 (by decide) ?_
  refine ez_aload_n 16 dX11_wantsNow_15 rfl rfl ?_
  refine ez_getf 19 (eR 5 0) dX11_wantsNow_16 rfl fl_X11_50 (by show 0 < 1; omega) rfl ?_
  refine ez_aload_n 20 dX11_wantsNow_19 rfl rfl ?_
  refine ez_aload_n 21 dX11_wantsNow_20 rfl rfl ?_
  refine ez_aload_n 22 dX11_wantsNow_21 rfl rfl ?_
  refine ez_getf 25 (eR 20 (q.2.1.2.1 w 1)) dX11_wantsNow_22 rfl fl_X11_156 (by show (q.2.1.2.1 w 1) < 4; omega) rfl ?_
  refine ez_callV 28 [eR 10 w, eR 1 (q.2.1.2.1 w 1), eR 20 (q.2.1.2.1 w 1)] [] dX11_wantsNow_25 rfl rfl ok_X5_look in_X5_look (by decide) (by show 0 < 1; omega) ln_X11_203 (by omega) (Nat.le_of_ble_eq_true rfl) (c_X5_look G (d - 1) (S := (s_get q.1 q.2.1 w)) (lt := (s_lt q w)) (bl := 0) w (q.2.1.2.1 w 1) (q.2.1.2.1 w 1) M (by omega) (by omega) (by omega) (by omega) gz gS gR gZ hC.2.2.2.2.2.2 (by omega)) (fun r25 M25 q25 => ?_)
  obtain ⟨rfl, n25, f25, -⟩ := q25
  have R25 := gR.fx f25 (fun s => by omega)
  have X25 := gX.fx f25 qx.2.1 ⟨by omega, by omega, fun i s hi => by omega⟩
  have Z25 := gZ.fx f25 ⟨by omega, fun x => by omega⟩
  show Ez G mX11_wantsNow d 28 [(2, eR 1 (q.2.1.2.1 w 1)), (0, eR 11 0), (1, eR 10 w)] [] M25 _
  refine ez_aload_n 29 dX11_wantsNow_28 rfl rfl ?_
  refine ez_aload_n 30 dX11_wantsNow_29 rfl rfl ?_
  refine ez_aload_n 31 dX11_wantsNow_30 rfl rfl ?_
  refine ez_getf 34 (eI (M25.1 10 w 2)) dX11_wantsNow_31 rfl fl_X11_176 (by show w < 18; omega) rfl ?_
  refine ez_top (nI ((s_get q.1 q.2.1 w).1)) R25.2.2.1 ?_
  refine ez_callV 37 [eI (nI ((s_get q.1 q.2.1 w).1))] [eR 10 w] dX11_wantsNow_34 rfl rfl ok_X1_leading in_X1_leading (by decide) (by show (q.2.1.2.1 w 1) < 4; omega) ln_X11_357 (by omega) (Nat.le_of_ble_eq_true rfl) (c_leading_n G (d - 1) (q.2.1.2.1 w 1) _ (s_get q.1 q.2.1 w).1 (s_lt q w) M25 (by omega) (by omega) n10 gS.1 Z25) (fun r34 M34 q34 => ?_)
  obtain ⟨rfl, e34⟩ := q34
  rw [e34]
  show Ez G mX11_wantsNow d 37 [(2, eR 1 (q.2.1.2.1 w 1)), (0, eR 11 0), (1, eR 10 w)] [eI (nI (ep_dn (s_lt q w) (s_get q.1 q.2.1 w).1)), eR 10 w] M25 _
  refine ez_aload_n 38 dX11_wantsNow_37 rfl rfl ?_
  refine ez_getf 41 (eR 20 (q.2.1.2.1 w 1)) dX11_wantsNow_38 rfl fl_X11_156 (by show (q.2.1.2.1 w 1) < 4; omega) rfl ?_
  refine ez_aload_n 42 dX11_wantsNow_41 rfl rfl ?_
  refine ez_getf 45 (eI (M25.1 10 w 2)) dX11_wantsNow_42 rfl fl_X11_176 (by show w < 18; omega) rfl ?_
  refine ez_top (nI ((s_get q.1 q.2.1 w).1)) R25.2.2.1 ?_
  refine ez_callS 48 [eR 20 (q.2.1.2.1 w 1), eI (nI ((s_get q.1 q.2.1 w).1))] [eI (nI (ep_dn (s_lt q w) (s_get q.1 q.2.1 w).1)), eR 10 w] dX11_wantsNow_45 rfl rfl ok_X11_itemAt st_X11_itemAt ln_X11_159 (by omega) (Nat.le_of_ble_eq_true rfl) (c_itemAt_n G (d - 1) 20 (q.2.1.2.1 w 1) ((s_get q.1 q.2.1 w).1) M25 (by decide) (by show (q.2.1.2.1 w 1) < 9; omega) (by show (s_get q.1 q.2.1 w).1 < 10; omega)) (fun r45 M45 q45 => ?_)
  obtain ⟨rfl, e45⟩ := q45
  rw [e45, show M25.1 20 (q.2.1.2.1 w 1) ((s_get q.1 q.2.1 w).1) = nI ((s_get q.1 q.2.1 w).2.2.2.2.2 ((s_get q.1 q.2.1 w).1)) from (R25.2.2.2.2.2.2.2 ((s_get q.1 q.2.1 w).1) (by omega)).2]
  show Ez G mX11_wantsNow d 48 [(2, eR 1 (q.2.1.2.1 w 1)), (0, eR 11 0), (1, eR 10 w)] [eI (nI ((s_get q.1 q.2.1 w).2.2.2.2.2 ((s_get q.1 q.2.1 w).1))), eI (nI (ep_dn (s_lt q w) (s_get q.1 q.2.1 w).1)), eR 10 w] M25 _
  refine ez_nif_le 51 55 dX11_wantsNow_48 rfl (by decide) (by omega) (fun h48 => ?_) (fun h48 => ?_)
  · refine ez_iconst 56 dX11_wantsNow_55 rfl (nI 0) (by decide) ?_
    refine ez_aload_n 57 dX11_wantsNow_56 rfl rfl ?_
    refine ez_iconst 58 dX11_wantsNow_57 rfl (nI 0) (by decide) ?_
    refine ez_callV 61 [eI (nI 0)] [eI (nI 0), eI (nI (ep_dn (s_lt q w) (s_get q.1 q.2.1 w).1)), eR 10 w] dX11_wantsNow_58 rfl rfl ok_X11_saying in_X11_saying (by decide) (by show 0 < 1; omega) ln_X11_207 (by omega) (Nat.le_of_ble_eq_true rfl) (c_X11_saying G (d - 1) 0 M25 (by omega) (by omega) qx X25 n25) (fun r58 M58 q58 => ?_)
    obtain ⟨rfl, f58, -⟩ := q58
    have R58 := R25.fx f58 (fun s => by omega)
    show Ez G mX11_wantsNow d 61 [(2, eR 1 (q.2.1.2.1 w 1)), (0, eR 11 0), (1, eR 10 w)] [eI (s_tv q 0 (s_nm q w)), eI (nI 0), eI (nI (ep_dn (s_lt q w) (s_get q.1 q.2.1 w).1)), eR 10 w] M58 _
    refine ez_callS 64 [eR 10 w, eI (nI (ep_dn (s_lt q w) (s_get q.1 q.2.1 w).1)), eI (nI 0), eI (s_tv q 0 (s_nm q w))] [] dX11_wantsNow_61 rfl rfl ok_X11_wants st_X11_wants ln_X11_360 (by omega) (Nat.le_of_ble_eq_true rfl) (c_X11_wants G (d - 1) (kind := (q.2.1.2.1 w 0)) (S := (s_get q.1 q.2.1 w)) (go := (s_tv q 0 (s_nm q w))) w (q.2.1.2.1 w 1) M58 (by omega) (by omega) (by omega) k4 (ep_dn16 _ _) (by omega) k0 gS R58) (fun r61 M61 q61 => ?_)
    obtain ⟨rfl, e61⟩ := q61
    rw [e61]
    rw [show ep_wt (q.2.1.2.1 w 0) (s_get q.1 q.2.1 w).2.1 (q.2.1.2.1 w 4) (ep_dn (s_lt q w) (s_get q.1 q.2.1 w).1) ((s_get q.1 q.2.1 w).2.2.2.2.1 (s_get q.1 q.2.1 w).1) 0 (s_tv q 0 (s_nm q w)) = s_dr q w by unfold s_dr ep_dr; rw [show ep_hp (s_get q.1 q.2.1 w) = 0 by unfold ep_hp; rw [if_neg (by omega)]]]
    show Ez G mX11_wantsNow d 64 [(2, eR 1 (q.2.1.2.1 w 1)), (0, eR 11 0), (1, eR 10 w)] [eI (ep_oi (s_dr q w))] M58 _
    refine ez_iret .int dX11_wantsNow_64 rfl rfl ?_
    exact ⟨rfl, (f25.up (fun k i s z => by unfold SC; omega)).tr (f58.up (fun k i s z => by unfold SC; omega))⟩
  · refine ez_iconst 52 dX11_wantsNow_51 rfl (nI 1) (by decide) ?_
    refine ez_goto 56 dX11_wantsNow_52 (by decide) ?_
    refine ez_aload_n 57 dX11_wantsNow_56 rfl rfl ?_
    refine ez_iconst 58 dX11_wantsNow_57 rfl (nI 0) (by decide) ?_
    refine ez_callV 61 [eI (nI 0)] [eI (nI 1), eI (nI (ep_dn (s_lt q w) (s_get q.1 q.2.1 w).1)), eR 10 w] dX11_wantsNow_58 rfl rfl ok_X11_saying in_X11_saying (by decide) (by show 0 < 1; omega) ln_X11_207 (by omega) (Nat.le_of_ble_eq_true rfl) (c_X11_saying G (d - 1) 0 M25 (by omega) (by omega) qx X25 n25) (fun r58 M58 q58 => ?_)
    obtain ⟨rfl, f58, -⟩ := q58
    have R58 := R25.fx f58 (fun s => by omega)
    show Ez G mX11_wantsNow d 61 [(2, eR 1 (q.2.1.2.1 w 1)), (0, eR 11 0), (1, eR 10 w)] [eI (s_tv q 0 (s_nm q w)), eI (nI 1), eI (nI (ep_dn (s_lt q w) (s_get q.1 q.2.1 w).1)), eR 10 w] M58 _
    refine ez_callS 64 [eR 10 w, eI (nI (ep_dn (s_lt q w) (s_get q.1 q.2.1 w).1)), eI (nI 1), eI (s_tv q 0 (s_nm q w))] [] dX11_wantsNow_61 rfl rfl ok_X11_wants st_X11_wants ln_X11_360 (by omega) (Nat.le_of_ble_eq_true rfl) (c_X11_wants G (d - 1) (kind := (q.2.1.2.1 w 0)) (S := (s_get q.1 q.2.1 w)) (go := (s_tv q 0 (s_nm q w))) w (q.2.1.2.1 w 1) M58 (by omega) (by omega) (by omega) k4 (ep_dn16 _ _) (by omega) k0 gS R58) (fun r61 M61 q61 => ?_)
    obtain ⟨rfl, e61⟩ := q61
    rw [e61]
    rw [show ep_wt (q.2.1.2.1 w 0) (s_get q.1 q.2.1 w).2.1 (q.2.1.2.1 w 4) (ep_dn (s_lt q w) (s_get q.1 q.2.1 w).1) ((s_get q.1 q.2.1 w).2.2.2.2.1 (s_get q.1 q.2.1 w).1) 1 (s_tv q 0 (s_nm q w)) = s_dr q w by unfold s_dr ep_dr; rw [show ep_hp (s_get q.1 q.2.1 w) = 1 by unfold ep_hp; rw [if_pos (by omega)]]]
    show Ez G mX11_wantsNow d 64 [(2, eR 1 (q.2.1.2.1 w 1)), (0, eR 11 0), (1, eR 10 w)] [eI (ep_oi (s_dr q w))] M58 _
    refine ez_iret .int dX11_wantsNow_64 rfl rfl ?_
    exact ⟨rfl, (f25.up (fun k i s z => by unfold SC; omega)).tr (f58.up (fun k i s z => by unfold SC; omega))⟩
theorem ep_n9 : ∀ a, a < 9 → ∀ b, b < 9 → nI a = nI b → a = b := by decide +kernel
set_option maxRecDepth 20000 in
theorem c_X11_told (G : EzG) (d : Nat) {q : EpS} (x y : Int32) (M : EzM) (hd : 6 ≤ d) (hW : WF q) (hC : RC q M) : Ezc G mX11_told d [eR 11 0, eI x, eI y] M (fun r M' => r = some (eI (S_told q x y)) ∧ RC q M' ∧ FX CC M M') := by
  refine Ezc.of (by decide +kernel) (Nat.le_of_ble_eq_true rfl) ?_
  have q8 := hW.2.1.1
  have q4 := hW.1.1
  have qx := hW.2.2.2.2.1
  show Ez G mX11_told d 0 [(0, eR 11 0), (1, eI x), (2, eI y)] [] M _
  refine ez_aload_n 1 dX11_told_0 rfl rfl ?_
  refine ez_iload_n 2 dX11_told_1 rfl rfl ?_
  refine ez_callV 5 [eI x] [] dX11_told_2 rfl rfl ok_X11_walkerAt in_X11_walkerAt (by decide) (by show 0 < 1; omega) ln_X11_185 (by omega) (Nat.le_of_ble_eq_true rfl) (c_X11_walkerAt G (d - 1) x q.2.1.1 M (by omega) hC.2.1.1 (by omega)) (fun r2 M2 q2 => ?_)
  obtain ⟨e2, ⟨rfl, i2⟩ | ⟨j2, b2, rfl, rfl⟩⟩ := q2
  · rw [e2]
    show Ez G mX11_told d 5 [(0, eR 11 0), (1, eI x), (2, eI y)] [eN] M _
    refine ez_astore_n 6 [(3, eN), (0, eR 11 0), (1, eI x), (2, eI y)] dX11_told_5 rfl (by decide) rfl ?_
    refine ez_aload_n 7 dX11_told_6 rfl rfl ?_
    refine ez_ifnonnull_n 10 dX11_told_7 rfl ?_
    refine ez_bipush 12 dX11_told_10 rfl (-5) (by decide) ?_
    refine ez_iret .int dX11_told_12 rfl rfl ?_
    exact ⟨by simp [S_told, i2], hC, FX.rf⟩
  · rw [e2]
    have i2 : ep_ix (nI j2) q.2.1.1 = some j2 := ep_ix_nI b2 (by omega)
    obtain ⟨k0, k1, k2, k3, k4, k5⟩ := hW.2.1.2 j2 b2
    have gz := g_WFz hW.1 k1
    have gS := g_WFS hW b2
    have gZ := g_RCz hC.1 k1
    have gR := g_RCW hC.1 hC.2.1 b2 k1
    have n10 := gz.2.1
    have gX := hC.2.2.2.2.1
    show Ez G mX11_told d 5 [(0, eR 11 0), (1, eI (nI j2)), (2, eI y)] [eR 10 j2] M _
    refine ez_astore_n 6 [(3, eR 10 j2), (0, eR 11 0), (1, eI (nI j2)), (2, eI y)] dX11_told_5 rfl (by decide) rfl ?_
    refine ez_aload_n 7 dX11_told_6 rfl rfl ?_
    refine ez_ifnonnull_r 13 dX11_told_7 (by decide) ?_
    refine ez_iload_n 14 dX11_told_13 rfl rfl ?_
    by_cases e14_0 : y = nI 0
    · subst e14_0
      refine ez_tabIn (off := 50) 64 dX11_told_14 (by decide) (by decide) (by decide) (by decide) ?_
      refine ez_aload_n 65 dX11_told_64 rfl rfl ?_
      refine ez_getf 68 (eI (M.1 10 j2 0)) dX11_told_65 rfl fl_X11_170 (by show j2 < 18; omega) rfl ?_
      refine ez_top (nI (q.2.1.2.1 j2 0)) gR.1 ?_
      refine ez_iret .int dX11_told_68 rfl rfl ?_
      exact ⟨by unfold S_told; rw [i2]; simp only []; rw [if_pos trivial], hC, FX.rf⟩
    by_cases e14_1 : y = nI 1
    · subst e14_1
      refine ez_tabIn (off := 55) 69 dX11_told_14 (by decide) (by decide) (by decide) (by decide) ?_
      refine ez_aload_n 70 dX11_told_69 rfl rfl ?_
      refine ez_getf 73 (eI (M.1 10 j2 1)) dX11_told_70 rfl fl_X11_173 (by show j2 < 18; omega) rfl ?_
      refine ez_top (nI (q.2.1.2.1 j2 1)) gR.2.1 ?_
      refine ez_iret .int dX11_told_73 rfl rfl ?_
      exact ⟨by unfold S_told; rw [i2]; simp only []; rw [if_neg (by decide), if_pos trivial], hC, FX.rf⟩
    by_cases e14_2 : y = nI 2
    · subst e14_2
      refine ez_tabIn (off := 60) 74 dX11_told_14 (by decide) (by decide) (by decide) (by decide) ?_
      refine ez_aload_n 75 dX11_told_74 rfl rfl ?_
      refine ez_getf 78 (eI (M.1 10 j2 2)) dX11_told_75 rfl fl_X11_176 (by show j2 < 18; omega) rfl ?_
      refine ez_top (nI (q.2.1.2.1 j2 2)) gR.2.2.1 ?_
      refine ez_iret .int dX11_told_78 rfl rfl ?_
      exact ⟨by unfold S_told; rw [i2]; simp only []; rw [if_neg (by decide), if_neg (by decide), if_pos trivial], hC, FX.rf⟩
    by_cases e14_3 : y = nI 3
    · subst e14_3
      refine ez_tabIn (off := 65) 79 dX11_told_14 (by decide) (by decide) (by decide) (by decide) ?_
      refine ez_aload_n 80 dX11_told_79 rfl rfl ?_
      refine ez_getf 83 (eI (M.1 10 j2 3)) dX11_told_80 rfl fl_X11_189 (by show j2 < 18; omega) rfl ?_
      refine ez_top (nI (q.2.1.2.1 j2 3)) gR.2.2.2.1 ?_
      refine ez_iret .int dX11_told_83 rfl rfl ?_
      exact ⟨by unfold S_told; rw [i2]; simp only []; rw [if_neg (by decide), if_neg (by decide), if_neg (by decide), if_pos trivial], hC, FX.rf⟩
    by_cases e14_4 : y = nI 4
    · subst e14_4
      refine ez_tabIn (off := 70) 84 dX11_told_14 (by decide) (by decide) (by decide) (by decide) ?_
      refine ez_aload_n 85 dX11_told_84 rfl rfl ?_
      refine ez_getf 88 (eI (M.1 10 j2 4)) dX11_told_85 rfl fl_X11_179 (by show j2 < 18; omega) rfl ?_
      refine ez_top (nI (q.2.1.2.1 j2 4)) gR.2.2.2.2.1 ?_
      refine ez_iret .int dX11_told_88 rfl rfl ?_
      exact ⟨by unfold S_told; rw [i2]; simp only []; rw [if_neg (by decide), if_neg (by decide), if_neg (by decide), if_neg (by decide), if_pos trivial], hC, FX.rf⟩
    by_cases e14_5 : y = nI 5
    · subst e14_5
      refine ez_tabIn (off := 75) 89 dX11_told_14 (by decide) (by decide) (by decide) (by decide) ?_
      refine ez_aload_n 90 dX11_told_89 rfl rfl ?_
      refine ez_getf 93 (eI (M.1 10 j2 5)) dX11_told_90 rfl fl_X11_182 (by show j2 < 18; omega) rfl ?_
      refine ez_top (q.2.1.2.2.1 j2) gR.2.2.2.2.2.1 ?_
      refine ez_iret .int dX11_told_93 rfl rfl ?_
      exact ⟨by unfold S_told; rw [i2]; simp only []; rw [if_neg (by decide), if_neg (by decide), if_neg (by decide), if_neg (by decide), if_neg (by decide), if_pos trivial], hC, FX.rf⟩
    by_cases e14_6 : y = nI 6
    · subst e14_6
      refine ez_tabIn (off := 80) 94 dX11_told_14 (by decide) (by decide) (by decide) (by decide) ?_
      refine ez_aload_n 95 dX11_told_94 rfl rfl ?_
      refine ez_getf 98 (eI (M.1 10 j2 6)) dX11_told_95 rfl fl_X11_192 (by show j2 < 18; omega) rfl ?_
      refine ez_top (q.2.1.2.2.2.1 j2) gR.2.2.2.2.2.2.1 ?_
      refine ez_iret .int dX11_told_98 rfl rfl ?_
      exact ⟨by unfold S_told; rw [i2]; simp only []; rw [if_neg (by decide), if_neg (by decide), if_neg (by decide), if_neg (by decide), if_neg (by decide), if_neg (by decide), if_pos trivial], hC, FX.rf⟩
    by_cases e14_7 : y = nI 7
    · subst e14_7
      refine ez_tabIn (off := 85) 99 dX11_told_14 (by decide) (by decide) (by decide) (by decide) ?_
      refine ez_aload_n 100 dX11_told_99 rfl rfl ?_
      refine ez_aload_n 101 dX11_told_100 rfl rfl ?_
      refine ez_callV 104 [eR 10 j2] [] dX11_told_101 rfl rfl ok_X11_wantsNow in_X11_wantsNow (by decide) (by show 0 < 1; omega) ln_X11_195 (by omega) (Nat.le_of_ble_eq_true rfl) (c_X11_wantsNow G (d - 1) j2 M (by omega) hW hC b2) (fun r101 M101 q101 => ?_)
      obtain ⟨rfl, f101⟩ := q101
      show Ez G mX11_told d 104 [(3, eR 10 j2), (0, eR 11 0), (1, eI (nI j2)), (2, eI (nI 7))] [eI (ep_oi (s_dr q j2))] M101 _
      refine ez_iret .int dX11_told_104 rfl rfl ?_
      exact ⟨by unfold S_told; rw [i2]; simp only []; rw [if_neg (by decide), if_neg (by decide), if_neg (by decide), if_neg (by decide), if_neg (by decide), if_neg (by decide), if_neg (by decide), if_pos trivial], RC.sc hW hC f101, f101.scc⟩
    by_cases e14_8 : y = nI 8
    · subst e14_8
      refine ez_tabIn (off := 91) 105 dX11_told_14 (by decide) (by decide) (by decide) (by decide) ?_
      refine ez_aload_n 106 dX11_told_105 rfl rfl ?_
      refine ez_callV 109 [] [] dX11_told_106 rfl rfl ok_X10_goneFromHere in_X10_goneFromHere (by decide) (by show j2 < 18; omega) ln_X11_199 (by omega) (Nat.le_of_ble_eq_true rfl) (c_X10_goneFromHere G (d - 1) j2 (q.2.1.2.1 j2 1) M (by omega) (by omega) n10 gS gR) (fun r106 M106 q106 => ?_)
      obtain ⟨rfl, e106⟩ := q106
      rw [e106]
      show Ez G mX11_told d 109 [(3, eR 10 j2), (0, eR 11 0), (1, eI (nI j2)), (2, eI (nI 8))] [eI (nI (q.2.1.2.2.2.2 j2 (q.2.1.2.1 j2 2)))] M _
      refine ez_iret .int dX11_told_109 rfl rfl ?_
      exact ⟨by unfold S_told; rw [i2]; simp only []; rw [if_neg (by decide), if_neg (by decide), if_neg (by decide), if_neg (by decide), if_neg (by decide), if_neg (by decide), if_neg (by decide), if_neg (by decide), if_pos trivial], hC, FX.rf⟩
    refine ez_tabOut 110 dX11_told_14 (by have ze14_0 : ¬ (y).toInt = 0 := fun q9 => e14_0 (Int32.toInt_inj.mp (q9.trans (by decide))); have ze14_1 : ¬ (y).toInt = 1 := fun q9 => e14_1 (Int32.toInt_inj.mp (q9.trans (by decide))); have ze14_2 : ¬ (y).toInt = 2 := fun q9 => e14_2 (Int32.toInt_inj.mp (q9.trans (by decide))); have ze14_3 : ¬ (y).toInt = 3 := fun q9 => e14_3 (Int32.toInt_inj.mp (q9.trans (by decide))); have ze14_4 : ¬ (y).toInt = 4 := fun q9 => e14_4 (Int32.toInt_inj.mp (q9.trans (by decide))); have ze14_5 : ¬ (y).toInt = 5 := fun q9 => e14_5 (Int32.toInt_inj.mp (q9.trans (by decide))); have ze14_6 : ¬ (y).toInt = 6 := fun q9 => e14_6 (Int32.toInt_inj.mp (q9.trans (by decide))); have ze14_7 : ¬ (y).toInt = 7 := fun q9 => e14_7 (Int32.toInt_inj.mp (q9.trans (by decide))); have ze14_8 : ¬ (y).toInt = 8 := fun q9 => e14_8 (Int32.toInt_inj.mp (q9.trans (by decide))); omega) (by decide) ?_
    refine ez_bipush 112 dX11_told_110 rfl (-5) (by decide) ?_
    refine ez_iret .int dX11_told_112 rfl rfl ?_
    exact ⟨by unfold S_told; rw [i2]; simp only [e14_0, e14_1, e14_2, e14_3, e14_4, e14_5, e14_6, e14_7, e14_8, if_false], hC, FX.rf⟩
set_option maxRecDepth 20000 in
theorem lp_step (G : EzG) (d : Nat) {q : EpS} (w n : Nat) (M : EzM) (hd : 7 ≤ d) (hW : WF q) (hC : RC q M) (hw : w < q.2.1.1) (hn : n ≤ 100) : ∀ (z : Nat) (t : Nat) (M1 : EzM), n - t = z → t ≤ n → RCW (q.2.1.2.1 w 0) (q.2.1.2.1 w 1) (q.2.1.2.1 w 4) (ep_nth (s_st q 0 w) t (s_get q.1 q.2.1 w)) w (q.2.1.2.1 w 1) M1 → FX (CHS w (q.2.1.2.1 w 1)) M M1 → Ez G mX11_step d 45 [(5, eI (nI t)), (0, eR 11 0), (2, eI (nI n)), (3, eR 10 w), (4, eR 1 (q.2.1.2.1 w 1))] [] M1 (fun r M' => r = some (eI (nI (ep_nth (s_st q 0 w) n (s_get q.1 q.2.1 w)).1)) ∧ RC (s_put q w (ep_nth (s_st q 0 w) n (s_get q.1 q.2.1 w))) M' ∧ FX CC M M') := by
  intro z
  induction z using Nat.strongRecOn with
  | ind z ih =>
    intro t M1 hz ht hR hF
    have q8 := hW.2.1.1
    have q4 := hW.1.1
    have qx := hW.2.2.2.2.1
    obtain ⟨k0, k1, k2, k3, k4, k5⟩ := hW.2.1.2 w hw
    have gz := g_WFz hW.1 k1
    have gS := g_WFS hW hw
    have gZ := g_RCz hC.1 k1
    have gX := hC.2.2.2.2.1
    have n10 := gz.2.1
    refine ez_iload 47 dX11_step_45 rfl rfl ?_
    refine ez_iload_n 48 dX11_step_47 rfl rfl ?_
    refine ez_ncmp_ge 51 69 dX11_step_48 rfl (by decide) (by omega) (by omega) (fun h48 => ?_) (fun h48 => ?_)
    · refine ez_aload_n 70 dX11_step_69 rfl rfl ?_
      refine ez_getf 73 (eI (M1.1 10 w 2)) dX11_step_70 rfl fl_X11_176 (by show w < 18; omega) rfl ?_
      refine ez_top (nI ((ep_nth (s_st q 0 w) t (s_get q.1 q.2.1 w)).1)) hR.2.2.1 ?_
      refine ez_iret .int dX11_step_73 rfl rfl ?_
      have e9 : t = n := by omega
      subst e9
      exact ⟨rfl, RC_put hW hC hw hR hF⟩
    · refine ez_aload_n 52 dX11_step_51 rfl rfl ?_
      refine ez_aload_n 53 dX11_step_52 rfl rfl ?_
      refine ez_aload 55 dX11_step_53 rfl rfl ?_
      refine ez_aload 57 dX11_step_55 rfl rfl ?_
      refine ez_getf 60 (eR 20 (q.2.1.2.1 w 1)) dX11_step_57 rfl fl_X11_156 (show q.2.1.2.1 w 1 < 4 by omega) rfl ?_
      refine ez_callV 63 [eR 10 w, eR 1 (q.2.1.2.1 w 1), eR 20 (q.2.1.2.1 w 1)] [] dX11_step_60 rfl rfl ok_X11_goOneStep in_X11_goOneStep (by decide) (by show 0 < 1; omega) ln_X11_211 (by omega) (Nat.le_of_ble_eq_true rfl) (c_X11_goOneStep G (d - 1) (S := ep_nth (s_st q 0 w) t (s_get q.1 q.2.1 w)) (lt := (s_lt q w)) (bl := 0) (tf := q.2.2.2.2.1.2.2) w (q.2.1.2.1 w 1) (q.2.1.2.1 w 1) M1 (by omega) (by omega) (by omega) (by omega) k0 k4 gz (WFS_nth gz t _ gS) qx (by omega) hR (gZ.fx hF ⟨by unfold CHS; omega, fun x => by unfold CHS; omega⟩) (gX.fx hF qx.2.1 ⟨by unfold CHS; omega, by unfold CHS; omega, fun i s hi => by unfold CHS; omega⟩) (by rw [hF _ _ _ (by unfold CHS; omega)]; exact hC.2.2.2.2.2.2)) (fun r60 M60 q60 => ?_)
      obtain ⟨rfl, R60, f60, l60⟩ := q60
      show Ez G mX11_step d 63 [(5, eI (nI t)), (0, eR 11 0), (2, eI (nI n)), (3, eR 10 w), (4, eR 1 (q.2.1.2.1 w 1))] [] M60 _
      refine ez_iinc 66 (nI (t + 1)) [(5, eI (nI (t + 1))), (0, eR 11 0), (2, eI (nI n)), (3, eR 10 w), (4, eR 1 (q.2.1.2.1 w 1))] dX11_step_63 rfl rfl (nI_add t 1) (by decide) rfl ?_
      refine ez_goto 45 dX11_step_66 (by decide) ?_
      exact ih (n - (t + 1)) (by omega) (t + 1) _ rfl (by omega) R60 (hF.tr (f60.up (fun k i s z => z)))
set_option maxRecDepth 20000 in
theorem c_X11_step (G : EzG) (d : Nat) {q : EpS} (x y : Int32) (M : EzM) (hd : 7 ≤ d) (hW : WF q) (hC : RC q M) : Ezc G mX11_step d [eR 11 0, eI x, eI y] M (fun r M' => r = some (eI (S_step q x y).1) ∧ RC (S_step q x y).2 M' ∧ FX CC M M') := by
  refine Ezc.of (by decide +kernel) (Nat.le_of_ble_eq_true rfl) ?_
  have q8 := hW.2.1.1
  have q4 := hW.1.1
  have qx := hW.2.2.2.2.1
  show Ez G mX11_step d 0 [(0, eR 11 0), (1, eI x), (2, eI y)] [] M _
  refine ez_aload_n 1 dX11_step_0 rfl rfl ?_
  refine ez_iload_n 2 dX11_step_1 rfl rfl ?_
  refine ez_callV 5 [eI x] [] dX11_step_2 rfl rfl ok_X11_walkerAt in_X11_walkerAt (by decide) (by show 0 < 1; omega) ln_X11_185 (by omega) (Nat.le_of_ble_eq_true rfl) (c_X11_walkerAt G (d - 1) x q.2.1.1 M (by omega) hC.2.1.1 (by omega)) (fun r2 M2 q2 => ?_)
  obtain ⟨e2, ⟨rfl, i2⟩ | ⟨j2, b2, rfl, rfl⟩⟩ := q2
  · rw [e2]
    show Ez G mX11_step d 5 [(0, eR 11 0), (1, eI x), (2, eI y)] [eN] M _
    refine ez_astore_n 6 [(3, eN), (0, eR 11 0), (1, eI x), (2, eI y)] dX11_step_5 rfl (by decide) rfl ?_
    refine ez_aload_n 7 dX11_step_6 rfl rfl ?_
    refine ez_ifnull_n 21 dX11_step_7 (by decide) ?_
    refine ez_bipush 23 dX11_step_21 rfl (-2) (by decide) ?_
    refine ez_iret .int dX11_step_23 rfl rfl ?_
    have eS : S_step q x y = (-2, q) := by simp [S_step, i2]
    exact ⟨by rw [eS], by rw [eS]; exact hC, FX.rf⟩
  · rw [e2]
    have i2 : ep_ix (nI j2) q.2.1.1 = some j2 := ep_ix_nI b2 (by omega)
    obtain ⟨k0, k1, k2, k3, k4, k5⟩ := hW.2.1.2 j2 b2
    have gz := g_WFz hW.1 k1
    have gS := g_WFS hW b2
    have gZ := g_RCz hC.1 k1
    have gR := g_RCW hC.1 hC.2.1 b2 k1
    have n10 := gz.2.1
    have gX := hC.2.2.2.2.1
    show Ez G mX11_step d 5 [(0, eR 11 0), (1, eI (nI j2)), (2, eI y)] [eR 10 j2] M _
    refine ez_astore_n 6 [(3, eR 10 j2), (0, eR 11 0), (1, eI (nI j2)), (2, eI y)] dX11_step_5 rfl (by decide) rfl ?_
    refine ez_aload_n 7 dX11_step_6 rfl rfl ?_
    refine ez_ifnull_r 10 dX11_step_7 rfl ?_
    refine ez_iload_n 11 dX11_step_10 rfl rfl ?_
    refine ez_iconst 12 dX11_step_11 rfl (nI 1) (by decide) ?_
    refine ez_icmp_lt 15 21 dX11_step_12 rfl (by decide) (fun h12 => ?_) (fun h12 => ?_)
    · refine ez_bipush 23 dX11_step_21 rfl (-2) (by decide) ?_
      refine ez_iret .int dX11_step_23 rfl rfl ?_
      have eS : S_step q (nI j2) y = (-2, q) := by simp [S_step, i2, show ep_rg y 1 100 = none by unfold ep_rg; rw [if_pos (Or.inl h12)]]
      exact ⟨by rw [eS], by rw [eS]; exact hC, FX.rf⟩
    · refine ez_iload_n 16 dX11_step_15 rfl rfl ?_
      refine ez_bipush 18 dX11_step_16 rfl (nI 100) (by decide) ?_
      refine ez_icmp_le 21 24 dX11_step_18 rfl (by decide) (fun h18 => ?_) (fun h18 => ?_)
      · obtain ⟨c, hc1, hc2, rfl⟩ := ep_rng (b := 100) (by decide) h12 h18 (by decide)
        have ec := ep_rg_nI hc1 hc2 (by decide)
        refine ez_aload_n 25 dX11_step_24 rfl rfl ?_
        refine ez_aload_n 26 dX11_step_25 rfl rfl ?_
        refine ez_getf 29 (eI (M.1 10 j2 1)) dX11_step_26 rfl fl_X11_173 (by show j2 < 18; omega) rfl ?_
        refine ez_top (nI (q.2.1.2.1 j2 1)) gR.2.1 ?_
        refine ez_callV 32 [eI (nI (q.2.1.2.1 j2 1))] [] dX11_step_29 rfl rfl ok_X11_mazeAt in_X11_mazeAt (by decide) (by show 0 < 1; omega) ln_X11_141 (by omega) (Nat.le_of_ble_eq_true rfl) (c_mazeAt_n G (d - 1) (q.2.1.2.1 j2 1) q.1.1 M (by omega) hC.1.1 q4 k1) (fun r29 M29 q29 => ?_)
        obtain ⟨rfl, e29⟩ := q29
        rw [e29]
        show Ez G mX11_step d 32 [(3, eR 10 j2), (0, eR 11 0), (1, eI (nI j2)), (2, eI (nI c))] [eR 1 (q.2.1.2.1 j2 1)] M _
        refine ez_astore 34 [(4, eR 1 (q.2.1.2.1 j2 1)), (3, eR 10 j2), (0, eR 11 0), (1, eI (nI j2)), (2, eI (nI c))] dX11_step_32 rfl (by decide) rfl ?_
        refine ez_aload 36 dX11_step_34 rfl rfl ?_
        refine ez_ifnonnull_r 42 dX11_step_36 (by decide) ?_
        refine ez_iconst 43 dX11_step_42 rfl (nI 0) (by decide) ?_
        refine ez_istore 45 [(5, eI (nI 0)), (4, eR 1 (q.2.1.2.1 j2 1)), (3, eR 10 j2), (0, eR 11 0), (1, eI (nI j2)), (2, eI (nI c))] dX11_step_43 rfl (by decide) rfl ?_
        have eS : S_step q (nI j2) (nI c) = (nI (ep_nth (s_st q 0 j2) c (s_get q.1 q.2.1 j2)).1, s_put q j2 (ep_nth (s_st q 0 j2) c (s_get q.1 q.2.1 j2))) := by simp [S_step, i2, ec]
        rw [eS]
        refine ez_drop [(5, eI (nI 0)), (0, eR 11 0), (2, eI (nI c)), (3, eR 10 j2), (4, eR 1 (q.2.1.2.1 j2 1))] (by simp) ?_
        exact lp_step G d j2 c M hd hW hC b2 hc2 _ 0 M rfl (by omega) gR FX.rf
      · refine ez_bipush 23 dX11_step_21 rfl (-2) (by decide) ?_
        refine ez_iret .int dX11_step_23 rfl rfl ?_
        have eS : S_step q (nI j2) y = (-2, q) := by simp [S_step, i2, show ep_rg y 1 100 = none by unfold ep_rg; rw [if_pos (Or.inr (Int32.not_le.mp h18))]]
        exact ⟨by rw [eS], by rw [eS]; exact hC, FX.rf⟩
