/-! texts held by class and model; text, force -/
abbrev EpF : Type := Nat → List Int32 × EpV
def WFx (xc xr : Nat) (tf : Nat → EpF) : Prop := 1 ≤ xc ∧ xc ≤ 6 ∧ xr < xc ∧ ∀ x, x < xc → ∀ key, key < 3 → EpG 31 (tf x key).1 (tf x key).2
def RCx (xc xr : Nat) (tf : Nat → EpF) (M : EzM) : Prop := M.1 11 0 6 = nI xc ∧ M.1 11 0 7 = nI xr ∧ ∀ x, x < xc → RU x (tf x) M
def RMx1 (x : Nat) (f : EpF) (M : EzM) : Prop := ∃ (n N z : Nat) (b : Nat → Nat), n ≤ 160 ∧ (∀ i, i < n → b i < 256) ∧ M.1 43 0 x = nI n ∧ (∀ i, i < n → M.1 42 0 (160 * x + i) = nI (b i)) ∧ HT (ep_tk b n) (ep_pl b n) N ∧ EpTx (ep_tk b n) z (.inl f)
def RMx (xc xr : Nat) (tf : Nat → EpF) (M : EzM) : Prop := M.1 12 0 3 = nI xc ∧ M.1 12 0 4 = nI xr ∧ ∀ x, x < xc → RMx1 x (tf x) M
def S_text (xc tn : Nat) (tf : Nat → EpF) (pl : Nat → Nat) (t : EpT) : Int32 × Nat × (Nat → EpF) × Nat := if xc = 6 then (-4, xc, tf, tn) else match t with
  | .inl f => (nI xc, xc + 1, va_up tf xc f, 0)
  | .inr e => (-100 - nI (pl e), xc, tf, 0)
theorem EpTx_G {Tk : Nat → Nat} (hT : ∀ k, Tk k < 11000) {z : Nat} {f : EpF} (h : EpTx Tk z (.inl f)) : ∀ key, key < 3 → EpG 31 (f key).1 (f key).2 := by
  obtain ⟨k1, k2, k3, e0, e1, e2, -⟩ := h
  intro key hk
  rcases (show key = 0 ∨ key = 1 ∨ key = 2 by omega) with rfl | rfl | rfl
  · exact ep_pt_G hT e0
  · exact ep_pt_G hT e1
  · exact ep_pt_G hT e2
theorem WFx_text {xc xr tn : Nat} {tf : Nat → EpF} {pl Tk : Nat → Nat} {z : Nat} {t : EpT} (h : WFx xc xr tf) (hT : ∀ k, Tk k < 11000) (ht : EpTx Tk z t) : WFx (S_text xc tn tf pl t).2.1 xr (S_text xc tn tf pl t).2.2.1 := by
  unfold S_text
  by_cases q : xc = 6
  · rw [if_pos q]; exact h
  rw [if_neg q]
  obtain ⟨a1, a2, a3, a4⟩ := h
  cases t with
  | inr e => exact ⟨a1, a2, a3, a4⟩
  | inl f =>
    refine ⟨by show 1 ≤ xc + 1; omega, by show xc + 1 ≤ 6; omega, by show xr < xc + 1; omega, fun x hx => ?_⟩
    show ∀ key, key < 3 → EpG 31 (va_up tf xc f x key).1 (va_up tf xc f x key).2
    by_cases e : x = xc
    · rw [e, va_up_self]; exact EpTx_G hT ht
    · rw [va_up_ne _ _ e]; exact a4 x (by have : x < xc + 1 := hx; omega)
theorem RU.fx {i : Nat} {f : EpF} {M M' : EzM} {ch : Nat → Nat → Nat → Prop} (h : RU i f M) (hF : FX ch M M') (hc : ∀ s, ¬ ch 17 i s ∧ ¬ ch 16 i s) : RU i f M' := by
  obtain ⟨h0, h1, h2, h3, h4⟩ := h
  exact ⟨by rw [hF _ _ _ (hc 0).1]; exact h0, by rw [hF _ _ _ (hc 1).1]; exact h1, by rw [hF _ _ _ (hc 2).1]; exact h2, h3, fun j hj => by rw [hF _ _ _ (hc j).2]; exact h4 j hj⟩
theorem RCx.fx {xc xr : Nat} {tf : Nat → EpF} {M M' : EzM} {ch : Nat → Nat → Nat → Prop} (h : RCx xc xr tf M) (hF : FX ch M M') (hx : xc ≤ 6) (hc : ¬ ch 11 0 6 ∧ ¬ ch 11 0 7 ∧ ∀ i s, i < 6 → ¬ ch 17 i s ∧ ¬ ch 16 i s) : RCx xc xr tf M' :=
  ⟨by rw [hF _ _ _ hc.1]; exact h.1, by rw [hF _ _ _ hc.2.1]; exact h.2.1, fun x hxx => (h.2.2 x hxx).fx hF (fun s => hc.2.2 x s (by omega))⟩
theorem RMx1.fx {x : Nat} {f : EpF} {M M' : EzM} {ch : Nat → Nat → Nat → Prop} (h : RMx1 x f M) (hF : FX ch M M') (hc : ¬ ch 43 0 x ∧ ∀ i, i < 160 → ¬ ch 42 0 (160 * x + i)) : RMx1 x f M' := by
  obtain ⟨n, N, z, b, h0, h1, h2, h3, h4, h5⟩ := h
  exact ⟨n, N, z, b, h0, h1, by rw [hF _ _ _ hc.1]; exact h2, fun i hi => by rw [hF _ _ _ (hc.2 i (by omega))]; exact h3 i hi, h4, h5⟩
theorem RMx.fx {xc xr : Nat} {tf : Nat → EpF} {M M' : EzM} {ch : Nat → Nat → Nat → Prop} (h : RMx xc xr tf M) (hF : FX ch M M') (hc : ¬ ch 12 0 3 ∧ ¬ ch 12 0 4 ∧ ∀ x, x < xc → ¬ ch 43 0 x ∧ ∀ i, i < 160 → ¬ ch 42 0 (160 * x + i)) : RMx xc xr tf M' :=
  ⟨by rw [hF _ _ _ hc.1]; exact h.1, by rw [hF _ _ _ hc.2.1]; exact h.2.1, fun x hx => (h.2.2 x hx).fx hF (hc.2.2 x hx)⟩
theorem RCt.fx {tn : Nat} {tb : Nat → Nat} {M M' : EzM} {ch : Nat → Nat → Nat → Prop} (h : RCt tn tb M) (hF : FX ch M M') (hc : ¬ ch 7 0 1 ∧ ∀ i, ¬ ch 13 0 i) : RCt tn tb M' := ⟨by rw [hF _ _ _ hc.1]; exact h.1, fun i hi => by rw [hF _ _ _ (hc.2 i)]; exact h.2 i hi⟩
theorem RMt.fx {tn : Nat} {tb : Nat → Nat} {M M' : EzM} {ch : Nat → Nat → Nat → Prop} (h : RMt tn tb M) (hF : FX ch M M') (hc : ¬ ch 12 0 6 ∧ ∀ i, ¬ ch 44 0 i) : RMt tn tb M' := ⟨by rw [hF _ _ _ hc.1]; exact h.1, fun i hi => by rw [hF _ _ _ (hc.2 i)]; exact h.2 i hi⟩
theorem FX.mf2 {ch : Nat → Nat → Nat → Prop} {M M1 : EzM} (h : MF2 M M1) (hc : ∀ i s, ¬ (i = 0 ∧ (s < 21 ∨ 30 ≤ s)) → ch 12 i s) : FX ch M M1 := fun k i s q => by
  by_cases hk : k = 12
  · subst hk
    by_cases z : i = 0 ∧ (s < 21 ∨ 30 ≤ s)
    · rw [z.1]; exact h.2 s z.2
    · exact absurd (hc i s z) q
  · rw [(h.1 k (by simp; exact hk)).1]
set_option maxRecDepth 20000 in
theorem c_X3_become (G : EzG) (d : Nat) (i : Nat) (M : EzM) (hd : 2 ≤ d) (hi : i < 6) : Ezc G mX3_become d [eR 3 i, eR 3 6] M (fun r M' => r = none ∧ M' = ez_row (ez_row (ez_st M 3 i 2 (M.1 3 6 2)) 16 i (ep_fl (M.1 16 6) (M.1 16 i) 160)) 17 i (ep_fl (M.1 17 6) (M.1 17 i) 3)) := by
  refine Ezc.of (by decide +kernel) (Nat.le_of_ble_eq_true rfl) ?_
  show Ez G mX3_become d 0 [(0, eR 3 i), (1, eR 3 6)] [] M _
  refine ez_aload_n 1 dX3_become_0 rfl rfl ?_
  refine ez_aload_n 2 dX3_become_1 rfl rfl ?_
  refine ez_getf 5 (eI (M.1 3 6 2)) dX3_become_2 rfl fl_X3_18 (by show 6 < 7; omega) rfl ?_
  refine ez_putf 8 .int dX3_become_5 rfl fp_X3_18 (by show i < 7; omega) rfl (by decide) rfl rfl ?_
  refine ez_aload_n 9 dX3_become_8 rfl rfl ?_
  refine ez_getf 12 (eR 16 6) dX3_become_9 rfl fl_X3_9 (by show 6 < 7; omega) rfl ?_
  refine ez_aload_n 13 dX3_become_12 rfl rfl ?_
  refine ez_getf 16 (eR 16 i) dX3_become_13 rfl fl_X3_9 (by show i < 7; omega) rfl ?_
  refine ez_callSN 19 [eR 16 6, eR 16 i] [] dX3_become_16 rfl rfl ok_X11_copyRow st_X11_copyRow "ElevenPebbles" nn_X3_26 (by omega) (Nat.le_of_ble_eq_true rfl) (c_copyRow_16 G (d - 1) 6 i (ez_st M 3 i 2 (M.1 3 6 2)) (by omega) (by show 6 < 7; omega) (by show i < 7; omega)) (fun r16 M16 q16 => ?_)
  obtain ⟨rfl, e16⟩ := q16
  rw [e16]
  show Ez G mX3_become d 19 [(0, eR 3 i), (1, eR 3 6)] [] (ez_row (ez_st M 3 i 2 (M.1 3 6 2)) 16 i (ep_fl ((ez_st M 3 i 2 (M.1 3 6 2)).1 16 6) ((ez_st M 3 i 2 (M.1 3 6 2)).1 16 i) 160)) _
  refine ez_aload_n 20 dX3_become_19 rfl rfl ?_
  refine ez_getf 23 (eR 17 6) dX3_become_20 rfl fl_X3_15 (by show 6 < 7; omega) rfl ?_
  refine ez_aload_n 24 dX3_become_23 rfl rfl ?_
  refine ez_getf 27 (eR 17 i) dX3_become_24 rfl fl_X3_15 (by show i < 7; omega) rfl ?_
  refine ez_callSN 30 [eR 17 6, eR 17 i] [] dX3_become_27 rfl rfl ok_X11_copyRow st_X11_copyRow "ElevenPebbles" nn_X3_26 (by omega) (Nat.le_of_ble_eq_true rfl) (c_copyRow_17 G (d - 1) 6 i (ez_row (ez_st M 3 i 2 (M.1 3 6 2)) 16 i (ep_fl ((ez_st M 3 i 2 (M.1 3 6 2)).1 16 6) ((ez_st M 3 i 2 (M.1 3 6 2)).1 16 i) 160)) (by omega) (by show 6 < 7; omega) (by show i < 7; omega)) (fun r27 M27 q27 => ?_)
  obtain ⟨rfl, e27⟩ := q27
  rw [e27]
  show Ez G mX3_become d 30 [(0, eR 3 i), (1, eR 3 6)] [] (ez_row (ez_row (ez_st M 3 i 2 (M.1 3 6 2)) 16 i (ep_fl ((ez_st M 3 i 2 (M.1 3 6 2)).1 16 6) ((ez_st M 3 i 2 (M.1 3 6 2)).1 16 i) 160)) 17 i (ep_fl ((ez_row (ez_st M 3 i 2 (M.1 3 6 2)) 16 i (ep_fl ((ez_st M 3 i 2 (M.1 3 6 2)).1 16 6) ((ez_st M 3 i 2 (M.1 3 6 2)).1 16 i) 160)).1 17 6) ((ez_row (ez_st M 3 i 2 (M.1 3 6 2)) 16 i (ep_fl ((ez_st M 3 i 2 (M.1 3 6 2)).1 16 6) ((ez_st M 3 i 2 (M.1 3 6 2)).1 16 i) 160)).1 17 i) 3)) _
  refine ez_vret dX3_become_30 rfl ?_
  exact ⟨rfl, rfl⟩
theorem RU_become {i : Nat} {f : EpF} {M : EzM} {v : Int32} (h : RU 6 f M) : RU i f (ez_row (ez_row (ez_st M 3 i 2 v) 16 i (ep_fl (M.1 16 6) (M.1 16 i) 160)) 17 i (ep_fl (M.1 17 6) (M.1 17 i) 3)) := by
  obtain ⟨h0, h1, h2, h3, h4⟩ := h
  refine ⟨?_, ?_, ?_, h3, fun j hj => ?_⟩
  · simp only [ez_rdr, true_and, if_true]; rw [ep_fl_in (by omega)]; exact h0
  · simp only [ez_rdr, true_and, if_true]; rw [ep_fl_in (by omega)]; exact h1
  · simp only [ez_rdr, true_and, if_true]; rw [ep_fl_in (by omega)]; exact h2
  · rw [ez_rdr, if_neg (by simp), ez_rdr, if_pos ⟨rfl, rfl⟩, ep_fl_in (by omega)]; exact h4 j hj
set_option maxRecDepth 20000 in
theorem c_text_a (G : EzG) (d : Nat) {xc xr tn N z : Nat} {tf : Nat → EpF} {tb : Nat → Nat} (f : EpF) (M : EzM) (hd : 61 ≤ d) (hWt : WFt tn tb) (hW : WFx xc xr tf) (hR : RCt tn tb M) (hX : RCx xc xr tf M) (hn : tn ≤ 160) (hN : N ≤ tn) (hN2 : ep_tk tb tn N < 10) (hN3 : ∀ k, k < N → 10 ≤ ep_tk tb tn k) (hz : 12 * N + 8 ≤ z) (ht : EpTx (ep_tk tb tn) z (.inl f)) : Ezc G mX11_text d [eR 11 0] M (fun r M' => r = some (eI (S_text xc tn tf (ep_pl tb tn) (.inl f)).1) ∧ RCx (S_text xc tn tf (ep_pl tb tn) (.inl f)).2.1 xr (S_text xc tn tf (ep_pl tb tn) (.inl f)).2.2.1 M' ∧ RCt (S_text xc tn tf (ep_pl tb tn) (.inl f)).2.2.2 tb M' ∧ FX (fun k i s => k = 3 ∨ k = 14 ∨ k = 15 ∨ k = 16 ∨ k = 17 ∨ k = 7 ∨ (k = 11 ∧ s = 6)) M M') := by
  refine Ezc.of (by decide +kernel) (Nat.le_of_ble_eq_true rfl) ?_
  have hx6 := hW.2.1
  show Ez G mX11_text d 0 [(0, eR 11 0)] [] M _
  refine ez_aload_n 1 dX11_text_0 rfl rfl ?_
  refine ez_getf 4 (eI (M.1 11 0 6)) dX11_text_1 rfl fl_X11_119 (by show 0 < 1; omega) rfl ?_
  refine ez_top (nI xc) hX.1 ?_
  refine ez_bipush 6 dX11_text_4 rfl (nI 6) (by decide) ?_
  refine ez_ncmp_lt 9 12 dX11_text_6 rfl (by decide) (by omega) (by omega) (fun h6 => ?_) (fun h6 => ?_)
  · refine ez_aload_n 13 dX11_text_12 rfl rfl ?_
    refine ez_getf 16 (eR 7 0) dX11_text_13 rfl fl_X11_10 (by show 0 < 1; omega) rfl ?_
    refine ez_callV 19 [] [] dX11_text_16 rfl rfl ok_X7_readText in_X7_readText (by decide) (by show 0 < 1; omega) ln_X11_122 (by omega) (Nat.le_of_ble_eq_true rfl) (c_X7_readText G (d - 1) (.inl f) M (by omega) hn hR.1 (fun i hi => ⟨hWt.2 i hi, hR.2 i hi⟩) hN hN2 hN3 hz ht) (fun r16 M16 q16 => ?_)
    obtain ⟨f16, rfl, g16⟩ := q16
    show Ez G mX11_text d 19 [(0, eR 11 0)] [eI (-1)] M16 _
    have hX16 : M16.1 11 0 6 = nI xc := by rw [(f16.1 11 (by decide)).1]; exact hX.1
    refine ez_istore_n 20 [(1, eI (-1)), (0, eR 11 0)] dX11_text_19 rfl (by decide) rfl ?_
    refine ez_aload_n 21 dX11_text_20 rfl rfl ?_
    refine ez_getf 24 (eR 7 0) dX11_text_21 rfl fl_X11_10 (by show 0 < 1; omega) rfl ?_
    refine ez_iconst 25 dX11_text_24 rfl (nI 0) (by decide) ?_
    refine ez_putf 28 .int dX11_text_25 rfl fp_X11_100 (by show 0 < 1; omega) rfl (by decide) rfl rfl ?_
    refine ez_iload_n 29 dX11_text_28 rfl rfl ?_
    refine ez_iconst 30 dX11_text_29 rfl (-1) (by decide) ?_
    refine ez_icmp_eq 33 38 dX11_text_30 rfl (by decide) (fun h30 => ?_) (fun h30 => ?_)
    · refine ez_aload_n 39 dX11_text_38 rfl rfl ?_
      refine ez_getf 42 (eR 38 0) dX11_text_39 rfl fl_X11_30 (by show 0 < 1; omega) rfl ?_
      refine ez_aload_n 43 dX11_text_42 rfl rfl ?_
      refine ez_getf 46 (eI (M16.1 11 0 6)) dX11_text_43 rfl fl_X11_119 (by show 0 < 1; omega) rfl ?_
      refine ez_top (nI xc) hX16 ?_
      refine ez_aaldN xc 47 (eR 3 xc) dX11_text_46 rfl (by decide) rfl (by show 0 < 1; omega) (by show xc < 6; omega) (by rw [show (ez_ark 38) = (3, 0) from rfl]; simp) ?_
      refine ez_aload_n 48 dX11_text_47 rfl rfl ?_
      refine ez_getf 51 (eR 7 0) dX11_text_48 rfl fl_X11_10 (by show 0 < 1; omega) rfl ?_
      refine ez_getf 54 (eR 3 6) dX11_text_51 rfl fl_X11_126 (by show 0 < 1; omega) rfl ?_
      refine ez_callV 57 [eR 3 6] [] dX11_text_54 rfl rfl ok_X3_become in_X3_become (by decide) (by show xc < 7; omega) ln_X11_130 (by omega) (Nat.le_of_ble_eq_true rfl) (c_X3_become G (d - 1) xc (ez_st M16 7 0 1 (nI 0)) (by omega) (by omega)) (fun r54 M54 q54 => ?_)
      obtain ⟨rfl, e54⟩ := q54
      rw [e54]
      show Ez G mX11_text d 57 [(1, eI (-1)), (0, eR 11 0)] [] (ez_row (ez_row (ez_st (ez_st M16 7 0 1 (nI 0)) 3 xc 2 ((ez_st M16 7 0 1 (nI 0)).1 3 6 2)) 16 xc (ep_fl ((ez_st M16 7 0 1 (nI 0)).1 16 6) ((ez_st M16 7 0 1 (nI 0)).1 16 xc) 160)) 17 xc (ep_fl ((ez_st M16 7 0 1 (nI 0)).1 17 6) ((ez_st M16 7 0 1 (nI 0)).1 17 xc) 3)) _
      have hX54 : (ez_row (ez_row (ez_st (ez_st M16 7 0 1 (nI 0)) 3 xc 2 ((ez_st M16 7 0 1 (nI 0)).1 3 6 2)) 16 xc (ep_fl ((ez_st M16 7 0 1 (nI 0)).1 16 6) ((ez_st M16 7 0 1 (nI 0)).1 16 xc) 160)) 17 xc (ep_fl ((ez_st M16 7 0 1 (nI 0)).1 17 6) ((ez_st M16 7 0 1 (nI 0)).1 17 xc) 3)).1 11 0 6 = nI xc := by simp [ez_rd, ez_rdr, hX16]
      refine ez_aload_n 58 dX11_text_57 rfl rfl ?_
      refine ez_dup 59 dX11_text_58 rfl rfl ?_
      refine ez_getf 62 (eI ((ez_row (ez_row (ez_st (ez_st M16 7 0 1 (nI 0)) 3 xc 2 ((ez_st M16 7 0 1 (nI 0)).1 3 6 2)) 16 xc (ep_fl ((ez_st M16 7 0 1 (nI 0)).1 16 6) ((ez_st M16 7 0 1 (nI 0)).1 16 xc) 160)) 17 xc (ep_fl ((ez_st M16 7 0 1 (nI 0)).1 17 6) ((ez_st M16 7 0 1 (nI 0)).1 17 xc) 3)).1 11 0 6)) dX11_text_59 rfl fl_X11_119 (by show 0 < 1; omega) rfl ?_
      refine ez_top (nI xc) hX54 ?_
      refine ez_iconst 63 dX11_text_62 rfl (nI 1) (by decide) ?_
      refine ez_iadd 64 dX11_text_63 rfl ?_
      refine ez_top (nI (xc + 1)) (nI_add _ _) ?_
      refine ez_putf 67 .int dX11_text_64 rfl fp_X11_119 (by show 0 < 1; omega) rfl (by decide) rfl rfl ?_
      refine ez_aload_n 68 dX11_text_67 rfl rfl ?_
      refine ez_getf 71 (eI (nI (xc + 1))) dX11_text_68 rfl fl_X11_119 (by show 0 < 1; omega) rfl ?_
      refine ez_iconst 72 dX11_text_71 rfl (nI 1) (by decide) ?_
      refine ez_isub 73 dX11_text_72 rfl ?_
      refine ez_top (nI (xc + 1 - 1)) (pk_sub (by omega)) ?_
      refine ez_iret .int dX11_text_73 rfl rfl ?_
      have eS : (S_text xc tn tf (ep_pl tb tn) (.inl f)) = (nI xc, xc + 1, va_up tf xc f, 0) := by unfold S_text; rw [if_neg (by omega)]
      have hF0 : FX (fun k i s => ((k = 3 ∨ k = 16 ∨ k = 17) ∧ i = 6) ∨ k = 14 ∨ k = 15 ∨ k = 7) M (ez_st M16 7 0 1 (nI 0)) := (FX.tf2 f16 (fun k i s q9 => by omega)).st (by omega)
      have hF : FX (fun k i s => ((k = 3 ∨ k = 16 ∨ k = 17) ∧ (i = 6 ∨ i = xc)) ∨ k = 14 ∨ k = 15 ∨ k = 7 ∨ (k = 11 ∧ s = 6)) M (ez_st (ez_row (ez_row (ez_st (ez_st M16 7 0 1 (nI 0)) 3 xc 2 ((ez_st M16 7 0 1 (nI 0)).1 3 6 2)) 16 xc (ep_fl ((ez_st M16 7 0 1 (nI 0)).1 16 6) ((ez_st M16 7 0 1 (nI 0)).1 16 xc) 160)) 17 xc (ep_fl ((ez_st M16 7 0 1 (nI 0)).1 17 6) ((ez_st M16 7 0 1 (nI 0)).1 17 xc) 3)) 11 0 6 (nI (xc + 1))) := ((((hF0.up (fun k i s q9 => by omega)).st (by omega)).row (fun s => by omega)).row (fun s => by omega)).st (by omega)
      refine ⟨by rw [eS]; rfl, ?_, by rw [eS]; exact ⟨by simp [ez_rd, ez_rdr], fun i hi => absurd hi (Nat.not_lt_zero i)⟩, hF.up (fun k i s q9 => by omega)⟩
      rw [eS]
      refine ⟨by rw [ez_rd, if_pos ⟨rfl, rfl, rfl⟩], by rw [hF _ _ _ (by omega)]; exact hX.2.1, fun x hx => ?_⟩
      show RU x (va_up tf xc f x) _
      by_cases ex : x = xc
      · rw [ex, va_up_self]
        exact (RU_become (i := xc) (M := ez_st M16 7 0 1 (nI 0)) (g16.fx (ch := fun k i s => k = 7) (FX.rf.st (by omega)) (fun s => by omega))).fx (ch := fun k i s => k = 11) (FX.rf.st (by omega)) (fun s => by omega)
      · rw [va_up_ne _ _ ex]
        exact (hX.2.2 x (by have : x < xc + 1 := hx; omega)).fx hF (fun s => by have : x < xc + 1 := hx; omega)
    · exact absurd rfl h30
  · refine ez_bipush 11 dX11_text_9 rfl (-4) (by decide) ?_
    refine ez_iret .int dX11_text_11 rfl rfl ?_
    have eS : (S_text xc tn tf (ep_pl tb tn) (.inl f)) = (-4, xc, tf, tn) := by unfold S_text; rw [if_pos (by omega)]
    exact ⟨by rw [eS], by rw [eS]; exact hX, by rw [eS]; exact hR, FX.rf⟩
set_option maxRecDepth 20000 in
theorem c_text_b (G : EzG) (d : Nat) {xc xr tn N z : Nat} {tf : Nat → EpF} {tb : Nat → Nat} (e : Nat) (M : EzM) (hd : 61 ≤ d) (hWt : WFt tn tb) (hW : WFx xc xr tf) (hR : RCt tn tb M) (hX : RCx xc xr tf M) (hn : tn ≤ 160) (hN : N ≤ tn) (hN2 : ep_tk tb tn N < 10) (hN3 : ∀ k, k < N → 10 ≤ ep_tk tb tn k) (hz : 12 * N + 8 ≤ z) (ht : EpTx (ep_tk tb tn) z (.inr e)) : Ezc G mX11_text d [eR 11 0] M (fun r M' => r = some (eI (S_text xc tn tf (ep_pl tb tn) (.inr e)).1) ∧ RCx (S_text xc tn tf (ep_pl tb tn) (.inr e)).2.1 xr (S_text xc tn tf (ep_pl tb tn) (.inr e)).2.2.1 M' ∧ RCt (S_text xc tn tf (ep_pl tb tn) (.inr e)).2.2.2 tb M' ∧ FX (fun k i s => k = 3 ∨ k = 14 ∨ k = 15 ∨ k = 16 ∨ k = 17 ∨ k = 7 ∨ (k = 11 ∧ s = 6)) M M') := by
  refine Ezc.of (by decide +kernel) (Nat.le_of_ble_eq_true rfl) ?_
  have hx6 := hW.2.1
  show Ez G mX11_text d 0 [(0, eR 11 0)] [] M _
  refine ez_aload_n 1 dX11_text_0 rfl rfl ?_
  refine ez_getf 4 (eI (M.1 11 0 6)) dX11_text_1 rfl fl_X11_119 (by show 0 < 1; omega) rfl ?_
  refine ez_top (nI xc) hX.1 ?_
  refine ez_bipush 6 dX11_text_4 rfl (nI 6) (by decide) ?_
  refine ez_ncmp_lt 9 12 dX11_text_6 rfl (by decide) (by omega) (by omega) (fun h6 => ?_) (fun h6 => ?_)
  · refine ez_aload_n 13 dX11_text_12 rfl rfl ?_
    refine ez_getf 16 (eR 7 0) dX11_text_13 rfl fl_X11_10 (by show 0 < 1; omega) rfl ?_
    refine ez_callV 19 [] [] dX11_text_16 rfl rfl ok_X7_readText in_X7_readText (by decide) (by show 0 < 1; omega) ln_X11_122 (by omega) (Nat.le_of_ble_eq_true rfl) (c_X7_readText G (d - 1) (.inr e) M (by omega) hn hR.1 (fun i hi => ⟨hWt.2 i hi, hR.2 i hi⟩) hN hN2 hN3 hz ht) (fun r16 M16 q16 => ?_)
    obtain ⟨f16, rfl⟩ := q16
    show Ez G mX11_text d 19 [(0, eR 11 0)] [eI (nI (ep_pl tb tn e))] M16 _
    have hX16 : M16.1 11 0 6 = nI xc := by rw [(f16.1 11 (by decide)).1]; exact hX.1
    refine ez_istore_n 20 [(1, eI (nI (ep_pl tb tn e))), (0, eR 11 0)] dX11_text_19 rfl (by decide) rfl ?_
    refine ez_aload_n 21 dX11_text_20 rfl rfl ?_
    refine ez_getf 24 (eR 7 0) dX11_text_21 rfl fl_X11_10 (by show 0 < 1; omega) rfl ?_
    refine ez_iconst 25 dX11_text_24 rfl (nI 0) (by decide) ?_
    refine ez_putf 28 .int dX11_text_25 rfl fp_X11_100 (by show 0 < 1; omega) rfl (by decide) rfl rfl ?_
    refine ez_iload_n 29 dX11_text_28 rfl rfl ?_
    refine ez_iconst 30 dX11_text_29 rfl (-1) (by decide) ?_
    refine ez_icmp_eq 33 38 dX11_text_30 rfl (by decide) (fun h30 => ?_) (fun h30 => ?_)
    · exact absurd h30 (ep_m1 (by have := ep_pl_le tb tn e; omega))
    · refine ez_bipush 35 dX11_text_33 rfl (-100) (by decide) ?_
      refine ez_iload_n 36 dX11_text_35 rfl rfl ?_
      refine ez_isub 37 dX11_text_36 rfl ?_
      refine ez_iret .int dX11_text_37 rfl rfl ?_
      have eS : (S_text xc tn tf (ep_pl tb tn) (.inr e)) = (-100 - nI (ep_pl tb tn e), xc, tf, 0) := by unfold S_text; rw [if_neg (by omega)]
      have hF : FX (fun k i s => ((k = 3 ∨ k = 16 ∨ k = 17) ∧ i = 6) ∨ k = 14 ∨ k = 15 ∨ k = 7) M (ez_st M16 7 0 1 (nI 0)) := (FX.tf2 f16 (fun k i s q9 => by omega)).st (by omega)
      exact ⟨by rw [eS], by rw [eS]; exact hX.fx hF (by omega) ⟨by omega, by omega, fun i s hi => by omega⟩, by rw [eS]; exact ⟨by simp [ez_rd], fun i hi => absurd hi (Nat.not_lt_zero i)⟩, hF.up (fun k i s q9 => by omega)⟩
  · refine ez_bipush 11 dX11_text_9 rfl (-4) (by decide) ?_
    refine ez_iret .int dX11_text_11 rfl rfl ?_
    have eS : (S_text xc tn tf (ep_pl tb tn) (.inr e)) = (-4, xc, tf, tn) := by unfold S_text; rw [if_pos (by omega)]
    exact ⟨by rw [eS], by rw [eS]; exact hX, by rw [eS]; exact hR, FX.rf⟩
theorem c_X11_text (G : EzG) (d : Nat) {xc xr tn N z : Nat} {tf : Nat → EpF} {tb : Nat → Nat} (t : EpT) (M : EzM) (hd : 61 ≤ d) (hWt : WFt tn tb) (hW : WFx xc xr tf) (hR : RCt tn tb M) (hX : RCx xc xr tf M) (hn : tn ≤ 160) (hN : N ≤ tn) (hN2 : ep_tk tb tn N < 10) (hN3 : ∀ k, k < N → 10 ≤ ep_tk tb tn k) (hz : 12 * N + 8 ≤ z) (ht : EpTx (ep_tk tb tn) z t) : Ezc G mX11_text d [eR 11 0] M (fun r M' => r = some (eI (S_text xc tn tf (ep_pl tb tn) (t)).1) ∧ RCx (S_text xc tn tf (ep_pl tb tn) (t)).2.1 xr (S_text xc tn tf (ep_pl tb tn) (t)).2.2.1 M' ∧ RCt (S_text xc tn tf (ep_pl tb tn) (t)).2.2.2 tb M' ∧ FX (fun k i s => k = 3 ∨ k = 14 ∨ k = 15 ∨ k = 16 ∨ k = 17 ∨ k = 7 ∨ (k = 11 ∧ s = 6)) M M') := by
  cases t with
  | inl f => exact c_text_a G d f M hd hWt hW hR hX hn hN hN2 hN3 hz ht
  | inr e => exact c_text_b G d e M hd hWt hW hR hX hn hN hN2 hN3 hz ht
set_option maxRecDepth 20000 in
theorem lp_mtext (g : EzH) (d : Nat) (xc tn : Nat) (tb : Nat → Nat) (P : Option EzV → EzM → Prop) (M : EzM) (hx : xc < 6) (htn : tn ≤ 160) (hxc : M.1 12 0 3 = nI xc) (hR : RMt tn tb M) (K : Ez (true, g) mX12_text d 49 [(0, eR 12 0)] [] (ez_row M 42 0 (ep_fo (fun i => nI (tb i)) (M.1 42 0) (160 * xc) tn)) P) : ∀ (z : Nat) (t : Nat) (M1 : EzM), tn - t = z → t ≤ tn → M1 = ez_row M 42 0 (ep_fo (fun i => nI (tb i)) (M.1 42 0) (160 * xc) t) → Ez (true, g) mX12_text d 14 [(1, eI (nI t)), (0, eR 12 0)] [] M1 (P) := by
  intro z
  induction z using Nat.strongRecOn with
  | ind z ih =>
    intro t M1 hz ht hM
    refine ez_iload_n 15 dX12_text_14 rfl rfl ?_
    refine ez_aload_n 16 dX12_text_15 rfl rfl ?_
    refine ez_getf 19 (eI (M1.1 12 0 6)) dX12_text_16 rfl fl_X12_141 (by show 0 < 1; omega) rfl ?_
    refine ez_top (nI tn) (by rw [hM]; simp [ez_rdr, hR.1]) ?_
    refine ez_ncmp_ge 22 49 dX12_text_19 rfl (by decide) (by omega) (by omega) (fun h19 => ?_) (fun h19 => ?_)
    · have e9 : t = tn := by omega
      subst e9
      rw [hM]
      exact ez_drop _ (by simp) K
    · refine ez_aload_n 23 dX12_text_22 rfl rfl ?_
      refine ez_getf 26 (eR 42 0) dX12_text_23 rfl fl_X12_13 (by show 0 < 1; omega) rfl ?_
      refine ez_sipush 29 dX12_text_26 rfl (nI 160) (by decide) ?_
      refine ez_aload_n 30 dX12_text_29 rfl rfl ?_
      refine ez_getf 33 (eI (M1.1 12 0 3)) dX12_text_30 rfl fl_X12_125 (by show 0 < 1; omega) rfl ?_
      refine ez_top (nI xc) (by rw [hM]; simp [ez_rdr, hxc]) ?_
      refine ez_imul 34 dX12_text_33 rfl ?_
      refine ez_top (nI (160 * xc)) (pk_mul _ _) ?_
      refine ez_iload_n 35 dX12_text_34 rfl rfl ?_
      refine ez_iadd 36 dX12_text_35 rfl ?_
      refine ez_top (nI (160 * xc + t)) (nI_add _ _) ?_
      refine ez_aload_n 37 dX12_text_36 rfl rfl ?_
      refine ez_getf 40 (eR 44 0) dX12_text_37 rfl fl_X12_20 (by show 0 < 1; omega) rfl ?_
      refine ez_iload_n 41 dX12_text_40 rfl rfl ?_
      refine ez_ialdN t 42 dX12_text_41 rfl (by decide) (by show 0 < 1; omega) (by show t < 160; omega) ?_
      refine ez_top (nI (tb t)) (by rw [hM]; simp [ez_rdr]; exact hR.2 t (by omega)) ?_
      refine ez_iastN (160 * xc + t) 43 dX12_text_42 rfl (by decide) (by show 0 < 1; omega) (by show 160 * xc + t < 960; omega) ?_
      refine ez_iinc 46 (nI (t + 1)) [(1, eI (nI (t + 1))), (0, eR 12 0)] dX12_text_43 rfl rfl (nI_add t 1) (by decide) rfl ?_
      refine ez_goto 14 dX12_text_46 (by decide) ?_
      refine ih (tn - (t + 1)) (by omega) (t + 1) _ rfl (by omega) (by rw [hM, ez_st_row, ep_fo_s _ _ _ _ rfl])
set_option maxRecDepth 20000 in
theorem c_mtext_a (g : EzH) (d : Nat) {xc xr tn N z : Nat} {tf : Nat → EpF} {tb : Nat → Nat} (f : EpF) (M : EzM) (hd : 63 ≤ d) (hWt : WFt tn tb) (hW : WFx xc xr tf) (hR : RMt tn tb M) (hX : RMx xc xr tf M) (hn : tn ≤ 160) (hN : N ≤ tn) (hN2 : ep_tk tb tn N < 10) (hN3 : ∀ k, k < N → 10 ≤ ep_tk tb tn k) (hz : 12 * N + 8 ≤ z) (ht : EpTx (ep_tk tb tn) z (.inl f)) : Ezc (true, g) mX12_text d [eR 12 0] M (fun r M' => r = some (eI (S_text xc tn tf (ep_pl tb tn) (.inl f)).1) ∧ RMx (S_text xc tn tf (ep_pl tb tn) (.inl f)).2.1 xr (S_text xc tn tf (ep_pl tb tn) (.inl f)).2.2.1 M' ∧ RMt (S_text xc tn tf (ep_pl tb tn) (.inl f)).2.2.2 tb M' ∧ FX (fun k i s => k = 42 ∨ k = 43 ∨ (k = 12 ∧ (i ≠ 0 ∨ s = 3 ∨ s = 6 ∨ (21 ≤ s ∧ s < 30)))) M M') := by
  refine Ezc.of (by decide +kernel) (Nat.le_of_ble_eq_true rfl) ?_
  have hx6 := hW.2.1
  have hH := ep_HT (b := tb) hn hN hN2
  show Ez (true, g) mX12_text d 0 [(0, eR 12 0)] [] M _
  refine ez_aload_n 1 dX12_text_0 rfl rfl ?_
  refine ez_getf 4 (eI (M.1 12 0 3)) dX12_text_1 rfl fl_X12_125 (by show 0 < 1; omega) rfl ?_
  refine ez_top (nI xc) hX.1 ?_
  refine ez_bipush 6 dX12_text_4 rfl (nI 6) (by decide) ?_
  refine ez_ncmp_ne 9 12 dX12_text_6 rfl (by decide) (by omega) (by omega) (fun h6 => ?_) (fun h6 => ?_)
  · refine ez_iconst 13 dX12_text_12 rfl (nI 0) (by decide) ?_
    refine ez_istore_n 14 [(1, eI (nI 0)), (0, eR 12 0)] dX12_text_13 rfl (by decide) rfl ?_
    refine lp_mtext g d xc tn tb _ M (by omega) hn hX.1 hR ?_ _ 0 M rfl (by omega) (by rw [ep_fo_0, ez_row_self])
    refine ez_aload_n 50 dX12_text_49 rfl rfl ?_
    refine ez_getf 53 (eR 43 0) dX12_text_50 rfl fl_X12_17 (by show 0 < 1; omega) rfl ?_
    refine ez_aload_n 54 dX12_text_53 rfl rfl ?_
    refine ez_getf 57 (eI ((ez_row M 42 0 (ep_fo (fun i => nI (tb i)) (M.1 42 0) (160 * xc) tn)).1 12 0 3)) dX12_text_54 rfl fl_X12_125 (by show 0 < 1; omega) rfl ?_
    refine ez_top (nI xc) (by simp [ez_rdr, ez_rd, hX.1]) ?_
    refine ez_aload_n 58 dX12_text_57 rfl rfl ?_
    refine ez_getf 61 (eI ((ez_row M 42 0 (ep_fo (fun i => nI (tb i)) (M.1 42 0) (160 * xc) tn)).1 12 0 6)) dX12_text_58 rfl fl_X12_141 (by show 0 < 1; omega) rfl ?_
    refine ez_top (nI tn) (by simp [ez_rdr, ez_rd, hR.1]) ?_
    refine ez_iastN xc 62 dX12_text_61 rfl (by decide) (by show 0 < 1; omega) (by show xc < 6; omega) ?_
    refine ez_aload_n 63 dX12_text_62 rfl rfl ?_
    refine ez_iconst 64 dX12_text_63 rfl (nI 0) (by decide) ?_
    refine ez_putf 67 .int dX12_text_64 rfl fp_X12_141 (by show 0 < 1; omega) rfl (by decide) rfl rfl ?_
    refine ez_aload_n 68 dX12_text_67 rfl rfl ?_
    refine ez_aload_n 69 dX12_text_68 rfl rfl ?_
    refine ez_getf 72 (eI ((ez_row M 42 0 (ep_fo (fun i => nI (tb i)) (M.1 42 0) (160 * xc) tn)).1 12 0 3)) dX12_text_69 rfl fl_X12_125 (by show 0 < 1; omega) rfl ?_
    refine ez_top (nI xc) (by simp [ez_rdr, ez_rd, hX.1]) ?_
    refine ez_iconst 73 dX12_text_72 rfl (nI 0) (by decide) ?_
    refine ez_callV 76 [eI (nI xc), eI (nI 0)] [] dX12_text_73 rfl rfl ok_X12_read in_X12_read (by decide) (by show 0 < 1; omega) ln_X12_230 (by omega) (Nat.le_of_ble_eq_true rfl) (c_read g (d - 1) (nm := fun f => (ez_st (ez_st (ez_row M 42 0 (ep_fo (fun i => nI (tb i)) (M.1 42 0) (160 * xc) tn)) 43 0 xc (nI tn)) 12 0 6 (nI 0)).1 12 0 (30 + f)) xc 0 (.inl f) (ez_st (ez_st (ez_row M 42 0 (ep_fo (fun i => nI (tb i)) (M.1 42 0) (160 * xc) tn)) 43 0 xc (nI tn)) 12 0 6 (nI 0)) (by omega) (by omega) (by omega) hn hWt.2 (by simp [ez_rd]) (fun i hi => by rw [ez_rd, if_neg (by omega), ez_rd, if_neg (by omega), ez_rdr, if_pos ⟨rfl, rfl⟩, ep_fo_in (by omega) (by omega), Nat.add_sub_cancel_left]) (fun f _ => rfl) hH ht) (fun r73 M73 q73 => ?_)
    obtain ⟨f73, g73⟩ := q73
    have hF : FX (fun k i s => (k = 42 ∧ 160 * xc ≤ s ∧ s < 160 * xc + 160) ∨ (k = 43 ∧ s = xc) ∨ (k = 12 ∧ (i ≠ 0 ∨ s = 6 ∨ (21 ≤ s ∧ s < 30)))) M M73 := by
      refine FX.tr (M1 := ez_st (ez_st (ez_row M 42 0 (ep_fo (fun i => nI (tb i)) (M.1 42 0) (160 * xc) tn)) 43 0 xc (nI tn)) 12 0 6 (nI 0)) ?_ (FX.mf2 f73 (fun i s q7 => by omega))
      refine (FX.st (M1 := (ez_row M 42 0 (ep_fo (fun i => nI (tb i)) (M.1 42 0) (160 * xc) tn))) ?_ (by omega)).st (by omega)
      intro k i s q9
      rw [ez_rdr]
      by_cases q8 : k = 42 ∧ i = 0
      · rw [if_pos q8, q8.1, q8.2, ep_fo_out (by omega)]
      · rw [if_neg q8]
    obtain ⟨rfl, -⟩ := id g73
    show Ez (true, g) mX12_text d 76 [(0, eR 12 0)] [eI ((f 0).2 (fun f => (ez_st (ez_st (ez_row M 42 0 (ep_fo (fun i => nI (tb i)) (M.1 42 0) (160 * xc) tn)) 43 0 xc (nI tn)) 12 0 6 (nI 0)).1 12 0 (30 + f)))] M73 _
    refine ez_istore_n 77 [(1, eI ((f 0).2 (fun f => (ez_st (ez_st (ez_row M 42 0 (ep_fo (fun i => nI (tb i)) (M.1 42 0) (160 * xc) tn)) 43 0 xc (nI tn)) 12 0 6 (nI 0)).1 12 0 (30 + f)))), (0, eR 12 0)] dX12_text_76 rfl (by decide) rfl ?_
    refine ez_aload_n 78 dX12_text_77 rfl rfl ?_
    refine ez_getf 81 (eI (M73.1 12 0 28)) dX12_text_78 rfl fl_X12_284 (by show 0 < 1; omega) rfl ?_
    refine ez_top (nI 0) g73.2 ?_
    refine ez_nif_eq 84 92 dX12_text_81 rfl (by decide) (by omega) (fun h81 => ?_) (fun h81 => ?_)
    · refine ez_aload_n 93 dX12_text_92 rfl rfl ?_
      refine ez_dup 94 dX12_text_93 rfl rfl ?_
      have hX73 : M73.1 12 0 3 = nI xc := by rw [hF _ _ _ (by omega)]; exact hX.1
      refine ez_getf 97 (eI (M73.1 12 0 3)) dX12_text_94 rfl fl_X12_125 (by show 0 < 1; omega) rfl ?_
      refine ez_top (nI xc) hX73 ?_
      refine ez_iconst 98 dX12_text_97 rfl (nI 1) (by decide) ?_
      refine ez_iadd 99 dX12_text_98 rfl ?_
      refine ez_top (nI (xc + 1)) (nI_add _ _) ?_
      refine ez_putf 102 .int dX12_text_99 rfl fp_X12_125 (by show 0 < 1; omega) rfl (by decide) rfl rfl ?_
      refine ez_aload_n 103 dX12_text_102 rfl rfl ?_
      refine ez_getf 106 (eI (nI (xc + 1))) dX12_text_103 rfl fl_X12_125 (by show 0 < 1; omega) rfl ?_
      refine ez_iconst 107 dX12_text_106 rfl (nI 1) (by decide) ?_
      refine ez_isub 108 dX12_text_107 rfl ?_
      refine ez_top (nI (xc + 1 - 1)) (pk_sub (by omega)) ?_
      refine ez_iret .int dX12_text_108 rfl rfl ?_
      have eS : (S_text xc tn tf (ep_pl tb tn) (.inl f)) = (nI xc, xc + 1, va_up tf xc f, 0) := by unfold S_text; rw [if_neg (by omega)]
      have hF2 : FX (fun k i s => (k = 42 ∧ 160 * xc ≤ s ∧ s < 160 * xc + 160) ∨ (k = 43 ∧ s = xc) ∨ (k = 12 ∧ (i ≠ 0 ∨ s = 3 ∨ s = 6 ∨ (21 ≤ s ∧ s < 30)))) M (ez_st M73 12 0 3 (nI (xc + 1))) := (hF.up (fun k i s q9 => by omega)).st (by omega)
      refine ⟨by rw [eS]; rfl, ?_, by rw [eS]; exact ⟨by rw [ez_rd, if_neg (by omega), f73.2 6 (by omega)]; simp [ez_rd], fun i hi => absurd hi (Nat.not_lt_zero i)⟩, hF2.up (fun k i s q9 => by omega)⟩
      rw [eS]
      refine ⟨by rw [ez_rd, if_pos ⟨rfl, rfl, rfl⟩], by rw [hF2 _ _ _ (by omega)]; exact hX.2.1, fun x hx => ?_⟩
      show RMx1 x (va_up tf xc f x) _
      by_cases ex : x = xc
      · rw [ex, va_up_self]
        have hF3 : FX (fun k i s => k = 12) (ez_st (ez_st (ez_row M 42 0 (ep_fo (fun i => nI (tb i)) (M.1 42 0) (160 * xc) tn)) 43 0 xc (nI tn)) 12 0 6 (nI 0)) (ez_st M73 12 0 3 (nI (xc + 1))) := (FX.mf2 f73 (fun i s q9 => by omega)).st (by omega)
        refine ⟨tn, N, z, tb, hn, hWt.2, ?_, fun i hi => ?_, hH, ht⟩
        · rw [hF3 _ _ _ (by omega)]; simp [ez_rd]
        · rw [hF3 _ _ _ (by omega), ez_rd, if_neg (by omega), ez_rd, if_neg (by omega), ez_rdr, if_pos ⟨rfl, rfl⟩, ep_fo_in (by omega) (by omega), Nat.add_sub_cancel_left]
      · rw [va_up_ne _ _ ex]
        exact (hX.2.2 x (by have : x < xc + 1 := hx; omega)).fx hF2 (by have : x < xc + 1 := hx; exact ⟨by omega, fun i hi => by omega⟩)
    · exact absurd h81 (by decide)
  · refine ez_bipush 11 dX12_text_9 rfl (-4) (by decide) ?_
    refine ez_iret .int dX12_text_11 rfl rfl ?_
    have eS : (S_text xc tn tf (ep_pl tb tn) (.inl f)) = (-4, xc, tf, tn) := by unfold S_text; rw [if_pos (by omega)]
    exact ⟨by rw [eS], by rw [eS]; exact hX, by rw [eS]; exact hR, FX.rf⟩
set_option maxRecDepth 20000 in
theorem c_mtext_b (g : EzH) (d : Nat) {xc xr tn N z : Nat} {tf : Nat → EpF} {tb : Nat → Nat} (e : Nat) (M : EzM) (hd : 63 ≤ d) (hWt : WFt tn tb) (hW : WFx xc xr tf) (hR : RMt tn tb M) (hX : RMx xc xr tf M) (hn : tn ≤ 160) (hN : N ≤ tn) (hN2 : ep_tk tb tn N < 10) (hN3 : ∀ k, k < N → 10 ≤ ep_tk tb tn k) (hz : 12 * N + 8 ≤ z) (ht : EpTx (ep_tk tb tn) z (.inr e)) : Ezc (true, g) mX12_text d [eR 12 0] M (fun r M' => r = some (eI (S_text xc tn tf (ep_pl tb tn) (.inr e)).1) ∧ RMx (S_text xc tn tf (ep_pl tb tn) (.inr e)).2.1 xr (S_text xc tn tf (ep_pl tb tn) (.inr e)).2.2.1 M' ∧ RMt (S_text xc tn tf (ep_pl tb tn) (.inr e)).2.2.2 tb M' ∧ FX (fun k i s => k = 42 ∨ k = 43 ∨ (k = 12 ∧ (i ≠ 0 ∨ s = 3 ∨ s = 6 ∨ (21 ≤ s ∧ s < 30)))) M M') := by
  refine Ezc.of (by decide +kernel) (Nat.le_of_ble_eq_true rfl) ?_
  have hx6 := hW.2.1
  have hH := ep_HT (b := tb) hn hN hN2
  show Ez (true, g) mX12_text d 0 [(0, eR 12 0)] [] M _
  refine ez_aload_n 1 dX12_text_0 rfl rfl ?_
  refine ez_getf 4 (eI (M.1 12 0 3)) dX12_text_1 rfl fl_X12_125 (by show 0 < 1; omega) rfl ?_
  refine ez_top (nI xc) hX.1 ?_
  refine ez_bipush 6 dX12_text_4 rfl (nI 6) (by decide) ?_
  refine ez_ncmp_ne 9 12 dX12_text_6 rfl (by decide) (by omega) (by omega) (fun h6 => ?_) (fun h6 => ?_)
  · refine ez_iconst 13 dX12_text_12 rfl (nI 0) (by decide) ?_
    refine ez_istore_n 14 [(1, eI (nI 0)), (0, eR 12 0)] dX12_text_13 rfl (by decide) rfl ?_
    refine lp_mtext g d xc tn tb _ M (by omega) hn hX.1 hR ?_ _ 0 M rfl (by omega) (by rw [ep_fo_0, ez_row_self])
    refine ez_aload_n 50 dX12_text_49 rfl rfl ?_
    refine ez_getf 53 (eR 43 0) dX12_text_50 rfl fl_X12_17 (by show 0 < 1; omega) rfl ?_
    refine ez_aload_n 54 dX12_text_53 rfl rfl ?_
    refine ez_getf 57 (eI ((ez_row M 42 0 (ep_fo (fun i => nI (tb i)) (M.1 42 0) (160 * xc) tn)).1 12 0 3)) dX12_text_54 rfl fl_X12_125 (by show 0 < 1; omega) rfl ?_
    refine ez_top (nI xc) (by simp [ez_rdr, ez_rd, hX.1]) ?_
    refine ez_aload_n 58 dX12_text_57 rfl rfl ?_
    refine ez_getf 61 (eI ((ez_row M 42 0 (ep_fo (fun i => nI (tb i)) (M.1 42 0) (160 * xc) tn)).1 12 0 6)) dX12_text_58 rfl fl_X12_141 (by show 0 < 1; omega) rfl ?_
    refine ez_top (nI tn) (by simp [ez_rdr, ez_rd, hR.1]) ?_
    refine ez_iastN xc 62 dX12_text_61 rfl (by decide) (by show 0 < 1; omega) (by show xc < 6; omega) ?_
    refine ez_aload_n 63 dX12_text_62 rfl rfl ?_
    refine ez_iconst 64 dX12_text_63 rfl (nI 0) (by decide) ?_
    refine ez_putf 67 .int dX12_text_64 rfl fp_X12_141 (by show 0 < 1; omega) rfl (by decide) rfl rfl ?_
    refine ez_aload_n 68 dX12_text_67 rfl rfl ?_
    refine ez_aload_n 69 dX12_text_68 rfl rfl ?_
    refine ez_getf 72 (eI ((ez_row M 42 0 (ep_fo (fun i => nI (tb i)) (M.1 42 0) (160 * xc) tn)).1 12 0 3)) dX12_text_69 rfl fl_X12_125 (by show 0 < 1; omega) rfl ?_
    refine ez_top (nI xc) (by simp [ez_rdr, ez_rd, hX.1]) ?_
    refine ez_iconst 73 dX12_text_72 rfl (nI 0) (by decide) ?_
    refine ez_callV 76 [eI (nI xc), eI (nI 0)] [] dX12_text_73 rfl rfl ok_X12_read in_X12_read (by decide) (by show 0 < 1; omega) ln_X12_230 (by omega) (Nat.le_of_ble_eq_true rfl) (c_read g (d - 1) (nm := fun f => (ez_st (ez_st (ez_row M 42 0 (ep_fo (fun i => nI (tb i)) (M.1 42 0) (160 * xc) tn)) 43 0 xc (nI tn)) 12 0 6 (nI 0)).1 12 0 (30 + f)) xc 0 (.inr e) (ez_st (ez_st (ez_row M 42 0 (ep_fo (fun i => nI (tb i)) (M.1 42 0) (160 * xc) tn)) 43 0 xc (nI tn)) 12 0 6 (nI 0)) (by omega) (by omega) (by omega) hn hWt.2 (by simp [ez_rd]) (fun i hi => by rw [ez_rd, if_neg (by omega), ez_rd, if_neg (by omega), ez_rdr, if_pos ⟨rfl, rfl⟩, ep_fo_in (by omega) (by omega), Nat.add_sub_cancel_left]) (fun f _ => rfl) hH ht) (fun r73 M73 q73 => ?_)
    obtain ⟨f73, g73⟩ := q73
    have hF : FX (fun k i s => (k = 42 ∧ 160 * xc ≤ s ∧ s < 160 * xc + 160) ∨ (k = 43 ∧ s = xc) ∨ (k = 12 ∧ (i ≠ 0 ∨ s = 6 ∨ (21 ≤ s ∧ s < 30)))) M M73 := by
      refine FX.tr (M1 := ez_st (ez_st (ez_row M 42 0 (ep_fo (fun i => nI (tb i)) (M.1 42 0) (160 * xc) tn)) 43 0 xc (nI tn)) 12 0 6 (nI 0)) ?_ (FX.mf2 f73 (fun i s q7 => by omega))
      refine (FX.st (M1 := (ez_row M 42 0 (ep_fo (fun i => nI (tb i)) (M.1 42 0) (160 * xc) tn))) ?_ (by omega)).st (by omega)
      intro k i s q9
      rw [ez_rdr]
      by_cases q8 : k = 42 ∧ i = 0
      · rw [if_pos q8, q8.1, q8.2, ep_fo_out (by omega)]
      · rw [if_neg q8]
    obtain ⟨w73, rfl⟩ := g73.1
    show Ez (true, g) mX12_text d 76 [(0, eR 12 0)] [eI w73] M73 _
    refine ez_istore_n 77 [(1, eI w73), (0, eR 12 0)] dX12_text_76 rfl (by decide) rfl ?_
    refine ez_aload_n 78 dX12_text_77 rfl rfl ?_
    refine ez_getf 81 (eI (M73.1 12 0 28)) dX12_text_78 rfl fl_X12_284 (by show 0 < 1; omega) rfl ?_
    refine ez_top (nI 1) g73.2.1 ?_
    refine ez_nif_eq 84 92 dX12_text_81 rfl (by decide) (by omega) (fun h81 => ?_) (fun h81 => ?_)
    · exact absurd h81 (by decide)
    · refine ez_bipush 86 dX12_text_84 rfl (-100) (by decide) ?_
      refine ez_aload_n 87 dX12_text_86 rfl rfl ?_
      refine ez_getf 90 (eI (M73.1 12 0 29)) dX12_text_87 rfl fl_X12_287 (by show 0 < 1; omega) rfl ?_
      refine ez_top (nI (ep_pl tb tn e)) g73.2.2 ?_
      refine ez_isub 91 dX12_text_90 rfl ?_
      refine ez_iret .int dX12_text_91 rfl rfl ?_
      have eS : (S_text xc tn tf (ep_pl tb tn) (.inr e)) = (-100 - nI (ep_pl tb tn e), xc, tf, 0) := by unfold S_text; rw [if_neg (by omega)]
      exact ⟨by rw [eS], by rw [eS]; exact hX.fx hF ⟨by omega, by omega, fun x hx => ⟨by omega, fun i hi => by omega⟩⟩, by rw [eS]; exact ⟨by rw [f73.2 6 (by omega)]; simp [ez_rd], fun i hi => absurd hi (Nat.not_lt_zero i)⟩, hF.up (fun k i s q9 => by omega)⟩
  · refine ez_bipush 11 dX12_text_9 rfl (-4) (by decide) ?_
    refine ez_iret .int dX12_text_11 rfl rfl ?_
    have eS : (S_text xc tn tf (ep_pl tb tn) (.inr e)) = (-4, xc, tf, tn) := by unfold S_text; rw [if_pos (by omega)]
    exact ⟨by rw [eS], by rw [eS]; exact hX, by rw [eS]; exact hR, FX.rf⟩
theorem c_X12_text (g : EzH) (d : Nat) {xc xr tn N z : Nat} {tf : Nat → EpF} {tb : Nat → Nat} (t : EpT) (M : EzM) (hd : 63 ≤ d) (hWt : WFt tn tb) (hW : WFx xc xr tf) (hR : RMt tn tb M) (hX : RMx xc xr tf M) (hn : tn ≤ 160) (hN : N ≤ tn) (hN2 : ep_tk tb tn N < 10) (hN3 : ∀ k, k < N → 10 ≤ ep_tk tb tn k) (hz : 12 * N + 8 ≤ z) (ht : EpTx (ep_tk tb tn) z t) : Ezc (true, g) mX12_text d [eR 12 0] M (fun r M' => r = some (eI (S_text xc tn tf (ep_pl tb tn) (t)).1) ∧ RMx (S_text xc tn tf (ep_pl tb tn) (t)).2.1 xr (S_text xc tn tf (ep_pl tb tn) (t)).2.2.1 M' ∧ RMt (S_text xc tn tf (ep_pl tb tn) (t)).2.2.2 tb M' ∧ FX (fun k i s => k = 42 ∨ k = 43 ∨ (k = 12 ∧ (i ≠ 0 ∨ s = 3 ∨ s = 6 ∨ (21 ≤ s ∧ s < 30)))) M M') := by
  cases t with
  | inl f => exact c_mtext_a g d f M hd hWt hW hR hX hn hN hN2 hN3 hz ht
  | inr e => exact c_mtext_b g d e M hd hWt hW hR hX hn hN hN2 hN3 hz ht
def S_force (xc xr : Nat) (x : Int32) : Int32 × Nat := match ep_ix x xc with
  | none => (-2, xr)
  | some c => (nI xr, c)
theorem WFx_force {xc xr : Nat} {tf : Nat → EpF} (h : WFx xc xr tf) (x : Int32) : WFx xc (S_force xc xr x).2 tf := by
  obtain ⟨a1, a2, a3, a4⟩ := h
  refine ⟨a1, a2, ?_, a4⟩
  unfold S_force
  rcases pk_ix x (show xc < 2 ^ 31 by omega) with h | h | ⟨j, hj, e⟩
  · rw [show ep_ix x xc = none by simp [ep_ix, h]]; exact a3
  · rw [show ep_ix x xc = none by simp [ep_ix, h]]; exact a3
  · rw [e, ep_ix_nI hj (by omega)]; exact hj
set_option maxRecDepth 20000 in
theorem c_X11_force (G : EzG) (d : Nat) {xc xr : Nat} {tf : Nat → EpF} (x : Int32) (M : EzM) (hd : 1 ≤ d) (hW : WFx xc xr tf) (hX : RCx xc xr tf M) : Ezc G mX11_force d [eR 11 0, eI x] M (fun r M' => r = some (eI (S_force xc xr x).1) ∧ RCx xc (S_force xc xr x).2 tf M' ∧ FX (fun k i s => k = 11 ∧ s = 7) M M') := by
  refine Ezc.of (by decide +kernel) (Nat.le_of_ble_eq_true rfl) ?_
  have hx6 := hW.2.1
  show Ez G mX11_force d 0 [(0, eR 11 0), (1, eI x)] [] M _
  refine ez_iload_n 1 dX11_force_0 rfl rfl ?_
  refine ez_aload_n 2 dX11_force_1 rfl rfl ?_
  refine ez_getf 5 (eI (M.1 11 0 6)) dX11_force_2 rfl fl_X11_119 (by show 0 < 1; omega) rfl ?_
  refine ez_top (nI xc) hX.1 ?_
  refine ez_callS 8 [eI x, eI (nI xc)] [] dX11_force_5 rfl rfl ok_X11_isInside st_X11_isInside ln_X11_134 (by omega) (Nat.le_of_ble_eq_true rfl) (c_isInside_c G (d - 1) x xc M (by omega)) (fun r5 M5 q5 => ?_)
  obtain ⟨e5, ⟨rfl, i5⟩ | ⟨j5, b5, rfl, rfl⟩⟩ := q5
  · rw [e5]
    show Ez G mX11_force d 8 [(0, eR 11 0), (1, eI x)] [eI (nI 0)] M _
    refine ez_nif_ne 11 14 dX11_force_8 rfl (by decide) (by omega) (fun h8 => ?_) (fun h8 => ?_)
    · exact absurd h8 (by decide)
    · refine ez_bipush 13 dX11_force_11 rfl (-2) (by decide) ?_
      refine ez_iret .int dX11_force_13 rfl rfl ?_
      have eS : S_force xc xr x = (-2, xr) := by simp [S_force, i5]
      exact ⟨by rw [eS], by rw [eS]; exact hX, FX.rf⟩
  · rw [e5]
    have i5 : ep_ix (nI j5) xc = some j5 := ep_ix_nI b5 (by omega)
    show Ez G mX11_force d 8 [(0, eR 11 0), (1, eI (nI j5))] [eI (nI 1)] M _
    refine ez_nif_ne 11 14 dX11_force_8 rfl (by decide) (by omega) (fun h8 => ?_) (fun h8 => ?_)
    · refine ez_aload_n 15 dX11_force_14 rfl rfl ?_
      refine ez_getf 18 (eI (M.1 11 0 7)) dX11_force_15 rfl fl_X11_138 (by show 0 < 1; omega) rfl ?_
      refine ez_top (nI xr) hX.2.1 ?_
      refine ez_istore_n 19 [(2, eI (nI xr)), (0, eR 11 0), (1, eI (nI j5))] dX11_force_18 rfl (by decide) rfl ?_
      refine ez_aload_n 20 dX11_force_19 rfl rfl ?_
      refine ez_iload_n 21 dX11_force_20 rfl rfl ?_
      refine ez_putf 24 .int dX11_force_21 rfl fp_X11_138 (by show 0 < 1; omega) rfl (by decide) rfl rfl ?_
      refine ez_iload_n 25 dX11_force_24 rfl rfl ?_
      refine ez_iret .int dX11_force_25 rfl rfl ?_
      have eS : S_force xc xr (nI j5) = (nI xr, j5) := by simp [S_force, i5]
      refine ⟨by rw [eS], ?_, FX.rf.st (by omega)⟩
      rw [eS]
      exact ⟨by simp [ez_rd, hX.1], by simp [ez_rd], fun x hx => (hX.2.2 x hx).fx (ch := fun k i s => k = 11 ∧ s = 7) (FX.rf.st (by omega)) (fun s => by omega)⟩
    · exact absurd h8 (by decide)
set_option maxRecDepth 20000 in
theorem c_X12_force (g : EzH) (d : Nat) {xc xr : Nat} {tf : Nat → EpF} (x : Int32) (M : EzM) (hd : 1 ≤ d) (hW : WFx xc xr tf) (hX : RMx xc xr tf M) : Ezc (true, g) mX12_force d [eR 12 0, eI x] M (fun r M' => r = some (eI (S_force xc xr x).1) ∧ RMx xc (S_force xc xr x).2 tf M' ∧ FX (fun k i s => k = 12 ∧ s = 4) M M') := by
  refine Ezc.of (by decide +kernel) (Nat.le_of_ble_eq_true rfl) ?_
  have hx6 := hW.2.1
  show Ez (true, g) mX12_force d 0 [(0, eR 12 0), (1, eI x)] [] M _
  refine ez_iload_n 1 dX12_force_0 rfl rfl ?_
  refine ez_i2l 2 dX12_force_1 rfl ?_
  refine ez_lconst 3 dX12_force_2 rfl (nI 0).toInt64 (by decide) ?_
  refine ez_aload_n 4 dX12_force_3 rfl rfl ?_
  refine ez_getf 7 (eI (M.1 12 0 3)) dX12_force_4 rfl fl_X12_125 (by show 0 < 1; omega) rfl ?_
  refine ez_top (nI xc) hX.1 ?_
  refine ez_iconst 8 dX12_force_7 rfl (nI 1) (by decide) ?_
  refine ez_isub 9 dX12_force_8 rfl ?_
  refine ez_i2l 10 dX12_force_9 rfl ?_
  refine ez_callS 13 [eL x.toInt64, eL ((nI 0).toInt64), eL (((nI xc) - (nI 1)).toInt64)] [] dX12_force_10 rfl rfl ok_X12_in st_X12_in ln_X12_133 (by omega) (Nat.le_of_ble_eq_true rfl) (c_in_c g (d - 1) x xc M (by omega)) (fun r10 M10 q10 => ?_)
  obtain ⟨e10, ⟨rfl, i10⟩ | ⟨j10, b10, rfl, rfl⟩⟩ := q10
  · rw [e10]
    show Ez (true, g) mX12_force d 13 [(0, eR 12 0), (1, eI x)] [eI (nI 0)] M _
    refine ez_nif_ne 16 19 dX12_force_13 rfl (by decide) (by omega) (fun h13 => ?_) (fun h13 => ?_)
    · exact absurd h13 (by decide)
    · refine ez_bipush 18 dX12_force_16 rfl (-2) (by decide) ?_
      refine ez_iret .int dX12_force_18 rfl rfl ?_
      have eS : S_force xc xr x = (-2, xr) := by simp [S_force, i10]
      exact ⟨by rw [eS], by rw [eS]; exact hX, FX.rf⟩
  · rw [e10]
    have i10 : ep_ix (nI j10) xc = some j10 := ep_ix_nI b10 (by omega)
    show Ez (true, g) mX12_force d 13 [(0, eR 12 0), (1, eI (nI j10))] [eI (nI 1)] M _
    refine ez_nif_ne 16 19 dX12_force_13 rfl (by decide) (by omega) (fun h13 => ?_) (fun h13 => ?_)
    · refine ez_aload_n 20 dX12_force_19 rfl rfl ?_
      refine ez_getf 23 (eI (M.1 12 0 4)) dX12_force_20 rfl fl_X12_227 (by show 0 < 1; omega) rfl ?_
      refine ez_top (nI xr) hX.2.1 ?_
      refine ez_istore_n 24 [(2, eI (nI xr)), (0, eR 12 0), (1, eI (nI j10))] dX12_force_23 rfl (by decide) rfl ?_
      refine ez_aload_n 25 dX12_force_24 rfl rfl ?_
      refine ez_iload_n 26 dX12_force_25 rfl rfl ?_
      refine ez_putf 29 .int dX12_force_26 rfl fp_X12_227 (by show 0 < 1; omega) rfl (by decide) rfl rfl ?_
      refine ez_iload_n 30 dX12_force_29 rfl rfl ?_
      refine ez_iret .int dX12_force_30 rfl rfl ?_
      have eS : S_force xc xr (nI j10) = (nI xr, j10) := by simp [S_force, i10]
      refine ⟨by rw [eS], ?_, FX.rf.st (by omega)⟩
      rw [eS]
      exact ⟨by simp [ez_rd, hX.1], by simp [ez_rd], fun x hx => (hX.2.2 x hx).fx (ch := fun k i s => k = 12 ∧ s = 4) (FX.rf.st (by omega)) ⟨by omega, fun i hi => by omega⟩⟩
    · exact absurd h13 (by decide)
