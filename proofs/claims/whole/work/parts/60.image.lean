/-! image -/
def s_im (q : EpS) : EpS := (q.1, q.2.1, q.2.2.1, q.2.2.2.1, q.2.2.2.2.1, (1, q.1.1, q.2.1.1, q.2.2.2.2.1.2.1, q.1.2.2.2, q.2.1.2.1, q.2.1.2.2.1, q.2.1.2.2.2.1, q.2.1.2.2.2.2))
def IF (k i s : Nat) : Prop := k = 0 ∨ (k = 20 ∧ 5 ≤ i ∧ i < 9) ∨ ((k = 10 ∨ k = 21) ∧ 8 ≤ i ∧ i < 16)
def IH (q : EpS) (M : EzM) : Prop := M.1 0 0 0 = nI 1 ∧ M.1 0 0 1 = nI q.1.1 ∧ M.1 0 0 2 = nI q.2.1.1 ∧ M.1 0 0 3 = nI q.2.2.2.2.1.2.1
theorem WF_im {q : EpS} (h : WF q) : WF (s_im q) := by
  obtain ⟨w1, w2, w3, w4, w5, w6⟩ := h
  refine ⟨w1, w2, w3, w4, w5, ⟨by show 1 < 2; decide, fun _ => ⟨Nat.le_refl _, Nat.le_refl _, w5.2.2.1, fun m hm r hr => (w1.2 m hm).2.2.2 r hr, fun w hw => ?_⟩⟩⟩
  obtain ⟨b0, b1, b2, b3, b4, b5⟩ := w2.2 w hw
  exact ⟨rfl, rfl, rfl, b1, b2, b3, b5⟩
theorem RC_im {q : EpS} {M M' : EzM} (hW : WF q) (hC : RC q M) (hF : FX IF M M') (hI : IH q M') (hm : ∀ m, m < q.1.1 → ∀ r, r < 10 → M'.1 20 (5 + m) r = nI (q.1.2.2.2 m r)) (hw : ∀ w, w < q.2.1.1 → (∀ f, f < 7 → M'.1 10 (8 + w) f = M.1 10 w f) ∧ ∀ r, r < 10 → M'.1 21 (8 + w) r = M.1 21 w r) : RC (s_im q) M' ∧ FX CC M M' := by
  obtain ⟨a1, a2, a3, a4, a5, a6, a7⟩ := hC
  obtain ⟨w1, w2, w3, w4, w5, w6⟩ := hW
  have h4 := w1.1
  have h8 := w2.1
  have n : ∀ k i s, ¬ k = 0 → (k = 20 → i < 5) → ((k = 10 ∨ k = 21) → i < 8 ∨ 16 ≤ i) → ¬ IF k i s := fun k i s e1 e2 e3 => by unfold IF; omega
  refine ⟨⟨RCm.fx a1 hF h4 ⟨n _ _ _ (by omega) (by omega) (by omega), fun m _ => ⟨n _ _ _ (by omega) (by omega) (by omega), fun x => ⟨n _ _ _ (by omega) (by omega) (by omega), n _ _ _ (by omega) (by omega) (by omega), n _ _ _ (by omega) (by omega) (by omega)⟩⟩⟩, RCw.fx a2 hF h8 ⟨n _ _ _ (by omega) (by omega) (by omega), fun w _ x => ⟨n _ _ _ (by omega) (by omega) (by omega), n _ _ _ (by omega) (by omega) (by omega)⟩⟩, RCt.fx a3 hF ⟨n _ _ _ (by omega) (by omega) (by omega), fun i => n _ _ _ (by omega) (by omega) (by omega)⟩, RCs.fx a4 hF (fun i _ s => ⟨n _ _ _ (by omega) (by omega) (by omega), n _ _ _ (by omega) (by omega) (by omega)⟩), RCx.fx a5 hF w5.2.1 ⟨n _ _ _ (by omega) (by omega) (by omega), n _ _ _ (by omega) (by omega) (by omega), fun i s _ => ⟨n _ _ _ (by omega) (by omega) (by omega), n _ _ _ (by omega) (by omega) (by omega)⟩⟩, ⟨hI.1, fun _ => ⟨hI.2.1, hI.2.2.1, hI.2.2.2, hm, fun w hw2 => ?_⟩⟩, by rw [hF _ _ _ (n _ _ _ (by omega) (by omega) (by omega))]; exact a7⟩, hF.up (fun k i s z => by unfold IF at z; unfold CC; omega)⟩
  obtain ⟨c1, c2⟩ := hw w hw2
  obtain ⟨b1, b2, b3, b4⟩ := a2.2.1 w hw2
  exact ⟨fun f hf => by rw [c1 f (by omega)]; exact b1 f hf, by rw [c1 5 (by omega)]; exact b2, by rw [c1 6 (by omega)]; exact b3, fun r hr => by rw [c2 r hr]; exact b4 r hr⟩
set_option maxRecDepth 20000 in
theorem lp_im80 (G : EzG) (d : Nat) {q : EpS} (M : EzM) (hd : 3 ≤ d) (hW : WF q) (hC : RC q M) : ∀ (z : Nat) (t : Nat) (M1 : EzM), q.2.1.1 - t = z → t ≤ q.2.1.1 → IH q M1 → (∀ m, m < q.1.1 → ∀ r, r < 10 → M1.1 20 (5 + m) r = nI (q.1.2.2.2 m r)) → (∀ w, w < t → (∀ f, f < 7 → M1.1 10 (8 + w) f = M.1 10 w f) ∧ ∀ r, r < 10 → M1.1 21 (8 + w) r = M.1 21 w r) → FX IF M M1 → Ez G mX11_image d 80 [(1, eI (nI t)), (0, eR 11 0)] [] M1 (fun r M' => r = some (eI (nI q.2.1.1)) ∧ RC (s_im q) M' ∧ FX CC M M') := by
  intro z
  induction z using Nat.strongRecOn with
  | ind z ih =>
    intro t M1 hz ht hI hm hw hF
    have q8 := hW.2.1.1
    have q4 := hW.1.1
    refine ez_iload_n 81 dX11_image_80 rfl rfl ?_
    refine ez_aload_n 82 dX11_image_81 rfl rfl ?_
    refine ez_getf 85 (eI (M1.1 11 0 4)) dX11_image_82 rfl fl_X11_167 (by show 0 < 1; omega) rfl ?_
    refine ez_top (nI q.2.1.1) (by rw [hF _ _ _ (by unfold IF; omega)]; exact hC.2.1.1) ?_
    refine ez_ncmp_ge 88 112 dX11_image_85 rfl (by decide) (by omega) (by omega) (fun h85 => ?_) (fun h85 => ?_)
    · refine ez_aload_n 113 dX11_image_112 rfl rfl ?_
      refine ez_getf 116 (eI (M1.1 11 0 4)) dX11_image_113 rfl fl_X11_167 (by show 0 < 1; omega) rfl ?_
      refine ez_top (nI q.2.1.1) (by rw [hF _ _ _ (by unfold IF; omega)]; exact hC.2.1.1) ?_
      refine ez_iret .int dX11_image_116 rfl rfl ?_
      exact ⟨rfl, RC_im hW hC hF hI hm (fun w hw2 => hw w (by omega))⟩
    · refine ez_aload_n 89 dX11_image_88 rfl rfl ?_
      refine ez_getf 92 (eR 0 0) dX11_image_89 rfl fl_X11_43 (by show 0 < 1; omega) rfl ?_
      refine ez_getf 95 (eR 41 0) dX11_image_92 rfl fl_X11_294 (by show 0 < 1; omega) rfl ?_
      refine ez_iload_n 96 dX11_image_95 rfl rfl ?_
      refine ez_aaldN t 97 (eR 10 (8 + t)) dX11_image_96 rfl (by decide) rfl (by show 0 < 1; omega) (by show t < 8; omega) rfl ?_
      refine ez_aload_n 98 dX11_image_97 rfl rfl ?_
      refine ez_getf 101 (eR 37 0) dX11_image_98 rfl fl_X11_24 (by show 0 < 1; omega) rfl ?_
      refine ez_iload_n 102 dX11_image_101 rfl rfl ?_
      refine ez_aaldN t 103 (eR 10 t) dX11_image_102 rfl (by decide) rfl (by show 0 < 1; omega) (by show t < 8; omega) (by rw [show (ez_ark 37) = (10, 0) from rfl]; simp) ?_
      refine ez_callV 106 [eR 10 t] [] dX11_image_103 rfl rfl ok_X10_become in_X10_become (by decide) (by show 8 + t < 18; omega) ln_X11_214 (by omega) (Nat.le_of_ble_eq_true rfl) (c_X10_become G (d - 1) (8 + t) t M1 (by omega) (by omega) (by omega) (by omega)) (fun r103 M103 q103 => ?_)
      obtain ⟨rfl, ba, bb, f103, l103⟩ := q103
      show Ez G mX11_image d 106 [(1, eI (nI t)), (0, eR 11 0)] [] M103 _
      refine ez_iinc 109 (nI (t + 1)) [(1, eI (nI (t + 1))), (0, eR 11 0)] dX11_image_106 rfl rfl (nI_add t 1) (by decide) rfl ?_
      refine ez_goto 80 dX11_image_109 (by decide) ?_
      exact ih (q.2.1.1 - (t + 1)) (by omega) (t + 1) M103 rfl (by omega) ⟨by rw [f103 _ _ _ (by omega)]; exact hI.1, by rw [f103 _ _ _ (by omega)]; exact hI.2.1, by rw [f103 _ _ _ (by omega)]; exact hI.2.2.1, by rw [f103 _ _ _ (by omega)]; exact hI.2.2.2⟩ (fun m hm2 r hr => by rw [f103 _ _ _ (by omega)]; exact hm m hm2 r hr) (fun w hw2 => by
        by_cases e : w = t
        · subst e
          exact ⟨fun f hf => by rw [ba f hf, hF _ _ _ (by unfold IF; omega)], fun r hr => by rw [bb r hr, hF _ _ _ (by unfold IF; omega)]⟩
        · obtain ⟨c1, c2⟩ := hw w (by omega)
          exact ⟨fun f hf => by rw [f103 _ _ _ (by omega)]; exact c1 f hf, fun r hr => by rw [f103 _ _ _ (by omega)]; exact c2 r hr⟩) (hF.tr (f103.up (fun k i s z => by unfold IF; omega)))
set_option maxRecDepth 20000 in
theorem lp_im43 (G : EzG) (d : Nat) {q : EpS} (M : EzM) (hd : 3 ≤ d) (hW : WF q) (hC : RC q M) : ∀ (z : Nat) (t : Nat) (M1 : EzM), q.1.1 - t = z → t ≤ q.1.1 → IH q M1 → (∀ m, m < t → ∀ r, r < 10 → M1.1 20 (5 + m) r = nI (q.1.2.2.2 m r)) → FX IF M M1 → Ez G mX11_image d 43 [(1, eI (nI t)), (0, eR 11 0)] [] M1 (fun r M' => r = some (eI (nI q.2.1.1)) ∧ RC (s_im q) M' ∧ FX CC M M') := by
  intro z
  induction z using Nat.strongRecOn with
  | ind z ih =>
    intro t M1 hz ht hI hm hF
    have q8 := hW.2.1.1
    have q4 := hW.1.1
    refine ez_iload_n 44 dX11_image_43 rfl rfl ?_
    refine ez_aload_n 45 dX11_image_44 rfl rfl ?_
    refine ez_getf 48 (eI (M1.1 11 0 2)) dX11_image_45 rfl fl_X11_108 (by show 0 < 1; omega) rfl ?_
    refine ez_top (nI q.1.1) (by rw [hF _ _ _ (by unfold IF; omega)]; exact hC.1.1) ?_
    refine ez_ncmp_ge 51 78 dX11_image_48 rfl (by decide) (by omega) (by omega) (fun h48 => ?_) (fun h48 => ?_)
    · refine ez_iconst 79 dX11_image_78 rfl (nI 0) (by decide) ?_
      refine ez_istore_n 80 [(1, eI (nI 0)), (0, eR 11 0)] dX11_image_79 rfl (by decide) rfl ?_
      exact lp_im80 G d M hd hW hC _ 0 M1 rfl (by omega) hI (fun m hm2 => hm m (by omega)) (fun w hw => by omega) hF
    · refine ez_aload_n 52 dX11_image_51 rfl rfl ?_
      refine ez_getf 55 (eR 36 0) dX11_image_52 rfl fl_X11_18 (by show 0 < 1; omega) rfl ?_
      refine ez_iload_n 56 dX11_image_55 rfl rfl ?_
      refine ez_aaldN t 57 (eR 1 t) dX11_image_56 rfl (by decide) rfl (by show 0 < 1; omega) (by show t < 4; omega) (by rw [show (ez_ark 36) = (1, 0) from rfl]; simp) ?_
      refine ez_getf 60 (eR 20 t) dX11_image_57 rfl fl_X11_156 (by show t < 4; omega) rfl ?_
      refine ez_aload_n 61 dX11_image_60 rfl rfl ?_
      refine ez_getf 64 (eR 0 0) dX11_image_61 rfl fl_X11_43 (by show 0 < 1; omega) rfl ?_
      refine ez_getf 67 (eR 40 0) dX11_image_64 rfl fl_X11_291 (by show 0 < 1; omega) rfl ?_
      refine ez_iload_n 68 dX11_image_67 rfl rfl ?_
      refine ez_aaldN t 69 (eR 20 (5 + t)) dX11_image_68 rfl (by decide) rfl (by show 0 < 1; omega) (by show t < 4; omega) rfl ?_
      refine ez_callS 72 [eR 20 t, eR 20 (5 + t)] [] dX11_image_69 rfl rfl ok_X11_copyRow st_X11_copyRow ln_X11_217 (by omega) (Nat.le_of_ble_eq_true rfl) (c_copyRow_20 G (d - 1) t (5 + t) M1 (by omega) (by show t < 9; omega) (by show 5 + t < 9; omega)) (fun r69 M69 q69 => ?_)
      obtain ⟨rfl, e69⟩ := q69
      rw [e69]
      show Ez G mX11_image d 72 [(1, eI (nI t)), (0, eR 11 0)] [] (ez_row M1 20 (5 + t) (ep_fl (M1.1 20 t) (M1.1 20 (5 + t)) 10)) _
      refine ez_iinc 75 (nI (t + 1)) [(1, eI (nI (t + 1))), (0, eR 11 0)] dX11_image_72 rfl rfl (nI_add t 1) (by decide) rfl ?_
      refine ez_goto 43 dX11_image_75 (by decide) ?_
      have F69 : FX (fun k i s => k = 20 ∧ i = 5 + t) M1 (ez_row M1 20 (5 + t) (ep_fl (M1.1 20 t) (M1.1 20 (5 + t)) 10)) := FX.rf.row (fun s => by omega)
      exact ih (q.1.1 - (t + 1)) (by omega) (t + 1) _ rfl (by omega) ⟨by rw [F69 _ _ _ (by omega)]; exact hI.1, by rw [F69 _ _ _ (by omega)]; exact hI.2.1, by rw [F69 _ _ _ (by omega)]; exact hI.2.2.1, by rw [F69 _ _ _ (by omega)]; exact hI.2.2.2⟩ (fun m hm2 r hr => by
        by_cases e : m = t
        · rw [e, ez_rdr, if_pos ⟨rfl, rfl⟩, ep_fl_in hr, hF _ _ _ (by unfold IF; omega)]; exact (hC.1.2.1 t (by omega)).2.2.2 r hr
        · rw [F69 _ _ _ (by omega)]; exact hm m (by omega) r hr) (hF.tr (F69.up (fun k i s z => by unfold IF; omega)))
set_option maxRecDepth 20000 in
theorem c_X11_image (G : EzG) (d : Nat) {q : EpS} (M : EzM) (hd : 3 ≤ d) (hW : WF q) (hC : RC q M) : Ezc G mX11_image d [eR 11 0] M (fun r M' => r = some (eI (nI q.2.1.1)) ∧ RC (s_im q) M' ∧ FX CC M M') := by
  refine Ezc.of (by decide +kernel) (Nat.le_of_ble_eq_true rfl) ?_
  have q8 := hW.2.1.1
  have q4 := hW.1.1
  have qx := hW.2.2.2.2.1
  show Ez G mX11_image d 0 [(0, eR 11 0)] [] M _
  refine ez_aload_n 1 dX11_image_0 rfl rfl ?_
  refine ez_getf 4 (eR 0 0) dX11_image_1 rfl fl_X11_43 (by show 0 < 1; omega) rfl ?_
  refine ez_iconst 5 dX11_image_4 rfl (nI 1) (by decide) ?_
  refine ez_putf 8 .boolean dX11_image_5 rfl fp_X11_281 (by show 0 < 1; omega) rfl (by decide) (by decide) (by decide) ?_
  refine ez_aload_n 9 dX11_image_8 rfl rfl ?_
  refine ez_getf 12 (eR 0 0) dX11_image_9 rfl fl_X11_43 (by show 0 < 1; omega) rfl ?_
  refine ez_aload_n 13 dX11_image_12 rfl rfl ?_
  refine ez_getf 16 (eI (M.1 11 0 2)) dX11_image_13 rfl fl_X11_108 (by show 0 < 1; omega) rfl ?_
  refine ez_top (nI q.1.1) hC.1.1 ?_
  refine ez_putf 19 .int dX11_image_16 rfl fp_X11_284 (by show 0 < 1; omega) rfl (by decide) rfl rfl ?_
  refine ez_aload_n 20 dX11_image_19 rfl rfl ?_
  refine ez_getf 23 (eR 0 0) dX11_image_20 rfl fl_X11_43 (by show 0 < 1; omega) rfl ?_
  refine ez_aload_n 24 dX11_image_23 rfl rfl ?_
  refine ez_getf 27 (eI (M.1 11 0 4)) dX11_image_24 rfl fl_X11_167 (by show 0 < 1; omega) rfl ?_
  refine ez_top (nI q.2.1.1) hC.2.1.1 ?_
  refine ez_putf 30 .int dX11_image_27 rfl fp_X11_286 (by show 0 < 1; omega) rfl (by decide) rfl rfl ?_
  refine ez_aload_n 31 dX11_image_30 rfl rfl ?_
  refine ez_getf 34 (eR 0 0) dX11_image_31 rfl fl_X11_43 (by show 0 < 1; omega) rfl ?_
  refine ez_aload_n 35 dX11_image_34 rfl rfl ?_
  refine ez_getf 38 (eI (M.1 11 0 7)) dX11_image_35 rfl fl_X11_138 (by show 0 < 1; omega) rfl ?_
  refine ez_top (nI q.2.2.2.2.1.2.1) hC.2.2.2.2.1.2.1 ?_
  refine ez_putf 41 .int dX11_image_38 rfl fp_X11_288 (by show 0 < 1; omega) rfl (by decide) rfl rfl ?_
  refine ez_iconst 42 dX11_image_41 rfl (nI 0) (by decide) ?_
  refine ez_istore_n 43 [(1, eI (nI 0)), (0, eR 11 0)] dX11_image_42 rfl (by decide) rfl ?_
  exact lp_im43 G d M hd hW hC _ 0 _ rfl (by omega) ⟨by simp [ez_rd], by simp [ez_rd], by simp [ez_rd], by simp [ez_rd]⟩ (fun m hm => by omega) ((((FX.rf.st (by unfold IF; omega)).st (by unfold IF; omega)).st (by unfold IF; omega)).st (by unfold IF; omega))
def IFM (k i s : Nat) : Prop := (k = 12 ∧ 50 ≤ s ∧ s < 54) ∨ (67 ≤ k ∧ k ≤ 69)
def IHM (q : EpS) (M : EzM) : Prop := M.1 12 0 50 = nI 1 ∧ M.1 12 0 51 = nI q.1.1 ∧ M.1 12 0 52 = nI q.2.1.1 ∧ M.1 12 0 53 = nI q.2.2.2.2.1.2.1
theorem RM_im {q : EpS} {M M' : EzM} (hC : RM q M) (hF : FX IFM M M') (hI : IHM q M') (hm : ∀ k, k < 10 * q.1.1 → M'.1 69 0 k = nI (q.1.2.2.2 (k / 10) (k % 10))) (hw : ∀ w, w < q.2.1.1 → KP 67 (23 * w) (s_get q.1 q.2.1 w) M' ∧ M'.1 68 0 w = q.2.1.2.2.2.1 w) : RM (s_im q) M' ∧ FX CM M M' := by
  obtain ⟨a1, a2, a3, a4, a5, a6, a7⟩ := hC
  have n : ∀ k i s, (k = 12 ∧ (s < 50 ∨ 54 ≤ s)) ∨ (42 ≤ k ∧ k < 67) ∨ 70 ≤ k → ¬ IFM k i s := fun k i s z => by unfold IFM; omega
  refine ⟨⟨RMm.fx a1 hF ⟨n _ _ _ (by omega), fun x => ⟨n _ _ _ (by omega), n _ _ _ (by omega), n _ _ _ (by omega)⟩⟩, RMw.fx a2 hF ⟨n _ _ _ (by omega), fun x => ⟨n _ _ _ (by omega), n _ _ _ (by omega), n _ _ _ (by omega), n _ _ _ (by omega), n _ _ _ (by omega), n _ _ _ (by omega), n _ _ _ (by omega), n _ _ _ (by omega)⟩⟩, RMt.fx a3 hF ⟨n _ _ _ (by omega), fun i => n _ _ _ (by omega)⟩, RMs.fx a4 hF (fun s => ⟨n _ _ _ (by omega), n _ _ _ (by omega), n _ _ _ (by omega), n _ _ _ (by omega)⟩), RMx.fx a5 hF ⟨n _ _ _ (by omega), n _ _ _ (by omega), fun x hx => ⟨n _ _ _ (by omega), fun i hi => n _ _ _ (by omega)⟩⟩, ⟨hI.1, fun _ => ⟨hI.2.1, hI.2.2.1, hI.2.2.2, fun m hm2 r hr => ?_, fun w hw2 => ?_⟩⟩, by rw [hF _ _ _ (n _ _ _ (by omega))]; exact a7⟩, hF.up (fun k i s z => by unfold IFM at z; unfold CM; omega)⟩
  · have hm3 : m < q.1.1 := hm2
    have := hm (10 * m + r) (by omega)
    rw [show (10 * m + r) / 10 = m by omega, show (10 * m + r) % 10 = r by omega] at this
    exact this
  · obtain ⟨⟨k1, k2, k3, k4⟩, k5⟩ := hw w hw2
    exact ⟨k1, k2, k3, k5, fun r hr => (k4 r hr).1⟩
set_option maxRecDepth 20000 in
theorem lp_imm72 (g : EzH) (d : Nat) {q : EpS} (M : EzM) (hd : 3 ≤ d) (hW : WF q) (hC : RM q M) : ∀ (z : Nat) (t : Nat) (M1 : EzM), 10 * q.1.1 - t = z → t ≤ 10 * q.1.1 → IHM q M1 → (∀ k, k < t → M1.1 69 0 k = nI (q.1.2.2.2 (k / 10) (k % 10))) → (∀ w, w < q.2.1.1 → KP 67 (23 * w) (s_get q.1 q.2.1 w) M1 ∧ M1.1 68 0 w = q.2.1.2.2.2.1 w) → FX IFM M M1 → Ez (true, g) mX12_image d 72 [(1, eI (nI t)), (0, eR 12 0)] [] M1 (fun r M' => r = some (eI (nI q.2.1.1)) ∧ RM (s_im q) M' ∧ FX CM M M') := by
  intro z
  induction z using Nat.strongRecOn with
  | ind z ih =>
    intro t M1 hz ht hI hm hw hF
    have q8 := hW.2.1.1
    have q4 := hW.1.1
    refine ez_iload_n 73 dX12_image_72 rfl rfl ?_
    refine ez_bipush 75 dX12_image_73 rfl (nI 10) (by decide) ?_
    refine ez_aload_n 76 dX12_image_75 rfl rfl ?_
    refine ez_getf 79 (eI (M1.1 12 0 10)) dX12_image_76 rfl fl_X12_130 (by show 0 < 1; omega) rfl ?_
    refine ez_top (nI q.1.1) (by rw [hF _ _ _ (by unfold IFM; omega)]; exact hC.1.1) ?_
    refine ez_imul 80 dX12_image_79 rfl ?_
    refine ez_top (nI (10 * q.1.1)) (pk_mul _ _) ?_
    refine ez_ncmp_ge 83 101 dX12_image_80 rfl (by decide) (by omega) (by omega) (fun h80 => ?_) (fun h80 => ?_)
    · refine ez_aload_n 102 dX12_image_101 rfl rfl ?_
      refine ez_getf 105 (eI (M1.1 12 0 19)) dX12_image_102 rfl fl_X12_176 (by show 0 < 1; omega) rfl ?_
      refine ez_top (nI q.2.1.1) (by rw [hF _ _ _ (by unfold IFM; omega)]; exact hC.2.1.1) ?_
      refine ez_iret .int dX12_image_105 rfl rfl ?_
      exact ⟨rfl, RM_im hC hF hI (fun k hk => hm k (by omega)) hw⟩
    · refine ez_aload_n 84 dX12_image_83 rfl rfl ?_
      refine ez_getf 87 (eR 69 0) dX12_image_84 rfl fl_X12_96 (by show 0 < 1; omega) rfl ?_
      refine ez_iload_n 88 dX12_image_87 rfl rfl ?_
      refine ez_aload_n 89 dX12_image_88 rfl rfl ?_
      refine ez_getf 92 (eR 47 0) dX12_image_89 rfl fl_X12_29 (by show 0 < 1; omega) rfl ?_
      refine ez_iload_n 93 dX12_image_92 rfl rfl ?_
      refine ez_ialdN t 94 dX12_image_93 rfl (by decide) (by show 0 < 1; omega) (by show t < 40; omega) ?_
      refine ez_top (nI (q.1.2.2.2 (t / 10) (t % 10))) (by rw [hF _ _ _ (by unfold IFM; omega)]; have z9 := (hC.1.2 (t / 10) (by omega)).2.2 (t % 10) (by omega); rw [show 10 * (t / 10) + t % 10 = t by omega] at z9; exact z9) ?_
      refine ez_iastN t 95 dX12_image_94 rfl (by decide) (by show 0 < 1; omega) (by show t < 40; omega) ?_
      refine ez_iinc 98 (nI (t + 1)) [(1, eI (nI (t + 1))), (0, eR 12 0)] dX12_image_95 rfl rfl (nI_add t 1) (by decide) rfl ?_
      refine ez_goto 72 dX12_image_98 (by decide) ?_
      have F9 : FX (fun k i s => k = 69) M1 (ez_st M1 69 0 t (nI (q.1.2.2.2 (t / 10) (t % 10)))) := FX.rf.st (by omega)
      exact ih (10 * q.1.1 - (t + 1)) (by omega) (t + 1) _ rfl (by omega) ⟨by rw [F9 _ _ _ (by omega)]; exact hI.1, by rw [F9 _ _ _ (by omega)]; exact hI.2.1, by rw [F9 _ _ _ (by omega)]; exact hI.2.2.1, by rw [F9 _ _ _ (by omega)]; exact hI.2.2.2⟩ (fun k hk => by
        rw [ez_rd]
        by_cases e : k = t
        · rw [if_pos ⟨rfl, rfl, e⟩, e]
        · rw [if_neg (by omega)]; exact hm k (by omega)) (fun w hw2 => ⟨(hw w hw2).1.fx F9 (fun s _ _ => by omega), by rw [F9 _ _ _ (by omega)]; exact (hw w hw2).2⟩) (hF.tr (F9.up (fun k i s z => by unfold IFM; omega)))
set_option maxRecDepth 20000 in
theorem lp_imm31 (g : EzH) (d : Nat) {q : EpS} (M : EzM) (hd : 3 ≤ d) (hW : WF q) (hC : RM q M) : ∀ (z : Nat) (t : Nat) (M1 : EzM), q.2.1.1 - t = z → t ≤ q.2.1.1 → IHM q M1 → (∀ w, w < t → KP 67 (23 * w) (s_get q.1 q.2.1 w) M1 ∧ M1.1 68 0 w = q.2.1.2.2.2.1 w) → FX IFM M M1 → Ez (true, g) mX12_image d 31 [(1, eI (nI t)), (0, eR 12 0)] [] M1 (fun r M' => r = some (eI (nI q.2.1.1)) ∧ RM (s_im q) M' ∧ FX CM M M') := by
  intro z
  induction z using Nat.strongRecOn with
  | ind z ih =>
    intro t M1 hz ht hI hw hF
    have q8 := hW.2.1.1
    have q4 := hW.1.1
    refine ez_iload_n 32 dX12_image_31 rfl rfl ?_
    refine ez_aload_n 33 dX12_image_32 rfl rfl ?_
    refine ez_getf 36 (eI (M1.1 12 0 19)) dX12_image_33 rfl fl_X12_176 (by show 0 < 1; omega) rfl ?_
    refine ez_top (nI q.2.1.1) (by rw [hF _ _ _ (by unfold IFM; omega)]; exact hC.2.1.1) ?_
    refine ez_ncmp_ge 39 70 dX12_image_36 rfl (by decide) (by omega) (by omega) (fun h36 => ?_) (fun h36 => ?_)
    · refine ez_iconst 71 dX12_image_70 rfl (nI 0) (by decide) ?_
      refine ez_istore_n 72 [(1, eI (nI 0)), (0, eR 12 0)] dX12_image_71 rfl (by decide) rfl ?_
      exact lp_imm72 g d M hd hW hC _ 0 M1 rfl (by omega) hI (fun k hk => by omega) (fun w hw2 => hw w (by omega)) hF
    · have k1 := (hW.2.1.2 t h36).2.1
      refine ez_aload_n 40 dX12_image_39 rfl rfl ?_
      refine ez_iload_n 41 dX12_image_40 rfl rfl ?_
      refine ez_aload_n 42 dX12_image_41 rfl rfl ?_
      refine ez_getf 45 (eR 67 0) dX12_image_42 rfl fl_X12_90 (by show 0 < 1; omega) rfl ?_
      refine ez_bipush 47 dX12_image_45 rfl (nI 23) (by decide) ?_
      refine ez_iload_n 48 dX12_image_47 rfl rfl ?_
      refine ez_imul 49 dX12_image_48 rfl ?_
      refine ez_top (nI (23 * t)) (pk_mul _ _) ?_
      refine ez_callV 52 [eI (nI t), eR 67 0, eI (nI (23 * t))] [] dX12_image_49 rfl rfl ok_X12_keeps in_X12_keeps (by decide) (by show 0 < 1; omega) ln_X12_365 (by omega) (Nat.le_of_ble_eq_true rfl) (c_keeps_67 g (d - 1) (S := s_get q.1 q.2.1 t) t (23 * t) M1 (by omega) (by omega) (g_WFz hW.1 k1).2.1 (g_WFS hW h36) ((g_RMW hC.1 hC.2.1 h36 k1).fx hF ⟨by unfold IFM; omega, by unfold IFM; omega, by unfold IFM; omega, by unfold IFM; omega, by unfold IFM; omega, by unfold IFM; omega, by unfold IFM; omega, fun r hr => by unfold IFM; omega⟩) (by omega)) (fun r49 M49 q49 => ?_)
      obtain ⟨rfl, K49, f49⟩ := q49
      show Ez (true, g) mX12_image d 52 [(1, eI (nI t)), (0, eR 12 0)] [] M49 _
      refine ez_aload_n 53 dX12_image_52 rfl rfl ?_
      refine ez_getf 56 (eR 68 0) dX12_image_53 rfl fl_X12_93 (by show 0 < 1; omega) rfl ?_
      refine ez_iload_n 57 dX12_image_56 rfl rfl ?_
      refine ez_aload_n 58 dX12_image_57 rfl rfl ?_
      refine ez_getf 61 (eR 54 0) dX12_image_58 rfl fl_X12_50 (by show 0 < 1; omega) rfl ?_
      refine ez_iload_n 62 dX12_image_61 rfl rfl ?_
      refine ez_ialdN t 63 dX12_image_62 rfl (by decide) (by show 0 < 1; omega) (by show t < 8; omega) ?_
      refine ez_top (q.2.1.2.2.2.1 t) (by rw [f49 _ _ _ (by unfold KF; omega), hF _ _ _ (by unfold IFM; omega)]; exact (hC.2.1.2 t (by omega)).2.2.2.2.2.2.1) ?_
      refine ez_iastN t 64 dX12_image_63 rfl (by decide) (by show 0 < 1; omega) (by show t < 8; omega) ?_
      refine ez_iinc 67 (nI (t + 1)) [(1, eI (nI (t + 1))), (0, eR 12 0)] dX12_image_64 rfl rfl (nI_add t 1) (by decide) rfl ?_
      refine ez_goto 31 dX12_image_67 (by decide) ?_
      have F9 : FX (fun k i s => k = 68 ∧ s = t) M49 (ez_st M49 68 0 t (q.2.1.2.2.2.1 t)) := FX.rf.st (by omega)
      exact ih (q.2.1.1 - (t + 1)) (by omega) (t + 1) _ rfl (by omega) ⟨by rw [F9 _ _ _ (by omega), f49 _ _ _ (by unfold KF; omega)]; exact hI.1, by rw [F9 _ _ _ (by omega), f49 _ _ _ (by unfold KF; omega)]; exact hI.2.1, by rw [F9 _ _ _ (by omega), f49 _ _ _ (by unfold KF; omega)]; exact hI.2.2.1, by rw [F9 _ _ _ (by omega), f49 _ _ _ (by unfold KF; omega)]; exact hI.2.2.2⟩ (fun w hw2 => by
        by_cases e : w = t
        · subst e
          exact ⟨K49.fx F9 (fun s _ _ => by omega), by simp [ez_rd]⟩
        · exact ⟨((hw w (by omega)).1.fx f49 (fun s _ _ => by unfold KF; omega)).fx F9 (fun s _ _ => by omega), by rw [F9 _ _ _ (by omega), f49 _ _ _ (by unfold KF; omega)]; exact (hw w (by omega)).2⟩) ((hF.tr (f49.up (fun k i s z => by unfold KF at z; unfold IFM; omega))).tr (F9.up (fun k i s z => by unfold IFM; omega)))
set_option maxRecDepth 20000 in
theorem c_X12_image (g : EzH) (d : Nat) {q : EpS} (M : EzM) (hd : 3 ≤ d) (hW : WF q) (hC : RM q M) : Ezc (true, g) mX12_image d [eR 12 0] M (fun r M' => r = some (eI (nI q.2.1.1)) ∧ RM (s_im q) M' ∧ FX CM M M') := by
  refine Ezc.of (by decide +kernel) (Nat.le_of_ble_eq_true rfl) ?_
  have q8 := hW.2.1.1
  have q4 := hW.1.1
  have qx := hW.2.2.2.2.1
  show Ez (true, g) mX12_image d 0 [(0, eR 12 0)] [] M _
  refine ez_aload_n 1 dX12_image_0 rfl rfl ?_
  refine ez_iconst 2 dX12_image_1 rfl (nI 1) (by decide) ?_
  refine ez_putf 5 .boolean dX12_image_2 rfl fp_X12_387 (by show 0 < 1; omega) rfl (by decide) (by decide) (by decide) ?_
  refine ez_aload_n 6 dX12_image_5 rfl rfl ?_
  refine ez_aload_n 7 dX12_image_6 rfl rfl ?_
  refine ez_getf 10 (eI (M.1 12 0 10)) dX12_image_7 rfl fl_X12_130 (by show 0 < 1; omega) rfl ?_
  refine ez_top (nI q.1.1) hC.1.1 ?_
  refine ez_putf 13 .int dX12_image_10 rfl fp_X12_390 (by show 0 < 1; omega) rfl (by decide) rfl rfl ?_
  refine ez_aload_n 14 dX12_image_13 rfl rfl ?_
  refine ez_aload_n 15 dX12_image_14 rfl rfl ?_
  refine ez_getf 18 (eI (M.1 12 0 19)) dX12_image_15 rfl fl_X12_176 (by show 0 < 1; omega) rfl ?_
  refine ez_top (nI q.2.1.1) hC.2.1.1 ?_
  refine ez_putf 21 .int dX12_image_18 rfl fp_X12_393 (by show 0 < 1; omega) rfl (by decide) rfl rfl ?_
  refine ez_aload_n 22 dX12_image_21 rfl rfl ?_
  refine ez_aload_n 23 dX12_image_22 rfl rfl ?_
  refine ez_getf 26 (eI (M.1 12 0 4)) dX12_image_23 rfl fl_X12_227 (by show 0 < 1; omega) rfl ?_
  refine ez_top (nI q.2.2.2.2.1.2.1) hC.2.2.2.2.1.2.1 ?_
  refine ez_putf 29 .int dX12_image_26 rfl fp_X12_396 (by show 0 < 1; omega) rfl (by decide) rfl rfl ?_
  refine ez_iconst 30 dX12_image_29 rfl (nI 0) (by decide) ?_
  refine ez_istore_n 31 [(1, eI (nI 0)), (0, eR 12 0)] dX12_image_30 rfl (by decide) rfl ?_
  exact lp_imm31 g d M hd hW hC _ 0 _ rfl (by omega) ⟨by simp [ez_rd], by simp [ez_rd], by simp [ez_rd], by simp [ez_rd]⟩ (fun m hm => by omega) ((((FX.rf.st (by unfold IFM; omega)).st (by unfold IFM; omega)).st (by unfold IFM; omega)).st (by unfold IFM; omega))
