/-! back -/
def s_bk (q : EpS) : EpS := ((q.1.1, q.1.2.1, q.1.2.2.1, fun m => if m < q.2.2.2.2.2.2.1 then q.2.2.2.2.2.2.2.2.2.1 m else q.1.2.2.2 m), (q.2.1.1, (fun w => if w < q.2.2.2.2.2.2.2.1 then q.2.2.2.2.2.2.2.2.2.2.1 w else q.2.1.2.1 w), (fun w => if w < q.2.2.2.2.2.2.2.1 then q.2.2.2.2.2.2.2.2.2.2.2.1 w else q.2.1.2.2.1 w), (fun w => if w < q.2.2.2.2.2.2.2.1 then q.2.2.2.2.2.2.2.2.2.2.2.2.1 w else q.2.1.2.2.2.1 w), fun w => if w < q.2.2.2.2.2.2.2.1 then q.2.2.2.2.2.2.2.2.2.2.2.2.2 w else q.2.1.2.2.2.2 w), q.2.2.1, q.2.2.2.1, (q.2.2.2.2.1.1, q.2.2.2.2.2.2.2.2.1, q.2.2.2.2.1.2.2), q.2.2.2.2.2)
def S_back (q : EpS) : Int32 × EpS := if q.2.2.2.2.2.1 = 0 then (-3, q) else (nI q.2.1.1, s_bk q)
theorem WF_bk {q : EpS} (h : WF q) (h1 : q.2.2.2.2.2.1 = 1) : WF (s_bk q) := by
  obtain ⟨w1, w2, w3, w4, w5, w6⟩ := h
  obtain ⟨i1, i2, i3, i4, i5⟩ := w6.2 h1
  refine ⟨⟨w1.1, fun m hm => ?_⟩, ⟨w2.1, fun w hw => ?_⟩, w3, w4, ⟨w5.1, w5.2.1, i3, w5.2.2.2⟩, ⟨w6.1, fun _ => ⟨i1, i2, i3, i4, fun w hw => ?_⟩⟩⟩
  · obtain ⟨a1, a2, a3, a4⟩ := w1.2 m hm
    refine ⟨a1, a2, a3, fun r hr => ?_⟩
    show (if m < q.2.2.2.2.2.2.1 then q.2.2.2.2.2.2.2.2.2.1 m else q.1.2.2.2 m) r ≤ 99
    by_cases e : m < q.2.2.2.2.2.2.1
    · rw [if_pos e]; exact i4 m e r hr
    · rw [if_neg e]; exact a4 r hr
  · obtain ⟨b0, b1, b2, b3, b4, b5⟩ := w2.2 w hw
    show (if w < q.2.2.2.2.2.2.2.1 then q.2.2.2.2.2.2.2.2.2.2.1 w else q.2.1.2.1 w) 0 < 6 ∧ (if w < q.2.2.2.2.2.2.2.1 then q.2.2.2.2.2.2.2.2.2.2.1 w else q.2.1.2.1 w) 1 < q.1.1 ∧ (if w < q.2.2.2.2.2.2.2.1 then q.2.2.2.2.2.2.2.2.2.2.1 w else q.2.1.2.1 w) 2 < q.1.2.1 ((if w < q.2.2.2.2.2.2.2.1 then q.2.2.2.2.2.2.2.2.2.2.1 w else q.2.1.2.1 w) 1) ∧ (if w < q.2.2.2.2.2.2.2.1 then q.2.2.2.2.2.2.2.2.2.2.1 w else q.2.1.2.1 w) 3 < 4 ∧ (if w < q.2.2.2.2.2.2.2.1 then q.2.2.2.2.2.2.2.2.2.2.1 w else q.2.1.2.1 w) 4 ≤ 9 ∧ ∀ r, r < 10 → (if w < q.2.2.2.2.2.2.2.1 then q.2.2.2.2.2.2.2.2.2.2.2.2.2 w else q.2.1.2.2.2.2 w) r < 16
    by_cases e : w < q.2.2.2.2.2.2.2.1
    · obtain ⟨j0, j1, j2, j3, j4, j5, j6⟩ := i5 w e
      rw [if_pos e, if_pos e, j0, j1, j2]
      exact ⟨b0, b1, j4, j5, b4, j6⟩
    · rw [if_neg e, if_neg e]
      exact ⟨b0, b1, b2, b3, b4, b5⟩
  · have hw' : w < q.2.2.2.2.2.2.2.1 := hw
    obtain ⟨j0, j1, j2, j3, j4, j5, j6⟩ := i5 w hw
    show _ = (if w < q.2.2.2.2.2.2.2.1 then q.2.2.2.2.2.2.2.2.2.2.1 w else q.2.1.2.1 w) 0 ∧ _ = (if w < q.2.2.2.2.2.2.2.1 then q.2.2.2.2.2.2.2.2.2.2.1 w else q.2.1.2.1 w) 1 ∧ _ = (if w < q.2.2.2.2.2.2.2.1 then q.2.2.2.2.2.2.2.2.2.2.1 w else q.2.1.2.1 w) 4 ∧ (if w < q.2.2.2.2.2.2.2.1 then q.2.2.2.2.2.2.2.2.2.2.1 w else q.2.1.2.1 w) 1 < _ ∧ q.2.2.2.2.2.2.2.2.2.2.1 w 2 < q.1.2.1 ((if w < q.2.2.2.2.2.2.2.1 then q.2.2.2.2.2.2.2.2.2.2.1 w else q.2.1.2.1 w) 1) ∧ _
    rw [if_pos hw', j1]
    exact ⟨rfl, j1, rfl, j3, j4, j5, j6⟩
theorem WF_back {q : EpS} (h : WF q) : WF (S_back q).2 := by
  unfold S_back
  by_cases e : q.2.2.2.2.2.1 = 0
  · rw [if_pos e]; exact h
  · rw [if_neg e]; exact WF_bk h (by have := h.2.2.2.2.2.1; omega)
def BKF (a b k i s : Nat) : Prop := (k = 20 ∧ i < a) ∨ ((k = 10 ∨ k = 21) ∧ i < b) ∨ (k = 11 ∧ s = 7)
theorem RC_bk {q : EpS} {M M' : EzM} (hW : WF q) (hC : RC q M) (h1 : q.2.2.2.2.2.1 = 1) (hF : FX (BKF q.2.2.2.2.2.2.1 q.2.2.2.2.2.2.2.1) M M') (hx : M'.1 11 0 7 = nI q.2.2.2.2.2.2.2.2.1) (hm : ∀ m, m < q.2.2.2.2.2.2.1 → ∀ r, r < 10 → M'.1 20 m r = nI (q.2.2.2.2.2.2.2.2.2.1 m r)) (hw : ∀ w, w < q.2.2.2.2.2.2.2.1 → (∀ f, f < 7 → M'.1 10 w f = M.1 10 (8 + w) f) ∧ ∀ r, r < 10 → M'.1 21 w r = M.1 21 (8 + w) r) : RC (s_bk q) M' ∧ FX CC M M' := by
  obtain ⟨a1, a2, a3, a4, a5, a6, a7⟩ := hC
  obtain ⟨w1, w2, w3, w4, w5, w6⟩ := hW
  have h4 := w1.1
  have h8 := w2.1
  obtain ⟨i1, i2, i3, i4, i5⟩ := w6.2 h1
  obtain ⟨c1, c2, c3, c4, c5⟩ := a6.2 h1
  have n : ∀ k i s, (k = 20 → q.2.2.2.2.2.2.1 ≤ i) → ((k = 10 ∨ k = 21) → q.2.2.2.2.2.2.2.1 ≤ i) → (k = 11 → ¬ s = 7) → ¬ BKF q.2.2.2.2.2.2.1 q.2.2.2.2.2.2.2.1 k i s := fun k i s e1 e2 e3 => by unfold BKF; omega
  refine ⟨⟨⟨by rw [hF _ _ _ (n _ _ _ (by omega) (by omega) (by omega))]; exact a1.1, fun m hm2 => ?_, fun m g1 g2 r hr => ?_⟩, ⟨by rw [hF _ _ _ (n _ _ _ (by omega) (by omega) (by omega))]; exact a2.1, fun w hw2 => ?_, fun w g1 g2 => ?_⟩, RCt.fx a3 hF ⟨n _ _ _ (by omega) (by omega) (by omega), fun i => n _ _ _ (by omega) (by omega) (by omega)⟩, RCs.fx a4 hF (fun i _ s => ⟨n _ _ _ (by omega) (by omega) (by omega), n _ _ _ (by omega) (by omega) (by omega)⟩), ⟨by rw [hF _ _ _ (n _ _ _ (by omega) (by omega) (by omega))]; exact a5.1, hx, fun x hx2 => RU.fx (a5.2.2 x hx2) hF (fun s => ⟨n _ _ _ (by omega) (by omega) (by omega), n _ _ _ (by omega) (by omega) (by omega)⟩)⟩, RCi.fx a6 hF (fun q => ⟨Nat.le_trans (w6.2 q).1 h4, Nat.le_trans (w6.2 q).2.1 h8⟩) ⟨fun s _ => n _ _ _ (by omega) (by omega) (by omega), fun i _ _ s => n _ _ _ (by omega) (by omega) (by omega), fun i _ _ s => ⟨n _ _ _ (by omega) (by omega) (by omega), n _ _ _ (by omega) (by omega) (by omega)⟩⟩, by rw [hF _ _ _ (n _ _ _ (by omega) (by omega) (by omega))]; exact a7⟩, hF.up (fun k i s z => by unfold BKF at z; unfold CC; omega)⟩
  · obtain ⟨b1, b2, b3, b4⟩ := a1.2.1 m hm2
    refine ⟨by rw [hF _ _ _ (n _ _ _ (by omega) (by omega) (by omega))]; exact b1, fun x hx => by rw [hF _ _ _ (n _ _ _ (by omega) (by omega) (by omega))]; exact b2 x hx, fun x hx => by rw [hF _ _ _ (n _ _ _ (by omega) (by omega) (by omega))]; exact b3 x hx, fun r hr => ?_⟩
    show _ = nI ((if m < q.2.2.2.2.2.2.1 then q.2.2.2.2.2.2.2.2.2.1 m else q.1.2.2.2 m) r)
    by_cases e : m < q.2.2.2.2.2.2.1
    · rw [if_pos e]; exact hm m e r hr
    · rw [if_neg e, hF _ _ _ (n _ _ _ (by omega) (by omega) (by omega))]; exact b4 r hr
  · have g1' : q.1.1 ≤ m := g1
    rw [hF _ _ _ (n _ _ _ (by omega) (by omega) (by omega))]; exact a1.2.2 m g1 g2 r hr
  · obtain ⟨b1, b2, b3, b4⟩ := a2.2.1 w hw2
    show (∀ f, f < 5 → _ = nI ((if w < q.2.2.2.2.2.2.2.1 then q.2.2.2.2.2.2.2.2.2.2.1 w else q.2.1.2.1 w) f)) ∧ _ = (if w < q.2.2.2.2.2.2.2.1 then q.2.2.2.2.2.2.2.2.2.2.2.1 w else q.2.1.2.2.1 w) ∧ _ = (if w < q.2.2.2.2.2.2.2.1 then q.2.2.2.2.2.2.2.2.2.2.2.2.1 w else q.2.1.2.2.2.1 w) ∧ ∀ r, r < 10 → _ = nI ((if w < q.2.2.2.2.2.2.2.1 then q.2.2.2.2.2.2.2.2.2.2.2.2.2 w else q.2.1.2.2.2.2 w) r)
    by_cases e : w < q.2.2.2.2.2.2.2.1
    · rw [if_pos e, if_pos e, if_pos e, if_pos e]
      obtain ⟨d1, d2⟩ := hw w e
      obtain ⟨e1, e2, e3, e4⟩ := c5 w e
      exact ⟨fun f hf => by rw [d1 f (by omega)]; exact e1 f hf, by rw [d1 5 (by omega)]; exact e2, by rw [d1 6 (by omega)]; exact e3, fun r hr => by rw [d2 r hr]; exact e4 r hr⟩
    · rw [if_neg e, if_neg e, if_neg e, if_neg e]
      exact ⟨fun f hf => by rw [hF _ _ _ (n _ _ _ (by omega) (by omega) (by omega))]; exact b1 f hf, by rw [hF _ _ _ (n _ _ _ (by omega) (by omega) (by omega))]; exact b2, by rw [hF _ _ _ (n _ _ _ (by omega) (by omega) (by omega))]; exact b3, fun r hr => by rw [hF _ _ _ (n _ _ _ (by omega) (by omega) (by omega))]; exact b4 r hr⟩
  · have g1' : q.2.1.1 ≤ w := g1
    obtain ⟨b1, b2, b3⟩ := a2.2.2 w g1 g2
    exact ⟨by rw [hF _ _ _ (n _ _ _ (by omega) (by omega) (by omega))]; exact b1, by rw [hF _ _ _ (n _ _ _ (by omega) (by omega) (by omega))]; exact b2, fun r hr => by rw [hF _ _ _ (n _ _ _ (by omega) (by omega) (by omega))]; exact b3 r hr⟩
set_option maxRecDepth 20000 in
theorem lp_bk66 (G : EzG) (d : Nat) {q : EpS} (M : EzM) (hd : 3 ≤ d) (hW : WF q) (hC : RC q M) (h1 : q.2.2.2.2.2.1 = 1) : ∀ (z : Nat) (t : Nat) (M1 : EzM), q.2.2.2.2.2.2.2.1 - t = z → t ≤ q.2.2.2.2.2.2.2.1 → M1.1 11 0 7 = nI q.2.2.2.2.2.2.2.2.1 → (∀ m, m < q.2.2.2.2.2.2.1 → ∀ r, r < 10 → M1.1 20 m r = nI (q.2.2.2.2.2.2.2.2.2.1 m r)) → (∀ w, w < t → (∀ f, f < 7 → M1.1 10 w f = M.1 10 (8 + w) f) ∧ ∀ r, r < 10 → M1.1 21 w r = M.1 21 (8 + w) r) → FX (BKF q.2.2.2.2.2.2.1 q.2.2.2.2.2.2.2.1) M M1 → Ez G mX11_back d 66 [(1, eI (nI t)), (0, eR 11 0)] [] M1 (fun r M' => r = some (eI (nI q.2.1.1)) ∧ RC (s_bk q) M' ∧ FX CC M M') := by
  intro z
  induction z using Nat.strongRecOn with
  | ind z ih =>
    intro t M1 hz ht hx hm hw hF
    have q8 := hW.2.1.1
    have q4 := hW.1.1
    obtain ⟨i1, i2, i3, i4, i5⟩ := hW.2.2.2.2.2.2 h1
    obtain ⟨c1, c2, c3, c4, c5⟩ := hC.2.2.2.2.2.1.2 h1
    refine ez_iload_n 67 dX11_back_66 rfl rfl ?_
    refine ez_aload_n 68 dX11_back_67 rfl rfl ?_
    refine ez_getf 71 (eR 0 0) dX11_back_68 rfl fl_X11_43 (by show 0 < 1; omega) rfl ?_
    refine ez_getf 74 (eI (M1.1 0 0 2)) dX11_back_71 rfl fl_X11_286 (by show 0 < 1; omega) rfl ?_
    refine ez_top (nI q.2.2.2.2.2.2.2.1) (by rw [hF _ _ _ (by unfold BKF; omega)]; exact c2) ?_
    refine ez_ncmp_ge 77 101 dX11_back_74 rfl (by decide) (by omega) (by omega) (fun h74 => ?_) (fun h74 => ?_)
    · refine ez_aload_n 102 dX11_back_101 rfl rfl ?_
      refine ez_getf 105 (eI (M1.1 11 0 4)) dX11_back_102 rfl fl_X11_167 (by show 0 < 1; omega) rfl ?_
      refine ez_top (nI q.2.1.1) (by rw [hF _ _ _ (by unfold BKF; omega)]; exact hC.2.1.1) ?_
      refine ez_iret .int dX11_back_105 rfl rfl ?_
      exact ⟨rfl, RC_bk hW hC h1 hF hx hm (fun w hw2 => hw w (by omega))⟩
    · refine ez_aload_n 78 dX11_back_77 rfl rfl ?_
      refine ez_getf 81 (eR 37 0) dX11_back_78 rfl fl_X11_24 (by show 0 < 1; omega) rfl ?_
      refine ez_iload_n 82 dX11_back_81 rfl rfl ?_
      refine ez_aaldN t 83 (eR 10 t) dX11_back_82 rfl (by decide) rfl (by show 0 < 1; omega) (by show t < 8; omega) (by rw [show (ez_ark 37) = (10, 0) from rfl]; simp) ?_
      refine ez_aload_n 84 dX11_back_83 rfl rfl ?_
      refine ez_getf 87 (eR 0 0) dX11_back_84 rfl fl_X11_43 (by show 0 < 1; omega) rfl ?_
      refine ez_getf 90 (eR 41 0) dX11_back_87 rfl fl_X11_294 (by show 0 < 1; omega) rfl ?_
      refine ez_iload_n 91 dX11_back_90 rfl rfl ?_
      refine ez_aaldN t 92 (eR 10 (8 + t)) dX11_back_91 rfl (by decide) rfl (by show 0 < 1; omega) (by show t < 8; omega) rfl ?_
      refine ez_callV 95 [eR 10 (8 + t)] [] dX11_back_92 rfl rfl ok_X10_become in_X10_become (by decide) (by show t < 18; omega) ln_X11_214 (by omega) (Nat.le_of_ble_eq_true rfl) (c_X10_become G (d - 1) t (8 + t) M1 (by omega) (by omega) (by omega) (by omega)) (fun r92 M92 q92 => ?_)
      obtain ⟨rfl, ba, bb, f92, l92⟩ := q92
      show Ez G mX11_back d 95 [(1, eI (nI t)), (0, eR 11 0)] [] M92 _
      refine ez_iinc 98 (nI (t + 1)) [(1, eI (nI (t + 1))), (0, eR 11 0)] dX11_back_95 rfl rfl (nI_add t 1) (by decide) rfl ?_
      refine ez_goto 66 dX11_back_98 (by decide) ?_
      exact ih (q.2.2.2.2.2.2.2.1 - (t + 1)) (by omega) (t + 1) M92 rfl (by omega) (by rw [f92 _ _ _ (by omega)]; exact hx) (fun m hm2 r hr => by rw [f92 _ _ _ (by omega)]; exact hm m hm2 r hr) (fun w hw2 => by
        by_cases e : w = t
        · subst e
          exact ⟨fun f hf => by rw [ba f hf, hF _ _ _ (by unfold BKF; omega)], fun r hr => by rw [bb r hr, hF _ _ _ (by unfold BKF; omega)]⟩
        · obtain ⟨e1, e2⟩ := hw w (by omega)
          exact ⟨fun f hf => by rw [f92 _ _ _ (by omega)]; exact e1 f hf, fun r hr => by rw [f92 _ _ _ (by omega)]; exact e2 r hr⟩) (hF.tr (f92.up (fun k i s z => by unfold BKF; omega)))
set_option maxRecDepth 20000 in
theorem lp_bk26 (G : EzG) (d : Nat) {q : EpS} (M : EzM) (hd : 3 ≤ d) (hW : WF q) (hC : RC q M) (h1 : q.2.2.2.2.2.1 = 1) : ∀ (z : Nat) (t : Nat) (M1 : EzM), q.2.2.2.2.2.2.1 - t = z → t ≤ q.2.2.2.2.2.2.1 → M1.1 11 0 7 = nI q.2.2.2.2.2.2.2.2.1 → (∀ m, m < t → ∀ r, r < 10 → M1.1 20 m r = nI (q.2.2.2.2.2.2.2.2.2.1 m r)) → FX (BKF q.2.2.2.2.2.2.1 q.2.2.2.2.2.2.2.1) M M1 → Ez G mX11_back d 26 [(1, eI (nI t)), (0, eR 11 0)] [] M1 (fun r M' => r = some (eI (nI q.2.1.1)) ∧ RC (s_bk q) M' ∧ FX CC M M') := by
  intro z
  induction z using Nat.strongRecOn with
  | ind z ih =>
    intro t M1 hz ht hx hm hF
    have q8 := hW.2.1.1
    have q4 := hW.1.1
    obtain ⟨i1, i2, i3, i4, i5⟩ := hW.2.2.2.2.2.2 h1
    obtain ⟨c1, c2, c3, c4, c5⟩ := hC.2.2.2.2.2.1.2 h1
    refine ez_iload_n 27 dX11_back_26 rfl rfl ?_
    refine ez_aload_n 28 dX11_back_27 rfl rfl ?_
    refine ez_getf 31 (eR 0 0) dX11_back_28 rfl fl_X11_43 (by show 0 < 1; omega) rfl ?_
    refine ez_getf 34 (eI (M1.1 0 0 1)) dX11_back_31 rfl fl_X11_284 (by show 0 < 1; omega) rfl ?_
    refine ez_top (nI q.2.2.2.2.2.2.1) (by rw [hF _ _ _ (by unfold BKF; omega)]; exact c1) ?_
    refine ez_ncmp_ge 37 64 dX11_back_34 rfl (by decide) (by omega) (by omega) (fun h34 => ?_) (fun h34 => ?_)
    · refine ez_iconst 65 dX11_back_64 rfl (nI 0) (by decide) ?_
      refine ez_istore_n 66 [(1, eI (nI 0)), (0, eR 11 0)] dX11_back_65 rfl (by decide) rfl ?_
      exact lp_bk66 G d M hd hW hC h1 _ 0 M1 rfl (by omega) hx (fun m hm2 => hm m (by omega)) (fun w hw => by omega) hF
    · refine ez_aload_n 38 dX11_back_37 rfl rfl ?_
      refine ez_getf 41 (eR 0 0) dX11_back_38 rfl fl_X11_43 (by show 0 < 1; omega) rfl ?_
      refine ez_getf 44 (eR 40 0) dX11_back_41 rfl fl_X11_291 (by show 0 < 1; omega) rfl ?_
      refine ez_iload_n 45 dX11_back_44 rfl rfl ?_
      refine ez_aaldN t 46 (eR 20 (5 + t)) dX11_back_45 rfl (by decide) rfl (by show 0 < 1; omega) (by show t < 4; omega) rfl ?_
      refine ez_aload_n 47 dX11_back_46 rfl rfl ?_
      refine ez_getf 50 (eR 36 0) dX11_back_47 rfl fl_X11_18 (by show 0 < 1; omega) rfl ?_
      refine ez_iload_n 51 dX11_back_50 rfl rfl ?_
      refine ez_aaldN t 52 (eR 1 t) dX11_back_51 rfl (by decide) rfl (by show 0 < 1; omega) (by show t < 4; omega) (by rw [show (ez_ark 36) = (1, 0) from rfl]; simp) ?_
      refine ez_getf 55 (eR 20 t) dX11_back_52 rfl fl_X11_156 (by show t < 4; omega) rfl ?_
      refine ez_callS 58 [eR 20 (5 + t), eR 20 t] [] dX11_back_55 rfl rfl ok_X11_copyRow st_X11_copyRow ln_X11_217 (by omega) (Nat.le_of_ble_eq_true rfl) (c_copyRow_20 G (d - 1) (5 + t) t M1 (by omega) (by show 5 + t < 9; omega) (by show t < 9; omega)) (fun r55 M55 q55 => ?_)
      obtain ⟨rfl, e55⟩ := q55
      rw [e55]
      show Ez G mX11_back d 58 [(1, eI (nI t)), (0, eR 11 0)] [] (ez_row M1 20 t (ep_fl (M1.1 20 (5 + t)) (M1.1 20 t) 10)) _
      refine ez_iinc 61 (nI (t + 1)) [(1, eI (nI (t + 1))), (0, eR 11 0)] dX11_back_58 rfl rfl (nI_add t 1) (by decide) rfl ?_
      refine ez_goto 26 dX11_back_61 (by decide) ?_
      have F55 : FX (fun k i s => k = 20 ∧ i = t) M1 (ez_row M1 20 t (ep_fl (M1.1 20 (5 + t)) (M1.1 20 t) 10)) := FX.rf.row (fun s => by omega)
      exact ih (q.2.2.2.2.2.2.1 - (t + 1)) (by omega) (t + 1) _ rfl (by omega) (by rw [F55 _ _ _ (by omega)]; exact hx) (fun m hm2 r hr => by
        by_cases e : m = t
        · rw [e, ez_rdr, if_pos ⟨rfl, rfl⟩, ep_fl_in hr, hF _ _ _ (by unfold BKF; omega)]; exact c4 t (by omega) r hr
        · rw [F55 _ _ _ (by omega)]; exact hm m (by omega) r hr) (hF.tr (F55.up (fun k i s z => by unfold BKF; omega)))
set_option maxRecDepth 20000 in
theorem c_X11_back (G : EzG) (d : Nat) {q : EpS} (M : EzM) (hd : 3 ≤ d) (hW : WF q) (hC : RC q M) : Ezc G mX11_back d [eR 11 0] M (fun r M' => r = some (eI (S_back q).1) ∧ RC (S_back q).2 M' ∧ FX CC M M') := by
  refine Ezc.of (by decide +kernel) (Nat.le_of_ble_eq_true rfl) ?_
  have q8 := hW.2.1.1
  have q4 := hW.1.1
  have qx := hW.2.2.2.2.1
  have i2 := hW.2.2.2.2.2.1
  show Ez G mX11_back d 0 [(0, eR 11 0)] [] M _
  refine ez_aload_n 1 dX11_back_0 rfl rfl ?_
  refine ez_getf 4 (eR 0 0) dX11_back_1 rfl fl_X11_43 (by show 0 < 1; omega) rfl ?_
  refine ez_getf 7 (eI (M.1 0 0 0)) dX11_back_4 rfl fl_X11_281 (by show 0 < 1; omega) rfl ?_
  refine ez_top (nI q.2.2.2.2.2.1) hC.2.2.2.2.2.1.1 ?_
  refine ez_nif_ne 10 13 dX11_back_7 rfl (by decide) (by omega) (fun h7 => ?_) (fun h7 => ?_)
  · refine ez_aload_n 14 dX11_back_13 rfl rfl ?_
    refine ez_aload_n 15 dX11_back_14 rfl rfl ?_
    refine ez_getf 18 (eR 0 0) dX11_back_15 rfl fl_X11_43 (by show 0 < 1; omega) rfl ?_
    refine ez_getf 21 (eI (M.1 0 0 3)) dX11_back_18 rfl fl_X11_288 (by show 0 < 1; omega) rfl ?_
    refine ez_putf 24 .int dX11_back_21 rfl fp_X11_138 (by show 0 < 1; omega) rfl (by decide) rfl rfl ?_
    refine ez_iconst 25 dX11_back_24 rfl (nI 0) (by decide) ?_
    refine ez_istore_n 26 [(1, eI (nI 0)), (0, eR 11 0)] dX11_back_25 rfl (by decide) rfl ?_
    have h1 : q.2.2.2.2.2.1 = 1 := by have := hW.2.2.2.2.2.1; omega
    have eS : S_back q = (nI q.2.1.1, s_bk q) := by unfold S_back; rw [if_neg (by omega)]
    rw [eS]
    exact lp_bk26 G d M hd hW hC h1 _ 0 _ rfl (by omega) (by simp [ez_rd]; exact (hC.2.2.2.2.2.1.2 h1).2.2.1) (fun m hm => by omega) (FX.rf.st (by unfold BKF; omega))
  · refine ez_bipush 12 dX11_back_10 rfl (-3) (by decide) ?_
    refine ez_iret .int dX11_back_12 rfl rfl ?_
    have eS : S_back q = (-3, q) := by unfold S_back; rw [if_pos h7]
    exact ⟨by rw [eS], by rw [eS]; exact hC, FX.rf⟩
theorem er_any (x : Int32) : x = nI x.toBitVec.toNat := by
  apply Int32.toBitVec_inj.mp
  show x.toBitVec = BitVec.ofNat 32 x.toBitVec.toNat
  rw [BitVec.ofNat_toNat, BitVec.setWidth_eq]
def BKM (a b k i s : Nat) : Prop := (k = 47 ∧ s < 10 * a) ∨ ((k = 50 ∨ k = 51 ∨ k = 53 ∨ k = 54) ∧ s < b) ∨ (k = 55 ∧ s < 10 * b) ∨ (k = 12 ∧ s = 4)
def BKW (q : EpS) (w : Nat) (M : EzM) : Prop := M.1 50 0 w = nI (q.2.2.2.2.2.2.2.2.2.2.1 w 2) ∧ M.1 51 0 w = nI (q.2.2.2.2.2.2.2.2.2.2.1 w 3) ∧ M.1 53 0 w = q.2.2.2.2.2.2.2.2.2.2.2.1 w ∧ M.1 54 0 w = q.2.2.2.2.2.2.2.2.2.2.2.2.1 w ∧ ∀ r, r < 10 → M.1 55 0 (10 * w + r) = nI (q.2.2.2.2.2.2.2.2.2.2.2.2.2 w r)
theorem RM_bk {q : EpS} {M M' : EzM} (hW : WF q) (hC : RM q M) (h1 : q.2.2.2.2.2.1 = 1) (hF : FX (BKM q.2.2.2.2.2.2.1 q.2.2.2.2.2.2.2.1) M M') (hx : M'.1 12 0 4 = nI q.2.2.2.2.2.2.2.2.1) (hm : ∀ k, k < 10 * q.2.2.2.2.2.2.1 → M'.1 47 0 k = nI (q.2.2.2.2.2.2.2.2.2.1 (k / 10) (k % 10))) (hw : ∀ w, w < q.2.2.2.2.2.2.2.1 → BKW q w M') : RM (s_bk q) M' ∧ FX CM M M' := by
  obtain ⟨a1, a2, a3, a4, a5, a6, a7⟩ := hC
  obtain ⟨w1, w2, w3, w4, w5, w6⟩ := hW
  obtain ⟨i1, i2, i3, i4, i5⟩ := w6.2 h1
  have n : ∀ k i s, (k = 12 ∧ ¬ s = 4) ∨ (42 ≤ k ∧ k < 47) ∨ k = 48 ∨ k = 49 ∨ k = 52 ∨ 56 ≤ k → ¬ BKM q.2.2.2.2.2.2.1 q.2.2.2.2.2.2.2.1 k i s := fun k i s z => by unfold BKM; omega
  refine ⟨⟨⟨by rw [hF _ _ _ (n _ _ _ (by omega))]; exact a1.1, fun m hm2 => ?_⟩, ⟨by rw [hF _ _ _ (n _ _ _ (by omega))]; exact a2.1, fun w hw2 => ?_⟩, RMt.fx a3 hF ⟨n _ _ _ (by omega), fun i => n _ _ _ (by omega)⟩, RMs.fx a4 hF (fun s => ⟨n _ _ _ (by omega), n _ _ _ (by omega), n _ _ _ (by omega), n _ _ _ (by omega)⟩), ⟨by rw [hF _ _ _ (n _ _ _ (by omega))]; exact a5.1, hx, fun x hx2 => RMx1.fx (a5.2.2 x hx2) hF ⟨n _ _ _ (by omega), fun i hi => n _ _ _ (by omega)⟩⟩, RMi.fx a6 hF ⟨fun s _ _ => n _ _ _ (by omega), fun s => ⟨n _ _ _ (by omega), n _ _ _ (by omega), n _ _ _ (by omega)⟩⟩, by rw [hF _ _ _ (n _ _ _ (by omega))]; exact a7⟩, hF.up (fun k i s z => by unfold BKM at z; unfold CM; omega)⟩
  · obtain ⟨b1, b2, b3⟩ := a1.2 m hm2
    refine ⟨by rw [hF _ _ _ (n _ _ _ (by omega))]; exact b1, fun x hx => by rw [hF _ _ _ (n _ _ _ (by omega))]; exact b2 x hx, fun r hr => ?_⟩
    show _ = nI ((if m < q.2.2.2.2.2.2.1 then q.2.2.2.2.2.2.2.2.2.1 m else q.1.2.2.2 m) r)
    by_cases e : m < q.2.2.2.2.2.2.1
    · rw [if_pos e]
      have := hm (10 * m + r) (by omega)
      rw [show (10 * m + r) / 10 = m by omega, show (10 * m + r) % 10 = r by omega] at this
      exact this
    · rw [if_neg e, hF _ _ _ (by unfold BKM; omega)]; exact b3 r hr
  · obtain ⟨b0, b1, b2, b3, b4, b5, b6, b7⟩ := a2.2 w hw2
    show _ = nI ((if w < q.2.2.2.2.2.2.2.1 then q.2.2.2.2.2.2.2.2.2.2.1 w else q.2.1.2.1 w) 0) ∧ _ = nI ((if w < q.2.2.2.2.2.2.2.1 then q.2.2.2.2.2.2.2.2.2.2.1 w else q.2.1.2.1 w) 1) ∧ _ = nI ((if w < q.2.2.2.2.2.2.2.1 then q.2.2.2.2.2.2.2.2.2.2.1 w else q.2.1.2.1 w) 2) ∧ _ = nI ((if w < q.2.2.2.2.2.2.2.1 then q.2.2.2.2.2.2.2.2.2.2.1 w else q.2.1.2.1 w) 3) ∧ _ = nI ((if w < q.2.2.2.2.2.2.2.1 then q.2.2.2.2.2.2.2.2.2.2.1 w else q.2.1.2.1 w) 4) ∧ _ = (if w < q.2.2.2.2.2.2.2.1 then q.2.2.2.2.2.2.2.2.2.2.2.1 w else q.2.1.2.2.1 w) ∧ _ = (if w < q.2.2.2.2.2.2.2.1 then q.2.2.2.2.2.2.2.2.2.2.2.2.1 w else q.2.1.2.2.2.1 w) ∧ ∀ r, r < 10 → _ = nI ((if w < q.2.2.2.2.2.2.2.1 then q.2.2.2.2.2.2.2.2.2.2.2.2.2 w else q.2.1.2.2.2.2 w) r)
    by_cases e : w < q.2.2.2.2.2.2.2.1
    · rw [if_pos e, if_pos e, if_pos e, if_pos e]
      obtain ⟨d1, d2, d3, d4, d5⟩ := hw w e
      obtain ⟨j0, j1, j2, j3, j4, j5, j6⟩ := i5 w e
      rw [j0, j1, j2]
      exact ⟨by rw [hF _ _ _ (n _ _ _ (by omega))]; exact b0, by rw [hF _ _ _ (n _ _ _ (by omega))]; exact b1, d1, d2, by rw [hF _ _ _ (n _ _ _ (by omega))]; exact b4, d3, d4, d5⟩
    · rw [if_neg e, if_neg e, if_neg e, if_neg e]
      exact ⟨by rw [hF _ _ _ (n _ _ _ (by omega))]; exact b0, by rw [hF _ _ _ (n _ _ _ (by omega))]; exact b1, by rw [hF _ _ _ (by unfold BKM; omega)]; exact b2, by rw [hF _ _ _ (by unfold BKM; omega)]; exact b3, by rw [hF _ _ _ (n _ _ _ (by omega))]; exact b4, by rw [hF _ _ _ (by unfold BKM; omega)]; exact b5, by rw [hF _ _ _ (by unfold BKM; omega)]; exact b6, fun r hr => by rw [hF _ _ _ (by unfold BKM; omega)]; exact b7 r hr⟩
theorem BKW.fx {q : EpS} {w : Nat} {M M' : EzM} {ch : Nat → Nat → Nat → Prop} (h : BKW q w M) (hF : FX ch M M') (hc : ¬ ch 50 0 w ∧ ¬ ch 51 0 w ∧ ¬ ch 53 0 w ∧ ¬ ch 54 0 w ∧ ∀ r, r < 10 → ¬ ch 55 0 (10 * w + r)) : BKW q w M' := ⟨by rw [hF _ _ _ hc.1]; exact h.1, by rw [hF _ _ _ hc.2.1]; exact h.2.1, by rw [hF _ _ _ hc.2.2.1]; exact h.2.2.1, by rw [hF _ _ _ hc.2.2.2.1]; exact h.2.2.2.1, fun r hr => by rw [hF _ _ _ (hc.2.2.2.2 r hr)]; exact h.2.2.2.2 r hr⟩
set_option maxRecDepth 20000 in
theorem lp_bkm55 (g : EzH) (d : Nat) {q : EpS} (M : EzM) (hd : 3 ≤ d) (hW : WF q) (hC : RM q M) (h1 : q.2.2.2.2.2.1 = 1) : ∀ (z : Nat) (t : Nat) (M1 : EzM), 10 * q.2.2.2.2.2.2.1 - t = z → t ≤ 10 * q.2.2.2.2.2.2.1 → M1.1 12 0 4 = nI q.2.2.2.2.2.2.2.2.1 → (∀ k, k < t → M1.1 47 0 k = nI (q.2.2.2.2.2.2.2.2.2.1 (k / 10) (k % 10))) → (∀ w, w < q.2.2.2.2.2.2.2.1 → BKW q w M1) → FX (BKM q.2.2.2.2.2.2.1 q.2.2.2.2.2.2.2.1) M M1 → Ez (true, g) mX12_back d 55 [(1, eI (nI t)), (0, eR 12 0)] [] M1 (fun r M' => r = some (eI (nI q.2.1.1)) ∧ RM (s_bk q) M' ∧ FX CM M M') := by
  intro z
  induction z using Nat.strongRecOn with
  | ind z ih =>
    intro t M1 hz ht hx hm hw hF
    have q8 := hW.2.1.1
    have q4 := hW.1.1
    obtain ⟨i1, i2, i3, i4, i5⟩ := hW.2.2.2.2.2.2 h1
    obtain ⟨c1, c2, c3, c4, c5⟩ := hC.2.2.2.2.2.1.2 h1
    refine ez_iload_n 56 dX12_back_55 rfl rfl ?_
    refine ez_bipush 58 dX12_back_56 rfl (nI 10) (by decide) ?_
    refine ez_aload_n 59 dX12_back_58 rfl rfl ?_
    refine ez_getf 62 (eI (M1.1 12 0 51)) dX12_back_59 rfl fl_X12_390 (by show 0 < 1; omega) rfl ?_
    refine ez_top (nI q.2.2.2.2.2.2.1) (by rw [hF _ _ _ (by unfold BKM; omega)]; exact c1) ?_
    refine ez_imul 63 dX12_back_62 rfl ?_
    refine ez_top (nI (10 * q.2.2.2.2.2.2.1)) (pk_mul _ _) ?_
    refine ez_ncmp_ge 66 84 dX12_back_63 rfl (by decide) (by omega) (by omega) (fun h63 => ?_) (fun h63 => ?_)
    · refine ez_aload_n 85 dX12_back_84 rfl rfl ?_
      refine ez_getf 88 (eI (M1.1 12 0 19)) dX12_back_85 rfl fl_X12_176 (by show 0 < 1; omega) rfl ?_
      refine ez_top (nI q.2.1.1) (by rw [hF _ _ _ (by unfold BKM; omega)]; exact hC.2.1.1) ?_
      refine ez_iret .int dX12_back_88 rfl rfl ?_
      exact ⟨rfl, RM_bk hW hC h1 hF hx (fun k hk => hm k (by omega)) hw⟩
    · refine ez_aload_n 67 dX12_back_66 rfl rfl ?_
      refine ez_getf 70 (eR 47 0) dX12_back_67 rfl fl_X12_29 (by show 0 < 1; omega) rfl ?_
      refine ez_iload_n 71 dX12_back_70 rfl rfl ?_
      refine ez_aload_n 72 dX12_back_71 rfl rfl ?_
      refine ez_getf 75 (eR 69 0) dX12_back_72 rfl fl_X12_96 (by show 0 < 1; omega) rfl ?_
      refine ez_iload_n 76 dX12_back_75 rfl rfl ?_
      refine ez_ialdN t 77 dX12_back_76 rfl (by decide) (by show 0 < 1; omega) (by show t < 40; omega) ?_
      refine ez_top (nI (q.2.2.2.2.2.2.2.2.2.1 (t / 10) (t % 10))) (by rw [hF _ _ _ (by unfold BKM; omega)]; have z9 := c4 (t / 10) (by omega) (t % 10) (by omega); rw [show 10 * (t / 10) + t % 10 = t by omega] at z9; exact z9) ?_
      refine ez_iastN t 78 dX12_back_77 rfl (by decide) (by show 0 < 1; omega) (by show t < 40; omega) ?_
      refine ez_iinc 81 (nI (t + 1)) [(1, eI (nI (t + 1))), (0, eR 12 0)] dX12_back_78 rfl rfl (nI_add t 1) (by decide) rfl ?_
      refine ez_goto 55 dX12_back_81 (by decide) ?_
      have F9 : FX (fun k i s => k = 47 ∧ s = t) M1 (ez_st M1 47 0 t (nI (q.2.2.2.2.2.2.2.2.2.1 (t / 10) (t % 10)))) := FX.rf.st (by omega)
      exact ih (10 * q.2.2.2.2.2.2.1 - (t + 1)) (by omega) (t + 1) _ rfl (by omega) (by rw [F9 _ _ _ (by omega)]; exact hx) (fun k hk => by
        rw [ez_rd]
        by_cases e : k = t
        · rw [if_pos ⟨rfl, rfl, e⟩, e]
        · rw [if_neg (by omega)]; exact hm k (by omega)) (fun w hw2 => (hw w hw2).fx F9 ⟨by omega, by omega, by omega, by omega, fun r hr => by omega⟩) (hF.tr (F9.up (fun k i s z => by unfold BKM; omega)))
set_option maxRecDepth 20000 in
theorem lp_bkm20 (g : EzH) (d : Nat) {q : EpS} (M : EzM) (hd : 3 ≤ d) (hW : WF q) (hC : RM q M) (h1 : q.2.2.2.2.2.1 = 1) : ∀ (z : Nat) (t : Nat) (M1 : EzM), q.2.2.2.2.2.2.2.1 - t = z → t ≤ q.2.2.2.2.2.2.2.1 → M1.1 12 0 4 = nI q.2.2.2.2.2.2.2.2.1 → (∀ w, w < t → BKW q w M1) → FX (BKM q.2.2.2.2.2.2.1 t) M M1 → Ez (true, g) mX12_back d 20 [(1, eI (nI t)), (0, eR 12 0)] [] M1 (fun r M' => r = some (eI (nI q.2.1.1)) ∧ RM (s_bk q) M' ∧ FX CM M M') := by
  intro z
  induction z using Nat.strongRecOn with
  | ind z ih =>
    intro t M1 hz ht hx hw hF
    have q8 := hW.2.1.1
    have q4 := hW.1.1
    obtain ⟨i1, i2, i3, i4, i5⟩ := hW.2.2.2.2.2.2 h1
    obtain ⟨c1, c2, c3, c4, c5⟩ := hC.2.2.2.2.2.1.2 h1
    refine ez_iload_n 21 dX12_back_20 rfl rfl ?_
    refine ez_aload_n 22 dX12_back_21 rfl rfl ?_
    refine ez_getf 25 (eI (M1.1 12 0 52)) dX12_back_22 rfl fl_X12_393 (by show 0 < 1; omega) rfl ?_
    refine ez_top (nI q.2.2.2.2.2.2.2.1) (by rw [hF _ _ _ (by unfold BKM; omega)]; exact c2) ?_
    refine ez_ncmp_ge 28 53 dX12_back_25 rfl (by decide) (by omega) (by omega) (fun h25 => ?_) (fun h25 => ?_)
    · refine ez_iconst 54 dX12_back_53 rfl (nI 0) (by decide) ?_
      refine ez_istore_n 55 [(1, eI (nI 0)), (0, eR 12 0)] dX12_back_54 rfl (by decide) rfl ?_
      have e9 : t = q.2.2.2.2.2.2.2.1 := by omega
      rw [e9] at hF
      exact lp_bkm55 g d M hd hW hC h1 _ 0 M1 rfl (by omega) hx (fun k hk => by omega) (fun w hw2 => hw w (by omega)) hF
    · obtain ⟨j0, j1, j2, j3, j4, j5, j6⟩ := i5 t h25
      obtain ⟨d0, d1, d2, d3, d4, d5, d6, d7⟩ := hC.2.1.2 t (by omega)
      obtain ⟨e1, e2, e3, e4, e5⟩ := c5 t h25
      have RW : RMW (q.2.1.2.1 t 0) (q.2.1.2.1 t 1) (q.2.1.2.1 t 4) (q.2.1.2.1 t 2, q.2.1.2.1 t 3, q.2.1.2.2.1 t, q.2.1.2.2.2.1 t, q.2.1.2.2.2.2 t, fun r => (M1.1 47 0 (10 * q.2.1.2.1 t 1 + r)).toBitVec.toNat) t M1 := ⟨by rw [hF _ _ _ (by unfold BKM; omega)]; exact d0, by rw [hF _ _ _ (by unfold BKM; omega)]; exact d1, by rw [hF _ _ _ (by unfold BKM; omega)]; exact d2, by rw [hF _ _ _ (by unfold BKM; omega)]; exact d3, by rw [hF _ _ _ (by unfold BKM; omega)]; exact d4, by rw [hF _ _ _ (by unfold BKM; omega)]; exact d5, by rw [hF _ _ _ (by unfold BKM; omega)]; exact d6, fun r hr => ⟨by rw [hF _ _ _ (by unfold BKM; omega)]; exact d7 r hr, er_any _⟩⟩
      have KT : KP 67 (23 * t) (q.2.2.2.2.2.2.2.2.2.2.1 t 2, q.2.2.2.2.2.2.2.2.2.2.1 t 3, q.2.2.2.2.2.2.2.2.2.2.2.1 t, q.2.2.2.2.2.2.2.2.2.2.2.2.1 t, q.2.2.2.2.2.2.2.2.2.2.2.2.2 t, fun r => (M1.1 67 0 (23 * t + 13 + r)).toBitVec.toNat) M1 := ⟨by rw [hF _ _ _ (by unfold BKM; omega)]; exact e1, by rw [hF _ _ _ (by unfold BKM; omega)]; exact e2, by rw [hF _ _ _ (by unfold BKM; omega)]; exact e3, fun r hr => ⟨by rw [hF _ _ _ (by unfold BKM; omega)]; exact e5 r hr, er_any _⟩⟩
      refine ez_aload_n 29 dX12_back_28 rfl rfl ?_
      refine ez_iload_n 30 dX12_back_29 rfl rfl ?_
      refine ez_aload_n 31 dX12_back_30 rfl rfl ?_
      refine ez_getf 34 (eR 67 0) dX12_back_31 rfl fl_X12_90 (by show 0 < 1; omega) rfl ?_
      refine ez_bipush 36 dX12_back_34 rfl (nI 23) (by decide) ?_
      refine ez_iload_n 37 dX12_back_36 rfl rfl ?_
      refine ez_imul 38 dX12_back_37 rfl ?_
      refine ez_top (nI (23 * t)) (pk_mul _ _) ?_
      refine ez_aload_n 39 dX12_back_38 rfl rfl ?_
      refine ez_getf 42 (eR 68 0) dX12_back_39 rfl fl_X12_93 (by show 0 < 1; omega) rfl ?_
      refine ez_iload_n 43 dX12_back_42 rfl rfl ?_
      refine ez_ialdN t 44 dX12_back_43 rfl (by decide) (by show 0 < 1; omega) (by show t < 8; omega) ?_
      refine ez_top (q.2.2.2.2.2.2.2.2.2.2.2.2.1 t) (by rw [hF _ _ _ (by unfold BKM; omega)]; exact (c5 t (by omega)).2.2.2.1) ?_
      refine ez_callV 47 [eI (nI t), eR 67 0, eI (nI (23 * t)), eI (q.2.2.2.2.2.2.2.2.2.2.2.2.1 t)] [] dX12_back_44 rfl rfl ok_X12_lays in_X12_lays (by decide) (by show 0 < 1; omega) ln_X12_369 (by omega) (Nat.le_of_ble_eq_true rfl) (c_lays_67 g (d - 1) (T := (q.2.2.2.2.2.2.2.2.2.2.1 t 2, q.2.2.2.2.2.2.2.2.2.2.1 t 3, q.2.2.2.2.2.2.2.2.2.2.2.1 t, q.2.2.2.2.2.2.2.2.2.2.2.2.1 t, q.2.2.2.2.2.2.2.2.2.2.2.2.2 t, fun r => (M1.1 67 0 (23 * t + 13 + r)).toBitVec.toNat)) (n := 10) t (23 * t) (q.2.2.2.2.2.2.2.2.2.2.2.2.1 t) M1 (by omega) (by omega) (by omega) RW KT (by omega)) (fun r44 M44 q44 => ?_)
      obtain ⟨rfl, R44, f44⟩ := q44
      show Ez (true, g) mX12_back d 47 [(1, eI (nI t)), (0, eR 12 0)] [] M44 _
      refine ez_iinc 50 (nI (t + 1)) [(1, eI (nI (t + 1))), (0, eR 12 0)] dX12_back_47 rfl rfl (nI_add t 1) (by decide) rfl ?_
      refine ez_goto 20 dX12_back_50 (by decide) ?_
      exact ih (q.2.2.2.2.2.2.2.1 - (t + 1)) (by omega) (t + 1) M44 rfl (by omega) (by rw [f44 _ _ _ (by unfold LF; omega)]; exact hx) (fun w hw2 => by
        by_cases e : w = t
        · subst e
          exact ⟨R44.2.2.1, R44.2.2.2.1, R44.2.2.2.2.2.1, R44.2.2.2.2.2.2.1, fun r hr => (R44.2.2.2.2.2.2.2 r hr).1⟩
        · exact (hw w (by omega)).fx f44 ⟨by unfold LF; omega, by unfold LF; omega, by unfold LF; omega, by unfold LF; omega, fun r hr => by unfold LF; omega⟩) ((hF.up (fun k i s z => by unfold BKM at z ⊢; omega)).tr (f44.up (fun k i s z => by unfold LF at z; unfold BKM; omega)))
set_option maxRecDepth 20000 in
theorem c_X12_back (g : EzH) (d : Nat) {q : EpS} (M : EzM) (hd : 3 ≤ d) (hW : WF q) (hC : RM q M) : Ezc (true, g) mX12_back d [eR 12 0] M (fun r M' => r = some (eI (S_back q).1) ∧ RM (S_back q).2 M' ∧ FX CM M M') := by
  refine Ezc.of (by decide +kernel) (Nat.le_of_ble_eq_true rfl) ?_
  have q8 := hW.2.1.1
  have q4 := hW.1.1
  have qx := hW.2.2.2.2.1
  have i2 := hW.2.2.2.2.2.1
  show Ez (true, g) mX12_back d 0 [(0, eR 12 0)] [] M _
  refine ez_aload_n 1 dX12_back_0 rfl rfl ?_
  refine ez_getf 4 (eI (M.1 12 0 50)) dX12_back_1 rfl fl_X12_387 (by show 0 < 1; omega) rfl ?_
  refine ez_top (nI q.2.2.2.2.2.1) hC.2.2.2.2.2.1.1 ?_
  refine ez_nif_ne 7 10 dX12_back_4 rfl (by decide) (by omega) (fun h4 => ?_) (fun h4 => ?_)
  · refine ez_aload_n 11 dX12_back_10 rfl rfl ?_
    refine ez_aload_n 12 dX12_back_11 rfl rfl ?_
    refine ez_getf 15 (eI (M.1 12 0 53)) dX12_back_12 rfl fl_X12_396 (by show 0 < 1; omega) rfl ?_
    refine ez_putf 18 .int dX12_back_15 rfl fp_X12_227 (by show 0 < 1; omega) rfl (by decide) rfl rfl ?_
    refine ez_iconst 19 dX12_back_18 rfl (nI 0) (by decide) ?_
    refine ez_istore_n 20 [(1, eI (nI 0)), (0, eR 12 0)] dX12_back_19 rfl (by decide) rfl ?_
    have h1 : q.2.2.2.2.2.1 = 1 := by have := hW.2.2.2.2.2.1; omega
    have eS : S_back q = (nI q.2.1.1, s_bk q) := by unfold S_back; rw [if_neg (by omega)]
    rw [eS]
    exact lp_bkm20 g d M hd hW hC h1 _ 0 _ rfl (by omega) (by simp [ez_rd]; exact (hC.2.2.2.2.2.1.2 h1).2.2.1) (fun m hm => by omega) (FX.rf.st (by unfold BKM; omega))
  · refine ez_bipush 9 dX12_back_7 rfl (-3) (by decide) ?_
    refine ez_iret .int dX12_back_9 rfl rfl ?_
    have eS : S_back q = (-3, q) := by unfold S_back; rw [if_pos h4]
    exact ⟨by rw [eS], by rw [eS]; exact hC, FX.rf⟩
