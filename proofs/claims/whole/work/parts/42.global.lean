/-! the whole state, and how class and model hold it -/
theorem RCm.fx {mc : Nat} {nr : Nat → Nat} {lt : Nat → Nat → Int32} {pb : Nat → Nat → Nat} {M M' : EzM} {ch : Nat → Nat → Nat → Prop} (h : RCm mc nr lt pb M) (hF : FX ch M M') (h4 : mc ≤ 4) (hc : ¬ ch 11 0 2 ∧ ∀ m, m < 4 → ¬ ch 1 m 0 ∧ ∀ x, ¬ ch 18 m x ∧ ¬ ch 19 m x ∧ ¬ ch 20 m x) : RCm mc nr lt pb M' := by
  refine ⟨by rw [hF _ _ _ hc.1]; exact h.1, fun m hm => ?_, fun m h1 h2 r hr => by rw [hF _ _ _ ((hc.2 m h2).2 r).2.2]; exact h.2.2 m h1 h2 r hr⟩
  obtain ⟨a1, a2, a3, a4⟩ := h.2.1 m hm
  obtain ⟨c1, c2⟩ := hc.2 m (by omega)
  exact ⟨by rw [hF _ _ _ c1]; exact a1, fun x hx => by rw [hF _ _ _ (c2 x).1]; exact a2 x hx, fun x hx => by rw [hF _ _ _ (c2 x).2.1]; exact a3 x hx, fun x hx => by rw [hF _ _ _ (c2 x).2.2]; exact a4 x hx⟩
theorem RMm.fx {mc : Nat} {nr : Nat → Nat} {lt : Nat → Nat → Int32} {pb : Nat → Nat → Nat} {M M' : EzM} {ch : Nat → Nat → Nat → Prop} (h : RMm mc nr lt pb M) (hF : FX ch M M') (hc : ¬ ch 12 0 10 ∧ ∀ x, ¬ ch 46 0 x ∧ ¬ ch 45 0 x ∧ ¬ ch 47 0 x) : RMm mc nr lt pb M' := by
  refine ⟨by rw [hF _ _ _ hc.1]; exact h.1, fun m hm => ?_⟩
  obtain ⟨a1, a2, a3⟩ := h.2 m hm
  exact ⟨by rw [hF _ _ _ (hc.2 m).1]; exact a1, fun x hx => by rw [hF _ _ _ (hc.2 _).2.1]; exact a2 x hx, fun x hx => by rw [hF _ _ _ (hc.2 _).2.2]; exact a3 x hx⟩
theorem RCw.fx {wc : Nat} {wn : Nat → Nat → Nat} {wb ws : Nat → Int32} {wg : Nat → Nat → Nat} {M M' : EzM} {ch : Nat → Nat → Nat → Prop} (h : RCw wc wn wb ws wg M) (hF : FX ch M M') (h8 : wc ≤ 8) (hc : ¬ ch 11 0 4 ∧ ∀ w, w < 8 → ∀ x, ¬ ch 10 w x ∧ ¬ ch 21 w x) : RCw wc wn wb ws wg M' := by
  refine ⟨by rw [hF _ _ _ hc.1]; exact h.1, fun w hw => ?_, fun w h1 h2 => ?_⟩
  · obtain ⟨a1, a2, a3, a4⟩ := h.2.1 w hw
    have c := hc.2 w (by omega)
    exact ⟨fun f hf => by rw [hF _ _ _ (c f).1]; exact a1 f hf, by rw [hF _ _ _ (c 5).1]; exact a2, by rw [hF _ _ _ (c 6).1]; exact a3, fun x hx => by rw [hF _ _ _ (c x).2]; exact a4 x hx⟩
  · obtain ⟨a1, a2, a3⟩ := h.2.2 w h1 h2
    have c := hc.2 w h2
    exact ⟨by rw [hF _ _ _ (c 3).1]; exact a1, by rw [hF _ _ _ (c 6).1]; exact a2, fun x hx => by rw [hF _ _ _ (c x).2]; exact a3 x hx⟩
theorem RMw.fx {wc : Nat} {wn : Nat → Nat → Nat} {wb ws : Nat → Int32} {wg : Nat → Nat → Nat} {M M' : EzM} {ch : Nat → Nat → Nat → Prop} (h : RMw wc wn wb ws wg M) (hF : FX ch M M') (hc : ¬ ch 12 0 19 ∧ ∀ x, ¬ ch 48 0 x ∧ ¬ ch 49 0 x ∧ ¬ ch 50 0 x ∧ ¬ ch 51 0 x ∧ ¬ ch 52 0 x ∧ ¬ ch 53 0 x ∧ ¬ ch 54 0 x ∧ ¬ ch 55 0 x) : RMw wc wn wb ws wg M' := by
  refine ⟨by rw [hF _ _ _ hc.1]; exact h.1, fun w hw => ?_⟩
  obtain ⟨a0, a1, a2, a3, a4, a5, a6, a7⟩ := h.2 w hw
  obtain ⟨c0, c1, c2, c3, c4, c5, c6, -⟩ := hc.2 w
  exact ⟨by rw [hF _ _ _ c0]; exact a0, by rw [hF _ _ _ c1]; exact a1, by rw [hF _ _ _ c2]; exact a2, by rw [hF _ _ _ c3]; exact a3, by rw [hF _ _ _ c4]; exact a4, by rw [hF _ _ _ c5]; exact a5, by rw [hF _ _ _ c6]; exact a6, fun r hr => by rw [hF _ _ _ (hc.2 _).2.2.2.2.2.2.2]; exact a7 r hr⟩
theorem RCs.fx {ss sn : Nat → Nat} {si : Nat → Nat → Int32} {M M' : EzM} {ch : Nat → Nat → Nat → Prop} (h : RCs ss sn si M) (hF : FX ch M M') (hc : ∀ i, i < 4 → ∀ s, ¬ ch 4 i s ∧ ¬ ch 22 i s) : RCs ss sn si M' := by
  intro s hs
  obtain ⟨a1, a2⟩ := h s hs
  have c := hc s hs
  refine ⟨fun q => by rw [hF _ _ _ (c 0).1]; exact a1 q, fun q => ?_⟩
  obtain ⟨b1, b2, b3⟩ := a2 q
  exact ⟨by rw [hF _ _ _ (c 0).1]; exact b1, by rw [hF _ _ _ (c 1).1]; exact b2, fun i hi => by rw [hF _ _ _ (c i).2]; exact b3 i hi⟩
theorem RMs.fx {ss sn : Nat → Nat} {si : Nat → Nat → Int32} {M M' : EzM} {ch : Nat → Nat → Nat → Prop} (h : RMs ss sn si M) (hF : FX ch M M') (hc : ∀ s, ¬ ch 70 0 s ∧ ¬ ch 71 0 s ∧ ¬ ch 72 0 s ∧ ¬ ch 73 0 s) : RMs ss sn si M' := by
  intro s hs
  obtain ⟨a1, a2⟩ := h s hs
  refine ⟨by rw [hF _ _ _ (hc s).1]; exact a1, fun q => ?_⟩
  obtain ⟨b1, b2, b3⟩ := a2 q
  exact ⟨by rw [hF _ _ _ (hc s).2.1]; exact b1, by rw [hF _ _ _ (hc s).2.2.1]; exact b2, fun i hi => by rw [hF _ _ _ (hc _).2.2.2]; exact b3 i hi⟩
/-- the image -/
abbrev EpIm : Type := Nat × Nat × Nat × Nat × (Nat → Nat → Nat) × (Nat → Nat → Nat) × (Nat → Int32) × (Nat → Int32) × (Nat → Nat → Nat)
def RCi (I : EpIm) (M : EzM) : Prop := M.1 0 0 0 = nI I.1 ∧ (I.1 = 1 → M.1 0 0 1 = nI I.2.1 ∧ M.1 0 0 2 = nI I.2.2.1 ∧ M.1 0 0 3 = nI I.2.2.2.1 ∧ (∀ m, m < I.2.1 → ∀ r, r < 10 → M.1 20 (5 + m) r = nI (I.2.2.2.2.1 m r)) ∧ ∀ w, w < I.2.2.1 → (∀ f, f < 5 → M.1 10 (8 + w) f = nI (I.2.2.2.2.2.1 w f)) ∧ M.1 10 (8 + w) 5 = I.2.2.2.2.2.2.1 w ∧ M.1 10 (8 + w) 6 = I.2.2.2.2.2.2.2.1 w ∧ ∀ r, r < 10 → M.1 21 (8 + w) r = nI (I.2.2.2.2.2.2.2.2 w r))
def RMi (I : EpIm) (M : EzM) : Prop := M.1 12 0 50 = nI I.1 ∧ (I.1 = 1 → M.1 12 0 51 = nI I.2.1 ∧ M.1 12 0 52 = nI I.2.2.1 ∧ M.1 12 0 53 = nI I.2.2.2.1 ∧ (∀ m, m < I.2.1 → ∀ r, r < 10 → M.1 69 0 (10 * m + r) = nI (I.2.2.2.2.1 m r)) ∧ ∀ w, w < I.2.2.1 → M.1 67 0 (23 * w) = nI (I.2.2.2.2.2.1 w 2) ∧ M.1 67 0 (23 * w + 1) = nI (I.2.2.2.2.2.1 w 3) ∧ M.1 67 0 (23 * w + 2) = I.2.2.2.2.2.2.1 w ∧ M.1 68 0 w = I.2.2.2.2.2.2.2.1 w ∧ ∀ r, r < 10 → M.1 67 0 (23 * w + 3 + r) = nI (I.2.2.2.2.2.2.2.2 w r))
def WFi (mc : Nat) (nr : Nat → Nat) (wc : Nat) (wn : Nat → Nat → Nat) (xc : Nat) (I : EpIm) : Prop := I.1 < 2 ∧ (I.1 = 1 → I.2.1 ≤ mc ∧ I.2.2.1 ≤ wc ∧ I.2.2.2.1 < xc ∧ (∀ m, m < I.2.1 → ∀ r, r < 10 → I.2.2.2.2.1 m r ≤ 99) ∧ ∀ w, w < I.2.2.1 → I.2.2.2.2.2.1 w 0 = wn w 0 ∧ I.2.2.2.2.2.1 w 1 = wn w 1 ∧ I.2.2.2.2.2.1 w 4 = wn w 4 ∧ wn w 1 < I.2.1 ∧ I.2.2.2.2.2.1 w 2 < nr (wn w 1) ∧ I.2.2.2.2.2.1 w 3 < 4 ∧ ∀ r, r < 10 → I.2.2.2.2.2.2.2.2 w r < 16)
theorem RCi.fx {I : EpIm} {M M' : EzM} {ch : Nat → Nat → Nat → Prop} (h : RCi I M) (hF : FX ch M M') (hi : I.1 = 1 → I.2.1 ≤ 4 ∧ I.2.2.1 ≤ 8) (hc : (∀ s, s < 4 → ¬ ch 0 0 s) ∧ (∀ i, 5 ≤ i → i < 9 → ∀ s, ¬ ch 20 i s) ∧ ∀ i, 8 ≤ i → i < 16 → ∀ s, ¬ ch 10 i s ∧ ¬ ch 21 i s) : RCi I M' := by
  refine ⟨by rw [hF _ _ _ (hc.1 0 (by omega))]; exact h.1, fun q => ?_⟩
  obtain ⟨i1, i2⟩ := hi q
  obtain ⟨a1, a2, a3, a4, a5⟩ := h.2 q
  refine ⟨by rw [hF _ _ _ (hc.1 1 (by omega))]; exact a1, by rw [hF _ _ _ (hc.1 2 (by omega))]; exact a2, by rw [hF _ _ _ (hc.1 3 (by omega))]; exact a3, fun m hm r hr => by rw [hF _ _ _ (hc.2.1 (5 + m) (by omega) (by omega) r)]; exact a4 m hm r hr, fun w hw => ?_⟩
  obtain ⟨b1, b2, b3, b4⟩ := a5 w hw
  have c := hc.2.2 (8 + w) (by omega) (by omega)
  exact ⟨fun f hf => by rw [hF _ _ _ (c f).1]; exact b1 f hf, by rw [hF _ _ _ (c 5).1]; exact b2, by rw [hF _ _ _ (c 6).1]; exact b3, fun r hr => by rw [hF _ _ _ (c r).2]; exact b4 r hr⟩
theorem RMi.fx {I : EpIm} {M M' : EzM} {ch : Nat → Nat → Nat → Prop} (h : RMi I M) (hF : FX ch M M') (hc : (∀ s, 50 ≤ s → s < 54 → ¬ ch 12 0 s) ∧ ∀ s, ¬ ch 67 0 s ∧ ¬ ch 68 0 s ∧ ¬ ch 69 0 s) : RMi I M' := by
  refine ⟨by rw [hF _ _ _ (hc.1 50 (by omega) (by omega))]; exact h.1, fun q => ?_⟩
  obtain ⟨a1, a2, a3, a4, a5⟩ := h.2 q
  refine ⟨by rw [hF _ _ _ (hc.1 51 (by omega) (by omega))]; exact a1, by rw [hF _ _ _ (hc.1 52 (by omega) (by omega))]; exact a2, by rw [hF _ _ _ (hc.1 53 (by omega) (by omega))]; exact a3, fun m hm r hr => by rw [hF _ _ _ (hc.2 _).2.2]; exact a4 m hm r hr, fun w hw => ?_⟩
  obtain ⟨b1, b2, b3, b4, b5⟩ := a5 w hw
  exact ⟨by rw [hF _ _ _ (hc.2 _).1]; exact b1, by rw [hF _ _ _ (hc.2 _).1]; exact b2, by rw [hF _ _ _ (hc.2 _).1]; exact b3, by rw [hF _ _ _ (hc.2 _).2.1]; exact b4, fun r hr => by rw [hF _ _ _ (hc.2 _).1]; exact b5 r hr⟩
/-- all of it -/
abbrev EpMz : Type := Nat × (Nat → Nat) × (Nat → Nat → Int32) × (Nat → Nat → Nat)
abbrev EpWa : Type := Nat × (Nat → Nat → Nat) × (Nat → Int32) × (Nat → Int32) × (Nat → Nat → Nat)
abbrev EpSt : Type := (Nat → Nat) × (Nat → Nat) × (Nat → Nat → Int32)
abbrev EpXs : Type := Nat × Nat × (Nat → EpF)
abbrev EpS : Type := EpMz × EpWa × (Nat × (Nat → Nat)) × EpSt × EpXs × EpIm
def RCM (z : EpMz) (M : EzM) : Prop := RCm z.1 z.2.1 z.2.2.1 z.2.2.2 M
def RMM (z : EpMz) (M : EzM) : Prop := RMm z.1 z.2.1 z.2.2.1 z.2.2.2 M
def RCA (z : EpWa) (M : EzM) : Prop := RCw z.1 z.2.1 z.2.2.1 z.2.2.2.1 z.2.2.2.2 M
def RMA (z : EpWa) (M : EzM) : Prop := RMw z.1 z.2.1 z.2.2.1 z.2.2.2.1 z.2.2.2.2 M
def WF (q : EpS) : Prop := WFm q.1.1 q.1.2.1 q.1.2.2.1 q.1.2.2.2 ∧ WFw q.1.1 q.1.2.1 q.2.1.1 q.2.1.2.1 q.2.1.2.2.2.2 ∧ WFt q.2.2.1.1 q.2.2.1.2 ∧ WFs q.2.2.2.1.1 q.2.2.2.1.2.1 ∧ WFx q.2.2.2.2.1.1 q.2.2.2.2.1.2.1 q.2.2.2.2.1.2.2 ∧ WFi q.1.1 q.1.2.1 q.2.1.1 q.2.1.2.1 q.2.2.2.2.1.1 q.2.2.2.2.2
def RC (q : EpS) (M : EzM) : Prop := RCM q.1 M ∧ RCA q.2.1 M ∧ RCt q.2.2.1.1 q.2.2.1.2 M ∧ RCs q.2.2.2.1.1 q.2.2.2.1.2.1 q.2.2.2.1.2.2 M ∧ RCx q.2.2.2.2.1.1 q.2.2.2.2.1.2.1 q.2.2.2.2.1.2.2 M ∧ RCi q.2.2.2.2.2 M ∧ M.1 5 0 2 = nI 0
def RM (q : EpS) (M : EzM) : Prop := RMM q.1 M ∧ RMA q.2.1 M ∧ RMt q.2.2.1.1 q.2.2.1.2 M ∧ RMs q.2.2.2.1.1 q.2.2.2.1.2.1 q.2.2.2.1.2.2 M ∧ RMx q.2.2.2.2.1.1 q.2.2.2.2.1.2.1 q.2.2.2.2.1.2.2 M ∧ RMi q.2.2.2.2.2 M ∧ M.1 12 0 20 = nI 0
/-- what the class's calls may change, and the model's -/
def CC (k _ _ : Nat) : Prop := k < 12 ∨ (13 ≤ k ∧ k < 42)
def CM (k _ _ : Nat) : Prop := k = 12 ∨ 42 ≤ k
theorem RM.cc {q : EpS} {M M' : EzM} (h : RM q M) (hF : FX CC M M') : RM q M' := by
  obtain ⟨a1, a2, a3, a4, a5, a6, a7⟩ := h
  have n : ∀ k i s, k = 12 ∨ 42 ≤ k → ¬ CC k i s := fun k i s z => by unfold CC; omega
  exact ⟨RMm.fx a1 hF ⟨n _ _ _ (by omega), fun x => ⟨n _ _ _ (by omega), n _ _ _ (by omega), n _ _ _ (by omega)⟩⟩, RMw.fx a2 hF ⟨n _ _ _ (by omega), fun x => ⟨n _ _ _ (by omega), n _ _ _ (by omega), n _ _ _ (by omega), n _ _ _ (by omega), n _ _ _ (by omega), n _ _ _ (by omega), n _ _ _ (by omega), n _ _ _ (by omega)⟩⟩, RMt.fx a3 hF ⟨n _ _ _ (by omega), fun i => n _ _ _ (by omega)⟩, RMs.fx a4 hF (fun s => ⟨n _ _ _ (by omega), n _ _ _ (by omega), n _ _ _ (by omega), n _ _ _ (by omega)⟩), RMx.fx a5 hF ⟨n _ _ _ (by omega), n _ _ _ (by omega), fun x hx => ⟨n _ _ _ (by omega), fun i hi => n _ _ _ (by omega)⟩⟩, RMi.fx a6 hF ⟨fun s _ _ => n _ _ _ (by omega), fun s => ⟨n _ _ _ (by omega), n _ _ _ (by omega), n _ _ _ (by omega)⟩⟩, by rw [hF _ _ _ (n _ _ _ (by omega))]; exact a7⟩
theorem RC.cm {q : EpS} {M M' : EzM} (hW : WF q) (h : RC q M) (hF : FX CM M M') : RC q M' := by
  obtain ⟨a1, a2, a3, a4, a5, a6, a7⟩ := h
  obtain ⟨w1, w2, w3, w4, w5, w6⟩ := hW
  have n : ∀ k i s, k < 12 ∨ (13 ≤ k ∧ k < 42) → ¬ CM k i s := fun k i s z => by unfold CM; omega
  have h4 := w1.1
  have h8 := w2.1
  exact ⟨RCm.fx a1 hF h4 ⟨n _ _ _ (by omega), fun m _ => ⟨n _ _ _ (by omega), fun x => ⟨n _ _ _ (by omega), n _ _ _ (by omega), n _ _ _ (by omega)⟩⟩⟩, RCw.fx a2 hF h8 ⟨n _ _ _ (by omega), fun w _ x => ⟨n _ _ _ (by omega), n _ _ _ (by omega)⟩⟩, RCt.fx a3 hF ⟨n _ _ _ (by omega), fun i => n _ _ _ (by omega)⟩, RCs.fx a4 hF (fun i _ s => ⟨n _ _ _ (by omega), n _ _ _ (by omega)⟩), RCx.fx a5 hF w5.2.1 ⟨n _ _ _ (by omega), n _ _ _ (by omega), fun i s _ => ⟨n _ _ _ (by omega), n _ _ _ (by omega)⟩⟩, RCi.fx a6 hF (fun q => ⟨by have := (w6.2 q).1; omega, by have := (w6.2 q).2.1; omega⟩) ⟨fun s _ => n _ _ _ (by omega), fun i _ _ s => n _ _ _ (by omega), fun i _ _ s => ⟨n _ _ _ (by omega), n _ _ _ (by omega)⟩⟩, by rw [hF _ _ _ (n _ _ _ (by omega))]; exact a7⟩
/-- one walker's state, taken out and put back -/
def s_get (z : EpMz) (a : EpWa) (w : Nat) : EpW := (a.2.1 w 2, a.2.1 w 3, a.2.2.1 w, a.2.2.2.1 w, a.2.2.2.2 w, z.2.2.2 (a.2.1 w 1))
def s_putM (z : EpMz) (a : EpWa) (w : Nat) (S : EpW) : EpMz := (z.1, z.2.1, z.2.2.1, va_up z.2.2.2 (a.2.1 w 1) S.2.2.2.2.2)
def s_putA (a : EpWa) (w : Nat) (S : EpW) : EpWa := (a.1, va_up a.2.1 w (fun f => if f = 2 then S.1 else if f = 3 then S.2.1 else a.2.1 w f), va_up a.2.2.1 w S.2.2.1, va_up a.2.2.2.1 w S.2.2.2.1, va_up a.2.2.2.2 w S.2.2.2.2.1)
theorem g_WFz {mc : Nat} {nr : Nat → Nat} {lt : Nat → Nat → Int32} {pb : Nat → Nat → Nat} (h : WFm mc nr lt pb) {m : Nat} (hm : m < mc) : WFz (nr m) (lt m) := by
  obtain ⟨a1, a2, a3, -⟩ := h.2 m hm
  exact ⟨a1, a2, a3⟩
theorem g_WFS {q : EpS} (h : WF q) {w : Nat} (hw : w < q.2.1.1) : WFS (q.1.2.1 (q.2.1.2.1 w 1)) (s_get q.1 q.2.1 w) := by
  obtain ⟨b0, b1, b2, b3, b4, b5⟩ := h.2.1.2 w hw
  exact ⟨b2, b3, fun r hr => ⟨b5 r hr, (h.1.2 _ b1).2.2.2 r hr⟩⟩
theorem g_RCz {z : EpMz} {M : EzM} (h : RCM z M) {m : Nat} (hm : m < z.1) : RCz m (z.2.1 m) (z.2.2.1 m) M := by
  obtain ⟨a1, a2, a3, -⟩ := h.2.1 m hm
  exact ⟨a1, a2, a3⟩
theorem g_RMz {z : EpMz} {M : EzM} (h : RMM z M) {m : Nat} (hm : m < z.1) : RMz m (z.2.1 m) (z.2.2.1 m) M := by
  obtain ⟨a1, a2, -⟩ := h.2 m hm
  exact ⟨a1, a2⟩
theorem g_RCW {z : EpMz} {a : EpWa} {M : EzM} (hz : RCM z M) (ha : RCA a M) {w : Nat} (hw : w < a.1) (hm : a.2.1 w 1 < z.1) : RCW (a.2.1 w 0) (a.2.1 w 1) (a.2.1 w 4) (s_get z a w) w (a.2.1 w 1) M := by
  obtain ⟨b1, b2, b3, b4⟩ := ha.2.1 w hw
  obtain ⟨c1, c2, c3, c4⟩ := hz.2.1 _ hm
  exact ⟨b1 0 (by omega), b1 1 (by omega), b1 2 (by omega), b1 3 (by omega), b1 4 (by omega), b2, b3, fun r hr => ⟨b4 r hr, c4 r hr⟩⟩
theorem g_RMW {z : EpMz} {a : EpWa} {M : EzM} (hz : RMM z M) (ha : RMA a M) {w : Nat} (hw : w < a.1) (hm : a.2.1 w 1 < z.1) : RMW (a.2.1 w 0) (a.2.1 w 1) (a.2.1 w 4) (s_get z a w) w M := by
  obtain ⟨b0, b1, b2, b3, b4, b5, b6, b7⟩ := ha.2 w hw
  obtain ⟨c1, c2, c3⟩ := hz.2 _ hm
  exact ⟨b0, b1, b2, b3, b4, b5, b6, fun r hr => ⟨b7 r hr, c3 r hr⟩⟩
theorem va_upf {α : Type} (f : Nat → Nat → α) (k : Nat) (g : Nat → α) (j x : Nat) : va_up f k g j x = if j = k then g x else f j x := by
  unfold va_up
  split <;> rfl
/-- the class's walker put back -/
theorem p_RCA {a : EpWa} {M M' : EzM} {kind mz num w pi : Nat} {S : EpW} {ch : Nat → Nat → Nat → Prop} (ha : RCA a M) (h8 : a.1 ≤ 8) (hw : w < a.1) (hR : RCW kind mz num S w pi M') (h0 : a.2.1 w 0 = kind) (h1 : a.2.1 w 1 = mz) (h4 : a.2.1 w 4 = num) (hF : FX ch M M') (hc : ¬ ch 11 0 4 ∧ ∀ v, v < 8 → v ≠ w → ∀ x, ¬ ch 10 v x ∧ ¬ ch 21 v x) : RCA (s_putA a w S) M' := by
  refine ⟨by rw [hF _ _ _ hc.1]; exact ha.1, fun v hv => ?_, fun v h2 h3 => ?_⟩
  · by_cases e : v = w
    · subst e
      obtain ⟨b0, b1, b2, b3, b4, b5, b6, b7⟩ := hR
      refine ⟨fun f hf => ?_, ?_, ?_, fun r hr => ?_⟩
      · show _ = nI (va_up a.2.1 v _ v f)
        rw [va_up_self]
        rcases (show f = 0 ∨ f = 1 ∨ f = 2 ∨ f = 3 ∨ f = 4 by omega) with rfl | rfl | rfl | rfl | rfl
        · simp [b0, h0]
        · simp [b1, h1]
        · simp [b2]
        · simp [b3]
        · simp [b4, h4]
      · show _ = va_up a.2.2.1 v _ v; rw [va_up_self]; exact b5
      · show _ = va_up a.2.2.2.1 v _ v; rw [va_up_self]; exact b6
      · show _ = nI (va_up a.2.2.2.2 v _ v r); rw [va_up_self]; exact (b7 r hr).1
    · obtain ⟨b1, b2, b3, b4⟩ := ha.2.1 v hv
      have hv' : v < a.1 := hv
      have c := hc.2 v (by omega) e
      refine ⟨fun f hf => ?_, ?_, ?_, fun r hr => ?_⟩
      · show _ = nI (va_up a.2.1 w _ v f); rw [va_up_ne _ _ e, hF _ _ _ (c f).1]; exact b1 f hf
      · show _ = va_up a.2.2.1 w _ v; rw [va_up_ne _ _ e, hF _ _ _ (c 5).1]; exact b2
      · show _ = va_up a.2.2.2.1 w _ v; rw [va_up_ne _ _ e, hF _ _ _ (c 6).1]; exact b3
      · show _ = nI (va_up a.2.2.2.2 w _ v r); rw [va_up_ne _ _ e, hF _ _ _ (c r).2]; exact b4 r hr
  · obtain ⟨b1, b2, b3⟩ := ha.2.2 v h2 h3
    have h2' : a.1 ≤ v := h2
    have c := hc.2 v h3 (by omega)
    exact ⟨by rw [hF _ _ _ (c 3).1]; exact b1, by rw [hF _ _ _ (c 6).1]; exact b2, fun r hr => by rw [hF _ _ _ (c r).2]; exact b3 r hr⟩
theorem p_RCM {z : EpMz} {a : EpWa} {M M' : EzM} {kind num w wi : Nat} {S : EpW} {ch : Nat → Nat → Nat → Prop} (hz : RCM z M) (h4 : z.1 ≤ 4) (hm : a.2.1 w 1 < z.1) (hR : RCW kind (a.2.1 w 1) num S wi (a.2.1 w 1) M') (hF : FX ch M M') (hc : ¬ ch 11 0 2 ∧ ∀ m, m < 4 → ¬ ch 1 m 0 ∧ ∀ x, ¬ ch 18 m x ∧ ¬ ch 19 m x ∧ (m ≠ a.2.1 w 1 → ¬ ch 20 m x)) : RCM (s_putM z a w S) M' := by
  refine ⟨by rw [hF _ _ _ hc.1]; exact hz.1, fun m hm2 => ?_, fun m h1 h2 r hr => ?_⟩
  · have hm2' : m < z.1 := hm2
    obtain ⟨a1, a2, a3, a4⟩ := hz.2.1 m hm2
    obtain ⟨c1, c2⟩ := hc.2 m (by omega)
    refine ⟨by rw [hF _ _ _ c1]; exact a1, fun x hx => by rw [hF _ _ _ (c2 x).1]; exact a2 x hx, fun x hx => by rw [hF _ _ _ (c2 x).2.1]; exact a3 x hx, fun r hr => ?_⟩
    show _ = nI (va_up z.2.2.2 (a.2.1 w 1) _ m r)
    by_cases e : m = a.2.1 w 1
    · rw [e, va_up_self]; exact (hR.2.2.2.2.2.2.2 r hr).2
    · rw [va_up_ne _ _ e, hF _ _ _ ((c2 r).2.2 e)]; exact a4 r hr
  · have h1' : z.1 ≤ m := h1
    rw [hF _ _ _ (((hc.2 m h2).2 r).2.2 (by omega))]; exact hz.2.2 m h1 h2 r hr
theorem p_RMA {a : EpWa} {M M' : EzM} {kind mz num w : Nat} {S : EpW} {ch : Nat → Nat → Nat → Prop} (ha : RMA a M) (hw : w < a.1) (hR : RMW kind mz num S w M') (h0 : a.2.1 w 0 = kind) (h1 : a.2.1 w 1 = mz) (h4 : a.2.1 w 4 = num) (hF : FX ch M M') (hc : ¬ ch 12 0 19 ∧ ∀ v, v ≠ w → ¬ ch 48 0 v ∧ ¬ ch 49 0 v ∧ ¬ ch 50 0 v ∧ ¬ ch 51 0 v ∧ ¬ ch 52 0 v ∧ ¬ ch 53 0 v ∧ ¬ ch 54 0 v ∧ ∀ r, r < 10 → ¬ ch 55 0 (10 * v + r)) : RMA (s_putA a w S) M' := by
  refine ⟨by rw [hF _ _ _ hc.1]; exact ha.1, fun v hv => ?_⟩
  by_cases e : v = w
  · subst e
    obtain ⟨b0, b1, b2, b3, b4, b5, b6, b7⟩ := hR
    refine ⟨?_, ?_, ?_, ?_, ?_, ?_, ?_, fun r hr => ?_⟩
    · show _ = nI (va_up a.2.1 v _ v 0); rw [va_up_self]; simp [b0, h0]
    · show _ = nI (va_up a.2.1 v _ v 1); rw [va_up_self]; simp [b1, h1]
    · show _ = nI (va_up a.2.1 v _ v 2); rw [va_up_self]; simp [b2]
    · show _ = nI (va_up a.2.1 v _ v 3); rw [va_up_self]; simp [b3]
    · show _ = nI (va_up a.2.1 v _ v 4); rw [va_up_self]; simp [b4, h4]
    · show _ = va_up a.2.2.1 v _ v; rw [va_up_self]; exact b5
    · show _ = va_up a.2.2.2.1 v _ v; rw [va_up_self]; exact b6
    · show _ = nI (va_up a.2.2.2.2 v _ v r); rw [va_up_self]; exact (b7 r hr).1
  · obtain ⟨b0, b1, b2, b3, b4, b5, b6, b7⟩ := ha.2 v hv
    obtain ⟨c0, c1, c2, c3, c4, c5, c6, c7⟩ := hc.2 v e
    refine ⟨?_, ?_, ?_, ?_, ?_, ?_, ?_, fun r hr => ?_⟩
    · show _ = nI (va_up a.2.1 w _ v 0); rw [va_up_ne _ _ e, hF _ _ _ c0]; exact b0
    · show _ = nI (va_up a.2.1 w _ v 1); rw [va_up_ne _ _ e, hF _ _ _ c1]; exact b1
    · show _ = nI (va_up a.2.1 w _ v 2); rw [va_up_ne _ _ e, hF _ _ _ c2]; exact b2
    · show _ = nI (va_up a.2.1 w _ v 3); rw [va_up_ne _ _ e, hF _ _ _ c3]; exact b3
    · show _ = nI (va_up a.2.1 w _ v 4); rw [va_up_ne _ _ e, hF _ _ _ c4]; exact b4
    · show _ = va_up a.2.2.1 w _ v; rw [va_up_ne _ _ e, hF _ _ _ c5]; exact b5
    · show _ = va_up a.2.2.2.1 w _ v; rw [va_up_ne _ _ e, hF _ _ _ c6]; exact b6
    · show _ = nI (va_up a.2.2.2.2 w _ v r); rw [va_up_ne _ _ e, hF _ _ _ (c7 r hr)]; exact b7 r hr
theorem p_RMM {z : EpMz} {a : EpWa} {M M' : EzM} {kind num w : Nat} {S : EpW} {ch : Nat → Nat → Nat → Prop} (hz : RMM z M) (hm : a.2.1 w 1 < z.1) (hR : RMW kind (a.2.1 w 1) num S w M') (hF : FX ch M M') (hc : ¬ ch 12 0 10 ∧ ∀ x, ¬ ch 46 0 x ∧ ¬ ch 45 0 x ∧ ((x < 10 * a.2.1 w 1 ∨ 10 * a.2.1 w 1 + 10 ≤ x) → ¬ ch 47 0 x)) : RMM (s_putM z a w S) M' := by
  refine ⟨by rw [hF _ _ _ hc.1]; exact hz.1, fun m hm2 => ?_⟩
  obtain ⟨a1, a2, a3⟩ := hz.2 m hm2
  refine ⟨by rw [hF _ _ _ (hc.2 m).1]; exact a1, fun x hx => by rw [hF _ _ _ (hc.2 _).2.1]; exact a2 x hx, fun r hr => ?_⟩
  show _ = nI (va_up z.2.2.2 (a.2.1 w 1) _ m r)
  by_cases e : m = a.2.1 w 1
  · rw [e, va_up_self]; exact (hR.2.2.2.2.2.2.2 r hr).2
  · rw [va_up_ne _ _ e, hF _ _ _ ((hc.2 _).2.2 (by omega))]; exact a3 r hr
/-- a walker's new state keeps all in order -/
theorem p_WF {q : EpS} {w : Nat} {S : EpW} (h : WF q) (hw : w < q.2.1.1) (hS : WFS (q.1.2.1 (q.2.1.2.1 w 1)) S) : WF (s_putM q.1 q.2.1 w S, s_putA q.2.1 w S, q.2.2) := by
  obtain ⟨w1, w2, w3, w4, w5, w6⟩ := h
  refine ⟨⟨w1.1, fun m hm => ?_⟩, ⟨w2.1, fun v hv => ?_⟩, w3, w4, w5, ⟨w6.1, fun hq => ?_⟩⟩
  · obtain ⟨a1, a2, a3, a4⟩ := w1.2 m hm
    refine ⟨a1, a2, a3, fun r hr => ?_⟩
    show va_up q.1.2.2.2 _ _ m r ≤ 99
    by_cases e : m = q.2.1.2.1 w 1
    · rw [e, va_up_self]; exact (hS.2.2 r hr).2
    · rw [va_up_ne _ _ e]; exact a4 r hr
  · obtain ⟨b0, b1, b2, b3, b4, b5⟩ := w2.2 v hv
    by_cases e : v = w
    · subst e
      show va_up q.2.1.2.1 v _ v 0 < 6 ∧ va_up q.2.1.2.1 v _ v 1 < _ ∧ va_up q.2.1.2.1 v _ v 2 < q.1.2.1 (va_up q.2.1.2.1 v _ v 1) ∧ va_up q.2.1.2.1 v _ v 3 < 4 ∧ va_up q.2.1.2.1 v _ v 4 ≤ 9 ∧ ∀ r, r < 10 → va_up q.2.1.2.2.2.2 v _ v r < 16
      rw [va_up_self, va_up_self]
      exact ⟨b0, b1, hS.1, hS.2.1, b4, fun r hr => (hS.2.2 r hr).1⟩
    · show va_up q.2.1.2.1 w _ v 0 < 6 ∧ va_up q.2.1.2.1 w _ v 1 < _ ∧ va_up q.2.1.2.1 w _ v 2 < q.1.2.1 (va_up q.2.1.2.1 w _ v 1) ∧ va_up q.2.1.2.1 w _ v 3 < 4 ∧ va_up q.2.1.2.1 w _ v 4 ≤ 9 ∧ ∀ r, r < 10 → va_up q.2.1.2.2.2.2 w _ v r < 16
      rw [va_up_ne _ _ e, va_up_ne _ _ e]
      exact ⟨b0, b1, b2, b3, b4, b5⟩
  · obtain ⟨i1, i2, i3, i4, i5⟩ := w6.2 hq
    refine ⟨i1, i2, i3, i4, fun v hv => ?_⟩
    obtain ⟨j0, j1, j2, j3⟩ := i5 v hv
    by_cases e : v = w
    · subst e
      show _ = va_up q.2.1.2.1 v _ v 0 ∧ _ = va_up q.2.1.2.1 v _ v 1 ∧ _ = va_up q.2.1.2.1 v _ v 4 ∧ va_up q.2.1.2.1 v _ v 1 < _ ∧ _ < q.1.2.1 (va_up q.2.1.2.1 v _ v 1) ∧ _
      rw [va_up_self]
      exact ⟨j0, j1, j2, j3⟩
    · show _ = va_up q.2.1.2.1 w _ v 0 ∧ _ = va_up q.2.1.2.1 w _ v 1 ∧ _ = va_up q.2.1.2.1 w _ v 4 ∧ va_up q.2.1.2.1 w _ v 1 < _ ∧ _ < q.1.2.1 (va_up q.2.1.2.1 w _ v 1) ∧ _
      rw [va_up_ne _ _ e]
      exact ⟨j0, j1, j2, j3⟩
