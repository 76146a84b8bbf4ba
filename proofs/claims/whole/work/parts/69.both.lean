/-! every operation: one answer, one next state, for the class and for the model -/
def BOTH (a b : EzY) (vs : List EzV) (q : EpS) : Prop := ∃ (r : Int32) (q2 : EpS), WF q2 ∧ (∀ (G : EzG) (d : Nat) (M : EzM), 70 ≤ d → RC q M → Ezc G a d (eR 11 0 :: vs) M (fun x M' => x = some (eI r) ∧ RC q2 M' ∧ FX CC M M')) ∧ (∀ (g : EzH) (d : Nat) (M : EzM), 70 ≤ d → RM q M → Ezc (true, g) b d (eR 12 0 :: vs) M (fun x M' => x = some (eI r) ∧ RM q2 M' ∧ FX CM M M'))
theorem WF_pb {q : EpS} (h : WF q) (x y z : Int32) : WF (S_pb q x y z).2 := by
  unfold S_pb
  split
  · exact h
  · rename_i m hm
    split
    · exact h
    · rename_i r hr
      split
      · exact h
      · rename_i c hc
        have c1 := ep_ix_in hc
        obtain ⟨h1, h2, h3, h4, h5, h6⟩ := h
        refine ⟨⟨h1.1, fun m2 hm2 => ?_⟩, h2, h3, h4, h5, h6⟩
        obtain ⟨g1, g2, g3, g4⟩ := h1.2 m2 hm2
        refine ⟨g1, g2, g3, fun r2 hr2 => ?_⟩
        show (if m2 = m ∧ r2 = r then c else _) ≤ 99
        split
        · omega
        · exact g4 r2 hr2
theorem WF_sh {q : EpS} {ss sn : Nat → Nat} {si : Nat → Nat → Int32} (h : WF q) (hs : WFs ss sn) : WF (q.1, q.2.1, q.2.2.1, (ss, sn, si), q.2.2.2.2) := ⟨h.1, h.2.1, h.2.2.1, hs, h.2.2.2.2⟩
theorem WFs_sheet {ss sn : Nat → Nat} {si : Nat → Nat → Int32} (h : WFs ss sn) (x y z : Int32) : WFs (S_sheet ss sn si x y z).2.1 (S_sheet ss sn si x y z).2.2.1 := by
  unfold S_sheet
  split
  · exact h
  · rename_i s hs
    split
    · intro t ht
      show va_up ss s 0 t ≤ 3 ∧ (0 < va_up ss s 0 t → sn t ≤ 40)
      by_cases e : t = s
      · rw [e, va_up_self]; exact ⟨by omega, fun z => by omega⟩
      · rw [va_up_ne _ _ e]; exact h t ht
    · split
      · exact h
      · rename_i o ho
        have o1 := ep_ix_in ho
        split
        · exact h
        · rename_i z1
          split
          · exact h
          · rename_i z2
            intro t ht
            show va_up ss s (o + 1) t ≤ 3 ∧ (0 < va_up ss s (o + 1) t → va_up sn s z.toNatClampNeg t ≤ 40)
            by_cases e : t = s
            · rw [e, va_up_self, va_up_self]
              refine ⟨by omega, fun _ => ?_⟩
              obtain ⟨c, hc, rfl⟩ := ep_ix_rng (n := 40) z2 (Int32.not_lt.mp z1) (by decide)
              rw [nI_clamp (by omega)]; omega
            · rw [va_up_ne _ _ e, va_up_ne _ _ e]; exact h t ht
theorem WFs_cell {ss sn : Nat → Nat} {si : Nat → Nat → Int32} (h : WFs ss sn) (x y z : Int32) : WFs (S_cell ss sn si x y z).2.1 (S_cell ss sn si x y z).2.2.1 := by
  unfold S_cell
  split
  · exact h
  · split
    · exact h
    · split
      · exact h
      · exact h
theorem WF_copy {q : EpS} (h : WF q) (x i y j n : Int32) : WF (S_copy q x i y j n).2 := by
  unfold S_copy
  split
  · exact h
  · split
    · exact h
    · split
      · exact h
      · split
        · exact h
        · split
          · exact h
          · split
            · exact h
            · split
              · exact h
              · split
                · exact ⟨h.1, h.2.1, h.2.2.1, h.2.2.2.1, h.2.2.2.2⟩
                · exact h
theorem WF_t0 {q : EpS} {tn : Nat} {tb : Nat → Nat} (h : WF q) (ht : WFt tn tb) : WF (q.1, q.2.1, (tn, tb), q.2.2.2) := ⟨h.1, h.2.1, ht, h.2.2.2⟩
theorem WFt_0 (tb : Nat → Nat) : WFt 0 tb := ⟨by omega, fun i hi => absurd hi (Nat.not_lt_zero i)⟩
theorem WF_maze {q : EpS} (h : WF q) : WF (S_maze q).2 := by
  unfold S_maze
  split
  · rename_i h4
    cases e : er_read q.2.2.1.1 q.2.2.1.2 with
    | inl x => exact WF_t0 h (WFt_0 _)
    | inr w =>
      obtain ⟨n, l⟩ := w
      have key : 1 ≤ n ∧ n ≤ 10 ∧ WL n l := by
        unfold er_read at e
        cases d0 : er_dx (er_my q.2.2.1.1 q.2.2.1.2 0) 97 10 with
        | none => rw [d0] at e; cases e
        | some a =>
          rw [d0] at e
          simp only [] at e
          cases d1 : er_parts (er_my q.2.2.1.1 q.2.2.1.2) q.2.2.1.1 (a + 1) 160 1 (fun _ => -1) with
          | inl e2 => rw [d1] at e; cases e
          | inr l2 =>
            rw [d1] at e
            cases e
            have a1 := er_dx_some d0
            exact ⟨by omega, by omega, WL_parts 160 1 _ (fun r c _ _ => Or.inl rfl) d1⟩
      obtain ⟨h1, h2, h3, h5, h6, h7⟩ := h
      refine ⟨⟨by show q.1.1 + 1 ≤ 4; omega, fun m hm => ?_⟩, ⟨h2.1, fun w hw => ?_⟩, WFt_0 _, h5, h6, ⟨h7.1, fun i1 => ?_⟩⟩
      · have hm' : m < q.1.1 + 1 := hm
        show 1 ≤ (if m = q.1.1 then n else _) ∧ (if m = q.1.1 then n else _) ≤ 10 ∧ (∀ r c, r < 10 → c < 4 → (if m = q.1.1 then l else _) (4 * r + c) = -1 ∨ (r < (if m = q.1.1 then n else _) ∧ ∃ r' c', r' < (if m = q.1.1 then n else _) ∧ c' < 4 ∧ (if m = q.1.1 then l else _) (4 * r + c) = nI (10 * r' + c'))) ∧ ∀ r, r < 10 → (if m = q.1.1 then (fun _ => 0) else _) r ≤ 99
        by_cases e9 : m = q.1.1
        · simp only [if_pos e9]; exact ⟨key.1, key.2.1, key.2.2, fun _ _ => by omega⟩
        · simp only [if_neg e9]; exact h1.2 m (by omega)
      · obtain ⟨g1, g2, g3, g4⟩ := h2.2 w hw
        refine ⟨g1, Nat.lt_succ_of_lt g2, ?_, g4⟩
        show q.2.1.2.1 w 2 < if q.2.1.2.1 w 1 = q.1.1 then n else q.1.2.1 (q.2.1.2.1 w 1)
        rw [if_neg (by omega)]; exact g3
      · obtain ⟨g1, g2, g3, g4, g5⟩ := h7.2 i1
        refine ⟨Nat.le_succ_of_le g1, g2, g3, g4, fun w hw => ?_⟩
        obtain ⟨k1, k2, k3, k4, k5, k6⟩ := g5 w hw
        refine ⟨k1, k2, k3, k4, ?_, k6⟩
        have z9 := (h2.2 w (Nat.lt_of_lt_of_le hw g2)).2.1
        show _ < if q.2.1.2.1 w 1 = q.1.1 then n else q.1.2.1 (q.2.1.2.1 w 1)
        rw [if_neg (by omega)]; exact k5
  · exact h
theorem WF_walkers {q : EpS} (h : WF q) (x y z u : Int32) : WF (S_walkers q x y z u).2 := by
  unfold S_walkers
  split
  · exact h
  · split
    · exact h
    · split
      · exact h
      · split
        · exact h
        · split
          · exact h
          · split
            · exact h
            · split
              · exact h
              · split
                · exact WF_ws h _ _ _
                · exact WF_ws h _ _ _
theorem WF_step {q : EpS} (h : WF q) (x y : Int32) : WF (S_step q x y).2 := by
  unfold S_step
  split
  · exact h
  · rename_i w hw
    split
    · exact h
    · have hw' := ep_ix_in hw
      exact p_WF h hw' (WFS_nth (g_WFz h.1 (h.2.1.2 w hw').2.1) _ _ (g_WFS h hw'))
theorem op_told {q : EpS} (hW : WF q) (x y : Int32) : BOTH mX11_told mX12_told [eI x, eI y] q := ⟨(S_told q x y), q, hW, fun G d M hd hC => c_X11_told G d x y M (by omega) hW hC, fun g d M hd hC => c_X12_told g d x y M (by omega) hW hC⟩
theorem op_says {q : EpS} (hW : WF q) (x y : Int32) : BOTH mX11_says mX12_says [eI x, eI y] q := ⟨(S_says q x y), q, hW, fun G d M hd hC => c_X11_says G d x y M (by omega) hW hC, fun g d M hd hC => c_X12_says g d x y M (by omega) hW hC⟩
theorem op_run {q : EpS} (hW : WF q) (x y z : Int32) : BOTH mX11_run mX12_run [eI x, eI y, eI z] q := ⟨(S_run q x y z), q, hW, fun G d M hd hC => c_X11_run G d x y z M (by omega) hW hC, fun g d M hd hC => c_X12_run g d x y z M (by omega) hW hC⟩
theorem op_ring {q : EpS} (hW : WF q) (x y : Int32) : BOTH mX11_ring mX12_ring [eI x, eI y] q := ⟨(S_ring q x y), q, hW, fun G d M hd hC => c_X11_ring G d x y M (by omega) hW hC, fun g d M hd hC => c_X12_ring g d x y M (by omega) hW hC⟩
theorem op_meet {q : EpS} (hW : WF q) (x y : Int32) : BOTH mX11_meet mX12_meet [eI x, eI y] q := ⟨(S_meet q x y), q, hW, fun G d M hd hC => c_X11_meet G d x y M (by omega) hW hC, fun g d M hd hC => c_X12_meet g d x y M (by omega) hW hC⟩
theorem op_alike {q : EpS} (hW : WF q) (x y : Int32) : BOTH mX11_alike mX12_alike [eI x, eI y] q := ⟨(S_alike q x y), q, hW, fun G d M hd hC => c_X11_alike G d x y M (by omega) hW hC, fun g d M hd hC => c_X12_alike g d x y M (by omega) hW hC⟩
theorem op_tells {q : EpS} (hW : WF q) (x y z : Int32) : BOTH mX11_tells mX12_tells [eI x, eI y, eI z] q := ⟨(S_tells q x y z), q, hW, fun G d M hd hC => c_X11_tells G d x y z M (by omega) hW hC, fun g d M hd hC => c_X12_tells g d x y z M (by omega) hW hC⟩
theorem op_way {q : EpS} (hW : WF q) (x y : Int32) : BOTH mX11_way mX12_way [eI x, eI y] q := ⟨(S_way q x y), q, hW, fun G d M hd hC => c_X11_way G d x y M (by omega) hW hC, fun g d M hd hC => c_X12_way g d x y M (by omega) hW hC⟩
theorem op_all {q : EpS} (hW : WF q) (x y : Int32) : BOTH mX11_all mX12_all [eI x, eI y] q := ⟨(S_all q x y), q, hW, fun G d M hd hC => c_X11_all G d x y M (by omega) hW hC, fun g d M hd hC => c_X12_all g d x y M (by omega) hW hC⟩
theorem op_free {q : EpS} (hW : WF q) (x : Int32) : BOTH mX11_free mX12_free [eI x] q := ⟨(S_free q x), q, hW, fun G d M hd hC => c_X11_free G d x M (by omega) hW hC, fun g d M hd hC => c_X12_free g d x M (by omega) hW hC⟩
theorem op_begins {q : EpS} (hW : WF q) (x y z : Int32) : BOTH mX11_begins mX12_begins [eI x, eI y, eI z] q := ⟨(S_begins q x y z), q, hW, fun G d M hd hC => c_X11_begins G d x y z M (by omega) hW hC, fun g d M hd hC => c_X12_begins g d x y z M (by omega) hW hC⟩
theorem op_count {q : EpS} (hW : WF q) (x : Int32) : BOTH mX11_count mX12_count [eI x] q := ⟨(S_count q x), q, hW, fun G d M hd hC => c_X11_count G d x M (by omega) hW hC, fun g d M hd hC => c_X12_count g d x M (by omega) hW hC⟩
theorem op_taken {q : EpS} (hW : WF q) (x y : Int32) : BOTH mX11_taken mX12_taken [eI x, eI y] q := ⟨(S_taken q x y), q, hW, fun G d M hd hC => c_X11_taken G d x y M (by omega) hW hC, fun g d M hd hC => c_X12_taken g d x y M (by omega) hW hC⟩
theorem op_pebbles {q : EpS} (hW : WF q) (x y z : Int32) : BOTH mX11_pebbles mX12_pebbles [eI x, eI y, eI z] q := ⟨(S_pb q x y z).1, (S_pb q x y z).2, WF_pb hW x y z, fun G d M hd hC => c_X11_pebbles G d x y z M (by omega) hW hC, fun g d M hd hC => c_X12_pebbles g d x y z M (by omega) hW hC⟩
theorem op_walker {q : EpS} (hW : WF q) (x y z : Int32) : BOTH mX11_walker mX12_walker [eI x, eI y, eI z] q := ⟨(S_walker q x y z).1, (S_walker q x y z).2, WF_walker hW x y z, fun G d M hd hC => c_X11_walker G d x y z M (by omega) hW hC, fun g d M hd hC => c_X12_walker g d x y z M (by omega) hW hC⟩
theorem op_step {q : EpS} (hW : WF q) (x y : Int32) : BOTH mX11_step mX12_step [eI x, eI y] q := ⟨(S_step q x y).1, (S_step q x y).2, WF_step hW x y, fun G d M hd hC => c_X11_step G d x y M (by omega) hW hC, fun g d M hd hC => c_X12_step g d x y M (by omega) hW hC⟩
theorem op_image {q : EpS} (hW : WF q) : BOTH mX11_image mX12_image [] q := ⟨nI q.2.1.1, s_im q, WF_im hW, fun G d M hd hC => c_X11_image G d M (by omega) hW hC, fun g d M hd hC => c_X12_image g d M (by omega) hW hC⟩
theorem op_back {q : EpS} (hW : WF q) : BOTH mX11_back mX12_back [] q := ⟨(S_back q).1, (S_back q).2, WF_back hW, fun G d M hd hC => c_X11_back G d M (by omega) hW hC, fun g d M hd hC => c_X12_back g d M (by omega) hW hC⟩
theorem op_maze {q : EpS} (hW : WF q) : BOTH mX11_maze mX12_maze [] q := ⟨(S_maze q).1, (S_maze q).2, WF_maze hW, fun G d M hd hC => c_X11_maze G d M (by omega) hW hC, fun g d M hd hC => c_X12_maze g d M (by omega) hW hC⟩
theorem op_copy {q : EpS} (hW : WF q) (x i y j n : Int32) : BOTH mX11_copy mX12_copy [eI x, eI i, eI y, eI j, eI n] q := ⟨(S_copy q x i y j n).1, (S_copy q x i y j n).2, WF_copy hW x i y j n, fun G d M hd hC => c_X11_copy G d x i y j n M (by omega) hW hC, fun g d M hd hC => c_X12_copy g d x i y j n M (by omega) hW hC⟩
theorem op_walkers {q : EpS} (hW : WF q) (x y z u : Int32) : BOTH mX11_walkers mX12_walkers [eI x, eI y, eI z, eI u] q := ⟨(S_walkers q x y z u).1, (S_walkers q x y z u).2, WF_walkers hW x y z u, fun G d M hd hC => c_X11_walkers G d x y z u M (by omega) hW hC, fun g d M hd hC => c_X12_walkers g d x y z u M (by omega) hW hC⟩
theorem op_leads {q : EpS} (hW : WF q) (x y z : Int32) : BOTH mX11_leads mX12_leads [eI x, eI y, eI z] q := ⟨S_leads q.1.1 q.1.2.1 q.1.2.2.1 x y z, q, hW, fun G d M hd hC => (c_X11_leads G d _ _ _ _ x y z M (by omega) hW.1 hC.1).wk (fun r M' hh => ⟨hh.1, by rw [hh.2]; exact hC, by rw [hh.2]; exact FX.rf⟩), fun g d M hd hC => c_X12_leads g d x y z M (by omega) hW hC⟩
theorem op_feed {q : EpS} (hW : WF q) (x : Int32) (w : Int64) : BOTH mX11_feed mX12_feed [eI x, eL w] q := by
  refine ⟨(S_feed q.2.2.1.1 q.2.2.1.2 x w).1, (q.1, q.2.1, ((S_feed q.2.2.1.1 q.2.2.1.2 x w).2.1, (S_feed q.2.2.1.1 q.2.2.1.2 x w).2.2), q.2.2.2), WF_t0 hW (WFt_feed hW.2.2.1 x w), fun G d M hd hC => (c_X11_feed G d _ _ x w M (by omega) hW.2.2.1 hC.2.2.1).wk (fun r M' hh => ?_), fun g d M hd hC => (c_X12_feed g d _ _ x w M (by omega) hW.2.2.1 hC.2.2.1).wk (fun r M' hh => ?_)⟩
  · obtain ⟨e, hR, hF⟩ := hh
    obtain ⟨a1, a2, a3, a4, a5, a6, a7⟩ := hC
    obtain ⟨w1, w2, w3, w4, w5, w6⟩ := hW
    have h4 := w1.1
    have h8 := w2.1
    exact ⟨e, ⟨RCm.fx a1 hF h4 ⟨by omega, fun m _ => ⟨by omega, fun x => ⟨by omega, by omega, by omega⟩⟩⟩, RCw.fx a2 hF h8 ⟨by omega, fun w _ x => ⟨by omega, by omega⟩⟩, hR, RCs.fx a4 hF (fun i _ s => ⟨by omega, by omega⟩), RCx.fx a5 hF w5.2.1 ⟨by omega, by omega, fun i s _ => ⟨by omega, by omega⟩⟩, RCi.fx a6 hF (fun q => ⟨Nat.le_trans (w6.2 q).1 h4, Nat.le_trans (w6.2 q).2.1 h8⟩) ⟨fun s _ => by omega, fun i _ _ s => by omega, fun i _ _ s => ⟨by omega, by omega⟩⟩, by rw [hF _ _ _ (by omega)]; exact a7⟩, hF.up (fun k i s z => by unfold CC; omega)⟩
  · obtain ⟨e, hR, hF⟩ := hh
    obtain ⟨a1, a2, a3, a4, a5, a6, a7⟩ := hC
    exact ⟨e, ⟨RMm.fx a1 hF ⟨by omega, fun x => ⟨by omega, by omega, by omega⟩⟩, RMw.fx a2 hF ⟨by omega, fun x => ⟨by omega, by omega, by omega, by omega, by omega, by omega, by omega, by omega⟩⟩, hR, RMs.fx a4 hF (fun s => ⟨by omega, by omega, by omega, by omega⟩), RMx.fx a5 hF ⟨by omega, by omega, fun x hx => ⟨by omega, fun i hi => by omega⟩⟩, RMi.fx a6 hF ⟨fun s _ _ => by omega, fun s => ⟨by omega, by omega, by omega⟩⟩, by rw [hF _ _ _ (by omega)]; exact a7⟩, hF.up (fun k i s z => by unfold CM; omega)⟩
theorem op_force {q : EpS} (hW : WF q) (x : Int32) : BOTH mX11_force mX12_force [eI x] q := by
  refine ⟨(S_force q.2.2.2.2.1.1 q.2.2.2.2.1.2.1 x).1, (q.1, q.2.1, q.2.2.1, q.2.2.2.1, (q.2.2.2.2.1.1, (S_force q.2.2.2.2.1.1 q.2.2.2.2.1.2.1 x).2, q.2.2.2.2.1.2.2), q.2.2.2.2.2), ⟨hW.1, hW.2.1, hW.2.2.1, hW.2.2.2.1, WFx_force hW.2.2.2.2.1 x, hW.2.2.2.2.2⟩, fun G d M hd hC => (c_X11_force G d x M (by omega) hW.2.2.2.2.1 hC.2.2.2.2.1).wk (fun r M' hh => ?_), fun g d M hd hC => (c_X12_force g d x M (by omega) hW.2.2.2.2.1 hC.2.2.2.2.1).wk (fun r M' hh => ?_)⟩
  · obtain ⟨e, hR, hF⟩ := hh
    obtain ⟨a1, a2, a3, a4, a5, a6, a7⟩ := hC
    obtain ⟨w1, w2, w3, w4, w5, w6⟩ := hW
    have h4 := w1.1
    have h8 := w2.1
    exact ⟨e, ⟨RCm.fx a1 hF h4 ⟨by omega, fun m _ => ⟨by omega, fun x => ⟨by omega, by omega, by omega⟩⟩⟩, RCw.fx a2 hF h8 ⟨by omega, fun w _ x => ⟨by omega, by omega⟩⟩, RCt.fx a3 hF ⟨by omega, fun i => by omega⟩, RCs.fx a4 hF (fun i _ s => ⟨by omega, by omega⟩), hR, RCi.fx a6 hF (fun q => ⟨Nat.le_trans (w6.2 q).1 h4, Nat.le_trans (w6.2 q).2.1 h8⟩) ⟨fun s _ => by omega, fun i _ _ s => by omega, fun i _ _ s => ⟨by omega, by omega⟩⟩, by rw [hF _ _ _ (by omega)]; exact a7⟩, hF.up (fun k i s z => by unfold CC; omega)⟩
  · obtain ⟨e, hR, hF⟩ := hh
    obtain ⟨a1, a2, a3, a4, a5, a6, a7⟩ := hC
    exact ⟨e, ⟨RMm.fx a1 hF ⟨by omega, fun x => ⟨by omega, by omega, by omega⟩⟩, RMw.fx a2 hF ⟨by omega, fun x => ⟨by omega, by omega, by omega, by omega, by omega, by omega, by omega, by omega⟩⟩, RMt.fx a3 hF ⟨by omega, fun i => by omega⟩, RMs.fx a4 hF (fun s => ⟨by omega, by omega, by omega, by omega⟩), hR, RMi.fx a6 hF ⟨fun s _ _ => by omega, fun s => ⟨by omega, by omega, by omega⟩⟩, by rw [hF _ _ _ (by omega)]; exact a7⟩, hF.up (fun k i s z => by unfold CM; omega)⟩
theorem op_sheet {q : EpS} (hW : WF q) (x y z : Int32) : BOTH mX11_sheet mX12_sheet [eI x, eI y, eI z] q := by
  refine ⟨(S_sheet q.2.2.2.1.1 q.2.2.2.1.2.1 q.2.2.2.1.2.2 x y z).1, (q.1, q.2.1, q.2.2.1, ((S_sheet q.2.2.2.1.1 q.2.2.2.1.2.1 q.2.2.2.1.2.2 x y z).2.1, (S_sheet q.2.2.2.1.1 q.2.2.2.1.2.1 q.2.2.2.1.2.2 x y z).2.2.1, (S_sheet q.2.2.2.1.1 q.2.2.2.1.2.1 q.2.2.2.1.2.2 x y z).2.2.2), q.2.2.2.2), WF_sh hW (WFs_sheet hW.2.2.2.1 x y z), fun G d M hd hC => (c_X11_sheet G d _ _ _ x y z M (by omega) hW.2.2.2.1 hC.2.2.2.1).wk (fun r M' hh => ?_), fun g d M hd hC => (c_X12_sheet g d _ _ _ x y z M (by omega) hW.2.2.2.1 hC.2.2.2.1).wk (fun r M' hh => ?_)⟩
  · obtain ⟨e, hR, hF0⟩ := hh
    have hF : FX (fun k i s => k = 4 ∨ k = 22) M M' := FX.fm hF0 (fun k i s hk => by simpa using hk)
    obtain ⟨a1, a2, a3, a4, a5, a6, a7⟩ := hC
    obtain ⟨w1, w2, w3, w4, w5, w6⟩ := hW
    have h4 := w1.1
    have h8 := w2.1
    exact ⟨e, ⟨RCm.fx a1 hF h4 ⟨by omega, fun m _ => ⟨by omega, fun x => ⟨by omega, by omega, by omega⟩⟩⟩, RCw.fx a2 hF h8 ⟨by omega, fun w _ x => ⟨by omega, by omega⟩⟩, RCt.fx a3 hF ⟨by omega, fun i => by omega⟩, hR, RCx.fx a5 hF w5.2.1 ⟨by omega, by omega, fun i s _ => ⟨by omega, by omega⟩⟩, RCi.fx a6 hF (fun q => ⟨Nat.le_trans (w6.2 q).1 h4, Nat.le_trans (w6.2 q).2.1 h8⟩) ⟨fun s _ => by omega, fun i _ _ s => by omega, fun i _ _ s => ⟨by omega, by omega⟩⟩, by rw [hF _ _ _ (by omega)]; exact a7⟩, hF.up (fun k i s z => by unfold CC; omega)⟩
  · obtain ⟨e, hR, hF0⟩ := hh
    have hF : FX (fun k i s => k = 70 ∨ k = 71 ∨ k = 72 ∨ k = 73) M M' := FX.fm hF0 (fun k i s hk => by simpa using hk)
    obtain ⟨a1, a2, a3, a4, a5, a6, a7⟩ := hC
    exact ⟨e, ⟨RMm.fx a1 hF ⟨by omega, fun x => ⟨by omega, by omega, by omega⟩⟩, RMw.fx a2 hF ⟨by omega, fun x => ⟨by omega, by omega, by omega, by omega, by omega, by omega, by omega, by omega⟩⟩, RMt.fx a3 hF ⟨by omega, fun i => by omega⟩, hR, RMx.fx a5 hF ⟨by omega, by omega, fun x hx => ⟨by omega, fun i hi => by omega⟩⟩, RMi.fx a6 hF ⟨fun s _ _ => by omega, fun s => ⟨by omega, by omega, by omega⟩⟩, by rw [hF _ _ _ (by omega)]; exact a7⟩, hF.up (fun k i s z => by unfold CM; omega)⟩
theorem op_cell {q : EpS} (hW : WF q) (x y z : Int32) : BOTH mX11_cell mX12_cell [eI x, eI y, eI z] q := by
  refine ⟨(S_cell q.2.2.2.1.1 q.2.2.2.1.2.1 q.2.2.2.1.2.2 x y z).1, (q.1, q.2.1, q.2.2.1, ((S_cell q.2.2.2.1.1 q.2.2.2.1.2.1 q.2.2.2.1.2.2 x y z).2.1, (S_cell q.2.2.2.1.1 q.2.2.2.1.2.1 q.2.2.2.1.2.2 x y z).2.2.1, (S_cell q.2.2.2.1.1 q.2.2.2.1.2.1 q.2.2.2.1.2.2 x y z).2.2.2), q.2.2.2.2), WF_sh hW (WFs_cell hW.2.2.2.1 x y z), fun G d M hd hC => (c_X11_cell G d _ _ _ x y z M (by omega) hW.2.2.2.1 hC.2.2.2.1).wk (fun r M' hh => ?_), fun g d M hd hC => (c_X12_cell g d _ _ _ x y z M (by omega) hW.2.2.2.1 hC.2.2.2.1).wk (fun r M' hh => ?_)⟩
  · obtain ⟨e, hR, hF0⟩ := hh
    have hF : FX (fun k i s => k = 4 ∨ k = 22) M M' := FX.fm hF0 (fun k i s hk => by simpa using hk)
    obtain ⟨a1, a2, a3, a4, a5, a6, a7⟩ := hC
    obtain ⟨w1, w2, w3, w4, w5, w6⟩ := hW
    have h4 := w1.1
    have h8 := w2.1
    exact ⟨e, ⟨RCm.fx a1 hF h4 ⟨by omega, fun m _ => ⟨by omega, fun x => ⟨by omega, by omega, by omega⟩⟩⟩, RCw.fx a2 hF h8 ⟨by omega, fun w _ x => ⟨by omega, by omega⟩⟩, RCt.fx a3 hF ⟨by omega, fun i => by omega⟩, hR, RCx.fx a5 hF w5.2.1 ⟨by omega, by omega, fun i s _ => ⟨by omega, by omega⟩⟩, RCi.fx a6 hF (fun q => ⟨Nat.le_trans (w6.2 q).1 h4, Nat.le_trans (w6.2 q).2.1 h8⟩) ⟨fun s _ => by omega, fun i _ _ s => by omega, fun i _ _ s => ⟨by omega, by omega⟩⟩, by rw [hF _ _ _ (by omega)]; exact a7⟩, hF.up (fun k i s z => by unfold CC; omega)⟩
  · obtain ⟨e, hR, hF0⟩ := hh
    have hF : FX (fun k i s => k = 70 ∨ k = 71 ∨ k = 72 ∨ k = 73) M M' := FX.fm hF0 (fun k i s hk => by simpa using hk)
    obtain ⟨a1, a2, a3, a4, a5, a6, a7⟩ := hC
    exact ⟨e, ⟨RMm.fx a1 hF ⟨by omega, fun x => ⟨by omega, by omega, by omega⟩⟩, RMw.fx a2 hF ⟨by omega, fun x => ⟨by omega, by omega, by omega, by omega, by omega, by omega, by omega, by omega⟩⟩, RMt.fx a3 hF ⟨by omega, fun i => by omega⟩, hR, RMx.fx a5 hF ⟨by omega, by omega, fun x hx => ⟨by omega, fun i hi => by omega⟩⟩, RMi.fx a6 hF ⟨fun s _ _ => by omega, fun s => ⟨by omega, by omega, by omega⟩⟩, by rw [hF _ _ _ (by omega)]; exact a7⟩, hF.up (fun k i s z => by unfold CM; omega)⟩
theorem S_text_t {xc tn : Nat} {tf : Nat → EpF} {pl : Nat → Nat} {t : EpT} : ((S_text xc tn tf pl t).2.2.2 = tn ∨ (S_text xc tn tf pl t).2.2.2 = 0) ∧ xc ≤ (S_text xc tn tf pl t).2.1 := by
  unfold S_text
  split
  · exact ⟨Or.inl rfl, Nat.le_refl _⟩
  · cases t with
    | inl f => exact ⟨Or.inr rfl, Nat.le_succ _⟩
    | inr e => exact ⟨Or.inr rfl, Nat.le_refl _⟩
theorem op_text {q : EpS} (hW : WF q) : BOTH mX11_text mX12_text [] q := by
  obtain ⟨N, n1, n2, n3⟩ := ep_last q.2.2.1.2 q.2.2.1.1
  obtain ⟨t, ht⟩ := EpTx_ok (Tk := ep_tk q.2.2.1.2 q.2.2.1.1) (N := N) (z := 12 * N + 8) (fun k h1 h2 => by
    by_cases e : k = N
    · rw [e] at h2; omega
    · omega) (Nat.le_refl _)
  have st := S_text_t (xc := q.2.2.2.2.1.1) (tn := q.2.2.1.1) (tf := q.2.2.2.2.1.2.2) (pl := ep_pl q.2.2.1.2 q.2.2.1.1) (t := t)
  have wt : WFt (S_text q.2.2.2.2.1.1 q.2.2.1.1 q.2.2.2.2.1.2.2 (ep_pl q.2.2.1.2 q.2.2.1.1) t).2.2.2 q.2.2.1.2 := by
    rcases st.1 with e | e
    · rw [e]; exact hW.2.2.1
    · rw [e]; exact WFt_0 _
  have wx : WFx (S_text q.2.2.2.2.1.1 q.2.2.1.1 q.2.2.2.2.1.2.2 (ep_pl q.2.2.1.2 q.2.2.1.1) t).2.1 q.2.2.2.2.1.2.1 (S_text q.2.2.2.2.1.1 q.2.2.1.1 q.2.2.2.2.1.2.2 (ep_pl q.2.2.1.2 q.2.2.1.1) t).2.2.1 := WFx_text hW.2.2.2.2.1 (fun k => ep_tok_lt (ep_pl_le _ _ k)) ht
  have wi := hW.2.2.2.2.2
  refine ⟨(S_text q.2.2.2.2.1.1 q.2.2.1.1 q.2.2.2.2.1.2.2 (ep_pl q.2.2.1.2 q.2.2.1.1) t).1, (q.1, q.2.1, ((S_text q.2.2.2.2.1.1 q.2.2.1.1 q.2.2.2.2.1.2.2 (ep_pl q.2.2.1.2 q.2.2.1.1) t).2.2.2, q.2.2.1.2), q.2.2.2.1, ((S_text q.2.2.2.2.1.1 q.2.2.1.1 q.2.2.2.2.1.2.2 (ep_pl q.2.2.1.2 q.2.2.1.1) t).2.1, q.2.2.2.2.1.2.1, (S_text q.2.2.2.2.1.1 q.2.2.1.1 q.2.2.2.2.1.2.2 (ep_pl q.2.2.1.2 q.2.2.1.1) t).2.2.1), q.2.2.2.2.2), ⟨hW.1, hW.2.1, wt, hW.2.2.2.1, wx, ⟨wi.1, fun i1 => ?_⟩⟩, fun G d M hd hC => (c_X11_text G d t M (by omega) hW.2.2.1 hW.2.2.2.2.1 hC.2.2.1 hC.2.2.2.2.1 hW.2.2.1.1 n1 n2 n3 (Nat.le_refl _) ht).wk (fun r M' hh => ?_), fun g d M hd hC => (c_X12_text g d t M (by omega) hW.2.2.1 hW.2.2.2.2.1 hC.2.2.1 hC.2.2.2.2.1 hW.2.2.1.1 n1 n2 n3 (Nat.le_refl _) ht).wk (fun r M' hh => ?_)⟩
  · obtain ⟨g1, g2, g3, g4⟩ := wi.2 i1
    exact ⟨g1, g2, Nat.lt_of_lt_of_le g3 st.2, g4⟩
  · obtain ⟨e, hX, hR, hF⟩ := hh
    clear st wt wx wi
    obtain ⟨a1, a2, a3, a4, a5, a6, a7⟩ := hC
    obtain ⟨w1, w2, w3, w4, w5, w6⟩ := hW
    have h4 := w1.1
    have h8 := w2.1
    exact ⟨e, ⟨RCm.fx a1 hF h4 ⟨by omega, fun m _ => ⟨by omega, fun x => ⟨by omega, by omega, by omega⟩⟩⟩, RCw.fx a2 hF h8 ⟨by omega, fun w _ x => ⟨by omega, by omega⟩⟩, hR, RCs.fx a4 hF (fun i _ s => ⟨by omega, by omega⟩), hX, RCi.fx a6 hF (fun q => ⟨Nat.le_trans (w6.2 q).1 h4, Nat.le_trans (w6.2 q).2.1 h8⟩) ⟨fun s _ => by omega, fun i _ _ s => by omega, fun i _ _ s => ⟨by omega, by omega⟩⟩, by rw [hF _ _ _ (by omega)]; exact a7⟩, hF.up (fun k i s z => by unfold CC; omega)⟩
  · obtain ⟨e, hX, hR, hF⟩ := hh
    clear st wt wx wi
    obtain ⟨a1, a2, a3, a4, a5, a6, a7⟩ := hC
    exact ⟨e, ⟨RMm.fx a1 hF ⟨by omega, fun x => ⟨by omega, by omega, by omega⟩⟩, RMw.fx a2 hF ⟨by omega, fun x => ⟨by omega, by omega, by omega, by omega, by omega, by omega, by omega, by omega⟩⟩, hR, RMs.fx a4 hF (fun s => ⟨by omega, by omega, by omega, by omega⟩), hX, RMi.fx a6 hF ⟨fun s _ _ => by omega, fun s => ⟨by omega, by omega, by omega⟩⟩, by rw [hF _ _ _ (by omega)]; exact a7⟩, hF.up (fun k i s z => by unfold CM; omega)⟩
