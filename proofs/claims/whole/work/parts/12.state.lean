/-! the abstract state: mazes, walkers, tape, sheets; how class and model hold it -/
def ep_dn (lt : Nat → Int32) (r : Nat) : Nat := (if lt (4 * r) = -1 then 0 else 1) + (if lt (4 * r + 1) = -1 then 0 else 2) + (if lt (4 * r + 2) = -1 then 0 else 4) + (if lt (4 * r + 3) = -1 then 0 else 8)
def WFm (mc : Nat) (nr : Nat → Nat) (lt : Nat → Nat → Int32) (pb : Nat → Nat → Nat) : Prop := mc ≤ 4 ∧ ∀ m, m < mc → 1 ≤ nr m ∧ nr m ≤ 10 ∧ (∀ r c, r < 10 → c < 4 → lt m (4 * r + c) = -1 ∨ (r < nr m ∧ ∃ r' c', r' < nr m ∧ c' < 4 ∧ lt m (4 * r + c) = nI (10 * r' + c'))) ∧ (∀ r, r < 10 → pb m r ≤ 99)
def RCm (mc : Nat) (nr : Nat → Nat) (lt : Nat → Nat → Int32) (pb : Nat → Nat → Nat) (M : EzM) : Prop := M.1 11 0 2 = nI mc ∧ (∀ m, m < mc → M.1 1 m 0 = nI (nr m) ∧ (∀ x, x < 40 → M.1 18 m x = lt m x) ∧ (∀ r, r < 10 → M.1 19 m r = nI (ep_dn (lt m) r)) ∧ (∀ r, r < 10 → M.1 20 m r = nI (pb m r))) ∧ (∀ m, mc ≤ m → m < 4 → ∀ r, r < 10 → M.1 20 m r = nI 0)
def RMm (mc : Nat) (nr : Nat → Nat) (lt : Nat → Nat → Int32) (pb : Nat → Nat → Nat) (M : EzM) : Prop := M.1 12 0 10 = nI mc ∧ ∀ m, m < mc → M.1 46 0 m = nI (nr m) ∧ (∀ x, x < 40 → M.1 45 0 (40 * m + x) = lt m x) ∧ (∀ r, r < 10 → M.1 47 0 (10 * m + r) = nI (pb m r))
def WFw (mc : Nat) (nr : Nat → Nat) (wc : Nat) (wn : Nat → Nat → Nat) (wg : Nat → Nat → Nat) : Prop := wc ≤ 8 ∧ ∀ w, w < wc → wn w 0 < 6 ∧ wn w 1 < mc ∧ wn w 2 < nr (wn w 1) ∧ wn w 3 < 4 ∧ wn w 4 ≤ 9 ∧ ∀ r, r < 10 → wg w r < 16
def RCw (wc : Nat) (wn : Nat → Nat → Nat) (wb ws : Nat → Int32) (wg : Nat → Nat → Nat) (M : EzM) : Prop := M.1 11 0 4 = nI wc ∧ (∀ w, w < wc → (∀ f, f < 5 → M.1 10 w f = nI (wn w f)) ∧ M.1 10 w 5 = wb w ∧ M.1 10 w 6 = ws w ∧ ∀ r, r < 10 → M.1 21 w r = nI (wg w r)) ∧ (∀ w, wc ≤ w → w < 8 → M.1 10 w 3 = nI 0 ∧ M.1 10 w 6 = nI 0 ∧ ∀ r, r < 10 → M.1 21 w r = nI 0)
def RMw (wc : Nat) (wn : Nat → Nat → Nat) (wb ws : Nat → Int32) (wg : Nat → Nat → Nat) (M : EzM) : Prop := M.1 12 0 19 = nI wc ∧ ∀ w, w < wc → M.1 48 0 w = nI (wn w 0) ∧ M.1 49 0 w = nI (wn w 1) ∧ M.1 50 0 w = nI (wn w 2) ∧ M.1 51 0 w = nI (wn w 3) ∧ M.1 52 0 w = nI (wn w 4) ∧ M.1 53 0 w = wb w ∧ M.1 54 0 w = ws w ∧ ∀ r, r < 10 → M.1 55 0 (10 * w + r) = nI (wg w r)
def RCt (tn : Nat) (tb : Nat → Nat) (M : EzM) : Prop := M.1 7 0 1 = nI tn ∧ ∀ i, i < tn → M.1 13 0 i = (nI (tb i)).toInt8.toInt32
def RMt (tn : Nat) (tb : Nat → Nat) (M : EzM) : Prop := M.1 12 0 6 = nI tn ∧ ∀ i, i < tn → M.1 44 0 i = nI (tb i)
def WFt (tn : Nat) (tb : Nat → Nat) : Prop := tn ≤ 160 ∧ ∀ i, i < tn → tb i < 256
def WFs (ss sn : Nat → Nat) : Prop := ∀ s, s < 4 → ss s ≤ 3 ∧ (0 < ss s → sn s ≤ 40)
def RCs (ss sn : Nat → Nat) (si : Nat → Nat → Int32) (M : EzM) : Prop := ∀ s, s < 4 → (ss s = 0 → M.1 4 s 0 = -1) ∧ (0 < ss s → M.1 4 s 0 = nI (ss s - 1) ∧ M.1 4 s 1 = nI (sn s) ∧ ∀ i, i < sn s → M.1 22 s i = si s i)
def RMs (ss sn : Nat → Nat) (si : Nat → Nat → Int32) (M : EzM) : Prop := ∀ s, s < 4 → M.1 70 0 s = nI (if ss s = 0 then 0 else 1) ∧ (0 < ss s → M.1 71 0 s = nI (ss s - 1) ∧ M.1 72 0 s = nI (sn s) ∧ ∀ i, i < sn s → M.1 73 0 (40 * s + i) = si s i)
theorem ep_ix_rng {z : Int32} {n : Nat} (h1 : ¬ z < 0) (h2 : z ≤ nI n) (hn : n + 1 < 2 ^ 31) : ∃ c : Nat, c < n + 1 ∧ z = nI c := by
  obtain ⟨j, hj, e⟩ := nI_of2 (M := nI n) (n := n) (nI_toInt (by omega)) h1 h2
  exact ⟨j, by omega, e⟩
theorem ep_ix_lo {z : Int32} {n : Nat} (h : z < 0) : ep_ix z n = none := by simp [ep_ix, h]
theorem ep_ix_hi {z : Int32} {n : Nat} (hn : n + 1 < 2 ^ 31) (h : ¬ z ≤ nI n) : ep_ix z (n + 1) = none := by
  have h2 : nI (n + 1) ≤ z := by
    rw [Int32.le_iff_toInt_le, nI_toInt hn]
    have h3 : ¬ z.toInt ≤ (nI n).toInt := fun q => h (Int32.le_iff_toInt_le.mpr q)
    rw [nI_toInt (by omega)] at h3
    omega
  simp [ep_ix, h2]
def S_leads (mc : Nat) (nr : Nat → Nat) (lt : Nat → Nat → Int32) (x y z : Int32) : Int32 := match ep_ix x mc with
  | none => -2
  | some m => if y = -1 then nI (nr m) else match ep_ix y (nr m) with
    | none => -2
    | some r => match ep_ix z 4 with
      | none => -2
      | some c => lt m (4 * r + c)
def ep_up2 {α : Type} (f : Nat → Nat → α) (a b : Nat) (v : α) : Nat → Nat → α := fun x y => if x = a ∧ y = b then v else f x y
def S_pebbles (mc : Nat) (nr : Nat → Nat) (pb : Nat → Nat → Nat) (x y z : Int32) : Int32 × (Nat → Nat → Nat) := match ep_ix x mc with
  | none => (-2, pb)
  | some m => match ep_ix y (nr m) with
    | none => (-2, pb)
    | some r => match ep_ix z 100 with
      | none => (-2, pb)
      | some c => (nI (pb m r), ep_up2 pb m r c)
set_option maxRecDepth 20000 in
theorem c_X11_leads (G : EzG) (d : Nat) (mc : Nat) (nr : Nat → Nat) (lt : Nat → Nat → Int32) (pb : Nat → Nat → Nat) (x y z : Int32) (M : EzM) (hd : 2 ≤ d) (hW : WFm mc nr lt pb) (hR : RCm mc nr lt pb M) : Ezc G mX11_leads d [eR 11 0, eI x, eI y, eI z] M (fun r M' => r = some (eI (S_leads mc nr lt x y z)) ∧ M' = M) := by
  refine Ezc.of (by decide +kernel) (Nat.le_of_ble_eq_true rfl) ?_
  have h4 := hW.1
  show Ez G mX11_leads d 0 [(0, eR 11 0), (1, eI x), (2, eI y), (3, eI z)] [] M _
  refine ez_aload_n 1 dX11_leads_0 rfl rfl ?_
  refine ez_iload_n 2 dX11_leads_1 rfl rfl ?_
  refine ez_callV 5 [eI x] [] dX11_leads_2 rfl rfl ok_X11_mazeAt in_X11_mazeAt (by decide) (by show 0 < 1; omega) ln_X11_141 (by omega) (Nat.le_of_ble_eq_true rfl) (c_X11_mazeAt G (d - 1) x mc M (by omega) hR.1 (by omega)) (fun r2 M2 q2 => ?_)
  obtain ⟨e2, ⟨rfl, i2⟩ | ⟨j2, b2, rfl, rfl⟩⟩ := q2
  · rw [e2]
    show Ez G mX11_leads d 5 [(0, eR 11 0), (1, eI x), (2, eI y), (3, eI z)] [eN] M _
    refine ez_astore 7 [(4, eN), (0, eR 11 0), (1, eI x), (2, eI y), (3, eI z)] dX11_leads_5 rfl (by decide) rfl ?_
    refine ez_aload 9 dX11_leads_7 rfl rfl ?_
    refine ez_ifnonnull_n 12 dX11_leads_9 rfl ?_
    refine ez_bipush 14 dX11_leads_12 rfl (-2) (by decide) ?_
    refine ez_iret .int dX11_leads_14 rfl rfl ?_
    exact ⟨by simp [S_leads, i2], rfl⟩
  · rw [e2]
    have i2 : ep_ix (nI j2) mc = some j2 := ep_ix_nI b2 (by omega)
    have n2 := (hW.2 j2 b2).2.1
    show Ez G mX11_leads d 5 [(0, eR 11 0), (1, eI (nI j2)), (2, eI y), (3, eI z)] [eR 1 j2] M _
    refine ez_astore 7 [(4, eR 1 j2), (0, eR 11 0), (1, eI (nI j2)), (2, eI y), (3, eI z)] dX11_leads_5 rfl (by decide) rfl ?_
    refine ez_aload 9 dX11_leads_7 rfl rfl ?_
    refine ez_ifnonnull_r 15 dX11_leads_9 (by decide) ?_
    refine ez_iload_n 16 dX11_leads_15 rfl rfl ?_
    refine ez_iconst 17 dX11_leads_16 rfl (-1) (by decide) ?_
    refine ez_icmp_ne 20 26 dX11_leads_17 rfl (by decide) (fun h17 => ?_) (fun h17 => ?_)
    · refine ez_aload 28 dX11_leads_26 rfl rfl ?_
      refine ez_iload_n 29 dX11_leads_28 rfl rfl ?_
      refine ez_callV 32 [eI y] [] dX11_leads_29 rfl rfl ok_X1_hasRoom in_X1_hasRoom (by decide) (by show j2 < 4; omega) ln_X11_148 (by omega) (Nat.le_of_ble_eq_true rfl) (c_hasRoom_c G (d - 1) j2 y (nr j2) M (by show j2 < 4; omega) (hR.2.1 j2 (by omega)).1 (by omega)) (fun r29 M29 q29 => ?_)
      obtain ⟨e29, ⟨rfl, i29⟩ | ⟨j29, b29, rfl, rfl⟩⟩ := q29
      · rw [e29]
        show Ez G mX11_leads d 32 [(4, eR 1 j2), (0, eR 11 0), (1, eI (nI j2)), (2, eI y), (3, eI z)] [eI (nI 0)] M _
        refine ez_nif_eq 35 43 dX11_leads_32 rfl (by decide) (by omega) (fun h32 => ?_) (fun h32 => ?_)
        · refine ez_bipush 45 dX11_leads_43 rfl (-2) (by decide) ?_
          refine ez_iret .int dX11_leads_45 rfl rfl ?_
          exact ⟨by simp [S_leads, i2, h17, i29, h32], rfl⟩
        · exact absurd h32 (by decide)
      · rw [e29]
        have i29 : ep_ix (nI j29) (nr j2) = some j29 := ep_ix_nI b29 (by omega)
        show Ez G mX11_leads d 32 [(4, eR 1 j2), (0, eR 11 0), (1, eI (nI j2)), (2, eI (nI j29)), (3, eI z)] [eI (nI 1)] M _
        refine ez_nif_eq 35 43 dX11_leads_32 rfl (by decide) (by omega) (fun h32 => ?_) (fun h32 => ?_)
        · exact absurd h32 (by decide)
        · refine ez_iload_n 36 dX11_leads_35 rfl rfl ?_
          refine ez_iconst 37 dX11_leads_36 rfl (nI 4) (by decide) ?_
          refine ez_callS 40 [eI z, eI (nI 4)] [] dX11_leads_37 rfl rfl ok_X11_isInside st_X11_isInside ln_X11_134 (by omega) (Nat.le_of_ble_eq_true rfl) (c_isInside_c G (d - 1) z 4 M (by omega)) (fun r37 M37 q37 => ?_)
          obtain ⟨e37, ⟨rfl, i37⟩ | ⟨j37, b37, rfl, rfl⟩⟩ := q37
          · rw [e37]
            show Ez G mX11_leads d 40 [(4, eR 1 j2), (0, eR 11 0), (1, eI (nI j2)), (2, eI (nI j29)), (3, eI z)] [eI (nI 0)] M _
            refine ez_nif_ne 43 46 dX11_leads_40 rfl (by decide) (by omega) (fun h40 => ?_) (fun h40 => ?_)
            · exact absurd h40 (by decide)
            · refine ez_bipush 45 dX11_leads_43 rfl (-2) (by decide) ?_
              refine ez_iret .int dX11_leads_45 rfl rfl ?_
              exact ⟨by simp [S_leads, i2, h17, i29, h32, i37, h40], rfl⟩
          · rw [e37]
            have i37 : ep_ix (nI j37) 4 = some j37 := ep_ix_nI b37 (by omega)
            show Ez G mX11_leads d 40 [(4, eR 1 j2), (0, eR 11 0), (1, eI (nI j2)), (2, eI (nI j29)), (3, eI (nI j37))] [eI (nI 1)] M _
            refine ez_nif_ne 43 46 dX11_leads_40 rfl (by decide) (by omega) (fun h40 => ?_) (fun h40 => ?_)
            · refine ez_aload 48 dX11_leads_46 rfl rfl ?_
              refine ez_iload_n 49 dX11_leads_48 rfl rfl ?_
              refine ez_iload_n 50 dX11_leads_49 rfl rfl ?_
              refine ez_callV 53 [eI (nI j29), eI (nI j37)] [] dX11_leads_50 rfl rfl ok_X1_target in_X1_target (by decide) (by show j2 < 4; omega) ln_X11_152 (by omega) (Nat.le_of_ble_eq_true rfl) (c_target_n G (d - 1) j2 j29 j37 M (by omega) (by show j2 < 4; omega) (by omega) (by omega)) (fun r50 M50 q50 => ?_)
              obtain ⟨rfl, e50⟩ := q50
              rw [e50, show M.1 18 j2 (4 * j29 + j37) = lt j2 (4 * j29 + j37) from ((hR.2.1 j2 (by omega)).2.1 (4 * j29 + j37) (by omega))]
              show Ez G mX11_leads d 53 [(4, eR 1 j2), (0, eR 11 0), (1, eI (nI j2)), (2, eI (nI j29)), (3, eI (nI j37))] [eI (lt j2 (4 * j29 + j37))] M _
              refine ez_iret .int dX11_leads_53 rfl rfl ?_
              exact ⟨by simp [S_leads, i2, h17, i29, h32, i37, h40], rfl⟩
            · exact absurd h40 (by decide)
    · refine ez_aload 22 dX11_leads_20 rfl rfl ?_
      refine ez_getf 25 (eI (M.1 1 j2 0)) dX11_leads_22 rfl fl_X11_145 (by show j2 < 4; omega) rfl ?_
      refine ez_top (nI (nr j2)) (hR.2.1 j2 (by omega)).1 ?_
      refine ez_iret .int dX11_leads_25 rfl rfl ?_
      exact ⟨by simp [S_leads, i2, h17], rfl⟩
