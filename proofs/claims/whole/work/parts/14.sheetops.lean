/-! the ops on sheets: sheet, cell; class and model -/
abbrev EpSh : Type := Int32 × (Nat → Nat) × (Nat → Nat) × (Nat → Nat → Int32)
def S_sheet (ss sn : Nat → Nat) (si : Nat → Nat → Int32) (x y z : Int32) : EpSh := match ep_ix x 4 with
  | none => (-2, ss, sn, si)
  | some s => if y = -1 then (nI 1, va_up ss s 0, sn, si) else match ep_ix y 3 with
    | none => (-2, ss, sn, si)
    | some o => if nI 40 < z then (-2, ss, sn, si) else if z < 0 then (-14, ss, sn, si) else (nI 1, va_up ss s (o + 1), va_up sn s z.toNatClampNeg, va_up si s (fun _ => nI 0))
def S_cell (ss sn : Nat → Nat) (si : Nat → Nat → Int32) (x y z : Int32) : EpSh := match ep_ix x 4 with
  | none => (-2, ss, sn, si)
  | some s => if ss s = 0 then (-11, ss, sn, si) else match ep_ix y (sn s) with
    | none => (-12, ss, sn, si)
    | some i => (nI 1, ss, sn, ep_up2 si s i (ep_nar (nI (ss s - 1)) z))
theorem ep_m1 {n : Nat} (h : n < 2 ^ 31) : ¬ nI n = -1 := fun q => absurd (show nI n < 0 by rw [q]; decide) (nI_pos h)
theorem c_isMissing_c (G : EzG) (d : Nat) (i : Nat) (ss sn : Nat → Nat) (si : Nat → Nat → Int32) (M : EzM) (hi : i < 4) (hW : WFs ss sn) (hR : RCs ss sn si M) : Ezc G mX4_isMissing d [eR 4 i] M (fun r M' => M' = M ∧ ((r = some (eI (nI 1)) ∧ ss i = 0) ∨ (r = some (eI (nI 0)) ∧ ¬ ss i = 0))) :=
  (c_X4_isMissing G d i M hi).wk (fun r M' h => by
    refine ⟨h.2, ?_⟩
    rw [h.1]
    by_cases h0 : ss i = 0
    · exact Or.inl ⟨by rw [if_pos ((hR i hi).1 h0)], h0⟩
    · refine Or.inr ⟨?_, h0⟩
      rw [((hR i hi).2 (Nat.pos_of_ne_zero h0)).1, if_neg]
      exact ep_m1 (by have := (hW i hi).1; omega))
theorem RCs_gone {ss sn : Nat → Nat} {si : Nat → Nat → Int32} {M : EzM} {s : Nat} (hs : s < 4) (hR : RCs ss sn si M) {y : Int32} {f : Nat → Int32} : RCs (va_up ss s 0) sn si (ez_row (ez_st (ez_st M 4 s 0 (-1)) 4 s 1 y) 22 s f) := by
  intro t ht
  by_cases e : t = s
  · subst e
    refine ⟨fun _ => by simp [ez_rdr, ez_rd], fun h => by simp [va_up] at h⟩
  · obtain ⟨h1, h2⟩ := hR t ht
    refine ⟨fun h => ?_, fun h => ?_⟩
    · rw [va_up_ne _ _ e] at h
      simp [ez_rdr, ez_rd, e, h1 h]
    · rw [va_up_ne _ _ e] at h ⊢
      obtain ⟨a1, a2, a3⟩ := h2 h
      exact ⟨by simp [ez_rdr, ez_rd, e, a1], by simp [ez_rdr, ez_rd, e, a2], fun i hi => by simp [ez_rdr, ez_rd, e, a3 i hi]⟩
theorem RCs_new {ss sn : Nat → Nat} {si : Nat → Nat → Int32} {M : EzM} {s o n : Nat} (hs : s < 4) (hn : n ≤ 40) (hR : RCs ss sn si M) {f : Nat → Int32} : RCs (va_up ss s (o + 1)) (va_up sn s n) (va_up si s (fun _ => nI 0)) (ez_row (ez_st (ez_st M 4 s 0 (nI o)) 4 s 1 (nI n)) 22 s (ep_fl (fun _ => nI 0) f 40)) := by
  intro t ht
  by_cases e : t = s
  · subst e
    refine ⟨fun h => by simp [va_up] at h, fun _ => ⟨?_, ?_, ?_⟩⟩
    · simp [ez_rdr, ez_rd, va_up]
    · simp [ez_rdr, ez_rd, va_up]
    · intro i hi
      rw [va_up_self] at hi
      simp [ez_rdr, va_up, ep_fl_in (show i < 40 by omega)]
  · obtain ⟨h1, h2⟩ := hR t ht
    refine ⟨fun h => ?_, fun h => ?_⟩
    · rw [va_up_ne _ _ e] at h
      simp [ez_rdr, ez_rd, e, h1 h]
    · rw [va_up_ne _ _ e] at h
      rw [va_up_ne _ _ e, va_up_ne _ _ e, va_up_ne _ _ e]
      obtain ⟨a1, a2, a3⟩ := h2 h
      exact ⟨by simp [ez_rdr, ez_rd, e, a1], by simp [ez_rdr, ez_rd, e, a2], fun i hi => by simp [ez_rdr, ez_rd, e, a3 i hi]⟩
theorem ep_ix3 {y : Int32} (h1 : ¬ y < -1) (h2 : y < nI 3) (h3 : ¬ y = -1) : ∃ o : Nat, o < 3 ∧ y = nI o := by
  have h4 : ¬ y < 0 := by
    rw [Int32.lt_iff_toInt_lt] at *
    have : ¬ y.toInt = (-1 : Int32).toInt := fun q => h3 (Int32.toInt_inj.mp q)
    have e1 : (-1 : Int32).toInt = -1 := by decide
    have e0 : (0 : Int32).toInt = 0 := by decide
    omega
  rcases pk_ix y (show 3 < 2 ^ 31 by decide) with h | h | ⟨j, hj, e⟩
  · exact absurd h h4
  · exact absurd h2 (Int32.not_lt.mpr h)
  · exact ⟨j, hj, e⟩
theorem ep_ix3n {y : Int32} (h : y < -1 ∨ ¬ y < nI 3) : ep_ix y 3 = none ∧ ¬ y = -1 := by
  rcases h with h | h
  · refine ⟨ep_ix_lo (by rw [Int32.lt_iff_toInt_lt] at *; have e1 : (-1 : Int32).toInt = -1 := by decide
                         have e0 : (0 : Int32).toInt = 0 := by decide
                         omega), fun q => by rw [q] at h; exact absurd h (by decide)⟩
  · have h2 : nI 3 ≤ y := Int32.not_lt.mp h
    exact ⟨by simp [ep_ix, h2], fun q => by rw [q] at h2; exact absurd h2 (by decide)⟩
set_option maxRecDepth 20000 in
theorem c_X11_sheet (G : EzG) (d : Nat) (ss sn : Nat → Nat) (si : Nat → Nat → Int32) (x y z : Int32) (M : EzM) (hd : 2 ≤ d) (hW : WFs ss sn) (hR : RCs ss sn si M) : Ezc G mX11_sheet d [eR 11 0, eI x, eI y, eI z] M (fun r M' => r = some (eI (S_sheet ss sn si x y z).1) ∧ RCs (S_sheet ss sn si x y z).2.1 (S_sheet ss sn si x y z).2.2.1 (S_sheet ss sn si x y z).2.2.2 M' ∧ ez_fm [4, 22] M M') := by
  refine Ezc.of (by decide +kernel) (Nat.le_of_ble_eq_true rfl) ?_
  show Ez G mX11_sheet d 0 [(0, eR 11 0), (1, eI x), (2, eI y), (3, eI z)] [] M _
  refine ez_aload_n 1 dX11_sheet_0 rfl rfl ?_
  refine ez_iload_n 2 dX11_sheet_1 rfl rfl ?_
  refine ez_callV 5 [eI x] [] dX11_sheet_2 rfl rfl ok_X11_sheetAt in_X11_sheetAt (by decide) (by show 0 < 1; omega) ln_X11_266 (by omega) (Nat.le_of_ble_eq_true rfl) (c_X11_sheetAt G (d - 1) x M (by omega)) (fun r2 M2 q2 => ?_)
  obtain ⟨e2, ⟨rfl, i2⟩ | ⟨j2, b2, rfl, rfl⟩⟩ := q2
  · rw [e2]
    show Ez G mX11_sheet d 5 [(0, eR 11 0), (1, eI x), (2, eI y), (3, eI z)] [eN] M _
    refine ez_astore 7 [(4, eN), (0, eR 11 0), (1, eI x), (2, eI y), (3, eI z)] dX11_sheet_5 rfl (by decide) rfl ?_
    refine ez_aload 9 dX11_sheet_7 rfl rfl ?_
    refine ez_ifnull_n 22 dX11_sheet_9 (by decide) ?_
    refine ez_bipush 24 dX11_sheet_22 rfl (-2) (by decide) ?_
    refine ez_iret .int dX11_sheet_24 rfl rfl ?_
    have eS : S_sheet ss sn si x y z = (-2, ss, sn, si) := by simp [S_sheet, i2]
    exact ⟨by rw [eS], by rw [eS]; exact hR, ez_fm.rfl⟩
  · rw [e2]
    have i2 : ep_ix (nI j2) 4 = some j2 := ep_ix_nI b2 (by omega)
    show Ez G mX11_sheet d 5 [(0, eR 11 0), (1, eI (nI j2)), (2, eI y), (3, eI z)] [eR 4 j2] M _
    refine ez_astore 7 [(4, eR 4 j2), (0, eR 11 0), (1, eI (nI j2)), (2, eI y), (3, eI z)] dX11_sheet_5 rfl (by decide) rfl ?_
    refine ez_aload 9 dX11_sheet_7 rfl rfl ?_
    refine ez_ifnull_r 12 dX11_sheet_9 rfl ?_
    refine ez_iload_n 13 dX11_sheet_12 rfl rfl ?_
    refine ez_iconst 14 dX11_sheet_13 rfl (-1) (by decide) ?_
    refine ez_icmp_lt 17 22 dX11_sheet_14 rfl (by decide) (fun h14 => ?_) (fun h14 => ?_)
    · refine ez_bipush 24 dX11_sheet_22 rfl (-2) (by decide) ?_
      refine ez_iret .int dX11_sheet_24 rfl rfl ?_
      have e3 := ep_ix3n (Or.inl h14)
      have eS : S_sheet ss sn si (nI j2) y z = (-2, ss, sn, si) := by simp [S_sheet, i2, e3.1, e3.2]
      exact ⟨by rw [eS], by rw [eS]; exact hR, ez_fm.rfl⟩
    · refine ez_iload_n 18 dX11_sheet_17 rfl rfl ?_
      refine ez_iconst 19 dX11_sheet_18 rfl (nI 3) (by decide) ?_
      refine ez_icmp_lt 22 25 dX11_sheet_19 rfl (by decide) (fun h19 => ?_) (fun h19 => ?_)
      · refine ez_iload_n 26 dX11_sheet_25 rfl rfl ?_
        refine ez_iconst 27 dX11_sheet_26 rfl (-1) (by decide) ?_
        refine ez_icmp_ne 30 39 dX11_sheet_27 rfl (by decide) (fun h27 => ?_) (fun h27 => ?_)
        · obtain ⟨o, ho, rfl⟩ := ep_ix3 h14 h19 h27
          have io := ep_ix_nI ho (by decide)
          refine ez_iload_n 40 dX11_sheet_39 rfl rfl ?_
          refine ez_bipush 42 dX11_sheet_40 rfl (nI 40) (by decide) ?_
          refine ez_icmp_le 45 48 dX11_sheet_42 rfl (by decide) (fun h42 => ?_) (fun h42 => ?_)
          · refine ez_iload_n 49 dX11_sheet_48 rfl rfl ?_
            refine ez_if_ge 52 55 dX11_sheet_49 rfl (by decide) (fun h49 => ?_) (fun h49 => ?_)
            · obtain ⟨c, hc, rfl⟩ := ep_ix_rng (n := 40) (Int32.not_lt.mpr h49) h42 (by decide)
              refine ez_aload 57 dX11_sheet_55 rfl rfl ?_
              refine ez_iload_n 58 dX11_sheet_57 rfl rfl ?_
              refine ez_iload_n 59 dX11_sheet_58 rfl rfl ?_
              refine ez_callV 62 [eI (nI o), eI (nI c)] [] dX11_sheet_59 rfl rfl ok_X4_clear in_X4_clear (by decide) (by show j2 < 4; omega) ln_X11_303 (by omega) (Nat.le_of_ble_eq_true rfl) (c_X4_clear G (d - 1) j2 (nI o) (nI c) M (by show j2 < 4; omega)) (fun r59 M59 q59 => ?_)
              obtain ⟨rfl, e59⟩ := q59
              rw [e59]
              show Ez G mX11_sheet d 62 [(4, eR 4 j2), (0, eR 11 0), (1, eI (nI j2)), (2, eI (nI o)), (3, eI (nI c))] [] (ez_row (ez_st (ez_st M 4 j2 0 (nI o)) 4 j2 1 (nI c)) 22 j2 (ep_fl (fun _ => nI 0) (M.1 22 j2) 40)) _
              refine ez_iconst 63 dX11_sheet_62 rfl (nI 1) (by decide) ?_
              refine ez_iret .int dX11_sheet_63 rfl rfl ?_
              have eS : S_sheet ss sn si (nI j2) (nI o) (nI c) = (nI 1, va_up ss j2 (o + 1), va_up sn j2 c, va_up si j2 (fun _ => nI 0)) := by simp [S_sheet, i2, h27, io, Int32.not_lt.mpr h42, Int32.not_lt.mpr h49, nI_clamp (show c < 2 ^ 31 by omega)]
              exact ⟨by rw [eS], by rw [eS]; exact RCs_new b2 (by omega) hR, ((ez_fm.rfl.st (by decide)).st (by decide)).row (by decide)⟩
            · refine ez_bipush 54 dX11_sheet_52 rfl (-14) (by decide) ?_
              refine ez_iret .int dX11_sheet_54 rfl rfl ?_
              have eS : S_sheet ss sn si (nI j2) (nI o) z = (-14, ss, sn, si) := by simp [S_sheet, i2, h27, io, Int32.not_lt.mpr h42, Int32.not_le.mp h49]
              exact ⟨by rw [eS], by rw [eS]; exact hR, ez_fm.rfl⟩
          · refine ez_bipush 47 dX11_sheet_45 rfl (-2) (by decide) ?_
            refine ez_iret .int dX11_sheet_47 rfl rfl ?_
            have eS : S_sheet ss sn si (nI j2) (nI o) z = (-2, ss, sn, si) := by simp [S_sheet, i2, h27, io, Int32.not_le.mp h42]
            exact ⟨by rw [eS], by rw [eS]; exact hR, ez_fm.rfl⟩
        · subst h27
          refine ez_aload 32 dX11_sheet_30 rfl rfl ?_
          refine ez_iconst 33 dX11_sheet_32 rfl (-1) (by decide) ?_
          refine ez_iconst 34 dX11_sheet_33 rfl (nI 0) (by decide) ?_
          refine ez_callV 37 [eI (-1), eI (nI 0)] [] dX11_sheet_34 rfl rfl ok_X4_clear in_X4_clear (by decide) (by show j2 < 4; omega) ln_X11_303 (by omega) (Nat.le_of_ble_eq_true rfl) (c_X4_clear G (d - 1) j2 (-1) (nI 0) M (by show j2 < 4; omega)) (fun r34 M34 q34 => ?_)
          obtain ⟨rfl, e34⟩ := q34
          rw [e34]
          show Ez G mX11_sheet d 37 [(4, eR 4 j2), (0, eR 11 0), (1, eI (nI j2)), (2, eI (-1)), (3, eI z)] [] (ez_row (ez_st (ez_st M 4 j2 0 (-1)) 4 j2 1 (nI 0)) 22 j2 (ep_fl (fun _ => nI 0) (M.1 22 j2) 40)) _
          refine ez_iconst 38 dX11_sheet_37 rfl (nI 1) (by decide) ?_
          refine ez_iret .int dX11_sheet_38 rfl rfl ?_
          have eS : S_sheet ss sn si (nI j2) (-1) z = (nI 1, va_up ss j2 0, sn, si) := by simp [S_sheet, i2]
          exact ⟨by rw [eS], by rw [eS]; exact RCs_gone b2 hR, ((ez_fm.rfl.st (by decide)).st (by decide)).row (by decide)⟩
      · refine ez_bipush 24 dX11_sheet_22 rfl (-2) (by decide) ?_
        refine ez_iret .int dX11_sheet_24 rfl rfl ?_
        have e3 := ep_ix3n (Or.inr h19)
        have eS : S_sheet ss sn si (nI j2) y z = (-2, ss, sn, si) := by simp [S_sheet, i2, e3.1, e3.2]
        exact ⟨by rw [eS], by rw [eS]; exact hR, ez_fm.rfl⟩
theorem RCs_put {ss sn : Nat → Nat} {si : Nat → Nat → Int32} {M : EzM} {s i : Nat} {v v' : Int32} (hs : s < 4) (hv : v = v') (hR : RCs ss sn si M) : RCs ss sn (ep_up2 si s i v') (ez_st M 22 s i v) := by
  subst hv
  intro t ht
  obtain ⟨h1, h2⟩ := hR t ht
  refine ⟨fun h => by simp [ez_rd, h1 h], fun h => ?_⟩
  obtain ⟨a1, a2, a3⟩ := h2 h
  refine ⟨by simp [ez_rd, a1], by simp [ez_rd, a2], fun j hj => ?_⟩
  simp only [ez_rd, ep_up2, true_and]
  by_cases e : t = s ∧ j = i
  · rw [if_pos e, if_pos e]
  · rw [if_neg e, if_neg e, a3 j hj]
set_option maxRecDepth 20000 in
theorem c_X11_cell (G : EzG) (d : Nat) (ss sn : Nat → Nat) (si : Nat → Nat → Int32) (x y z : Int32) (M : EzM) (hd : 2 ≤ d) (hW : WFs ss sn) (hR : RCs ss sn si M) : Ezc G mX11_cell d [eR 11 0, eI x, eI y, eI z] M (fun r M' => r = some (eI (S_cell ss sn si x y z).1) ∧ RCs (S_cell ss sn si x y z).2.1 (S_cell ss sn si x y z).2.2.1 (S_cell ss sn si x y z).2.2.2 M' ∧ ez_fm [4, 22] M M') := by
  refine Ezc.of (by decide +kernel) (Nat.le_of_ble_eq_true rfl) ?_
  show Ez G mX11_cell d 0 [(0, eR 11 0), (1, eI x), (2, eI y), (3, eI z)] [] M _
  refine ez_aload_n 1 dX11_cell_0 rfl rfl ?_
  refine ez_iload_n 2 dX11_cell_1 rfl rfl ?_
  refine ez_callV 5 [eI x] [] dX11_cell_2 rfl rfl ok_X11_sheetAt in_X11_sheetAt (by decide) (by show 0 < 1; omega) ln_X11_266 (by omega) (Nat.le_of_ble_eq_true rfl) (c_X11_sheetAt G (d - 1) x M (by omega)) (fun r2 M2 q2 => ?_)
  obtain ⟨e2, ⟨rfl, i2⟩ | ⟨j2, b2, rfl, rfl⟩⟩ := q2
  · rw [e2]
    show Ez G mX11_cell d 5 [(0, eR 11 0), (1, eI x), (2, eI y), (3, eI z)] [eN] M _
    refine ez_astore 7 [(4, eN), (0, eR 11 0), (1, eI x), (2, eI y), (3, eI z)] dX11_cell_5 rfl (by decide) rfl ?_
    refine ez_aload 9 dX11_cell_7 rfl rfl ?_
    refine ez_ifnonnull_n 12 dX11_cell_9 rfl ?_
    refine ez_bipush 14 dX11_cell_12 rfl (-2) (by decide) ?_
    refine ez_iret .int dX11_cell_14 rfl rfl ?_
    have eS : S_cell ss sn si x y z = ((-2), ss, sn, si) := by simp [S_cell, i2]
    exact ⟨by rw [eS], by rw [eS]; exact hR, ez_fm.rfl⟩
  · rw [e2]
    have i2 : ep_ix (nI j2) 4 = some j2 := ep_ix_nI b2 (by omega)
    show Ez G mX11_cell d 5 [(0, eR 11 0), (1, eI (nI j2)), (2, eI y), (3, eI z)] [eR 4 j2] M _
    refine ez_astore 7 [(4, eR 4 j2), (0, eR 11 0), (1, eI (nI j2)), (2, eI y), (3, eI z)] dX11_cell_5 rfl (by decide) rfl ?_
    refine ez_aload 9 dX11_cell_7 rfl rfl ?_
    refine ez_ifnonnull_r 15 dX11_cell_9 (by decide) ?_
    refine ez_aload 17 dX11_cell_15 rfl rfl ?_
    refine ez_callV 20 [] [] dX11_cell_17 rfl rfl ok_X4_isMissing in_X4_isMissing (by decide) (by show j2 < 4; omega) ln_X11_270 (by omega) (Nat.le_of_ble_eq_true rfl) (c_isMissing_c G (d - 1) j2 ss sn si M (by show j2 < 4; omega) hW hR) (fun r17 M17 q17 => ?_)
    obtain ⟨e17, ⟨rfl, s17⟩ | ⟨rfl, s17⟩⟩ := q17
    · rw [e17]
      show Ez G mX11_cell d 20 [(4, eR 4 j2), (0, eR 11 0), (1, eI (nI j2)), (2, eI y), (3, eI z)] [eI (nI 1)] M _
      refine ez_nif_eq 23 26 dX11_cell_20 rfl (by decide) (by omega) (fun h20 => ?_) (fun h20 => ?_)
      · exact absurd h20 (by decide)
      · refine ez_bipush 25 dX11_cell_23 rfl (-11) (by decide) ?_
        refine ez_iret .int dX11_cell_25 rfl rfl ?_
        have eS : S_cell ss sn si (nI j2) y z = ((-11), ss, sn, si) := by simp [S_cell, i2, s17, h20]
        exact ⟨by rw [eS], by rw [eS]; exact hR, ez_fm.rfl⟩
    · rw [e17]
      have p17 := Nat.pos_of_ne_zero s17
      have z17 := (hW j2 (by omega)).2 p17
      show Ez G mX11_cell d 20 [(4, eR 4 j2), (0, eR 11 0), (1, eI (nI j2)), (2, eI y), (3, eI z)] [eI (nI 0)] M _
      refine ez_nif_eq 23 26 dX11_cell_20 rfl (by decide) (by omega) (fun h20 => ?_) (fun h20 => ?_)
      · refine ez_iload_n 27 dX11_cell_26 rfl rfl ?_
        refine ez_aload 29 dX11_cell_27 rfl rfl ?_
        refine ez_getf 32 (eI (M.1 4 j2 1)) dX11_cell_29 rfl fl_X11_307 (by show j2 < 4; omega) rfl ?_
        refine ez_top (nI (sn j2)) (((hR j2 (by omega)).2 (by omega)).2.1) ?_
        refine ez_callS 35 [eI y, eI (nI (sn j2))] [] dX11_cell_32 rfl rfl ok_X11_isInside st_X11_isInside ln_X11_134 (by omega) (Nat.le_of_ble_eq_true rfl) (c_isInside_c G (d - 1) y (sn j2) M (by omega)) (fun r32 M32 q32 => ?_)
        obtain ⟨e32, ⟨rfl, i32⟩ | ⟨j32, b32, rfl, rfl⟩⟩ := q32
        · rw [e32]
          show Ez G mX11_cell d 35 [(4, eR 4 j2), (0, eR 11 0), (1, eI (nI j2)), (2, eI y), (3, eI z)] [eI (nI 0)] M _
          refine ez_nif_ne 38 41 dX11_cell_35 rfl (by decide) (by omega) (fun h35 => ?_) (fun h35 => ?_)
          · exact absurd h35 (by decide)
          · refine ez_bipush 40 dX11_cell_38 rfl (-12) (by decide) ?_
            refine ez_iret .int dX11_cell_40 rfl rfl ?_
            have eS : S_cell ss sn si (nI j2) y z = ((-12), ss, sn, si) := by simp [S_cell, i2, s17, h20, i32, h35]
            exact ⟨by rw [eS], by rw [eS]; exact hR, ez_fm.rfl⟩
        · rw [e32]
          have i32 : ep_ix (nI j32) (sn j2) = some j32 := ep_ix_nI b32 (by omega)
          show Ez G mX11_cell d 35 [(4, eR 4 j2), (0, eR 11 0), (1, eI (nI j2)), (2, eI (nI j32)), (3, eI z)] [eI (nI 1)] M _
          refine ez_nif_ne 38 41 dX11_cell_35 rfl (by decide) (by omega) (fun h35 => ?_) (fun h35 => ?_)
          · refine ez_aload 43 dX11_cell_41 rfl rfl ?_
            refine ez_getf 46 (eR 22 j2) dX11_cell_43 rfl fl_X11_308 (by show j2 < 4; omega) rfl ?_
            refine ez_iload_n 47 dX11_cell_46 rfl rfl ?_
            refine ez_aload 49 dX11_cell_47 rfl rfl ?_
            refine ez_iload_n 50 dX11_cell_49 rfl rfl ?_
            refine ez_callV 53 [eI z] [eI (nI j32), eR 22 j2] dX11_cell_50 rfl rfl ok_X4_narrowed in_X4_narrowed (by decide) (by show j2 < 4; omega) ln_X11_311 (by omega) (Nat.le_of_ble_eq_true rfl) (c_X4_narrowed G (d - 1) j2 z M (by show j2 < 4; omega)) (fun r50 M50 q50 => ?_)
            obtain ⟨rfl, e50⟩ := q50
            rw [e50]
            show Ez G mX11_cell d 53 [(4, eR 4 j2), (0, eR 11 0), (1, eI (nI j2)), (2, eI (nI j32)), (3, eI z)] [eI (ep_nar (M.1 4 j2 0) z), eI (nI j32), eR 22 j2] M _
            refine ez_callS 56 [eR 22 j2, eI (nI j32), eI (ep_nar (M.1 4 j2 0) z)] [] dX11_cell_53 rfl rfl ok_X11_setItem st_X11_setItem ln_X11_163 (by omega) (Nat.le_of_ble_eq_true rfl) (c_setItem_n G (d - 1) 22 j2 j32 (ep_nar (M.1 4 j2 0) z) M (by decide) (by show j2 < 4; omega) (by show j32 < 40; omega)) (fun r53 M53 q53 => ?_)
            obtain ⟨rfl, e53⟩ := q53
            rw [e53]
            show Ez G mX11_cell d 56 [(4, eR 4 j2), (0, eR 11 0), (1, eI (nI j2)), (2, eI (nI j32)), (3, eI z)] [] (ez_st M 22 j2 j32 (ep_nar (M.1 4 j2 0) z)) _
            refine ez_iconst 57 dX11_cell_56 rfl (nI 1) (by decide) ?_
            refine ez_iret .int dX11_cell_57 rfl rfl ?_
            have eS : S_cell ss sn si (nI j2) (nI j32) z = (nI 1, ss, sn, ep_up2 si j2 j32 (ep_nar (nI (ss j2 - 1)) z)) := by simp [S_cell, i2, s17, i32]
            exact ⟨by rw [eS], by rw [eS]; exact RCs_put b2 (by rw [((hR j2 b2).2 p17).1]) hR, ez_fm.rfl.st (by decide)⟩
          · exact absurd h35 (by decide)
      · exact absurd h20 (by decide)
theorem ep_nar_0 {a : Nat} {z : Int32} (h : a = 0) : ep_nar (nI a) z = z.toInt8.toInt32 := by rw [h, ep_nar, if_pos nI_0]
theorem ep_nar_1 {a : Nat} {z : Int32} (h : a = 1) : ep_nar (nI a) z = z.toInt16.toInt32 := by rw [h, ep_nar, if_neg (by decide), if_pos rfl]
theorem ep_nar_2 {a : Nat} {z : Int32} (h : 0 < a) (h2 : a ≠ 1) (h3 : a < 2 ^ 31) : ep_nar (nI a) z = z := by
  rw [ep_nar, if_neg (nI_ne0 h h3), if_neg (fun q => h2 ((nI_eq h3 (by decide)).mp q))]
def ep_fo (g f : Nat → Int32) (a t : Nat) : Nat → Int32 := fun j => if a ≤ j ∧ j < a + t then g (j - a) else f j
theorem ep_fo_0 (g f : Nat → Int32) (a : Nat) : ep_fo g f a 0 = f := by
  funext j
  unfold ep_fo
  rw [if_neg (by omega)]
theorem ep_fo_s (g f : Nat → Int32) (a t : Nat) {v : Int32} (h : v = g t) : upd (ep_fo g f a t) (a + t) v = ep_fo g f a (t + 1) := by
  funext j
  subst h
  unfold upd ep_fo
  by_cases h1 : j = a + t
  · subst h1
    rw [if_pos rfl, if_pos (by omega), show a + t - a = t by omega]
  · rw [if_neg h1]
    by_cases h2 : a ≤ j ∧ j < a + t
    · rw [if_pos h2, if_pos (by omega)]
    · rw [if_neg h2, if_neg (by omega)]
theorem ep_fo_in {g f : Nat → Int32} {a t j : Nat} (h1 : a ≤ j) (h2 : j < a + t) : ep_fo g f a t j = g (j - a) := by unfold ep_fo; rw [if_pos ⟨h1, h2⟩]
theorem ep_fo_out {g f : Nat → Int32} {a t j : Nat} (h : j < a ∨ a + t ≤ j) : ep_fo g f a t j = f j := by unfold ep_fo; rw [if_neg (by omega)]
theorem RMs_gone {ss sn : Nat → Nat} {si : Nat → Nat → Int32} {M : EzM} {s : Nat} (hs : s < 4) (hR : RMs ss sn si M) {y : Int32} : RMs (va_up ss s 0) sn si (ez_st (ez_st (ez_st M 70 0 s (nI 0)) 71 0 s (-1)) 72 0 s y) := by
  intro t ht
  obtain ⟨h1, h2⟩ := hR t ht
  by_cases e : t = s
  · subst e
    exact ⟨by simp [ez_rd, va_up], fun h => by simp [va_up] at h⟩
  · refine ⟨by rw [va_up_ne _ _ e]; simp [ez_rd, e, h1], fun h => ?_⟩
    rw [va_up_ne _ _ e] at h ⊢
    obtain ⟨a1, a2, a3⟩ := h2 h
    exact ⟨by simp [ez_rd, e, a1], by simp [ez_rd, e, a2], fun i hi => by simp [ez_rd, a3 i hi]⟩
theorem RMs_new {ss sn : Nat → Nat} {si : Nat → Nat → Int32} {M : EzM} {s o n : Nat} (hs : s < 4) (hW : WFs ss sn) (hR : RMs ss sn si M) {f : Nat → Int32} (hf : f = M.1 73 0) (hn : n ≤ 40) : RMs (va_up ss s (o + 1)) (va_up sn s n) (va_up si s (fun _ => nI 0)) (ez_row (ez_st (ez_st (ez_st M 70 0 s (nI 1)) 71 0 s (nI o)) 72 0 s (nI n)) 73 0 (ep_fo (fun _ => nI 0) f (40 * s) n)) := by
  subst hf
  intro t ht
  obtain ⟨h1, h2⟩ := hR t ht
  by_cases e : t = s
  · subst e
    refine ⟨by simp [ez_rdr, ez_rd, va_up], fun _ => ⟨by simp [ez_rdr, ez_rd, va_up], by simp [ez_rdr, ez_rd, va_up], fun i hi => ?_⟩⟩
    rw [va_up_self] at hi
    rw [va_up_self]
    simp only [ez_rdr, true_and, if_true]
    rw [ep_fo_in (by omega) (by omega)]
  · refine ⟨by rw [va_up_ne _ _ e]; simp [ez_rdr, ez_rd, e, h1], fun h => ?_⟩
    rw [va_up_ne _ _ e] at h
    rw [va_up_ne _ _ e, va_up_ne _ _ e, va_up_ne _ _ e]
    obtain ⟨a1, a2, a3⟩ := h2 h
    have hz := (hW t ht).2 h
    refine ⟨by simp [ez_rdr, ez_rd, e, a1], by simp [ez_rdr, ez_rd, e, a2], fun i hi => ?_⟩
    rw [← a3 i hi]
    simp only [ez_rdr, true_and, if_true]
    rw [ep_fo_out (by omega)]
theorem RMs_put {ss sn : Nat → Nat} {si : Nat → Nat → Int32} {M : EzM} {s i : Nat} {v v' : Int32} (hs : s < 4) (hi : i < sn s) (h0 : 0 < ss s) (hW : WFs ss sn) (hv : v = v') (hR : RMs ss sn si M) : RMs ss sn (ep_up2 si s i v') (ez_st M 73 0 (40 * s + i) v) := by
  subst hv
  intro t ht
  obtain ⟨h1, h2⟩ := hR t ht
  refine ⟨by simp [ez_rd, h1], fun h => ?_⟩
  obtain ⟨a1, a2, a3⟩ := h2 h
  refine ⟨by simp [ez_rd, a1], by simp [ez_rd, a2], fun j hj => ?_⟩
  have z1 := (hW t ht).2 h
  have z2 := (hW s hs).2 h0
  simp only [ez_rd, ep_up2, true_and]
  by_cases e : t = s ∧ j = i
  · rw [if_pos (by omega), if_pos e]
  · rw [if_neg (by omega), if_neg e, a3 j hj]
set_option maxRecDepth 20000 in
theorem lp_X12_sheet (g : EzH) (d : Nat) (s o n : Nat) (P : Option EzV → EzM → Prop) (M : EzM) (hs : s < 4) (ho : o < 3) (hn : n ≤ 40) (hP : P (some (eI (nI 1))) (ez_row M 73 0 (ep_fo (fun _ => nI 0) (M.1 73 0) (40 * s) n))) : ∀ (z : Nat) (t : Nat) (M1 : EzM), n - t = z → t ≤ n → M1 = ez_row M 73 0 (ep_fo (fun _ => nI 0) (M.1 73 0) (40 * s) t) → Ez (true, g) mX12_sheet d 77 [(4, eI (nI t)), (0, eR 12 0), (1, eI (nI s)), (2, eI (nI o)), (3, eI (nI n))] [] M1 (P) := by
  intro z
  induction z using Nat.strongRecOn with
  | ind z ih =>
    intro t M1 hz ht hM
    refine ez_iload 79 dX12_sheet_77 rfl rfl ?_
    refine ez_iload_n 80 dX12_sheet_79 rfl rfl ?_
    refine ez_ncmp_ge 83 106 dX12_sheet_80 rfl (by decide) (by omega) (by omega) (fun h80 => ?_) (fun h80 => ?_)
    · refine ez_iconst 107 dX12_sheet_106 rfl (nI 1) (by decide) ?_
      refine ez_iret .int dX12_sheet_107 rfl rfl ?_
      rw [hM, show t = n by omega]
      exact hP
    · refine ez_iload_n 84 dX12_sheet_83 rfl rfl ?_
      refine ez_nif_lt 87 dX12_sheet_84 rfl (by omega) ?_
      refine ez_aload_n 88 dX12_sheet_87 rfl rfl ?_
      refine ez_getf 91 (eR 73 0) dX12_sheet_88 rfl fl_X12_108 (by show 0 < 1; omega) rfl ?_
      refine ez_bipush 93 dX12_sheet_91 rfl (nI 40) (by decide) ?_
      refine ez_iload_n 94 dX12_sheet_93 rfl rfl ?_
      refine ez_imul 95 dX12_sheet_94 rfl ?_
      refine ez_top (nI (40 * s)) (pk_mul _ _) ?_
      refine ez_iload 97 dX12_sheet_95 rfl rfl ?_
      refine ez_iadd 98 dX12_sheet_97 rfl ?_
      refine ez_top (nI (40 * s + t)) (nI_add _ _) ?_
      refine ez_iconst 99 dX12_sheet_98 rfl (nI 0) (by decide) ?_
      refine ez_iastN (40 * s + t) 100 dX12_sheet_99 rfl (by decide) (by show 0 < 1; omega) (by show 40 * s + t < 160; omega) ?_
      refine ez_iinc 103 (nI (t + 1)) [(4, eI (nI (t + 1))), (0, eR 12 0), (1, eI (nI s)), (2, eI (nI o)), (3, eI (nI n))] dX12_sheet_100 rfl rfl (nI_add t 1) (by decide) rfl ?_
      refine ez_goto 77 dX12_sheet_103 (by decide) ?_
      exact ih (n - (t + 1)) (by omega) (t + 1) _ rfl (by omega) (by rw [hM, ez_st_row, ep_fo_s _ _ _ _ rfl])
theorem ep_i3_m {y : Int32} : ep_i3 y (-1) (nI 2) = if y < -1 ∨ ¬ y < nI 3 then nI 0 else nI 1 := by
  unfold ep_i3
  have e : (nI 2 < y) ↔ ¬ y < nI 3 := by
    rw [Int32.lt_iff_toInt_lt, Int32.lt_iff_toInt_lt, nI_toInt (by decide), nI_toInt (by decide)]; omega
  simp only [e]
theorem c_in_m (g : EzH) (d : Nat) (y : Int32) (M : EzM) : Ezc (true, g) mX12_in d [eL y.toInt64, eL (-1 : Int32).toInt64, eL (nI 2).toInt64] M (fun r M' => M' = M ∧ ((r = some (eI (nI 0)) ∧ ep_ix y 3 = none ∧ ¬ y = -1) ∨ (r = some (eI (nI 1)) ∧ y = -1) ∨ ∃ o : Nat, o < 3 ∧ y = nI o ∧ r = some (eI (nI 1)))) :=
  (c_in_3 g d y (-1) (nI 2) M).wk (fun r M' h => by
    refine ⟨h.2, ?_⟩
    rw [h.1, ep_i3_m]
    by_cases q : y < -1 ∨ ¬ y < nI 3
    · exact Or.inl ⟨by rw [if_pos q], ep_ix3n q⟩
    · rw [if_neg q]
      by_cases q2 : y = -1
      · exact Or.inr (Or.inl ⟨rfl, q2⟩)
      · obtain ⟨o, ho, e⟩ := ep_ix3 (fun z => q (Or.inl z)) (Classical.not_not.mp (fun z => q (Or.inr z))) q2
        exact Or.inr (Or.inr ⟨o, ho, e, rfl⟩))
set_option maxRecDepth 20000 in
theorem c_X12_sheet (g : EzH) (d : Nat) (ss sn : Nat → Nat) (si : Nat → Nat → Int32) (x y z : Int32) (M : EzM) (hd : 2 ≤ d) (hW : WFs ss sn) (hR : RMs ss sn si M) : Ezc (true, g) mX12_sheet d [eR 12 0, eI x, eI y, eI z] M (fun r M' => r = some (eI (S_sheet ss sn si x y z).1) ∧ RMs (S_sheet ss sn si x y z).2.1 (S_sheet ss sn si x y z).2.2.1 (S_sheet ss sn si x y z).2.2.2 M' ∧ ez_fm [70, 71, 72, 73] M M') := by
  refine Ezc.of (by decide +kernel) (Nat.le_of_ble_eq_true rfl) ?_
  show Ez (true, g) mX12_sheet d 0 [(0, eR 12 0), (1, eI x), (2, eI y), (3, eI z)] [] M _
  refine ez_iload_n 1 dX12_sheet_0 rfl rfl ?_
  refine ez_callS 4 [eI x] [] dX12_sheet_1 rfl rfl ok_X12_isSheet st_X12_isSheet ln_X12_384 (by omega) (Nat.le_of_ble_eq_true rfl) (c_X12_isSheet g (d - 1) x M (by omega)) (fun r1 M1 q1 => ?_)
  obtain ⟨e1, ⟨rfl, i1⟩ | ⟨j1, b1, rfl, rfl⟩⟩ := q1
  · rw [e1]
    show Ez (true, g) mX12_sheet d 4 [(0, eR 12 0), (1, eI x), (2, eI y), (3, eI z)] [eI (nI 0)] M _
    refine ez_nif_eq 7 31 dX12_sheet_4 rfl (by decide) (by omega) (fun h4 => ?_) (fun h4 => ?_)
    · refine ez_bipush 33 dX12_sheet_31 rfl (-2) (by decide) ?_
      refine ez_iret .int dX12_sheet_33 rfl rfl ?_
      have eS : S_sheet ss sn si x y z = (-2, ss, sn, si) := by simp [S_sheet, i1]
      exact ⟨by rw [eS], by rw [eS]; exact hR, ez_fm.rfl⟩
    · exact absurd h4 (by decide)
  · rw [e1]
    have i1 : ep_ix (nI j1) 4 = some j1 := ep_ix_nI b1 (by omega)
    show Ez (true, g) mX12_sheet d 4 [(0, eR 12 0), (1, eI (nI j1)), (2, eI y), (3, eI z)] [eI (nI 1)] M _
    refine ez_nif_eq 7 31 dX12_sheet_4 rfl (by decide) (by omega) (fun h4 => ?_) (fun h4 => ?_)
    · exact absurd h4 (by decide)
    · refine ez_iload_n 8 dX12_sheet_7 rfl rfl ?_
      refine ez_i2l 9 dX12_sheet_8 rfl ?_
      refine ez_ldc2 12 dX12_sheet_9 rfl (-1) cn_X12_278 ?_
      refine ez_topL ((-1 : Int32)).toInt64 (by decide) ?_
      refine ez_ldc2 15 dX12_sheet_12 rfl 2 cn_X12_239 ?_
      refine ez_topL (nI 2).toInt64 (by decide) ?_
      refine ez_callS 18 [eL y.toInt64, eL (((-1 : Int32)).toInt64), eL ((nI 2).toInt64)] [] dX12_sheet_15 rfl rfl ok_X12_in st_X12_in ln_X12_133 (by omega) (Nat.le_of_ble_eq_true rfl) (c_in_m g (d - 1) y M) (fun r15 M15 q15 => ?_)
      obtain ⟨e15, ⟨rfl, a15, n15⟩ | ⟨rfl, rfl⟩ | ⟨o, ho, rfl, rfl⟩⟩ := q15
      · rw [e15]
        show Ez (true, g) mX12_sheet d 18 [(0, eR 12 0), (1, eI (nI j1)), (2, eI y), (3, eI z)] [eI (nI 0)] M _
        refine ez_nif_eq 21 31 dX12_sheet_18 rfl (by decide) (by omega) (fun h18 => ?_) (fun h18 => ?_)
        · refine ez_bipush 33 dX12_sheet_31 rfl (-2) (by decide) ?_
          refine ez_iret .int dX12_sheet_33 rfl rfl ?_
          have eS : S_sheet ss sn si (nI j1) y z = (-2, ss, sn, si) := by simp [S_sheet, i1, a15, n15]
          exact ⟨by rw [eS], by rw [eS]; exact hR, ez_fm.rfl⟩
        · exact absurd h18 (by decide)
      · rw [e15]
        show Ez (true, g) mX12_sheet d 18 [(0, eR 12 0), (1, eI (nI j1)), (2, eI (-1)), (3, eI z)] [eI (nI 1)] M _
        refine ez_nif_eq 21 31 dX12_sheet_18 rfl (by decide) (by omega) (fun h18 => ?_) (fun h18 => ?_)
        · exact absurd h18 (by decide)
        · refine ez_iload_n 22 dX12_sheet_21 rfl rfl ?_
          refine ez_if_lt 25 34 dX12_sheet_22 rfl (by decide) (fun h22 => ?_) (fun h22 => ?_)
          · refine ez_iload_n 35 dX12_sheet_34 rfl rfl ?_
            refine ez_if_lt 38 45 dX12_sheet_35 rfl (by decide) (fun h35 => ?_) (fun h35 => ?_)
            · refine ez_aload_n 46 dX12_sheet_45 rfl rfl ?_
              refine ez_getf 49 (eR 70 0) dX12_sheet_46 rfl fl_X12_99 (by show 0 < 1; omega) rfl ?_
              refine ez_iload_n 50 dX12_sheet_49 rfl rfl ?_
              refine ez_iload_n 51 dX12_sheet_50 rfl rfl ?_
              refine ez_if_lt 54 58 dX12_sheet_51 rfl (by decide) (fun h51 => ?_) (fun h51 => ?_)
              · refine ez_iconst 59 dX12_sheet_58 rfl (nI 0) (by decide) ?_
                refine ez_zastN j1 60 dX12_sheet_59 rfl (by decide) (by show 0 < 1; omega) (by show j1 < 4; omega) (by decide) ?_
                refine ez_aload_n 61 dX12_sheet_60 rfl rfl ?_
                refine ez_getf 64 (eR 71 0) dX12_sheet_61 rfl fl_X12_102 (by show 0 < 1; omega) rfl ?_
                refine ez_iload_n 65 dX12_sheet_64 rfl rfl ?_
                refine ez_iload_n 66 dX12_sheet_65 rfl rfl ?_
                refine ez_iastN j1 67 dX12_sheet_66 rfl (by decide) (by show 0 < 1; omega) (by show j1 < 4; omega) ?_
                refine ez_aload_n 68 dX12_sheet_67 rfl rfl ?_
                refine ez_getf 71 (eR 72 0) dX12_sheet_68 rfl fl_X12_105 (by show 0 < 1; omega) rfl ?_
                refine ez_iload_n 72 dX12_sheet_71 rfl rfl ?_
                refine ez_iload_n 73 dX12_sheet_72 rfl rfl ?_
                refine ez_iastN j1 74 dX12_sheet_73 rfl (by decide) (by show 0 < 1; omega) (by show j1 < 4; omega) ?_
                refine ez_iconst 75 dX12_sheet_74 rfl (nI 0) (by decide) ?_
                refine ez_istore 77 [(4, eI (nI 0)), (0, eR 12 0), (1, eI (nI j1)), (2, eI (-1)), (3, eI z)] dX12_sheet_75 rfl (by decide) rfl ?_
                refine ez_iload 79 dX12_sheet_77 rfl rfl ?_
                refine ez_iload_n 80 dX12_sheet_79 rfl rfl ?_
                refine ez_icmp_ge 83 106 dX12_sheet_80 rfl (by decide) (fun h80 => ?_) (fun h80 => ?_)
                · refine ez_iconst 107 dX12_sheet_106 rfl (nI 1) (by decide) ?_
                  refine ez_iret .int dX12_sheet_107 rfl rfl ?_
                  have eS : S_sheet ss sn si (nI j1) (-1) z = (nI 1, va_up ss j1 0, sn, si) := by simp [S_sheet, i1]
                  exact ⟨by rw [eS], by rw [eS]; exact RMs_gone b1 hR, ((ez_fm.rfl.st (by decide)).st (by decide)).st (by decide)⟩
                · refine ez_iload_n 84 dX12_sheet_83 rfl rfl ?_
                  refine ez_if_lt 87 106 dX12_sheet_84 rfl (by decide) (fun h84 => ?_) (fun h84 => ?_)
                  · refine ez_iconst 107 dX12_sheet_106 rfl (nI 1) (by decide) ?_
                    refine ez_iret .int dX12_sheet_107 rfl rfl ?_
                    have eS : S_sheet ss sn si (nI j1) (-1) z = (nI 1, va_up ss j1 0, sn, si) := by simp [S_sheet, i1]
                    exact ⟨by rw [eS], by rw [eS]; exact RMs_gone b1 hR, ((ez_fm.rfl.st (by decide)).st (by decide)).st (by decide)⟩
                  · exact absurd (show (-1 : Int32) < 0 by decide) h84
              · exact absurd (show (-1 : Int32) < 0 by decide) h51
            · exact absurd (show (-1 : Int32) < 0 by decide) h35
          · exact absurd (show (-1 : Int32) < 0 by decide) h22
      · rw [e15]
        have io := ep_ix_nI ho (show 3 < 2 ^ 31 by decide)
        show Ez (true, g) mX12_sheet d 18 [(0, eR 12 0), (1, eI (nI j1)), (2, eI (nI o)), (3, eI z)] [eI (nI 1)] M _
        refine ez_nif_eq 21 31 dX12_sheet_18 rfl (by decide) (by omega) (fun h18 => ?_) (fun h18 => ?_)
        · exact absurd h18 (by decide)
        · refine ez_iload_n 22 dX12_sheet_21 rfl rfl ?_
          refine ez_nif_lt 25 dX12_sheet_22 rfl (by omega) ?_
          refine ez_iload_n 26 dX12_sheet_25 rfl rfl ?_
          refine ez_bipush 28 dX12_sheet_26 rfl (nI 40) (by decide) ?_
          refine ez_icmp_le 31 34 dX12_sheet_28 rfl (by decide) (fun h28 => ?_) (fun h28 => ?_)
          · refine ez_iload_n 35 dX12_sheet_34 rfl rfl ?_
            refine ez_nif_lt 38 dX12_sheet_35 rfl (by omega) ?_
            refine ez_iload_n 39 dX12_sheet_38 rfl rfl ?_
            refine ez_if_ge 42 45 dX12_sheet_39 rfl (by decide) (fun h39 => ?_) (fun h39 => ?_)
            · obtain ⟨c, hc, rfl⟩ := ep_ix_rng (n := 40) (Int32.not_lt.mpr h39) h28 (by decide)
              refine ez_aload_n 46 dX12_sheet_45 rfl rfl ?_
              refine ez_getf 49 (eR 70 0) dX12_sheet_46 rfl fl_X12_99 (by show 0 < 1; omega) rfl ?_
              refine ez_iload_n 50 dX12_sheet_49 rfl rfl ?_
              refine ez_iload_n 51 dX12_sheet_50 rfl rfl ?_
              refine ez_nif_lt 54 dX12_sheet_51 rfl (by omega) ?_
              refine ez_iconst 55 dX12_sheet_54 rfl (nI 1) (by decide) ?_
              refine ez_goto 59 dX12_sheet_55 (by decide) ?_
              refine ez_zastN j1 60 dX12_sheet_59 rfl (by decide) (by show 0 < 1; omega) (by show j1 < 4; omega) (by decide) ?_
              refine ez_aload_n 61 dX12_sheet_60 rfl rfl ?_
              refine ez_getf 64 (eR 71 0) dX12_sheet_61 rfl fl_X12_102 (by show 0 < 1; omega) rfl ?_
              refine ez_iload_n 65 dX12_sheet_64 rfl rfl ?_
              refine ez_iload_n 66 dX12_sheet_65 rfl rfl ?_
              refine ez_iastN j1 67 dX12_sheet_66 rfl (by decide) (by show 0 < 1; omega) (by show j1 < 4; omega) ?_
              refine ez_aload_n 68 dX12_sheet_67 rfl rfl ?_
              refine ez_getf 71 (eR 72 0) dX12_sheet_68 rfl fl_X12_105 (by show 0 < 1; omega) rfl ?_
              refine ez_iload_n 72 dX12_sheet_71 rfl rfl ?_
              refine ez_iload_n 73 dX12_sheet_72 rfl rfl ?_
              refine ez_iastN j1 74 dX12_sheet_73 rfl (by decide) (by show 0 < 1; omega) (by show j1 < 4; omega) ?_
              refine ez_iconst 75 dX12_sheet_74 rfl (nI 0) (by decide) ?_
              refine ez_istore 77 [(4, eI (nI 0)), (0, eR 12 0), (1, eI (nI j1)), (2, eI (nI o)), (3, eI (nI c))] dX12_sheet_75 rfl (by decide) rfl ?_
              refine lp_X12_sheet g d j1 o c _ _ b1 ho (by omega) ?_ (c - 0) 0 _ rfl (by omega) (by rw [ep_fo_0, ez_row_self])
              have eS : S_sheet ss sn si (nI j1) (nI o) (nI c) = (nI 1, va_up ss j1 (o + 1), va_up sn j1 c, va_up si j1 (fun _ => nI 0)) := by simp [S_sheet, i1, io, ep_m1 (show o < 2 ^ 31 by omega), Int32.not_lt.mpr h28, Int32.not_lt.mpr h39, nI_clamp (show c < 2 ^ 31 by omega)]
              exact ⟨by rw [eS], by rw [eS]; exact RMs_new b1 hW hR rfl (by omega), (((ez_fm.rfl.st (by decide)).st (by decide)).st (by decide)).row (by decide)⟩
            · refine ez_bipush 44 dX12_sheet_42 rfl (-14) (by decide) ?_
              refine ez_iret .int dX12_sheet_44 rfl rfl ?_
              have eS : S_sheet ss sn si (nI j1) (nI o) z = (-14, ss, sn, si) := by simp [S_sheet, i1, io, ep_m1 (show o < 2 ^ 31 by omega), Int32.not_lt.mpr h28, Int32.not_le.mp h39]
              exact ⟨by rw [eS], by rw [eS]; exact hR, ez_fm.rfl⟩
          · refine ez_bipush 33 dX12_sheet_31 rfl (-2) (by decide) ?_
            refine ez_iret .int dX12_sheet_33 rfl rfl ?_
            have eS : S_sheet ss sn si (nI j1) (nI o) z = (-2, ss, sn, si) := by simp [S_sheet, i1, io, ep_m1 (show o < 2 ^ 31 by omega), Int32.not_le.mp h28]
            exact ⟨by rw [eS], by rw [eS]; exact hR, ez_fm.rfl⟩
set_option maxRecDepth 20000 in
theorem c_X12_cell (g : EzH) (d : Nat) (ss sn : Nat → Nat) (si : Nat → Nat → Int32) (x y z : Int32) (M : EzM) (hd : 2 ≤ d) (hW : WFs ss sn) (hR : RMs ss sn si M) : Ezc (true, g) mX12_cell d [eR 12 0, eI x, eI y, eI z] M (fun r M' => r = some (eI (S_cell ss sn si x y z).1) ∧ RMs (S_cell ss sn si x y z).2.1 (S_cell ss sn si x y z).2.2.1 (S_cell ss sn si x y z).2.2.2 M' ∧ ez_fm [70, 71, 72, 73] M M') := by
  refine Ezc.of (by decide +kernel) (Nat.le_of_ble_eq_true rfl) ?_
  show Ez (true, g) mX12_cell d 0 [(0, eR 12 0), (1, eI x), (2, eI y), (3, eI z)] [] M _
  refine ez_iload_n 1 dX12_cell_0 rfl rfl ?_
  refine ez_callS 4 [eI x] [] dX12_cell_1 rfl rfl ok_X12_isSheet st_X12_isSheet ln_X12_384 (by omega) (Nat.le_of_ble_eq_true rfl) (c_X12_isSheet g (d - 1) x M (by omega)) (fun r1 M1 q1 => ?_)
  obtain ⟨e1, ⟨rfl, i1⟩ | ⟨j1, b1, rfl, rfl⟩⟩ := q1
  · rw [e1]
    show Ez (true, g) mX12_cell d 4 [(0, eR 12 0), (1, eI x), (2, eI y), (3, eI z)] [eI (nI 0)] M _
    refine ez_nif_ne 7 10 dX12_cell_4 rfl (by decide) (by omega) (fun h4 => ?_) (fun h4 => ?_)
    · exact absurd h4 (by decide)
    · refine ez_bipush 9 dX12_cell_7 rfl (-2) (by decide) ?_
      refine ez_iret .int dX12_cell_9 rfl rfl ?_
      have eS : S_cell ss sn si x y z = ((-2), ss, sn, si) := by simp [S_cell, i1, h4]
      exact ⟨by rw [eS], by rw [eS]; exact hR, ez_fm.rfl⟩
  · rw [e1]
    have i1 : ep_ix (nI j1) 4 = some j1 := ep_ix_nI b1 (by omega)
    show Ez (true, g) mX12_cell d 4 [(0, eR 12 0), (1, eI (nI j1)), (2, eI y), (3, eI z)] [eI (nI 1)] M _
    refine ez_nif_ne 7 10 dX12_cell_4 rfl (by decide) (by omega) (fun h4 => ?_) (fun h4 => ?_)
    · refine ez_aload_n 11 dX12_cell_10 rfl rfl ?_
      refine ez_getf 14 (eR 70 0) dX12_cell_11 rfl fl_X12_99 (by show 0 < 1; omega) rfl ?_
      refine ez_iload_n 15 dX12_cell_14 rfl rfl ?_
      refine ez_zaldN j1 16 dX12_cell_15 rfl (by decide) (by show 0 < 1; omega) (by show j1 < 4; omega) ?_
      by_cases s16 : ss j1 = 0
      · refine ez_top (nI 0) (by rw [(hR j1 b1).1, if_pos s16]) ?_
        refine ez_nif_ne 19 22 dX12_cell_16 rfl (by decide) (by omega) (fun h16 => ?_) (fun h16 => ?_)
        · exact absurd h16 (by decide)
        · refine ez_bipush 21 dX12_cell_19 rfl (-11) (by decide) ?_
          refine ez_iret .int dX12_cell_21 rfl rfl ?_
          have eS : S_cell ss sn si (nI j1) y z = ((-11), ss, sn, si) := by simp [S_cell, i1, h4, s16, h16]
          exact ⟨by rw [eS], by rw [eS]; exact hR, ez_fm.rfl⟩
      · refine ez_top (nI 1) (by rw [(hR j1 b1).1, if_neg s16]) ?_
        have p16 := Nat.pos_of_ne_zero s16
        have y16 := (hW j1 b1).1
        have z16 := (hW j1 b1).2 p16
        refine ez_nif_ne 19 22 dX12_cell_16 rfl (by decide) (by omega) (fun h16 => ?_) (fun h16 => ?_)
        · refine ez_iload_n 23 dX12_cell_22 rfl rfl ?_
          refine ez_i2l 24 dX12_cell_23 rfl ?_
          refine ez_lconst 25 dX12_cell_24 rfl (nI 0).toInt64 (by decide) ?_
          refine ez_aload_n 26 dX12_cell_25 rfl rfl ?_
          refine ez_getf 29 (eR 72 0) dX12_cell_26 rfl fl_X12_105 (by show 0 < 1; omega) rfl ?_
          refine ez_iload_n 30 dX12_cell_29 rfl rfl ?_
          refine ez_ialdN j1 31 dX12_cell_30 rfl (by decide) (by show 0 < 1; omega) (by show j1 < 4; omega) ?_
          refine ez_top (nI (sn j1)) (((hR j1 (by omega)).2 (by omega)).2.1) ?_
          refine ez_iconst 32 dX12_cell_31 rfl (nI 1) (by decide) ?_
          refine ez_isub 33 dX12_cell_32 rfl ?_
          refine ez_i2l 34 dX12_cell_33 rfl ?_
          refine ez_callS 37 [eL y.toInt64, eL ((nI 0).toInt64), eL (((nI (sn j1)) - (nI 1)).toInt64)] [] dX12_cell_34 rfl rfl ok_X12_in st_X12_in ln_X12_133 (by omega) (Nat.le_of_ble_eq_true rfl) (c_in_c g (d - 1) y (sn j1) M (by omega)) (fun r34 M34 q34 => ?_)
          obtain ⟨e34, ⟨rfl, i34⟩ | ⟨j34, b34, rfl, rfl⟩⟩ := q34
          · rw [e34]
            show Ez (true, g) mX12_cell d 37 [(0, eR 12 0), (1, eI (nI j1)), (2, eI y), (3, eI z)] [eI (nI 0)] M _
            refine ez_nif_ne 40 43 dX12_cell_37 rfl (by decide) (by omega) (fun h37 => ?_) (fun h37 => ?_)
            · exact absurd h37 (by decide)
            · refine ez_bipush 42 dX12_cell_40 rfl (-12) (by decide) ?_
              refine ez_iret .int dX12_cell_42 rfl rfl ?_
              have eS : S_cell ss sn si (nI j1) y z = ((-12), ss, sn, si) := by simp [S_cell, i1, h4, s16, h16, i34, h37]
              exact ⟨by rw [eS], by rw [eS]; exact hR, ez_fm.rfl⟩
          · rw [e34]
            have i34 : ep_ix (nI j34) (sn j1) = some j34 := ep_ix_nI b34 (by omega)
            show Ez (true, g) mX12_cell d 37 [(0, eR 12 0), (1, eI (nI j1)), (2, eI (nI j34)), (3, eI z)] [eI (nI 1)] M _
            refine ez_nif_ne 40 43 dX12_cell_37 rfl (by decide) (by omega) (fun h37 => ?_) (fun h37 => ?_)
            · refine ez_aload_n 44 dX12_cell_43 rfl rfl ?_
              refine ez_getf 47 (eR 73 0) dX12_cell_44 rfl fl_X12_108 (by show 0 < 1; omega) rfl ?_
              refine ez_bipush 49 dX12_cell_47 rfl (nI 40) (by decide) ?_
              refine ez_iload_n 50 dX12_cell_49 rfl rfl ?_
              refine ez_imul 51 dX12_cell_50 rfl ?_
              refine ez_top (nI (40 * j1)) (pk_mul _ _) ?_
              refine ez_iload_n 52 dX12_cell_51 rfl rfl ?_
              refine ez_iadd 53 dX12_cell_52 rfl ?_
              refine ez_top (nI (40 * j1 + j34)) (nI_add _ _) ?_
              refine ez_aload_n 54 dX12_cell_53 rfl rfl ?_
              refine ez_getf 57 (eR 71 0) dX12_cell_54 rfl fl_X12_102 (by show 0 < 1; omega) rfl ?_
              refine ez_iload_n 58 dX12_cell_57 rfl rfl ?_
              refine ez_ialdN j1 59 dX12_cell_58 rfl (by decide) (by show 0 < 1; omega) (by show j1 < 4; omega) ?_
              refine ez_top (nI (ss j1 - 1)) (((hR j1 (by omega)).2 (by omega)).1) ?_
              refine ez_nif_ne 62 67 dX12_cell_59 rfl (by decide) (by omega) (fun h59 => ?_) (fun h59 => ?_)
              · refine ez_aload_n 68 dX12_cell_67 rfl rfl ?_
                refine ez_getf 71 (eR 71 0) dX12_cell_68 rfl fl_X12_102 (by show 0 < 1; omega) rfl ?_
                refine ez_iload_n 72 dX12_cell_71 rfl rfl ?_
                refine ez_ialdN j1 73 dX12_cell_72 rfl (by decide) (by show 0 < 1; omega) (by show j1 < 4; omega) ?_
                refine ez_top (nI (ss j1 - 1)) (((hR j1 (by omega)).2 (by omega)).1) ?_
                refine ez_iconst 74 dX12_cell_73 rfl (nI 1) (by decide) ?_
                refine ez_ncmp_ne 77 82 dX12_cell_74 rfl (by decide) (by omega) (by omega) (fun h74 => ?_) (fun h74 => ?_)
                · refine ez_iload_n 83 dX12_cell_82 rfl rfl ?_
                  refine ez_iastN (40 * j1 + j34) 84 dX12_cell_83 rfl (by decide) (by show 0 < 1; omega) (by show 40 * j1 + j34 < 160; omega) ?_
                  refine ez_iconst 85 dX12_cell_84 rfl (nI 1) (by decide) ?_
                  refine ez_iret .int dX12_cell_85 rfl rfl ?_
                  have eS : S_cell ss sn si (nI j1) (nI j34) z = (nI 1, ss, sn, ep_up2 si j1 j34 (ep_nar (nI (ss j1 - 1)) z)) := by simp [S_cell, i1, s16, i34]
                  exact ⟨by rw [eS], by rw [eS]; exact RMs_put b1 b34 p16 hW (by rw [ep_nar_2 h59 h74 (by omega)]) hR, ez_fm.rfl.st (by decide)⟩
                · refine ez_iload_n 78 dX12_cell_77 rfl rfl ?_
                  refine ez_i2s 79 dX12_cell_78 rfl ?_
                  refine ez_goto 83 dX12_cell_79 (by decide) ?_
                  refine ez_iastN (40 * j1 + j34) 84 dX12_cell_83 rfl (by decide) (by show 0 < 1; omega) (by show 40 * j1 + j34 < 160; omega) ?_
                  refine ez_iconst 85 dX12_cell_84 rfl (nI 1) (by decide) ?_
                  refine ez_iret .int dX12_cell_85 rfl rfl ?_
                  have eS : S_cell ss sn si (nI j1) (nI j34) z = (nI 1, ss, sn, ep_up2 si j1 j34 (ep_nar (nI (ss j1 - 1)) z)) := by simp [S_cell, i1, s16, i34]
                  exact ⟨by rw [eS], by rw [eS]; exact RMs_put b1 b34 p16 hW (by rw [ep_nar_1 h74]) hR, ez_fm.rfl.st (by decide)⟩
              · refine ez_iload_n 63 dX12_cell_62 rfl rfl ?_
                refine ez_i2b 64 dX12_cell_63 rfl ?_
                refine ez_goto 83 dX12_cell_64 (by decide) ?_
                refine ez_iastN (40 * j1 + j34) 84 dX12_cell_83 rfl (by decide) (by show 0 < 1; omega) (by show 40 * j1 + j34 < 160; omega) ?_
                refine ez_iconst 85 dX12_cell_84 rfl (nI 1) (by decide) ?_
                refine ez_iret .int dX12_cell_85 rfl rfl ?_
                have eS : S_cell ss sn si (nI j1) (nI j34) z = (nI 1, ss, sn, ep_up2 si j1 j34 (ep_nar (nI (ss j1 - 1)) z)) := by simp [S_cell, i1, s16, i34]
                exact ⟨by rw [eS], by rw [eS]; exact RMs_put b1 b34 p16 hW (by rw [ep_nar_0 h59]) hR, ez_fm.rfl.st (by decide)⟩
            · exact absurd h37 (by decide)
        · exact absurd h16 (by decide)
    · exact absurd h4 (by decide)
