/-! the walk that parts two rooms: of the class -/
def t_dg (e : BfE) (c : Nat) : Int32 := if e.2.1 < 8 then nI 10 * e.2.2 + nI c + nI 1 else e.2.2
def t_sf (la lb : Nat → Int32) : BfF := fun e c => if la (4 * (e.1 / 10) + c) = -1 ∨ lb (4 * (e.1 % 10) + c) = -1 then none
  else if ¬ (la (4 * (e.1 / 10) + c)).toNatClampNeg % 10 = (lb (4 * (e.1 % 10) + c)).toNatClampNeg % 10 ∨ ¬ ep_dn la ((la (4 * (e.1 / 10) + c)).toNatClampNeg / 10) = ep_dn lb ((lb (4 * (e.1 % 10) + c)).toNatClampNeg / 10) then some (.inr (e.2.1 + 1, t_dg e c))
  else some (.inl ((la (4 * (e.1 / 10) + c)).toNatClampNeg / 10 * 10 + (lb (4 * (e.1 % 10) + c)).toNatClampNeg / 10, e.2.1 + 1, t_dg e c))
theorem t_sf_skip {la lb : Nat → Int32} {e : BfE} {c : Nat} (h : la (4 * (e.1 / 10) + c) = -1 ∨ lb (4 * (e.1 % 10) + c) = -1) : t_sf la lb e c = none := by unfold t_sf; rw [if_pos h]
theorem t_sf_stop {la lb : Nat → Int32} {e : BfE} {c x y : Nat} (hx : x < 2 ^ 31) (hy : y < 2 ^ 31) (h1 : la (4 * (e.1 / 10) + c) = nI x) (h2 : lb (4 * (e.1 % 10) + c) = nI y) (h : ¬ x % 10 = y % 10 ∨ ¬ ep_dn la (x / 10) = ep_dn lb (y / 10)) : t_sf la lb e c = some (.inr (e.2.1 + 1, t_dg e c)) := by
  unfold t_sf
  rw [h1, h2, if_neg (fun z => z.elim (ep_m1 hx) (ep_m1 hy)), nI_clamp hx, nI_clamp hy, if_pos h]
theorem t_sf_new {la lb : Nat → Int32} {e : BfE} {c x y : Nat} (hx : x < 2 ^ 31) (hy : y < 2 ^ 31) (h1 : la (4 * (e.1 / 10) + c) = nI x) (h2 : lb (4 * (e.1 % 10) + c) = nI y) (h : x % 10 = y % 10) (h3 : ep_dn la (x / 10) = ep_dn lb (y / 10)) : t_sf la lb e c = some (.inl (x / 10 * 10 + y / 10, e.2.1 + 1, t_dg e c)) := by
  unfold t_sf
  rw [h1, h2, if_neg (fun z => z.elim (ep_m1 hx) (ep_m1 hy)), nI_clamp hx, nI_clamp hy, if_neg (fun z => z.elim (fun z => z h) (fun z => z h3))]
def t_I (n1 n2 : Nat) (la lb : Nat → Int32) (e : BfE) : Prop := e.1 / 10 < n1 ∧ e.1 % 10 < n2 ∧ ep_dn la (e.1 / 10) = ep_dn lb (e.1 % 10)
theorem t_sf_I {n1 n2 : Nat} {la lb : Nat → Int32} (h1 : WFz n1 la) (h2 : WFz n2 lb) : ∀ e c e', t_I n1 n2 la lb e → c < 4 → t_sf la lb e c = some (.inl e') → t_I n1 n2 la lb e' := by
  intro e c e' he hc hs
  have n10 := h1.2.1
  have m10 := h2.2.1
  have hr := he.1
  have hr2 := he.2.1
  unfold t_sf at hs
  by_cases a : la (4 * (e.1 / 10) + c) = -1 ∨ lb (4 * (e.1 % 10) + c) = -1
  · rw [if_pos a] at hs; cases hs
  · rw [if_neg a] at hs
    rcases h1.2.2 (e.1 / 10) c (by omega) hc with z | ⟨-, r1, c1, b1, b2, b3⟩
    · exact absurd (Or.inl z) a
    · rcases h2.2.2 (e.1 % 10) c (by omega) hc with z | ⟨-, r2, c2, b4, b5, b6⟩
      · exact absurd (Or.inr z) a
      · rw [b3, b6, nI_clamp (by omega), nI_clamp (by omega)] at hs
        by_cases q : ¬ (10 * r1 + c1) % 10 = (10 * r2 + c2) % 10 ∨ ¬ ep_dn la ((10 * r1 + c1) / 10) = ep_dn lb ((10 * r2 + c2) / 10)
        · rw [if_pos q] at hs; cases hs
        · rw [if_neg q] at hs
          cases hs
          have q2 : ep_dn la ((10 * r1 + c1) / 10) = ep_dn lb ((10 * r2 + c2) / 10) := Classical.byContradiction (fun z => q (Or.inr z))
          show ((10 * r1 + c1) / 10 * 10 + (10 * r2 + c2) / 10) / 10 < n1 ∧ ((10 * r1 + c1) / 10 * 10 + (10 * r2 + c2) / 10) % 10 < n2 ∧ ep_dn la (((10 * r1 + c1) / 10 * 10 + (10 * r2 + c2) / 10) / 10) = ep_dn lb (((10 * r1 + c1) / 10 * 10 + (10 * r2 + c2) / 10) % 10)
          rw [show ((10 * r1 + c1) / 10 * 10 + (10 * r2 + c2) / 10) / 10 = (10 * r1 + c1) / 10 by omega, show ((10 * r1 + c1) / 10 * 10 + (10 * r2 + c2) / 10) % 10 = (10 * r2 + c2) / 10 by omega]
          exact ⟨by omega, by omega, q2⟩
theorem t_sf_far (la lb : Nat → Int32) : ∀ e c e', t_sf la lb e c = some (.inl e') → e'.2.1 = e.2.1 + 1 := by
  intro e c e' hs
  unfold t_sf at hs
  split at hs
  · cases hs
  · split at hs
    · cases hs
    · cases hs; rfl
def RP (B : BfS) (M : EzM) : Prop := M.1 2 0 4 = nI B.1 ∧ (∀ i, i < B.1 → M.1 30 0 i = nI (B.2 i).1 ∧ M.1 31 0 i = nI (B.2 i).2.1 ∧ M.1 32 0 i = (B.2 i).2.2) ∧ ∀ j, j < 100 → (Bvis B j → M.1 33 0 j = nI 1) ∧ (¬ Bvis B j → M.1 33 0 j = nI 0)
def PF (k i s : Nat) : Prop := k = 2 ∨ (30 ≤ k ∧ k ≤ 33)
theorem PF.sc {M M' : EzM} (h : FX PF M M') : FX SC M M' := h.up (fun k i s z => by unfold PF at z; unfold SC; omega)
theorem RP_new {B : BfS} {M : EzM} {p f : Nat} {w : Int32} (h : RP B M) (hv : ¬ Bvis B p) : RP (bf_add B (p, f, w)) (ez_st (ez_st (ez_st (ez_st (ez_st M 33 0 p (nI 1)) 30 0 B.1 (nI p)) 31 0 B.1 (nI f)) 32 0 B.1 w) 2 0 4 (nI (B.1 + 1))) := by
  obtain ⟨a1, a2, a3⟩ := h
  have hb := @Bvis_add B (p, f, w)
  rw [bf_add_new hv] at hb ⊢
  refine ⟨by simp [ez_rd], fun i hi => ?_, fun j hj => ⟨fun z => ?_, fun z => ?_⟩⟩
  · have hi' : i < B.1 + 1 := hi
    show _ = nI (va_up B.2 B.1 _ i).1 ∧ _ = nI (va_up B.2 B.1 _ i).2.1 ∧ _ = (va_up B.2 B.1 _ i).2.2
    by_cases e : i = B.1
    · rw [e, va_up_self]
      simp [ez_rd]
    · rw [va_up_ne _ _ e]
      have := a2 i (by omega)
      simp [ez_rd, e, this]
  · by_cases e : j = p
    · simp [ez_rd, e]
    · have hv2 : Bvis B j := (hb.mp z).elim id (fun z => absurd z e)
      simp [ez_rd, e, (a3 j hj).1 hv2]
  · have e : ¬ j = p := fun e => z (hb.mpr (Or.inr e))
    have hv2 : ¬ Bvis B j := fun y => z (hb.mpr (Or.inl y))
    simp [ez_rd, e, (a3 j hj).2 hv2]
set_option maxRecDepth 20000 in
theorem c_X2_add (G : EzG) (d : Nat) {B : BfS} (p f : Nat) (w : Int32) (M : EzM) (hd : 1 ≤ d) (hp : p < 100) (hA : Bap B) (hN : ∀ i, i < B.1 → (B.2 i).1 < 100) (hR : RP B M) : Ezc G mX2_add d [eR 2 0, eI (nI p), eI (nI f), eI w] M (fun r M' => r = none ∧ RP (bf_add B (p, f, w)) M' ∧ FX PF M M') := by
  refine Ezc.of (by decide +kernel) (Nat.le_of_ble_eq_true rfl) ?_
  show Ez G mX2_add d 0 [(0, eR 2 0), (1, eI (nI p)), (2, eI (nI f)), (3, eI w)] [] M _
  refine ez_iload_n 1 dX2_add_0 rfl rfl ?_
  refine ez_bipush 3 dX2_add_1 rfl (nI 100) (by decide) ?_
  refine ez_callSN 6 [eI (nI p), eI (nI 100)] [] dX2_add_3 rfl rfl ok_X11_isInside st_X11_isInside "ElevenPebbles" nn_X2_49 (by omega) (Nat.le_of_ble_eq_true rfl) (c_isInside_n G (d - 1) p 100 M (by omega) (by omega)) (fun r3 M3 q3 => ?_)
  obtain ⟨rfl, e3⟩ := q3
  rw [e3]
  show Ez G mX2_add d 6 [(0, eR 2 0), (1, eI (nI p)), (2, eI (nI f)), (3, eI w)] [eI (nI 1)] M _
  refine ez_nif_eq 9 30 dX2_add_6 rfl (by decide) (by omega) (fun h6 => ?_) (fun h6 => ?_)
  · exact absurd h6 (by decide)
  · by_cases hv : Bvis B p
    · skip
      refine ez_aload_n 10 dX2_add_9 rfl rfl ?_
      refine ez_getf 13 (eR 33 0) dX2_add_10 rfl fl_X2_21 (by show 0 < 1; omega) rfl ?_
      refine ez_iload_n 14 dX2_add_13 rfl rfl ?_
      refine ez_zaldN p 15 dX2_add_14 rfl (by decide) (by show 0 < 1; omega) (by show p < 100; omega) ?_
      refine ez_top (nI 1) ((hR.2.2 p hp).1 hv) ?_
      refine ez_nif_ne 18 30 dX2_add_15 rfl (by decide) (by omega) (fun h15 => ?_) (fun h15 => ?_)
      · refine ez_vret dX2_add_30 rfl ?_
        exact ⟨rfl, by rw [bf_add_in hv]; exact hR, FX.rf⟩
      · exact absurd h15 (by decide)
    · have hlt : B.1 < 100 := hA.lt hN hp hv
      skip
      refine ez_aload_n 10 dX2_add_9 rfl rfl ?_
      refine ez_getf 13 (eR 33 0) dX2_add_10 rfl fl_X2_21 (by show 0 < 1; omega) rfl ?_
      refine ez_iload_n 14 dX2_add_13 rfl rfl ?_
      refine ez_zaldN p 15 dX2_add_14 rfl (by decide) (by show 0 < 1; omega) (by show p < 100; omega) ?_
      refine ez_top (nI 0) ((hR.2.2 p hp).2 hv) ?_
      refine ez_nif_ne 18 30 dX2_add_15 rfl (by decide) (by omega) (fun h15 => ?_) (fun h15 => ?_)
      · exact absurd h15 (by decide)
      · refine ez_aload_n 19 dX2_add_18 rfl rfl ?_
        refine ez_getf 22 (eI (M.1 2 0 4)) dX2_add_19 rfl fl_X2_25 (by show 0 < 1; omega) rfl ?_
        refine ez_top (nI B.1) hR.1 ?_
        refine ez_bipush 24 dX2_add_22 rfl (nI 100) (by decide) ?_
        refine ez_callSN 27 [eI (nI B.1), eI (nI 100)] [] dX2_add_24 rfl rfl ok_X11_isInside st_X11_isInside "ElevenPebbles" nn_X2_49 (by omega) (Nat.le_of_ble_eq_true rfl) (c_isInside_n G (d - 1) B.1 100 M (by omega) (by omega)) (fun r24 M24 q24 => ?_)
        obtain ⟨rfl, e24⟩ := q24
        rw [e24]
        show Ez G mX2_add d 27 [(0, eR 2 0), (1, eI (nI p)), (2, eI (nI f)), (3, eI w)] [eI (nI 1)] M _
        refine ez_nif_ne 30 31 dX2_add_27 rfl (by decide) (by omega) (fun h27 => ?_) (fun h27 => ?_)
        · refine ez_aload_n 32 dX2_add_31 rfl rfl ?_
          refine ez_getf 35 (eR 33 0) dX2_add_32 rfl fl_X2_21 (by show 0 < 1; omega) rfl ?_
          refine ez_iload_n 36 dX2_add_35 rfl rfl ?_
          refine ez_iconst 37 dX2_add_36 rfl (nI 1) (by decide) ?_
          refine ez_zastN p 38 dX2_add_37 rfl (by decide) (by show 0 < 1; omega) (by show p < 100; omega) (by decide) ?_
          refine ez_aload_n 39 dX2_add_38 rfl rfl ?_
          refine ez_getf 42 (eR 30 0) dX2_add_39 rfl fl_X2_11 (by show 0 < 1; omega) rfl ?_
          refine ez_aload_n 43 dX2_add_42 rfl rfl ?_
          refine ez_getf 46 (eI (M.1 2 0 4)) dX2_add_43 rfl fl_X2_25 (by show 0 < 1; omega) rfl ?_
          refine ez_top (nI B.1) hR.1 ?_
          refine ez_iload_n 47 dX2_add_46 rfl rfl ?_
          refine ez_iastN B.1 48 dX2_add_47 rfl (by decide) (by show 0 < 1; omega) (by show B.1 < 100; omega) ?_
          refine ez_aload_n 49 dX2_add_48 rfl rfl ?_
          refine ez_getf 52 (eR 31 0) dX2_add_49 rfl fl_X2_15 (by show 0 < 1; omega) rfl ?_
          refine ez_aload_n 53 dX2_add_52 rfl rfl ?_
          refine ez_getf 56 (eI (M.1 2 0 4)) dX2_add_53 rfl fl_X2_25 (by show 0 < 1; omega) rfl ?_
          refine ez_top (nI B.1) hR.1 ?_
          refine ez_iload_n 57 dX2_add_56 rfl rfl ?_
          refine ez_iastN B.1 58 dX2_add_57 rfl (by decide) (by show 0 < 1; omega) (by show B.1 < 100; omega) ?_
          refine ez_aload_n 59 dX2_add_58 rfl rfl ?_
          refine ez_getf 62 (eR 32 0) dX2_add_59 rfl fl_X2_18 (by show 0 < 1; omega) rfl ?_
          refine ez_aload_n 63 dX2_add_62 rfl rfl ?_
          refine ez_getf 66 (eI (M.1 2 0 4)) dX2_add_63 rfl fl_X2_25 (by show 0 < 1; omega) rfl ?_
          refine ez_top (nI B.1) hR.1 ?_
          refine ez_iload_n 67 dX2_add_66 rfl rfl ?_
          refine ez_iastN B.1 68 dX2_add_67 rfl (by decide) (by show 0 < 1; omega) (by show B.1 < 100; omega) ?_
          refine ez_aload_n 69 dX2_add_68 rfl rfl ?_
          refine ez_dup 70 dX2_add_69 rfl rfl ?_
          refine ez_getf 73 (eI (M.1 2 0 4)) dX2_add_70 rfl fl_X2_25 (by show 0 < 1; omega) rfl ?_
          refine ez_top (nI B.1) hR.1 ?_
          refine ez_iconst 74 dX2_add_73 rfl (nI 1) (by decide) ?_
          refine ez_iadd 75 dX2_add_74 rfl ?_
          refine ez_top (nI (B.1 + 1)) (nI_add _ _) ?_
          refine ez_putf 78 .int dX2_add_75 rfl fp_X2_25 (by show 0 < 1; omega) rfl (by decide) rfl rfl ?_
          refine ez_vret dX2_add_78 rfl ?_
          exact ⟨rfl, RP_new hR hv, ((((FX.rf.st (by unfold PF; omega)).st (by unfold PF; omega)).st (by unfold PF; omega)).st (by unfold PF; omega)).st (by unfold PF; omega)⟩
        · exact absurd h27 (by decide)
set_option maxRecDepth 20000 in
theorem lp_goOn (G : EzG) (d : Nat) {B : BfS} {n1 n2 : Nat} {la lb : Nat → Int32} (m n k : Nat) (M : EzM) (hd : 3 ≤ d) (hm : m < 4) (hn : n < 4) (h1 : WFz n1 la) (h2 : WFz n2 lb) (hZ1 : RCz m n1 la M) (hZ2 : RCz n n2 lb M) (hk : k < B.1) (hA : Bap B) (hI : ∀ i, i < B.1 → t_I n1 n2 la lb (B.2 i)) (hfar : Bfar B) (hR : RP B M) : ∀ (z : Nat) (c : Nat) (B1 : BfS) (M1 : EzM), 4 - c = z → c ≤ 4 → bf_d (t_sf la lb) (B.2 k) B c = (B1, none) → RP B1 M1 → FX PF M M1 → Ez G mX2_goOn d 46 [(7, eI (nI c)), (6, eI (nI ((B.2 k).2.1 + 1))), (5, eI (nI ((B.2 k).1 % 10))), (4, eI (nI ((B.2 k).1 / 10))), (0, eR 2 0), (1, eR 1 m), (2, eR 1 n), (3, eI (nI k))] [] M1 (fun r M' => FX PF M M' ∧ ((∃ B2, bf_d (t_sf la lb) (B.2 k) B 4 = (B2, none) ∧ r = some (eI (nI 0)) ∧ RP B2 M') ∨ ∃ B2 v, bf_d (t_sf la lb) (B.2 k) B 4 = (B2, some v) ∧ r = some (eI (nI 1)) ∧ M'.1 2 0 5 = nI v.1 ∧ M'.1 2 0 6 = v.2)) := by
  intro z
  induction z using Nat.strongRecOn with
  | ind z ih =>
    intro c B1 M1 hz hc hD hR1 hF
    have n10 := h1.2.1
    have m10 := h2.2.1
    obtain ⟨t1, t2, t3⟩ := hI k hk
    have hN : ∀ i, i < B.1 → (B.2 i).1 < 100 := fun i hi => by have := hI i hi; unfold t_I at this; omega
    have b100 := hA.le hN
    have f9 := hfar k hk
    have A9 : Bap B1 := by have := bf_d_ap (t_sf la lb) (B.2 k) hA c; rw [hD] at this; exact this
    have I9 : ∀ i, i < B1.1 → t_I n1 n2 la lb (B1.2 i) := by have := bf_d_inv (sf := t_sf la lb) (e := B.2 k) hI (fun c e' hc he => t_sf_I h1 h2 _ c e' (hI k hk) hc he) c hc; rw [hD] at this; exact this
    have N9 : ∀ i, i < B1.1 → (B1.2 i).1 < 100 := fun i hi => by have := I9 i hi; unfold t_I at this; omega
    have X9 : BfX B B1 := by have := bf_d_ext (t_sf la lb) (B.2 k) B c; rw [hD] at this; exact this
    have b101 := A9.le N9
    have x9 := X9.1
    have w9 : M1.1 32 0 k = (B.2 k).2.2 := by rw [(hR1.2.1 k (by omega)).2.2, X9.2 k hk]
    refine ez_iload 48 dX2_goOn_46 rfl rfl ?_
    refine ez_iconst 49 dX2_goOn_48 rfl (nI 4) (by decide) ?_
    refine ez_ncmp_ge 52 195 dX2_goOn_49 rfl (by decide) (by omega) (by omega) (fun h49 => ?_) (fun h49 => ?_)
    · refine ez_iconst 196 dX2_goOn_195 rfl (nI 0) (by decide) ?_
      refine ez_iret .boolean dX2_goOn_196 rfl (by decide) ?_
      have e9 : c = 4 := by omega
      subst e9
      exact ⟨hF, Or.inl ⟨B1, hD, rfl, hR1⟩⟩
    · refine ez_aload_n 53 dX2_goOn_52 rfl rfl ?_
      refine ez_iload 55 dX2_goOn_53 rfl rfl ?_
      refine ez_iload 57 dX2_goOn_55 rfl rfl ?_
      refine ez_callV 60 [eI (nI ((B.2 k).1 / 10)), eI (nI c)] [] dX2_goOn_57 rfl rfl ok_X1_target in_X1_target (by decide) (by show m < 4; omega) ln_X2_53 (by omega) (Nat.le_of_ble_eq_true rfl) (c_target_n G (d - 1) m ((B.2 k).1 / 10) c M1 (by omega) (by show m < 4; omega) (by omega) (by omega)) (fun r57 M57 q57 => ?_)
      obtain ⟨rfl, e57⟩ := q57
      rw [e57, show M1.1 18 m (4 * ((B.2 k).1 / 10) + c) = la (4 * ((B.2 k).1 / 10) + c) from ((hZ1.fx hF ⟨by unfold PF; omega, fun x => by unfold PF; omega⟩).2.1 _ (by omega))]
      show Ez G mX2_goOn d 60 [(7, eI (nI c)), (6, eI (nI ((B.2 k).2.1 + 1))), (5, eI (nI ((B.2 k).1 % 10))), (4, eI (nI ((B.2 k).1 / 10))), (0, eR 2 0), (1, eR 1 m), (2, eR 1 n), (3, eI (nI k))] [eI (la (4 * ((B.2 k).1 / 10) + c))] M1 _
      refine ez_istore 62 [(8, eI (la (4 * ((B.2 k).1 / 10) + c))), (7, eI (nI c)), (6, eI (nI ((B.2 k).2.1 + 1))), (5, eI (nI ((B.2 k).1 % 10))), (4, eI (nI ((B.2 k).1 / 10))), (0, eR 2 0), (1, eR 1 m), (2, eR 1 n), (3, eI (nI k))] dX2_goOn_60 rfl (by decide) rfl ?_
      refine ez_aload_n 63 dX2_goOn_62 rfl rfl ?_
      refine ez_iload 65 dX2_goOn_63 rfl rfl ?_
      refine ez_iload 67 dX2_goOn_65 rfl rfl ?_
      refine ez_callV 70 [eI (nI ((B.2 k).1 % 10)), eI (nI c)] [] dX2_goOn_67 rfl rfl ok_X1_target in_X1_target (by decide) (by show n < 4; omega) ln_X2_53 (by omega) (Nat.le_of_ble_eq_true rfl) (c_target_n G (d - 1) n ((B.2 k).1 % 10) c M1 (by omega) (by show n < 4; omega) (by omega) (by omega)) (fun r67 M67 q67 => ?_)
      obtain ⟨rfl, e67⟩ := q67
      rw [e67, show M1.1 18 n (4 * ((B.2 k).1 % 10) + c) = lb (4 * ((B.2 k).1 % 10) + c) from ((hZ2.fx hF ⟨by unfold PF; omega, fun x => by unfold PF; omega⟩).2.1 _ (by omega))]
      show Ez G mX2_goOn d 70 [(8, eI (la (4 * ((B.2 k).1 / 10) + c))), (7, eI (nI c)), (6, eI (nI ((B.2 k).2.1 + 1))), (5, eI (nI ((B.2 k).1 % 10))), (4, eI (nI ((B.2 k).1 / 10))), (0, eR 2 0), (1, eR 1 m), (2, eR 1 n), (3, eI (nI k))] [eI (lb (4 * ((B.2 k).1 % 10) + c))] M1 _
      refine ez_istore 72 [(9, eI (lb (4 * ((B.2 k).1 % 10) + c))), (8, eI (la (4 * ((B.2 k).1 / 10) + c))), (7, eI (nI c)), (6, eI (nI ((B.2 k).2.1 + 1))), (5, eI (nI ((B.2 k).1 % 10))), (4, eI (nI ((B.2 k).1 / 10))), (0, eR 2 0), (1, eR 1 m), (2, eR 1 n), (3, eI (nI k))] dX2_goOn_70 rfl (by decide) rfl ?_
      refine ez_iload 74 dX2_goOn_72 rfl rfl ?_
      refine ez_iconst 75 dX2_goOn_74 rfl (-1) (by decide) ?_
      refine ez_icmp_eq 78 189 dX2_goOn_75 rfl (by decide) (fun h75 => ?_) (fun h75 => ?_)
      · refine ez_iinc 192 (nI (c + 1)) [(7, eI (nI (c + 1))), (9, eI (lb (4 * ((B.2 k).1 % 10) + c))), (8, eI (la (4 * ((B.2 k).1 / 10) + c))), (6, eI (nI ((B.2 k).2.1 + 1))), (5, eI (nI ((B.2 k).1 % 10))), (4, eI (nI ((B.2 k).1 / 10))), (0, eR 2 0), (1, eR 1 m), (2, eR 1 n), (3, eI (nI k))] dX2_goOn_189 rfl rfl (nI_add c 1) (by decide) rfl ?_
        refine ez_goto 46 dX2_goOn_192 (by decide) ?_
        refine ez_drop [(7, eI (nI (c + 1))), (6, eI (nI ((B.2 k).2.1 + 1))), (5, eI (nI ((B.2 k).1 % 10))), (4, eI (nI ((B.2 k).1 / 10))), (0, eR 2 0), (1, eR 1 m), (2, eR 1 n), (3, eI (nI k))] (by simp) ?_
        exact ih (4 - (c + 1)) (by omega) (c + 1) B1 M1 rfl (by omega) (bf_d_skip hD (t_sf_skip (Or.inl h75))) hR1 hF
      · refine ez_iload 80 dX2_goOn_78 rfl rfl ?_
        refine ez_iconst 81 dX2_goOn_80 rfl (-1) (by decide) ?_
        refine ez_icmp_ne 84 87 dX2_goOn_81 rfl (by decide) (fun h81 => ?_) (fun h81 => ?_)
        · rcases h1.2.2 ((B.2 k).1 / 10) c (by omega) (by omega) with z | ⟨-, r1, c1, b1, b2, b3⟩
          · exact absurd z h75
          rcases h2.2.2 ((B.2 k).1 % 10) c (by omega) (by omega) with z | ⟨-, r2, c2, b4, b5, b6⟩
          · exact absurd z h81
          have d1 := ep_dn16 la ((10 * r1 + c1) / 10)
          have d2 := ep_dn16 lb ((10 * r2 + c2) / 10)
          rw [b3, b6]
          show Ez G mX2_goOn d 87 [(9, eI (nI (10 * r2 + c2))), (8, eI (nI (10 * r1 + c1))), (7, eI (nI c)), (6, eI (nI ((B.2 k).2.1 + 1))), (5, eI (nI ((B.2 k).1 % 10))), (4, eI (nI ((B.2 k).1 / 10))), (0, eR 2 0), (1, eR 1 m), (2, eR 1 n), (3, eI (nI k))] [] M1 _
          refine ez_iload 89 dX2_goOn_87 rfl rfl ?_
          refine ez_bipush 91 dX2_goOn_89 rfl (nI 8) (by decide) ?_
          refine ez_ncmp_gt 94 111 dX2_goOn_91 rfl (by decide) (by omega) (by omega) (fun h91 => ?_) (fun h91 => ?_)
          · refine ez_aload_n 112 dX2_goOn_111 rfl rfl ?_
            refine ez_getf 115 (eR 32 0) dX2_goOn_112 rfl fl_X2_18 (by show 0 < 1; omega) rfl ?_
            refine ez_iload_n 116 dX2_goOn_115 rfl rfl ?_
            refine ez_ialdN k 117 dX2_goOn_116 rfl (by decide) (by show 0 < 1; omega) (by show k < 100; omega) ?_
            refine ez_top ((B.2 k).2.2) w9 ?_
            refine ez_top (t_dg (B.2 k) c) (by unfold t_dg; rw [if_neg (by omega)]) ?_
            refine ez_istore 119 [(10, eI (t_dg (B.2 k) c)), (9, eI (nI (10 * r2 + c2))), (8, eI (nI (10 * r1 + c1))), (7, eI (nI c)), (6, eI (nI ((B.2 k).2.1 + 1))), (5, eI (nI ((B.2 k).1 % 10))), (4, eI (nI ((B.2 k).1 / 10))), (0, eR 2 0), (1, eR 1 m), (2, eR 1 n), (3, eI (nI k))] dX2_goOn_117 rfl (by decide) rfl ?_
            refine ez_iload 121 dX2_goOn_119 rfl rfl ?_
            refine ez_bipush 123 dX2_goOn_121 rfl (nI 10) (by decide) ?_
            refine ez_irem 124 dX2_goOn_123 rfl (by decide) ?_
            refine ez_top (nI ((10 * r1 + c1) % 10)) (pk_rem (by omega) (by omega) (by omega)) ?_
            refine ez_iload 126 dX2_goOn_124 rfl rfl ?_
            refine ez_bipush 128 dX2_goOn_126 rfl (nI 10) (by decide) ?_
            refine ez_irem 129 dX2_goOn_128 rfl (by decide) ?_
            refine ez_top (nI ((10 * r2 + c2) % 10)) (pk_rem (by omega) (by omega) (by omega)) ?_
            refine ez_ncmp_ne 132 153 dX2_goOn_129 rfl (by decide) (by omega) (by omega) (fun h129 => ?_) (fun h129 => ?_)
            · refine ez_aload_n 154 dX2_goOn_153 rfl rfl ?_
              refine ez_iload 156 dX2_goOn_154 rfl rfl ?_
              refine ez_putf 159 .int dX2_goOn_156 rfl fp_X2_35 (by show 0 < 1; omega) rfl (by decide) rfl rfl ?_
              refine ez_aload_n 160 dX2_goOn_159 rfl rfl ?_
              refine ez_iload 162 dX2_goOn_160 rfl rfl ?_
              refine ez_putf 165 .int dX2_goOn_162 rfl fp_X2_38 (by show 0 < 1; omega) rfl (by decide) rfl rfl ?_
              refine ez_iconst 166 dX2_goOn_165 rfl (nI 1) (by decide) ?_
              refine ez_iret .boolean dX2_goOn_166 rfl (by decide) ?_
              have s9 := t_sf_stop (la := la) (lb := lb) (e := B.2 k) (c := c) (show 10 * r1 + c1 < 2 ^ 31 by omega) (show 10 * r2 + c2 < 2 ^ 31 by omega) b3 b6 (Or.inl h129)
              have e9 := bf_d_stay (bf_d_stop hD s9) (3 - c)
              rw [show c + 1 + (3 - c) = 4 by omega] at e9
              exact ⟨(hF.st (by unfold PF; omega)).st (by unfold PF; omega), Or.inr ⟨_, _, e9, rfl, by simp [ez_rd], by simp [ez_rd]⟩⟩
            · refine ez_aload_n 133 dX2_goOn_132 rfl rfl ?_
              refine ez_iload 135 dX2_goOn_133 rfl rfl ?_
              refine ez_bipush 137 dX2_goOn_135 rfl (nI 10) (by decide) ?_
              refine ez_idiv 138 dX2_goOn_137 rfl (by decide) ?_
              refine ez_top (nI ((10 * r1 + c1) / 10)) (pk_div (by omega) (by omega) (by omega)) ?_
              refine ez_callV 141 [eI (nI ((10 * r1 + c1) / 10))] [] dX2_goOn_138 rfl rfl ok_X1_leading in_X1_leading (by decide) (by show m < 4; omega) ln_X2_29 (by omega) (Nat.le_of_ble_eq_true rfl) (c_leading_n G (d - 1) m n1 ((10 * r1 + c1) / 10) la M1 (by omega) hm (by omega) (by omega) (hZ1.fx hF ⟨by unfold PF; omega, fun x => by unfold PF; omega⟩)) (fun r138 M138 q138 => ?_)
              obtain ⟨rfl, e138⟩ := q138
              rw [e138]
              show Ez G mX2_goOn d 141 [(10, eI (t_dg (B.2 k) c)), (9, eI (nI (10 * r2 + c2))), (8, eI (nI (10 * r1 + c1))), (7, eI (nI c)), (6, eI (nI ((B.2 k).2.1 + 1))), (5, eI (nI ((B.2 k).1 % 10))), (4, eI (nI ((B.2 k).1 / 10))), (0, eR 2 0), (1, eR 1 m), (2, eR 1 n), (3, eI (nI k))] [eI (nI (ep_dn la ((10 * r1 + c1) / 10)))] M1 _
              refine ez_aload_n 142 dX2_goOn_141 rfl rfl ?_
              refine ez_iload 144 dX2_goOn_142 rfl rfl ?_
              refine ez_bipush 146 dX2_goOn_144 rfl (nI 10) (by decide) ?_
              refine ez_idiv 147 dX2_goOn_146 rfl (by decide) ?_
              refine ez_top (nI ((10 * r2 + c2) / 10)) (pk_div (by omega) (by omega) (by omega)) ?_
              refine ez_callV 150 [eI (nI ((10 * r2 + c2) / 10))] [eI (nI (ep_dn la ((10 * r1 + c1) / 10)))] dX2_goOn_147 rfl rfl ok_X1_leading in_X1_leading (by decide) (by show n < 4; omega) ln_X2_29 (by omega) (Nat.le_of_ble_eq_true rfl) (c_leading_n G (d - 1) n n2 ((10 * r2 + c2) / 10) lb M1 (by omega) hn (by omega) (by omega) (hZ2.fx hF ⟨by unfold PF; omega, fun x => by unfold PF; omega⟩)) (fun r147 M147 q147 => ?_)
              obtain ⟨rfl, e147⟩ := q147
              rw [e147]
              show Ez G mX2_goOn d 150 [(10, eI (t_dg (B.2 k) c)), (9, eI (nI (10 * r2 + c2))), (8, eI (nI (10 * r1 + c1))), (7, eI (nI c)), (6, eI (nI ((B.2 k).2.1 + 1))), (5, eI (nI ((B.2 k).1 % 10))), (4, eI (nI ((B.2 k).1 / 10))), (0, eR 2 0), (1, eR 1 m), (2, eR 1 n), (3, eI (nI k))] [eI (nI (ep_dn lb ((10 * r2 + c2) / 10))), eI (nI (ep_dn la ((10 * r1 + c1) / 10)))] M1 _
              refine ez_ncmp_eq 153 167 dX2_goOn_150 rfl (by decide) (by omega) (by omega) (fun h150 => ?_) (fun h150 => ?_)
              · refine ez_aload_n 168 dX2_goOn_167 rfl rfl ?_
                refine ez_iload 170 dX2_goOn_168 rfl rfl ?_
                refine ez_bipush 172 dX2_goOn_170 rfl (nI 10) (by decide) ?_
                refine ez_idiv 173 dX2_goOn_172 rfl (by decide) ?_
                refine ez_top (nI ((10 * r1 + c1) / 10)) (pk_div (by omega) (by omega) (by omega)) ?_
                refine ez_bipush 175 dX2_goOn_173 rfl (nI 10) (by decide) ?_
                refine ez_imul 176 dX2_goOn_175 rfl ?_
                refine ez_top (nI (((10 * r1 + c1) / 10) * 10)) (pk_mul _ _) ?_
                refine ez_iload 178 dX2_goOn_176 rfl rfl ?_
                refine ez_bipush 180 dX2_goOn_178 rfl (nI 10) (by decide) ?_
                refine ez_idiv 181 dX2_goOn_180 rfl (by decide) ?_
                refine ez_top (nI ((10 * r2 + c2) / 10)) (pk_div (by omega) (by omega) (by omega)) ?_
                refine ez_iadd 182 dX2_goOn_181 rfl ?_
                refine ez_top (nI (((10 * r1 + c1) / 10) * 10 + (10 * r2 + c2) / 10)) (nI_add _ _) ?_
                refine ez_iload 184 dX2_goOn_182 rfl rfl ?_
                refine ez_iload 186 dX2_goOn_184 rfl rfl ?_
                refine ez_callV 189 [eI (nI (((10 * r1 + c1) / 10) * 10 + (10 * r2 + c2) / 10)), eI (nI ((B.2 k).2.1 + 1)), eI (t_dg (B.2 k) c)] [] dX2_goOn_186 rfl rfl ok_X2_add in_X2_add (by decide) (by show 0 < 1; omega) ln_X2_41 (by omega) (Nat.le_of_ble_eq_true rfl) (c_X2_add G (d - 1) (B := B1) (((10 * r1 + c1) / 10) * 10 + (10 * r2 + c2) / 10) ((B.2 k).2.1 + 1) (t_dg (B.2 k) c) M1 (by omega) (by omega) A9 N9 hR1) (fun r186 M186 q186 => ?_)
                obtain ⟨rfl, P186, f186⟩ := q186
                show Ez G mX2_goOn d 189 [(10, eI (t_dg (B.2 k) c)), (9, eI (nI (10 * r2 + c2))), (8, eI (nI (10 * r1 + c1))), (7, eI (nI c)), (6, eI (nI ((B.2 k).2.1 + 1))), (5, eI (nI ((B.2 k).1 % 10))), (4, eI (nI ((B.2 k).1 / 10))), (0, eR 2 0), (1, eR 1 m), (2, eR 1 n), (3, eI (nI k))] [] M186 _
                refine ez_iinc 192 (nI (c + 1)) [(7, eI (nI (c + 1))), (10, eI (t_dg (B.2 k) c)), (9, eI (nI (10 * r2 + c2))), (8, eI (nI (10 * r1 + c1))), (6, eI (nI ((B.2 k).2.1 + 1))), (5, eI (nI ((B.2 k).1 % 10))), (4, eI (nI ((B.2 k).1 / 10))), (0, eR 2 0), (1, eR 1 m), (2, eR 1 n), (3, eI (nI k))] dX2_goOn_189 rfl rfl (nI_add c 1) (by decide) rfl ?_
                refine ez_goto 46 dX2_goOn_192 (by decide) ?_
                have s9 := t_sf_new (la := la) (lb := lb) (e := B.2 k) (c := c) (show 10 * r1 + c1 < 2 ^ 31 by omega) (show 10 * r2 + c2 < 2 ^ 31 by omega) b3 b6 h129 h150
                refine ez_drop [(7, eI (nI (c + 1))), (6, eI (nI ((B.2 k).2.1 + 1))), (5, eI (nI ((B.2 k).1 % 10))), (4, eI (nI ((B.2 k).1 / 10))), (0, eR 2 0), (1, eR 1 m), (2, eR 1 n), (3, eI (nI k))] (by simp) ?_
                exact ih (4 - (c + 1)) (by omega) (c + 1) _ _ rfl (by omega) (bf_d_new hD s9) P186 (hF.tr f186)
              · refine ez_aload_n 154 dX2_goOn_153 rfl rfl ?_
                refine ez_iload 156 dX2_goOn_154 rfl rfl ?_
                refine ez_putf 159 .int dX2_goOn_156 rfl fp_X2_35 (by show 0 < 1; omega) rfl (by decide) rfl rfl ?_
                refine ez_aload_n 160 dX2_goOn_159 rfl rfl ?_
                refine ez_iload 162 dX2_goOn_160 rfl rfl ?_
                refine ez_putf 165 .int dX2_goOn_162 rfl fp_X2_38 (by show 0 < 1; omega) rfl (by decide) rfl rfl ?_
                refine ez_iconst 166 dX2_goOn_165 rfl (nI 1) (by decide) ?_
                refine ez_iret .boolean dX2_goOn_166 rfl (by decide) ?_
                have s9 := t_sf_stop (la := la) (lb := lb) (e := B.2 k) (c := c) (show 10 * r1 + c1 < 2 ^ 31 by omega) (show 10 * r2 + c2 < 2 ^ 31 by omega) b3 b6 (Or.inr h150)
                have e9 := bf_d_stay (bf_d_stop hD s9) (3 - c)
                rw [show c + 1 + (3 - c) = 4 by omega] at e9
                exact ⟨(hF.st (by unfold PF; omega)).st (by unfold PF; omega), Or.inr ⟨_, _, e9, rfl, by simp [ez_rd], by simp [ez_rd]⟩⟩
          · refine ez_bipush 96 dX2_goOn_94 rfl (nI 10) (by decide) ?_
            refine ez_aload_n 97 dX2_goOn_96 rfl rfl ?_
            refine ez_getf 100 (eR 32 0) dX2_goOn_97 rfl fl_X2_18 (by show 0 < 1; omega) rfl ?_
            refine ez_iload_n 101 dX2_goOn_100 rfl rfl ?_
            refine ez_ialdN k 102 dX2_goOn_101 rfl (by decide) (by show 0 < 1; omega) (by show k < 100; omega) ?_
            refine ez_top ((B.2 k).2.2) w9 ?_
            refine ez_imul 103 dX2_goOn_102 rfl ?_
            refine ez_iload 105 dX2_goOn_103 rfl rfl ?_
            refine ez_iadd 106 dX2_goOn_105 rfl ?_
            refine ez_iconst 107 dX2_goOn_106 rfl (nI 1) (by decide) ?_
            refine ez_iadd 108 dX2_goOn_107 rfl ?_
            refine ez_goto 117 dX2_goOn_108 (by decide) ?_
            refine ez_top (t_dg (B.2 k) c) (by unfold t_dg; rw [if_pos (by omega)]) ?_
            refine ez_istore 119 [(10, eI (t_dg (B.2 k) c)), (9, eI (nI (10 * r2 + c2))), (8, eI (nI (10 * r1 + c1))), (7, eI (nI c)), (6, eI (nI ((B.2 k).2.1 + 1))), (5, eI (nI ((B.2 k).1 % 10))), (4, eI (nI ((B.2 k).1 / 10))), (0, eR 2 0), (1, eR 1 m), (2, eR 1 n), (3, eI (nI k))] dX2_goOn_117 rfl (by decide) rfl ?_
            refine ez_iload 121 dX2_goOn_119 rfl rfl ?_
            refine ez_bipush 123 dX2_goOn_121 rfl (nI 10) (by decide) ?_
            refine ez_irem 124 dX2_goOn_123 rfl (by decide) ?_
            refine ez_top (nI ((10 * r1 + c1) % 10)) (pk_rem (by omega) (by omega) (by omega)) ?_
            refine ez_iload 126 dX2_goOn_124 rfl rfl ?_
            refine ez_bipush 128 dX2_goOn_126 rfl (nI 10) (by decide) ?_
            refine ez_irem 129 dX2_goOn_128 rfl (by decide) ?_
            refine ez_top (nI ((10 * r2 + c2) % 10)) (pk_rem (by omega) (by omega) (by omega)) ?_
            refine ez_ncmp_ne 132 153 dX2_goOn_129 rfl (by decide) (by omega) (by omega) (fun h129 => ?_) (fun h129 => ?_)
            · refine ez_aload_n 154 dX2_goOn_153 rfl rfl ?_
              refine ez_iload 156 dX2_goOn_154 rfl rfl ?_
              refine ez_putf 159 .int dX2_goOn_156 rfl fp_X2_35 (by show 0 < 1; omega) rfl (by decide) rfl rfl ?_
              refine ez_aload_n 160 dX2_goOn_159 rfl rfl ?_
              refine ez_iload 162 dX2_goOn_160 rfl rfl ?_
              refine ez_putf 165 .int dX2_goOn_162 rfl fp_X2_38 (by show 0 < 1; omega) rfl (by decide) rfl rfl ?_
              refine ez_iconst 166 dX2_goOn_165 rfl (nI 1) (by decide) ?_
              refine ez_iret .boolean dX2_goOn_166 rfl (by decide) ?_
              have s9 := t_sf_stop (la := la) (lb := lb) (e := B.2 k) (c := c) (show 10 * r1 + c1 < 2 ^ 31 by omega) (show 10 * r2 + c2 < 2 ^ 31 by omega) b3 b6 (Or.inl h129)
              have e9 := bf_d_stay (bf_d_stop hD s9) (3 - c)
              rw [show c + 1 + (3 - c) = 4 by omega] at e9
              exact ⟨(hF.st (by unfold PF; omega)).st (by unfold PF; omega), Or.inr ⟨_, _, e9, rfl, by simp [ez_rd], by simp [ez_rd]⟩⟩
            · refine ez_aload_n 133 dX2_goOn_132 rfl rfl ?_
              refine ez_iload 135 dX2_goOn_133 rfl rfl ?_
              refine ez_bipush 137 dX2_goOn_135 rfl (nI 10) (by decide) ?_
              refine ez_idiv 138 dX2_goOn_137 rfl (by decide) ?_
              refine ez_top (nI ((10 * r1 + c1) / 10)) (pk_div (by omega) (by omega) (by omega)) ?_
              refine ez_callV 141 [eI (nI ((10 * r1 + c1) / 10))] [] dX2_goOn_138 rfl rfl ok_X1_leading in_X1_leading (by decide) (by show m < 4; omega) ln_X2_29 (by omega) (Nat.le_of_ble_eq_true rfl) (c_leading_n G (d - 1) m n1 ((10 * r1 + c1) / 10) la M1 (by omega) hm (by omega) (by omega) (hZ1.fx hF ⟨by unfold PF; omega, fun x => by unfold PF; omega⟩)) (fun r138 M138 q138 => ?_)
              obtain ⟨rfl, e138⟩ := q138
              rw [e138]
              show Ez G mX2_goOn d 141 [(10, eI (t_dg (B.2 k) c)), (9, eI (nI (10 * r2 + c2))), (8, eI (nI (10 * r1 + c1))), (7, eI (nI c)), (6, eI (nI ((B.2 k).2.1 + 1))), (5, eI (nI ((B.2 k).1 % 10))), (4, eI (nI ((B.2 k).1 / 10))), (0, eR 2 0), (1, eR 1 m), (2, eR 1 n), (3, eI (nI k))] [eI (nI (ep_dn la ((10 * r1 + c1) / 10)))] M1 _
              refine ez_aload_n 142 dX2_goOn_141 rfl rfl ?_
              refine ez_iload 144 dX2_goOn_142 rfl rfl ?_
              refine ez_bipush 146 dX2_goOn_144 rfl (nI 10) (by decide) ?_
              refine ez_idiv 147 dX2_goOn_146 rfl (by decide) ?_
              refine ez_top (nI ((10 * r2 + c2) / 10)) (pk_div (by omega) (by omega) (by omega)) ?_
              refine ez_callV 150 [eI (nI ((10 * r2 + c2) / 10))] [eI (nI (ep_dn la ((10 * r1 + c1) / 10)))] dX2_goOn_147 rfl rfl ok_X1_leading in_X1_leading (by decide) (by show n < 4; omega) ln_X2_29 (by omega) (Nat.le_of_ble_eq_true rfl) (c_leading_n G (d - 1) n n2 ((10 * r2 + c2) / 10) lb M1 (by omega) hn (by omega) (by omega) (hZ2.fx hF ⟨by unfold PF; omega, fun x => by unfold PF; omega⟩)) (fun r147 M147 q147 => ?_)
              obtain ⟨rfl, e147⟩ := q147
              rw [e147]
              show Ez G mX2_goOn d 150 [(10, eI (t_dg (B.2 k) c)), (9, eI (nI (10 * r2 + c2))), (8, eI (nI (10 * r1 + c1))), (7, eI (nI c)), (6, eI (nI ((B.2 k).2.1 + 1))), (5, eI (nI ((B.2 k).1 % 10))), (4, eI (nI ((B.2 k).1 / 10))), (0, eR 2 0), (1, eR 1 m), (2, eR 1 n), (3, eI (nI k))] [eI (nI (ep_dn lb ((10 * r2 + c2) / 10))), eI (nI (ep_dn la ((10 * r1 + c1) / 10)))] M1 _
              refine ez_ncmp_eq 153 167 dX2_goOn_150 rfl (by decide) (by omega) (by omega) (fun h150 => ?_) (fun h150 => ?_)
              · refine ez_aload_n 168 dX2_goOn_167 rfl rfl ?_
                refine ez_iload 170 dX2_goOn_168 rfl rfl ?_
                refine ez_bipush 172 dX2_goOn_170 rfl (nI 10) (by decide) ?_
                refine ez_idiv 173 dX2_goOn_172 rfl (by decide) ?_
                refine ez_top (nI ((10 * r1 + c1) / 10)) (pk_div (by omega) (by omega) (by omega)) ?_
                refine ez_bipush 175 dX2_goOn_173 rfl (nI 10) (by decide) ?_
                refine ez_imul 176 dX2_goOn_175 rfl ?_
                refine ez_top (nI (((10 * r1 + c1) / 10) * 10)) (pk_mul _ _) ?_
                refine ez_iload 178 dX2_goOn_176 rfl rfl ?_
                refine ez_bipush 180 dX2_goOn_178 rfl (nI 10) (by decide) ?_
                refine ez_idiv 181 dX2_goOn_180 rfl (by decide) ?_
                refine ez_top (nI ((10 * r2 + c2) / 10)) (pk_div (by omega) (by omega) (by omega)) ?_
                refine ez_iadd 182 dX2_goOn_181 rfl ?_
                refine ez_top (nI (((10 * r1 + c1) / 10) * 10 + (10 * r2 + c2) / 10)) (nI_add _ _) ?_
                refine ez_iload 184 dX2_goOn_182 rfl rfl ?_
                refine ez_iload 186 dX2_goOn_184 rfl rfl ?_
                refine ez_callV 189 [eI (nI (((10 * r1 + c1) / 10) * 10 + (10 * r2 + c2) / 10)), eI (nI ((B.2 k).2.1 + 1)), eI (t_dg (B.2 k) c)] [] dX2_goOn_186 rfl rfl ok_X2_add in_X2_add (by decide) (by show 0 < 1; omega) ln_X2_41 (by omega) (Nat.le_of_ble_eq_true rfl) (c_X2_add G (d - 1) (B := B1) (((10 * r1 + c1) / 10) * 10 + (10 * r2 + c2) / 10) ((B.2 k).2.1 + 1) (t_dg (B.2 k) c) M1 (by omega) (by omega) A9 N9 hR1) (fun r186 M186 q186 => ?_)
                obtain ⟨rfl, P186, f186⟩ := q186
                show Ez G mX2_goOn d 189 [(10, eI (t_dg (B.2 k) c)), (9, eI (nI (10 * r2 + c2))), (8, eI (nI (10 * r1 + c1))), (7, eI (nI c)), (6, eI (nI ((B.2 k).2.1 + 1))), (5, eI (nI ((B.2 k).1 % 10))), (4, eI (nI ((B.2 k).1 / 10))), (0, eR 2 0), (1, eR 1 m), (2, eR 1 n), (3, eI (nI k))] [] M186 _
                refine ez_iinc 192 (nI (c + 1)) [(7, eI (nI (c + 1))), (10, eI (t_dg (B.2 k) c)), (9, eI (nI (10 * r2 + c2))), (8, eI (nI (10 * r1 + c1))), (6, eI (nI ((B.2 k).2.1 + 1))), (5, eI (nI ((B.2 k).1 % 10))), (4, eI (nI ((B.2 k).1 / 10))), (0, eR 2 0), (1, eR 1 m), (2, eR 1 n), (3, eI (nI k))] dX2_goOn_189 rfl rfl (nI_add c 1) (by decide) rfl ?_
                refine ez_goto 46 dX2_goOn_192 (by decide) ?_
                have s9 := t_sf_new (la := la) (lb := lb) (e := B.2 k) (c := c) (show 10 * r1 + c1 < 2 ^ 31 by omega) (show 10 * r2 + c2 < 2 ^ 31 by omega) b3 b6 h129 h150
                refine ez_drop [(7, eI (nI (c + 1))), (6, eI (nI ((B.2 k).2.1 + 1))), (5, eI (nI ((B.2 k).1 % 10))), (4, eI (nI ((B.2 k).1 / 10))), (0, eR 2 0), (1, eR 1 m), (2, eR 1 n), (3, eI (nI k))] (by simp) ?_
                exact ih (4 - (c + 1)) (by omega) (c + 1) _ _ rfl (by omega) (bf_d_new hD s9) P186 (hF.tr f186)
              · refine ez_aload_n 154 dX2_goOn_153 rfl rfl ?_
                refine ez_iload 156 dX2_goOn_154 rfl rfl ?_
                refine ez_putf 159 .int dX2_goOn_156 rfl fp_X2_35 (by show 0 < 1; omega) rfl (by decide) rfl rfl ?_
                refine ez_aload_n 160 dX2_goOn_159 rfl rfl ?_
                refine ez_iload 162 dX2_goOn_160 rfl rfl ?_
                refine ez_putf 165 .int dX2_goOn_162 rfl fp_X2_38 (by show 0 < 1; omega) rfl (by decide) rfl rfl ?_
                refine ez_iconst 166 dX2_goOn_165 rfl (nI 1) (by decide) ?_
                refine ez_iret .boolean dX2_goOn_166 rfl (by decide) ?_
                have s9 := t_sf_stop (la := la) (lb := lb) (e := B.2 k) (c := c) (show 10 * r1 + c1 < 2 ^ 31 by omega) (show 10 * r2 + c2 < 2 ^ 31 by omega) b3 b6 (Or.inr h150)
                have e9 := bf_d_stay (bf_d_stop hD s9) (3 - c)
                rw [show c + 1 + (3 - c) = 4 by omega] at e9
                exact ⟨(hF.st (by unfold PF; omega)).st (by unfold PF; omega), Or.inr ⟨_, _, e9, rfl, by simp [ez_rd], by simp [ez_rd]⟩⟩
        · refine ez_goto 189 dX2_goOn_84 (by decide) ?_
          refine ez_iinc 192 (nI (c + 1)) [(7, eI (nI (c + 1))), (9, eI (lb (4 * ((B.2 k).1 % 10) + c))), (8, eI (la (4 * ((B.2 k).1 / 10) + c))), (6, eI (nI ((B.2 k).2.1 + 1))), (5, eI (nI ((B.2 k).1 % 10))), (4, eI (nI ((B.2 k).1 / 10))), (0, eR 2 0), (1, eR 1 m), (2, eR 1 n), (3, eI (nI k))] dX2_goOn_189 rfl rfl (nI_add c 1) (by decide) rfl ?_
          refine ez_goto 46 dX2_goOn_192 (by decide) ?_
          refine ez_drop [(7, eI (nI (c + 1))), (6, eI (nI ((B.2 k).2.1 + 1))), (5, eI (nI ((B.2 k).1 % 10))), (4, eI (nI ((B.2 k).1 / 10))), (0, eR 2 0), (1, eR 1 m), (2, eR 1 n), (3, eI (nI k))] (by simp) ?_
          exact ih (4 - (c + 1)) (by omega) (c + 1) B1 M1 rfl (by omega) (bf_d_skip hD (t_sf_skip (Or.inr h81))) hR1 hF
set_option maxRecDepth 20000 in
theorem c_X2_goOn (G : EzG) (d : Nat) {B : BfS} {n1 n2 : Nat} {la lb : Nat → Int32} (m n k : Nat) (M : EzM) (hd : 3 ≤ d) (hm : m < 4) (hn : n < 4) (h1 : WFz n1 la) (h2 : WFz n2 lb) (hZ1 : RCz m n1 la M) (hZ2 : RCz n n2 lb M) (hk : k < B.1) (hA : Bap B) (hI : ∀ i, i < B.1 → t_I n1 n2 la lb (B.2 i)) (hfar : Bfar B) (hR : RP B M) : Ezc G mX2_goOn d [eR 2 0, eR 1 m, eR 1 n, eI (nI k)] M (fun r M' => FX PF M M' ∧ ((∃ B2, bf_d (t_sf la lb) (B.2 k) B 4 = (B2, none) ∧ r = some (eI (nI 0)) ∧ RP B2 M') ∨ ∃ B2 v, bf_d (t_sf la lb) (B.2 k) B 4 = (B2, some v) ∧ r = some (eI (nI 1)) ∧ M'.1 2 0 5 = nI v.1 ∧ M'.1 2 0 6 = v.2)) := by
  refine Ezc.of (by decide +kernel) (Nat.le_of_ble_eq_true rfl) ?_
  have n10 := h1.2.1
  have m10 := h2.2.1
  obtain ⟨t1, t2, t3⟩ := hI k hk
  have hN : ∀ i, i < B.1 → (B.2 i).1 < 100 := fun i hi => by have := hI i hi; unfold t_I at this; omega
  have b100 := hA.le hN
  have f9 := hfar k hk
  show Ez G mX2_goOn d 0 [(0, eR 2 0), (1, eR 1 m), (2, eR 1 n), (3, eI (nI k))] [] M _
  refine ez_iload_n 1 dX2_goOn_0 rfl rfl ?_
  refine ez_bipush 3 dX2_goOn_1 rfl (nI 100) (by decide) ?_
  refine ez_callSN 6 [eI (nI k), eI (nI 100)] [] dX2_goOn_3 rfl rfl ok_X11_isInside st_X11_isInside "ElevenPebbles" nn_X2_49 (by omega) (Nat.le_of_ble_eq_true rfl) (c_isInside_n G (d - 1) k 100 M (by omega) (by omega)) (fun r3 M3 q3 => ?_)
  obtain ⟨rfl, e3⟩ := q3
  rw [e3]
  show Ez G mX2_goOn d 6 [(0, eR 2 0), (1, eR 1 m), (2, eR 1 n), (3, eI (nI k))] [eI (nI 1)] M _
  refine ez_nif_ne 9 11 dX2_goOn_6 rfl (by decide) (by omega) (fun h6 => ?_) (fun h6 => ?_)
  · refine ez_aload_n 12 dX2_goOn_11 rfl rfl ?_
    refine ez_getf 15 (eR 30 0) dX2_goOn_12 rfl fl_X2_11 (by show 0 < 1; omega) rfl ?_
    refine ez_iload_n 16 dX2_goOn_15 rfl rfl ?_
    refine ez_ialdN k 17 dX2_goOn_16 rfl (by decide) (by show 0 < 1; omega) (by show k < 100; omega) ?_
    refine ez_top (nI ((B.2 k).1)) (hR.2.1 k hk).1 ?_
    refine ez_bipush 19 dX2_goOn_17 rfl (nI 10) (by decide) ?_
    refine ez_idiv 20 dX2_goOn_19 rfl (by decide) ?_
    refine ez_top (nI (((B.2 k).1) / 10)) (pk_div (by omega) (by omega) (by omega)) ?_
    refine ez_istore 22 [(4, eI (nI (((B.2 k).1) / 10))), (0, eR 2 0), (1, eR 1 m), (2, eR 1 n), (3, eI (nI k))] dX2_goOn_20 rfl (by decide) rfl ?_
    refine ez_aload_n 23 dX2_goOn_22 rfl rfl ?_
    refine ez_getf 26 (eR 30 0) dX2_goOn_23 rfl fl_X2_11 (by show 0 < 1; omega) rfl ?_
    refine ez_iload_n 27 dX2_goOn_26 rfl rfl ?_
    refine ez_ialdN k 28 dX2_goOn_27 rfl (by decide) (by show 0 < 1; omega) (by show k < 100; omega) ?_
    refine ez_top (nI ((B.2 k).1)) (hR.2.1 k hk).1 ?_
    refine ez_bipush 30 dX2_goOn_28 rfl (nI 10) (by decide) ?_
    refine ez_irem 31 dX2_goOn_30 rfl (by decide) ?_
    refine ez_top (nI (((B.2 k).1) % 10)) (pk_rem (by omega) (by omega) (by omega)) ?_
    refine ez_istore 33 [(5, eI (nI (((B.2 k).1) % 10))), (4, eI (nI (((B.2 k).1) / 10))), (0, eR 2 0), (1, eR 1 m), (2, eR 1 n), (3, eI (nI k))] dX2_goOn_31 rfl (by decide) rfl ?_
    refine ez_aload_n 34 dX2_goOn_33 rfl rfl ?_
    refine ez_getf 37 (eR 31 0) dX2_goOn_34 rfl fl_X2_15 (by show 0 < 1; omega) rfl ?_
    refine ez_iload_n 38 dX2_goOn_37 rfl rfl ?_
    refine ez_ialdN k 39 dX2_goOn_38 rfl (by decide) (by show 0 < 1; omega) (by show k < 100; omega) ?_
    refine ez_top (nI ((B.2 k).2.1)) (hR.2.1 k hk).2.1 ?_
    refine ez_iconst 40 dX2_goOn_39 rfl (nI 1) (by decide) ?_
    refine ez_iadd 41 dX2_goOn_40 rfl ?_
    refine ez_top (nI ((B.2 k).2.1 + 1)) (nI_add _ _) ?_
    refine ez_istore 43 [(6, eI (nI ((B.2 k).2.1 + 1))), (5, eI (nI (((B.2 k).1) % 10))), (4, eI (nI (((B.2 k).1) / 10))), (0, eR 2 0), (1, eR 1 m), (2, eR 1 n), (3, eI (nI k))] dX2_goOn_41 rfl (by decide) rfl ?_
    refine ez_iconst 44 dX2_goOn_43 rfl (nI 0) (by decide) ?_
    refine ez_istore 46 [(7, eI (nI 0)), (6, eI (nI ((B.2 k).2.1 + 1))), (5, eI (nI (((B.2 k).1) % 10))), (4, eI (nI (((B.2 k).1) / 10))), (0, eR 2 0), (1, eR 1 m), (2, eR 1 n), (3, eI (nI k))] dX2_goOn_44 rfl (by decide) rfl ?_
    exact lp_goOn G d m n k M hd hm hn h1 h2 hZ1 hZ2 hk hA hI hfar hR _ 0 B M rfl (by omega) rfl hR FX.rf
  · exact absurd h6 (by decide)
noncomputable def t_go (la lb : Nat → Int32) (a b : Nat) : Option (Nat × Int32) := if ep_dn la a = ep_dn lb b then (bf_h (t_sf la lb) (bf_0 (a * 10 + b)) 100).2 else some (0, nI 0)
def t_g : Option (Nat × Int32) → Int32
  | none => -1
  | some v => nI v.1
def t_w : Option (Nat × Int32) → Int32
  | none => -1
  | some v => v.2
theorem bf_0_of (j : Nat) : bf_add (0, fun _ => (j, 0, nI 0)) (j, 0, nI 0) = bf_0 j := by
  rw [bf_add_new (fun ⟨i, hi, _⟩ => by have hi' : i < 0 := hi; omega)]
  show (0 + 1, va_up (fun _ => (j, 0, nI 0)) 0 (j, 0, nI 0)) = (1, fun _ => (j, 0, nI 0))
  rw [show va_up (fun _ => ((j, 0, nI 0) : BfE)) 0 (j, 0, nI 0) = fun _ => (j, 0, nI 0) from funext (fun x => by
    by_cases z : x = 0
    · rw [z, va_up_self]
    · rw [va_up_ne _ _ z])]
theorem RP_0 {M : EzM} {j : Nat} (h : ∀ j, j < 100 → M.1 33 0 j = nI 0) : RP (0, fun _ => (j, 0, nI 0)) (ez_st M 2 0 4 (nI 0)) := ⟨by simp [ez_rd], fun i hi => by have hi' : i < 0 := hi; omega, fun j hj => ⟨fun ⟨i, hi, _⟩ => by have hi' : i < 0 := hi; omega, fun _ => by simp [ez_rd, h j hj]⟩⟩
set_option maxRecDepth 20000 in
theorem lp_seek (G : EzG) (d : Nat) {n1 n2 : Nat} {la lb : Nat → Int32} (m n a b : Nat) (M : EzM) (hd : 4 ≤ d) (hm : m < 4) (hn : n < 4) (h1 : WFz n1 la) (h2 : WFz n2 lb) (ha : a < n1) (hb : b < n2) (hZ1 : RCz m n1 la M) (hZ2 : RCz n n2 lb M) (hdn : ep_dn la a = ep_dn lb b) : ∀ (z : Nat) (k : Nat) (B1 : BfS) (M1 : EzM), 100 - k = z → k ≤ 100 → bf_h (t_sf la lb) (bf_0 (a * 10 + b)) k = (B1, none) → RP B1 M1 → FX PF M M1 → Ez G mX2_seek d 70 [(5, eI (nI k)), (0, eR 2 0), (1, eR 1 m), (3, eR 1 n)] [] M1 (fun r M' => r = none ∧ M'.1 2 0 5 = t_g (t_go la lb a b) ∧ M'.1 2 0 6 = t_w (t_go la lb a b) ∧ FX PF M M') := by
  intro z
  induction z using Nat.strongRecOn with
  | ind z ih =>
    intro k B1 M1 hz hk hH hR hF
    have n10 := h1.2.1
    have m10 := h2.2.1
    have i0 : ∀ i, i < (bf_0 (a * 10 + b)).1 → t_I n1 n2 la lb ((bf_0 (a * 10 + b)).2 i) := fun i _ => by
      show (a * 10 + b) / 10 < n1 ∧ (a * 10 + b) % 10 < n2 ∧ ep_dn la ((a * 10 + b) / 10) = ep_dn lb ((a * 10 + b) % 10)
      rw [show (a * 10 + b) / 10 = a by omega, show (a * 10 + b) % 10 = b by omega]
      exact ⟨ha, hb, hdn⟩
    have A9 : Bap B1 := by have := bf_h_ap (t_sf la lb) (bf_0_ap (a * 10 + b)) k; rw [hH] at this; exact this
    have I9 : ∀ i, i < B1.1 → t_I n1 n2 la lb (B1.2 i) := by have := bf_h_inv i0 (t_sf_I h1 h2) k; rw [hH] at this; exact this
    have F9 : Bfar B1 := by have := bf_h_far (t_sf_far la lb) (bf_0_far (a * 10 + b)) k; rw [hH] at this; exact this
    have N9 : ∀ i, i < B1.1 → (B1.2 i).1 < 100 := fun i hi => by have := I9 i hi; unfold t_I at this; omega
    have b101 := A9.le N9
    refine ez_iload 72 dX2_seek_70 rfl rfl ?_
    refine ez_aload_n 73 dX2_seek_72 rfl rfl ?_
    refine ez_getf 76 (eI (M1.1 2 0 4)) dX2_seek_73 rfl fl_X2_25 (by show 0 < 1; omega) rfl ?_
    refine ez_top (nI B1.1) hR.1 ?_
    refine ez_ncmp_ge 79 104 dX2_seek_76 rfl (by decide) (by omega) (by omega) (fun h76 => ?_) (fun h76 => ?_)
    · refine ez_aload_n 105 dX2_seek_104 rfl rfl ?_
      refine ez_iconst 106 dX2_seek_105 rfl (-1) (by decide) ?_
      refine ez_putf 109 .int dX2_seek_106 rfl fp_X2_35 (by show 0 < 1; omega) rfl (by decide) rfl rfl ?_
      refine ez_aload_n 110 dX2_seek_109 rfl rfl ?_
      refine ez_iconst 111 dX2_seek_110 rfl (-1) (by decide) ?_
      refine ez_putf 114 .int dX2_seek_111 rfl fp_X2_38 (by show 0 < 1; omega) rfl (by decide) rfl rfl ?_
      refine ez_vret dX2_seek_114 rfl ?_
      have e9 := bf_h_end hH (by omega) (100 - k)
      rw [show k + (100 - k) = 100 by omega] at e9
      have e8 : t_go la lb a b = none := by unfold t_go; rw [if_pos hdn, e9]
      exact ⟨rfl, by rw [e8]; simp [ez_rd, t_g], by rw [e8]; simp [ez_rd, t_w], (hF.st (by unfold PF; omega)).st (by unfold PF; omega)⟩
    · refine ez_iload 81 dX2_seek_79 rfl rfl ?_
      refine ez_bipush 83 dX2_seek_81 rfl (nI 100) (by decide) ?_
      refine ez_ncmp_ge 86 104 dX2_seek_83 rfl (by decide) (by omega) (by omega) (fun h83 => ?_) (fun h83 => ?_)
      · exact absurd h83 (by omega)
      · refine ez_aload_n 87 dX2_seek_86 rfl rfl ?_
        refine ez_aload_n 88 dX2_seek_87 rfl rfl ?_
        refine ez_aload_n 89 dX2_seek_88 rfl rfl ?_
        refine ez_iload 91 dX2_seek_89 rfl rfl ?_
        refine ez_callV 94 [eR 1 m, eR 1 n, eI (nI k)] [] dX2_seek_91 rfl rfl ok_X2_goOn in_X2_goOn (by decide) (by show 0 < 1; omega) ln_X2_45 (by omega) (Nat.le_of_ble_eq_true rfl) (c_X2_goOn G (d - 1) m n k M1 (by omega) hm hn h1 h2 (hZ1.fx hF ⟨by unfold PF; omega, fun x => by unfold PF; omega⟩) (hZ2.fx hF ⟨by unfold PF; omega, fun x => by unfold PF; omega⟩) (by omega) A9 I9 F9 hR) (fun r91 M91 q91 => ?_)
        obtain ⟨f91, ⟨B2, e91, rfl, P91⟩ | ⟨B2, v, e91, rfl, g91, w91⟩⟩ := q91
        · show Ez G mX2_seek d 94 [(5, eI (nI k)), (0, eR 2 0), (1, eR 1 m), (3, eR 1 n)] [eI (nI 0)] M91 _
          refine ez_nif_eq 97 98 dX2_seek_94 rfl (by decide) (by omega) (fun h94 => ?_) (fun h94 => ?_)
          · refine ez_iinc 101 (nI (k + 1)) [(5, eI (nI (k + 1))), (0, eR 2 0), (1, eR 1 m), (3, eR 1 n)] dX2_seek_98 rfl rfl (nI_add k 1) (by decide) rfl ?_
            refine ez_goto 70 dX2_seek_101 (by decide) ?_
            refine ez_drop [(5, eI (nI (k + 1))), (0, eR 2 0), (1, eR 1 m), (3, eR 1 n)] (by simp) ?_
            exact ih (100 - (k + 1)) (by omega) (k + 1) B2 M91 rfl (by omega) (bf_h_go hH (by omega) e91) P91 (hF.tr f91)
          · exact absurd h94 (by decide)
        · show Ez G mX2_seek d 94 [(5, eI (nI k)), (0, eR 2 0), (1, eR 1 m), (3, eR 1 n)] [eI (nI 1)] M91 _
          refine ez_nif_eq 97 98 dX2_seek_94 rfl (by decide) (by omega) (fun h94 => ?_) (fun h94 => ?_)
          · exact absurd h94 (by decide)
          · refine ez_vret dX2_seek_97 rfl ?_
            have e9 := bf_h_stop (bf_h_go hH (by omega) e91) (99 - k)
            rw [show k + 1 + (99 - k) = 100 by omega] at e9
            have e8 : t_go la lb a b = some v := by unfold t_go; rw [if_pos hdn, e9]
            exact ⟨rfl, by rw [e8]; exact g91, by rw [e8]; exact w91, hF.tr f91⟩
set_option maxRecDepth 20000 in
theorem seek_24 (G : EzG) (d : Nat) {n1 n2 : Nat} {la lb : Nat → Int32} (m n a b : Nat) (M M1 : EzM) (hd : 4 ≤ d) (hm : m < 4) (hn : n < 4) (h1 : WFz n1 la) (h2 : WFz n2 lb) (ha : a < n1) (hb : b < n2) (hZ1 : RCz m n1 la M) (hZ2 : RCz n n2 lb M) (hM : ∀ j, j < 100 → M1.1 33 0 j = nI 0) (hF : FX PF M M1) : Ez G mX2_seek d 24 [(0, eR 2 0), (1, eR 1 m), (2, eI (nI a)), (3, eR 1 n), (4, eI (nI b))] [] M1 (fun r M' => r = none ∧ M'.1 2 0 5 = t_g (t_go la lb a b) ∧ M'.1 2 0 6 = t_w (t_go la lb a b) ∧ FX PF M M') := by
  have n10 := h1.2.1
  have m10 := h2.2.1
  refine ez_aload_n 25 dX2_seek_24 rfl rfl ?_
  refine ez_iconst 26 dX2_seek_25 rfl (nI 0) (by decide) ?_
  refine ez_putf 29 .int dX2_seek_26 rfl fp_X2_25 (by show 0 < 1; omega) rfl (by decide) rfl rfl ?_
  have hF1 : FX PF M (ez_st M1 2 0 4 (nI 0)) := hF.st (by unfold PF; omega)
  have d1 := ep_dn16 la a
  have d2 := ep_dn16 lb b
  refine ez_aload_n 30 dX2_seek_29 rfl rfl ?_
  refine ez_iload_n 31 dX2_seek_30 rfl rfl ?_
  refine ez_callV 34 [eI (nI a)] [] dX2_seek_31 rfl rfl ok_X1_leading in_X1_leading (by decide) (by show m < 4; omega) ln_X2_29 (by omega) (Nat.le_of_ble_eq_true rfl) (c_leading_n G (d - 1) m n1 a la (ez_st M1 2 0 4 (nI 0)) (by omega) hm (by omega) ha (hZ1.fx hF1 ⟨by unfold PF; omega, fun x => by unfold PF; omega⟩)) (fun r31 M31 q31 => ?_)
  obtain ⟨rfl, e31⟩ := q31
  rw [e31]
  show Ez G mX2_seek d 34 [(0, eR 2 0), (1, eR 1 m), (2, eI (nI a)), (3, eR 1 n), (4, eI (nI b))] [eI (nI (ep_dn la a))] (ez_st M1 2 0 4 (nI 0)) _
  refine ez_aload_n 35 dX2_seek_34 rfl rfl ?_
  refine ez_iload 37 dX2_seek_35 rfl rfl ?_
  refine ez_callV 40 [eI (nI b)] [eI (nI (ep_dn la a))] dX2_seek_37 rfl rfl ok_X1_leading in_X1_leading (by decide) (by show n < 4; omega) ln_X2_29 (by omega) (Nat.le_of_ble_eq_true rfl) (c_leading_n G (d - 1) n n2 b lb (ez_st M1 2 0 4 (nI 0)) (by omega) hn (by omega) hb (hZ2.fx hF1 ⟨by unfold PF; omega, fun x => by unfold PF; omega⟩)) (fun r37 M37 q37 => ?_)
  obtain ⟨rfl, e37⟩ := q37
  rw [e37]
  show Ez G mX2_seek d 40 [(0, eR 2 0), (1, eR 1 m), (2, eI (nI a)), (3, eR 1 n), (4, eI (nI b))] [eI (nI (ep_dn lb b)), eI (nI (ep_dn la a))] (ez_st M1 2 0 4 (nI 0)) _
  refine ez_ncmp_eq 43 54 dX2_seek_40 rfl (by decide) (by omega) (by omega) (fun h40 => ?_) (fun h40 => ?_)
  · refine ez_aload_n 55 dX2_seek_54 rfl rfl ?_
    refine ez_iload_n 56 dX2_seek_55 rfl rfl ?_
    refine ez_bipush 58 dX2_seek_56 rfl (nI 10) (by decide) ?_
    refine ez_imul 59 dX2_seek_58 rfl ?_
    refine ez_top (nI (a * 10)) (pk_mul _ _) ?_
    refine ez_iload 61 dX2_seek_59 rfl rfl ?_
    refine ez_iadd 62 dX2_seek_61 rfl ?_
    refine ez_top (nI (a * 10 + b)) (nI_add _ _) ?_
    refine ez_iconst 63 dX2_seek_62 rfl (nI 0) (by decide) ?_
    refine ez_iconst 64 dX2_seek_63 rfl (nI 0) (by decide) ?_
    refine ez_callV 67 [eI (nI (a * 10 + b)), eI (nI 0), eI (nI 0)] [] dX2_seek_64 rfl rfl ok_X2_add in_X2_add (by decide) (by show 0 < 1; omega) ln_X2_41 (by omega) (Nat.le_of_ble_eq_true rfl) (c_X2_add G (d - 1) (B := (0, fun _ => (a * 10 + b, 0, nI 0))) (a * 10 + b) 0 (nI 0) (ez_st M1 2 0 4 (nI 0)) (by omega) (by omega) (fun i j hi hj _ => by have hi9 : i < 0 := hi; omega) (fun i hi => by have hi9 : i < 0 := hi; omega) (RP_0 hM)) (fun r64 M64 q64 => ?_)
    obtain ⟨rfl, P64, f64⟩ := q64
    rw [bf_0_of] at P64
    show Ez G mX2_seek d 67 [(0, eR 2 0), (1, eR 1 m), (2, eI (nI a)), (3, eR 1 n), (4, eI (nI b))] [] M64 _
    refine ez_iconst 68 dX2_seek_67 rfl (nI 0) (by decide) ?_
    refine ez_istore 70 [(5, eI (nI 0)), (0, eR 2 0), (1, eR 1 m), (2, eI (nI a)), (3, eR 1 n), (4, eI (nI b))] dX2_seek_68 rfl (by decide) rfl ?_
    refine ez_drop [(5, eI (nI 0)), (0, eR 2 0), (1, eR 1 m), (3, eR 1 n)] (by simp) ?_
    exact lp_seek G d m n a b M hd hm hn h1 h2 ha hb hZ1 hZ2 h40 _ 0 _ M64 rfl (by omega) rfl P64 (hF1.tr f64)
  · refine ez_aload_n 44 dX2_seek_43 rfl rfl ?_
    refine ez_iconst 45 dX2_seek_44 rfl (nI 0) (by decide) ?_
    refine ez_putf 48 .int dX2_seek_45 rfl fp_X2_35 (by show 0 < 1; omega) rfl (by decide) rfl rfl ?_
    refine ez_aload_n 49 dX2_seek_48 rfl rfl ?_
    refine ez_iconst 50 dX2_seek_49 rfl (nI 0) (by decide) ?_
    refine ez_putf 53 .int dX2_seek_50 rfl fp_X2_38 (by show 0 < 1; omega) rfl (by decide) rfl rfl ?_
    refine ez_vret dX2_seek_53 rfl ?_
    have e8 : t_go la lb a b = some (0, nI 0) := by unfold t_go; rw [if_neg h40]
    exact ⟨rfl, by rw [e8]; simp [ez_rd, t_g], by rw [e8]; simp [ez_rd, t_w], (hF1.st (by unfold PF; omega)).st (by unfold PF; omega)⟩
set_option maxRecDepth 20000 in
theorem lp_seek0 (G : EzG) (d : Nat) {n1 n2 : Nat} {la lb : Nat → Int32} (m n a b : Nat) (M : EzM) (hd : 4 ≤ d) (hm : m < 4) (hn : n < 4) (h1 : WFz n1 la) (h2 : WFz n2 lb) (ha : a < n1) (hb : b < n2) (hZ1 : RCz m n1 la M) (hZ2 : RCz n n2 lb M) : ∀ (z : Nat) (t : Nat) (M1 : EzM), 100 - t = z → t ≤ 100 → (∀ j, j < t → M1.1 33 0 j = nI 0) → FX PF M M1 → Ez G mX2_seek d 3 [(5, eI (nI t)), (0, eR 2 0), (1, eR 1 m), (2, eI (nI a)), (3, eR 1 n), (4, eI (nI b))] [] M1 (fun r M' => r = none ∧ M'.1 2 0 5 = t_g (t_go la lb a b) ∧ M'.1 2 0 6 = t_w (t_go la lb a b) ∧ FX PF M M') := by
  intro z
  induction z using Nat.strongRecOn with
  | ind z ih =>
    intro t M1 hz ht hM hF
    refine ez_iload 5 dX2_seek_3 rfl rfl ?_
    refine ez_bipush 7 dX2_seek_5 rfl (nI 100) (by decide) ?_
    refine ez_ncmp_ge 10 24 dX2_seek_7 rfl (by decide) (by omega) (by omega) (fun h7 => ?_) (fun h7 => ?_)
    · refine ez_drop [(0, eR 2 0), (1, eR 1 m), (2, eI (nI a)), (3, eR 1 n), (4, eI (nI b))] (by simp) ?_
      exact seek_24 G d m n a b M M1 hd hm hn h1 h2 ha hb hZ1 hZ2 (fun j hj => hM j (by omega)) hF
    · refine ez_aload_n 11 dX2_seek_10 rfl rfl ?_
      refine ez_getf 14 (eR 33 0) dX2_seek_11 rfl fl_X2_21 (by show 0 < 1; omega) rfl ?_
      refine ez_iload 16 dX2_seek_14 rfl rfl ?_
      refine ez_iconst 17 dX2_seek_16 rfl (nI 0) (by decide) ?_
      refine ez_zastN t 18 dX2_seek_17 rfl (by decide) (by show 0 < 1; omega) (by show t < 100; omega) (by decide) ?_
      refine ez_iinc 21 (nI (t + 1)) [(5, eI (nI (t + 1))), (0, eR 2 0), (1, eR 1 m), (2, eI (nI a)), (3, eR 1 n), (4, eI (nI b))] dX2_seek_18 rfl rfl (nI_add t 1) (by decide) rfl ?_
      refine ez_goto 3 dX2_seek_21 (by decide) ?_
      exact ih (100 - (t + 1)) (by omega) (t + 1) _ rfl (by omega) (fun j hj => by
        rw [ez_rd]
        by_cases e : j = t
        · rw [if_pos ⟨rfl, rfl, e⟩]
        · rw [if_neg (by omega)]; exact hM j (by omega)) (hF.st (by unfold PF; omega))
set_option maxRecDepth 20000 in
theorem c_X2_seek (G : EzG) (d : Nat) {n1 n2 : Nat} {la lb : Nat → Int32} (m n a b : Nat) (M : EzM) (hd : 4 ≤ d) (hm : m < 4) (hn : n < 4) (h1 : WFz n1 la) (h2 : WFz n2 lb) (ha : a < n1) (hb : b < n2) (hZ1 : RCz m n1 la M) (hZ2 : RCz n n2 lb M) : Ezc G mX2_seek d [eR 2 0, eR 1 m, eI (nI a), eR 1 n, eI (nI b)] M (fun r M' => r = none ∧ M'.1 2 0 5 = t_g (t_go la lb a b) ∧ M'.1 2 0 6 = t_w (t_go la lb a b) ∧ FX PF M M') := by
  refine Ezc.of (by decide +kernel) (Nat.le_of_ble_eq_true rfl) ?_
  show Ez G mX2_seek d 0 [(0, eR 2 0), (1, eR 1 m), (2, eI (nI a)), (3, eR 1 n), (4, eI (nI b))] [] M _
  refine ez_iconst 1 dX2_seek_0 rfl (nI 0) (by decide) ?_
  refine ez_istore 3 [(5, eI (nI 0)), (0, eR 2 0), (1, eR 1 m), (2, eI (nI a)), (3, eR 1 n), (4, eI (nI b))] dX2_seek_1 rfl (by decide) rfl ?_
  exact lp_seek0 G d m n a b M hd hm hn h1 h2 ha hb hZ1 hZ2 _ 0 M rfl (by omega) (fun j hj => by omega) FX.rf
