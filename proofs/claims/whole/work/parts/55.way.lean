/-! way, free, all -/
def RS (B : BfS) (M : EzM) : Prop := (∀ i, i < B.1 → M.1 29 0 i = nI ((B.2 i).1 / 1024) ∧ M.1 28 0 ((B.2 i).1 / 1024) = nI (B.2 i).2.1) ∧ ∀ j, j < 10 → ¬ Bvis B (1024 * j + 0) → M.1 28 0 j = -1
def SF (k i s : Nat) : Prop := k = 28 ∨ k = 29
theorem FX.sfsc {M M' : EzM} (h : FX SF M M') : FX SC M M' := h.up (fun k i s z => by unfold SF at z; unfold SC; omega)
theorem RS_new {n : Nat} {B : BfS} {M : EzM} {p f : Nat} {w : Int32} (hI : ∀ i, i < B.1 → w_I n (B.2 i)) (h : RS B M) (hv : ¬ Bvis B (1024 * p + 0)) : RS (bf_add B (1024 * p + 0, f, w)) (ez_st (ez_st M 28 0 p (nI f)) 29 0 B.1 (nI p)) := by
  obtain ⟨a2, a3⟩ := h
  have hb := @Bvis_add B (1024 * p + 0, f, w)
  rw [bf_add_new hv] at hb ⊢
  refine ⟨fun i hi => ?_, fun j hj z => ?_⟩
  · have hi' : i < B.1 + 1 := hi
    have e0 : ((B.1 + 1, va_up B.2 B.1 (1024 * p + 0, f, w)) : BfS).2 i = va_up B.2 B.1 (1024 * p + 0, f, w) i := rfl
    rw [e0]
    by_cases e : i = B.1
    · rw [e, va_up_self]
      show _ = nI ((1024 * p + 0) / 1024) ∧ (ez_st (ez_st M 28 0 p (nI f)) 29 0 B.1 (nI p)).1 28 0 ((1024 * p + 0) / 1024) = nI f
      rw [show (1024 * p + 0) / 1024 = p by omega]
      simp [ez_rd]
    · rw [va_up_ne _ _ e]
      have e2 : ¬ (B.2 i).1 / 1024 = p := fun z => hv ⟨i, by omega, by have := (hI i (by omega)).2; omega⟩
      have := a2 i (by omega)
      simp [ez_rd, e, e2, this]
  · have e : ¬ j = p := fun e => z (hb.mpr (Or.inr (by rw [e])))
    have hv2 : ¬ Bvis B (1024 * j + 0) := fun y => z (hb.mpr (Or.inl y))
    simp [ez_rd, e, a3 j hj hv2]
theorem w_le {n : Nat} {B : BfS} (hA : Bap B) (hI : ∀ i, i < B.1 → w_I n (B.2 i)) : B.1 ≤ n := er_pig n B.1 (fun i => (B.2 i).1 / 1024) (fun i hi => (hI i hi).1) (fun i j hi hj e => hA i j hi hj (by have := (hI i hi).2; have := (hI j hj).2; have e' : (B.2 i).1 / 1024 = (B.2 j).1 / 1024 := e; omega))
theorem w_lt {n p : Nat} {B : BfS} (hA : Bap B) (hI : ∀ i, i < B.1 → w_I n (B.2 i)) (hp : p < n) (hv : ¬ Bvis B (1024 * p + 0)) : B.1 < n := by
  have h2 : Bap (bf_add B (1024 * p + 0, 0, nI 0)) := hA.add
  have h3 := w_le (n := n) h2 (by
    rw [bf_add_new hv]
    intro i hi
    have hi' : i < B.1 + 1 := hi
    show w_I n (va_up B.2 B.1 (1024 * p + 0, 0, nI 0) i)
    by_cases e : i = B.1
    · rw [e, va_up_self]
      show (1024 * p + 0) / 1024 < n ∧ (1024 * p + 0) % 1024 = 0
      omega
    · rw [va_up_ne _ _ e]; exact hI i (by omega))
  rw [bf_add_new hv] at h3
  have h4 : B.1 + 1 ≤ n := h3
  omega
theorem w_all {n : Nat} {B : BfS} (hA : Bap B) (hI : ∀ i, i < B.1 → w_I n (B.2 i)) : B.1 = n ↔ ∀ q, q < n → ∃ i, i < B.1 ∧ (B.2 i).1 / 1024 = q := by
  constructor
  · intro e q hq
    by_cases h : Bvis B (1024 * q + 0)
    · obtain ⟨i, hi, he⟩ := h
      exact ⟨i, hi, by omega⟩
    · have := w_lt hA hI hq h
      omega
  · intro h
    have h1 := w_le hA hI
    have h2 : n ≤ B.1 := by
      refine er_pig B.1 n (fun q => match er_fst (fun i => decide ((B.2 i).1 / 1024 = q)) B.1 with | some i => i | none => 0) (fun q hq => ?_) (fun a b ha hb e => ?_)
      · obtain ⟨i, hi, he⟩ := h q hq
        obtain ⟨j, hj⟩ := er_fst_ex (p := fun i => decide ((B.2 i).1 / 1024 = q)) (decide_eq_true he) hi
        show (match er_fst (fun i => decide ((B.2 i).1 / 1024 = q)) B.1 with | some i => i | none => 0) < B.1
        rw [hj]
        exact (er_fst_in hj).1
      · obtain ⟨i, hi, he⟩ := h a ha
        obtain ⟨j, hj⟩ := er_fst_ex (p := fun i => decide ((B.2 i).1 / 1024 = a)) (decide_eq_true he) hi
        obtain ⟨i2, hi2, he2⟩ := h b hb
        obtain ⟨j2, hj2⟩ := er_fst_ex (p := fun i => decide ((B.2 i).1 / 1024 = b)) (decide_eq_true he2) hi2
        have e' : (match er_fst (fun i => decide ((B.2 i).1 / 1024 = a)) B.1 with | some i => i | none => 0) = (match er_fst (fun i => decide ((B.2 i).1 / 1024 = b)) B.1 with | some i => i | none => 0) := e
        rw [hj, hj2] at e'
        have e3 : j = j2 := e'
        subst e3
        have k1 := of_decide_eq_true (er_fst_in hj).2.1
        have k2 := of_decide_eq_true (er_fst_in hj2).2.1
        omega
    omega
set_option maxRecDepth 20000 in
theorem lp_from67 (G : EzG) (d : Nat) {B : BfS} {n : Nat} {lt : Nat → Int32} (m k : Nat) (P : Option EzV → EzM → Prop) (M0 : EzM) (hd : 2 ≤ d) (hm : m < 4) (hwf : WFz n lt) (hZ : RCz m n lt M0) (hk : k < B.1) (hA : Bap B) (hI : ∀ i, i < B.1 → w_I n (B.2 i)) (hfar : Bfar B) (hon : ∀ B2 M', bf_d (w_sf lt) (B.2 k) B 4 = (B2, none) → RS B2 M' → FX SF M0 M' → Ez G mX6_from d 150 [(4, eI (nI k)), (3, eI (nI B2.1)), (0, eR 6 0), (1, eR 1 m)] [] M' P) : ∀ (z : Nat) (c : Nat) (B1 : BfS) (M1 : EzM), 4 - c = z → c ≤ 4 → bf_d (w_sf lt) (B.2 k) B c = (B1, none) → RS B1 M1 → FX SF M0 M1 → Ez G mX6_from d 67 [(6, eI (nI c)), (5, eI (nI ((B.2 k).1 / 1024))), (4, eI (nI k)), (3, eI (nI B1.1)), (0, eR 6 0), (1, eR 1 m)] [] M1 (P) := by
  intro z
  induction z using Nat.strongRecOn with
  | ind z ih =>
    intro c B1 M1 hz hc hD hR hF
    have n10 := hwf.2.1
    have t1 := (hI k hk).1
    have f9 := hfar k hk
    have A9 : Bap B1 := by have := bf_d_ap (w_sf lt) (B.2 k) hA c; rw [hD] at this; exact this
    have I9 : ∀ i, i < B1.1 → w_I n (B1.2 i) := by have := bf_d_inv (sf := w_sf lt) (e := B.2 k) hI (fun c e' hc he => w_sf_I hwf _ c e' (hI k hk) hc he) c hc; rw [hD] at this; exact this
    have F9 : Bfar B1 := by have := bf_d_far (w_sf_far lt) hfar (show (B.2 k).2.1 + 1 ≤ B.1 by omega) c; rw [hD] at this; exact this
    have X9 : BfX B B1 := by have := bf_d_ext (w_sf lt) (B.2 k) B c; rw [hD] at this; exact this
    have b101 := w_le A9 I9
    have x9 := X9.1
    have v9 := hR.1 k (by omega)
    rw [X9.2 k hk] at v9
    refine ez_iload 69 dX6_from_67 rfl rfl ?_
    refine ez_iconst 70 dX6_from_69 rfl (nI 4) (by decide) ?_
    refine ez_ncmp_ge 73 150 dX6_from_70 rfl (by decide) (by omega) (by omega) (fun h70 => ?_) (fun h70 => ?_)
    · have e9 : c = 4 := by omega
      subst e9
      refine ez_drop [(4, eI (nI k)), (3, eI (nI B1.1)), (0, eR 6 0), (1, eR 1 m)] (by simp) ?_
      exact hon B1 M1 hD hR hF
    · refine ez_aload_n 74 dX6_from_73 rfl rfl ?_
      refine ez_iload 76 dX6_from_74 rfl rfl ?_
      refine ez_iload 78 dX6_from_76 rfl rfl ?_
      refine ez_callV 81 [eI (nI ((B.2 k).1 / 1024)), eI (nI c)] [] dX6_from_78 rfl rfl ok_X1_target in_X1_target (by decide) (by show m < 4; omega) ln_X6_22 (by omega) (Nat.le_of_ble_eq_true rfl) (c_target_n G (d - 1) m ((B.2 k).1 / 1024) c M1 (by omega) (by show m < 4; omega) (by omega) (by omega)) (fun r78 M78 q78 => ?_)
      obtain ⟨rfl, e78⟩ := q78
      rw [e78, show M1.1 18 m (4 * ((B.2 k).1 / 1024) + c) = lt (4 * ((B.2 k).1 / 1024) + c) from ((hZ.fx hF ⟨by unfold SF; omega, fun x => by unfold SF; omega⟩).2.1 _ (by omega))]
      show Ez G mX6_from d 81 [(6, eI (nI c)), (5, eI (nI ((B.2 k).1 / 1024))), (4, eI (nI k)), (3, eI (nI B1.1)), (0, eR 6 0), (1, eR 1 m)] [eI (lt (4 * ((B.2 k).1 / 1024) + c))] M1 _
      refine ez_istore 83 [(7, eI (lt (4 * ((B.2 k).1 / 1024) + c))), (6, eI (nI c)), (5, eI (nI ((B.2 k).1 / 1024))), (4, eI (nI k)), (3, eI (nI B1.1)), (0, eR 6 0), (1, eR 1 m)] dX6_from_81 rfl (by decide) rfl ?_
      refine ez_iload 85 dX6_from_83 rfl rfl ?_
      refine ez_iconst 86 dX6_from_85 rfl (-1) (by decide) ?_
      refine ez_icmp_eq 89 144 dX6_from_86 rfl (by decide) (fun h86 => ?_) (fun h86 => ?_)
      · refine ez_iinc 147 (nI (c + 1)) [(6, eI (nI (c + 1))), (7, eI (lt (4 * ((B.2 k).1 / 1024) + c))), (5, eI (nI ((B.2 k).1 / 1024))), (4, eI (nI k)), (3, eI (nI B1.1)), (0, eR 6 0), (1, eR 1 m)] dX6_from_144 rfl rfl (nI_add c 1) (by decide) rfl ?_
        refine ez_goto 67 dX6_from_147 (by decide) ?_
        refine ez_drop [(6, eI (nI (c + 1))), (5, eI (nI ((B.2 k).1 / 1024))), (4, eI (nI k)), (3, eI (nI B1.1)), (0, eR 6 0), (1, eR 1 m)] (by simp) ?_
        exact ih (4 - (c + 1)) (by omega) (c + 1) B1 M1 rfl (by omega) (bf_d_skip hD (w_sf_skip h86)) hR hF
      · rcases hwf.2.2 ((B.2 k).1 / 1024) c (by omega) (by omega) with z | ⟨-, r1, c1, b1, b2, b3⟩
        · exact absurd z h86
        rw [b3]
        show Ez G mX6_from d 89 [(7, eI (nI (10 * r1 + c1))), (6, eI (nI c)), (5, eI (nI ((B.2 k).1 / 1024))), (4, eI (nI k)), (3, eI (nI B1.1)), (0, eR 6 0), (1, eR 1 m)] [] M1 _
        by_cases hv : Bvis B1 (1024 * ((10 * r1 + c1) / 10) + 0)
        · obtain ⟨i9, hi9, he9⟩ := hv
          have f8 := F9 i9 hi9
          have hv : Bvis B1 (1024 * ((10 * r1 + c1) / 10) + 0) := ⟨i9, hi9, he9⟩
          have w8 : M1.1 28 0 ((10 * r1 + c1) / 10) = nI (B1.2 i9).2.1 := by have := (hR.1 i9 hi9).2; rw [show (B1.2 i9).1 / 1024 = (10 * r1 + c1) / 10 by omega] at this; exact this
          refine ez_aload_n 90 dX6_from_89 rfl rfl ?_
          refine ez_getf 93 (eR 28 0) dX6_from_90 rfl fl_X6_9 (by show 0 < 1; omega) rfl ?_
          refine ez_iload 95 dX6_from_93 rfl rfl ?_
          refine ez_bipush 97 dX6_from_95 rfl (nI 10) (by decide) ?_
          refine ez_idiv 98 dX6_from_97 rfl (by decide) ?_
          refine ez_top (nI ((10 * r1 + c1) / 10)) (pk_div (by omega) (by omega) (by omega)) ?_
          refine ez_callSN 101 [eR 28 0, eI (nI ((10 * r1 + c1) / 10))] [] dX6_from_98 rfl rfl ok_X11_itemAt st_X11_itemAt "ElevenPebbles" nn_X6_28 (by omega) (Nat.le_of_ble_eq_true rfl) (c_itemAt_n G (d - 1) 28 0 ((10 * r1 + c1) / 10) M1 (by decide) (by show 0 < 1; omega) (by show (10 * r1 + c1) / 10 < 10; omega)) (fun r98 M98 q98 => ?_)
          obtain ⟨rfl, e98⟩ := q98
          rw [e98, show M1.1 28 0 ((10 * r1 + c1) / 10) = nI ((B1.2 i9).2.1) from w8]
          show Ez G mX6_from d 101 [(7, eI (nI (10 * r1 + c1))), (6, eI (nI c)), (5, eI (nI ((B.2 k).1 / 1024))), (4, eI (nI k)), (3, eI (nI B1.1)), (0, eR 6 0), (1, eR 1 m)] [eI (nI ((B1.2 i9).2.1))] M1 _
          refine ez_iconst 102 dX6_from_101 rfl (-1) (by decide) ?_
          refine ez_icmp_ne 105 144 dX6_from_102 rfl (by decide) (fun h102 => ?_) (fun h102 => ?_)
          · refine ez_iinc 147 (nI (c + 1)) [(6, eI (nI (c + 1))), (7, eI (nI (10 * r1 + c1))), (5, eI (nI ((B.2 k).1 / 1024))), (4, eI (nI k)), (3, eI (nI B1.1)), (0, eR 6 0), (1, eR 1 m)] dX6_from_144 rfl rfl (nI_add c 1) (by decide) rfl ?_
            refine ez_goto 67 dX6_from_147 (by decide) ?_
            have s9 := w_sf_new (lt := lt) (e := B.2 k) (c := c) (show 10 * r1 + c1 < 2 ^ 31 by omega) b3
            refine ez_drop [(6, eI (nI (c + 1))), (5, eI (nI ((B.2 k).1 / 1024))), (4, eI (nI k)), (3, eI (nI B1.1)), (0, eR 6 0), (1, eR 1 m)] (by simp) ?_
            have e7 := bf_d_new hD s9
            rw [bf_add_in hv] at e7
            exact ih (4 - (c + 1)) (by omega) (c + 1) B1 M1 rfl (by omega) e7 hR hF
          · exact absurd h102 (ep_m1 (by omega))
        · have hlt : B1.1 < 10 := (by have := w_lt A9 I9 (show (10 * r1 + c1) / 10 < n by omega) hv; omega)
          have w8 : M1.1 28 0 ((10 * r1 + c1) / 10) = -1 := hR.2 _ (by omega) hv
          refine ez_aload_n 90 dX6_from_89 rfl rfl ?_
          refine ez_getf 93 (eR 28 0) dX6_from_90 rfl fl_X6_9 (by show 0 < 1; omega) rfl ?_
          refine ez_iload 95 dX6_from_93 rfl rfl ?_
          refine ez_bipush 97 dX6_from_95 rfl (nI 10) (by decide) ?_
          refine ez_idiv 98 dX6_from_97 rfl (by decide) ?_
          refine ez_top (nI ((10 * r1 + c1) / 10)) (pk_div (by omega) (by omega) (by omega)) ?_
          refine ez_callSN 101 [eR 28 0, eI (nI ((10 * r1 + c1) / 10))] [] dX6_from_98 rfl rfl ok_X11_itemAt st_X11_itemAt "ElevenPebbles" nn_X6_28 (by omega) (Nat.le_of_ble_eq_true rfl) (c_itemAt_n G (d - 1) 28 0 ((10 * r1 + c1) / 10) M1 (by decide) (by show 0 < 1; omega) (by show (10 * r1 + c1) / 10 < 10; omega)) (fun r98 M98 q98 => ?_)
          obtain ⟨rfl, e98⟩ := q98
          rw [e98, show M1.1 28 0 ((10 * r1 + c1) / 10) = (-1) from w8]
          show Ez G mX6_from d 101 [(7, eI (nI (10 * r1 + c1))), (6, eI (nI c)), (5, eI (nI ((B.2 k).1 / 1024))), (4, eI (nI k)), (3, eI (nI B1.1)), (0, eR 6 0), (1, eR 1 m)] [eI (-1)] M1 _
          refine ez_iconst 102 dX6_from_101 rfl (-1) (by decide) ?_
          refine ez_icmp_ne 105 144 dX6_from_102 rfl (by decide) (fun h102 => ?_) (fun h102 => ?_)
          · exact absurd rfl h102
          · refine ez_aload_n 106 dX6_from_105 rfl rfl ?_
            refine ez_getf 109 (eR 28 0) dX6_from_106 rfl fl_X6_9 (by show 0 < 1; omega) rfl ?_
            refine ez_iload 111 dX6_from_109 rfl rfl ?_
            refine ez_bipush 113 dX6_from_111 rfl (nI 10) (by decide) ?_
            refine ez_idiv 114 dX6_from_113 rfl (by decide) ?_
            refine ez_top (nI ((10 * r1 + c1) / 10)) (pk_div (by omega) (by omega) (by omega)) ?_
            refine ez_aload_n 115 dX6_from_114 rfl rfl ?_
            refine ez_getf 118 (eR 28 0) dX6_from_115 rfl fl_X6_9 (by show 0 < 1; omega) rfl ?_
            refine ez_iload 120 dX6_from_118 rfl rfl ?_
            refine ez_callSN 123 [eR 28 0, eI (nI ((B.2 k).1 / 1024))] [eI (nI ((10 * r1 + c1) / 10)), eR 28 0] dX6_from_120 rfl rfl ok_X11_itemAt st_X11_itemAt "ElevenPebbles" nn_X6_28 (by omega) (Nat.le_of_ble_eq_true rfl) (c_itemAt_n G (d - 1) 28 0 ((B.2 k).1 / 1024) M1 (by decide) (by show 0 < 1; omega) (by show (B.2 k).1 / 1024 < 10; omega)) (fun r120 M120 q120 => ?_)
            obtain ⟨rfl, e120⟩ := q120
            rw [e120, show M1.1 28 0 ((B.2 k).1 / 1024) = nI ((B.2 k).2.1) from v9.2]
            show Ez G mX6_from d 123 [(7, eI (nI (10 * r1 + c1))), (6, eI (nI c)), (5, eI (nI ((B.2 k).1 / 1024))), (4, eI (nI k)), (3, eI (nI B1.1)), (0, eR 6 0), (1, eR 1 m)] [eI (nI ((B.2 k).2.1)), eI (nI ((10 * r1 + c1) / 10)), eR 28 0] M1 _
            refine ez_iconst 124 dX6_from_123 rfl (nI 1) (by decide) ?_
            refine ez_iadd 125 dX6_from_124 rfl ?_
            refine ez_top (nI ((B.2 k).2.1 + 1)) (nI_add _ _) ?_
            refine ez_callSN 128 [eR 28 0, eI (nI ((10 * r1 + c1) / 10)), eI (nI ((B.2 k).2.1 + 1))] [] dX6_from_125 rfl rfl ok_X11_setItem st_X11_setItem "ElevenPebbles" nn_X6_18 (by omega) (Nat.le_of_ble_eq_true rfl) (c_setItem_n G (d - 1) 28 0 ((10 * r1 + c1) / 10) (nI ((B.2 k).2.1 + 1)) M1 (by decide) (by show 0 < 1; omega) (by show (10 * r1 + c1) / 10 < 10; omega)) (fun r125 M125 q125 => ?_)
            obtain ⟨rfl, e125⟩ := q125
            rw [e125]
            show Ez G mX6_from d 128 [(7, eI (nI (10 * r1 + c1))), (6, eI (nI c)), (5, eI (nI ((B.2 k).1 / 1024))), (4, eI (nI k)), (3, eI (nI B1.1)), (0, eR 6 0), (1, eR 1 m)] [] (ez_st M1 28 0 ((10 * r1 + c1) / 10) (nI ((B.2 k).2.1 + 1))) _
            refine ez_aload_n 129 dX6_from_128 rfl rfl ?_
            refine ez_getf 132 (eR 29 0) dX6_from_129 rfl fl_X6_15 (by show 0 < 1; omega) rfl ?_
            refine ez_iload_n 133 dX6_from_132 rfl rfl ?_
            refine ez_iload 135 dX6_from_133 rfl rfl ?_
            refine ez_bipush 137 dX6_from_135 rfl (nI 10) (by decide) ?_
            refine ez_idiv 138 dX6_from_137 rfl (by decide) ?_
            refine ez_top (nI ((10 * r1 + c1) / 10)) (pk_div (by omega) (by omega) (by omega)) ?_
            refine ez_callSN 141 [eR 29 0, eI (nI B1.1), eI (nI ((10 * r1 + c1) / 10))] [] dX6_from_138 rfl rfl ok_X11_setItem st_X11_setItem "ElevenPebbles" nn_X6_18 (by omega) (Nat.le_of_ble_eq_true rfl) (c_setItem_n G (d - 1) 29 0 B1.1 (nI ((10 * r1 + c1) / 10)) (ez_st M1 28 0 ((10 * r1 + c1) / 10) (nI ((B.2 k).2.1 + 1))) (by decide) (by show 0 < 1; omega) (by show B1.1 < 10; omega)) (fun r138 M138 q138 => ?_)
            obtain ⟨rfl, e138⟩ := q138
            rw [e138]
            show Ez G mX6_from d 141 [(7, eI (nI (10 * r1 + c1))), (6, eI (nI c)), (5, eI (nI ((B.2 k).1 / 1024))), (4, eI (nI k)), (3, eI (nI B1.1)), (0, eR 6 0), (1, eR 1 m)] [] (ez_st (ez_st M1 28 0 ((10 * r1 + c1) / 10) (nI ((B.2 k).2.1 + 1))) 29 0 B1.1 (nI ((10 * r1 + c1) / 10))) _
            refine ez_iinc 144 (nI (B1.1 + 1)) [(3, eI (nI (B1.1 + 1))), (7, eI (nI (10 * r1 + c1))), (6, eI (nI c)), (5, eI (nI ((B.2 k).1 / 1024))), (4, eI (nI k)), (0, eR 6 0), (1, eR 1 m)] dX6_from_141 rfl rfl (nI_add B1.1 1) (by decide) rfl ?_
            refine ez_iinc 147 (nI (c + 1)) [(6, eI (nI (c + 1))), (3, eI (nI (B1.1 + 1))), (7, eI (nI (10 * r1 + c1))), (5, eI (nI ((B.2 k).1 / 1024))), (4, eI (nI k)), (0, eR 6 0), (1, eR 1 m)] dX6_from_144 rfl rfl (nI_add c 1) (by decide) rfl ?_
            refine ez_goto 67 dX6_from_147 (by decide) ?_
            have s9 := w_sf_new (lt := lt) (e := B.2 k) (c := c) (show 10 * r1 + c1 < 2 ^ 31 by omega) b3
            refine ez_drop [(6, eI (nI (c + 1))), (5, eI (nI ((B.2 k).1 / 1024))), (4, eI (nI k)), (3, eI (nI (B1.1 + 1))), (0, eR 6 0), (1, eR 1 m)] (by simp) ?_
            have e8 : (bf_add B1 (1024 * ((10 * r1 + c1) / 10) + 0, (B.2 k).2.1 + 1, nI 0)).1 = B1.1 + 1 := by rw [bf_add_new hv]
            rw [← e8]
            exact ih (4 - (c + 1)) (by omega) (c + 1) _ _ rfl (by omega) (bf_d_new hD s9) (RS_new I9 hR hv) ((hF.st (by unfold SF; omega)).st (by unfold SF; omega))
set_option maxRecDepth 20000 in
theorem from_150 (G : EzG) (d : Nat) (m k b : Nat) (P : Option EzV → EzM → Prop) (M1 : EzM) (K : Ez G mX6_from d 42 [(4, eI (nI (k + 1))), (3, eI (nI b)), (0, eR 6 0), (1, eR 1 m)] [] M1 P) : Ez G mX6_from d 150 [(4, eI (nI k)), (3, eI (nI b)), (0, eR 6 0), (1, eR 1 m)] [] M1 (P) := by
  refine ez_iinc 153 (nI (k + 1)) [(4, eI (nI (k + 1))), (3, eI (nI b)), (0, eR 6 0), (1, eR 1 m)] dX6_from_150 rfl rfl (nI_add k 1) (by decide) rfl ?_
  refine ez_goto 42 dX6_from_153 (by decide) ?_
  exact K
set_option maxRecDepth 20000 in
theorem lp_from42 (G : EzG) (d : Nat) {n r : Nat} {lt : Nat → Int32} (m : Nat) (M : EzM) (hd : 2 ≤ d) (hm : m < 4) (hwf : WFz n lt) (hr : r < n) (hZ : RCz m n lt M) : ∀ (z : Nat) (k : Nat) (B1 : BfS) (M1 : EzM), 10 - k = z → k ≤ 10 → bf_h (w_sf lt) (bf_0 (1024 * r + 0)) k = (B1, none) → RS B1 M1 → FX SF M M1 → Ez G mX6_from d 42 [(4, eI (nI k)), (3, eI (nI B1.1)), (0, eR 6 0), (1, eR 1 m)] [] M1 (fun r' M' => r' = some (eI (nI (bf_h (w_sf lt) (bf_0 (1024 * r + 0)) er_N).1.1)) ∧ RS (bf_h (w_sf lt) (bf_0 (1024 * r + 0)) er_N).1 M' ∧ FX SF M M') := by
  intro z
  induction z using Nat.strongRecOn with
  | ind z ih =>
    intro k B1 M1 hz hk hH hR hF
    have n10 := hwf.2.1
    have i0 : ∀ i, i < (bf_0 (1024 * r + 0)).1 → w_I n ((bf_0 (1024 * r + 0)).2 i) := fun i _ => by
      show (1024 * r + 0) / 1024 < n ∧ (1024 * r + 0) % 1024 = 0
      omega
    have A9 : Bap B1 := by have := bf_h_ap (w_sf lt) (bf_0_ap (1024 * r + 0)) k; rw [hH] at this; exact this
    have I9 : ∀ i, i < B1.1 → w_I n (B1.2 i) := by have := bf_h_inv i0 (w_sf_I hwf) k; rw [hH] at this; exact this
    have F9 : Bfar B1 := by have := bf_h_far (w_sf_far lt) (bf_0_far (1024 * r + 0)) k; rw [hH] at this; exact this
    have b101 := w_le A9 I9
    refine ez_iload 44 dX6_from_42 rfl rfl ?_
    refine ez_iload_n 45 dX6_from_44 rfl rfl ?_
    refine ez_ncmp_ge 48 156 dX6_from_45 rfl (by decide) (by omega) (by omega) (fun h45 => ?_) (fun h45 => ?_)
    · refine ez_iload_n 157 dX6_from_156 rfl rfl ?_
      refine ez_iret .int dX6_from_157 rfl rfl ?_
      have e9 := bf_h_end hH (by omega) (er_N - k)
      rw [show k + (er_N - k) = er_N by have := er_N_le; omega] at e9
      rw [e9]
      exact ⟨rfl, hR, hF⟩
    · refine ez_iload 50 dX6_from_48 rfl rfl ?_
      refine ez_bipush 52 dX6_from_50 rfl (nI 10) (by decide) ?_
      refine ez_ncmp_ge 55 156 dX6_from_52 rfl (by decide) (by omega) (by omega) (fun h52 => ?_) (fun h52 => ?_)
      · exact absurd h52 (by omega)
      · refine ez_aload_n 56 dX6_from_55 rfl rfl ?_
        refine ez_getf 59 (eR 29 0) dX6_from_56 rfl fl_X6_15 (by show 0 < 1; omega) rfl ?_
        refine ez_iload 61 dX6_from_59 rfl rfl ?_
        refine ez_ialdN k 62 dX6_from_61 rfl (by decide) (by show 0 < 1; omega) (by show k < 10; omega) ?_
        refine ez_top (nI ((B1.2 k).1 / 1024)) (hR.1 k (by omega)).1 ?_
        refine ez_istore 64 [(5, eI (nI ((B1.2 k).1 / 1024))), (4, eI (nI k)), (3, eI (nI B1.1)), (0, eR 6 0), (1, eR 1 m)] dX6_from_62 rfl (by decide) rfl ?_
        refine ez_iconst 65 dX6_from_64 rfl (nI 0) (by decide) ?_
        refine ez_istore 67 [(6, eI (nI 0)), (5, eI (nI ((B1.2 k).1 / 1024))), (4, eI (nI k)), (3, eI (nI B1.1)), (0, eR 6 0), (1, eR 1 m)] dX6_from_65 rfl (by decide) rfl ?_
        refine ez_drop [(6, eI (nI 0)), (5, eI (nI ((B1.2 k).1 / 1024))), (4, eI (nI k)), (3, eI (nI B1.1)), (0, eR 6 0), (1, eR 1 m)] (by simp) ?_
        refine lp_from67 G d m k _ M hd hm hwf hZ (by omega) A9 I9 F9 (fun B2 M' e91 q91 f91 => ?_) _ 0 B1 M1 rfl (by omega) rfl hR hF
        refine from_150 G d m k B2.1 _ M' ?_
        exact ih (10 - (k + 1)) (by omega) (k + 1) B2 M' rfl (by omega) (bf_h_go hH (by omega) e91) q91 f91
set_option maxRecDepth 20000 in
theorem from_21 (G : EzG) (d : Nat) {n r : Nat} {lt : Nat → Int32} (m : Nat) (M M1 : EzM) (hd : 2 ≤ d) (hm : m < 4) (hwf : WFz n lt) (hr : r < n) (hZ : RCz m n lt M) (hM : ∀ j, j < 10 → M1.1 28 0 j = -1) (hF : FX SF M M1) : Ez G mX6_from d 21 [(0, eR 6 0), (1, eR 1 m), (2, eI (nI r))] [] M1 (fun r' M' => r' = some (eI (nI (bf_h (w_sf lt) (bf_0 (1024 * r + 0)) er_N).1.1)) ∧ RS (bf_h (w_sf lt) (bf_0 (1024 * r + 0)) er_N).1 M' ∧ FX SF M M') := by
  have n10 := hwf.2.1
  refine ez_aload_n 22 dX6_from_21 rfl rfl ?_
  refine ez_getf 25 (eR 28 0) dX6_from_22 rfl fl_X6_9 (by show 0 < 1; omega) rfl ?_
  refine ez_iload_n 26 dX6_from_25 rfl rfl ?_
  refine ez_iconst 27 dX6_from_26 rfl (nI 0) (by decide) ?_
  refine ez_callSN 30 [eR 28 0, eI (nI r), eI (nI 0)] [] dX6_from_27 rfl rfl ok_X11_setItem st_X11_setItem "ElevenPebbles" nn_X6_18 (by omega) (Nat.le_of_ble_eq_true rfl) (c_setItem_n G (d - 1) 28 0 r (nI 0) M1 (by decide) (by show 0 < 1; omega) (by show r < 10; omega)) (fun r27 M27 q27 => ?_)
  obtain ⟨rfl, e27⟩ := q27
  rw [e27]
  show Ez G mX6_from d 30 [(0, eR 6 0), (1, eR 1 m), (2, eI (nI r))] [] (ez_st M1 28 0 r (nI 0)) _
  refine ez_aload_n 31 dX6_from_30 rfl rfl ?_
  refine ez_getf 34 (eR 29 0) dX6_from_31 rfl fl_X6_15 (by show 0 < 1; omega) rfl ?_
  refine ez_iconst 35 dX6_from_34 rfl (nI 0) (by decide) ?_
  refine ez_iload_n 36 dX6_from_35 rfl rfl ?_
  refine ez_iastN 0 37 dX6_from_36 rfl (by decide) (by show 0 < 1; omega) (by show 0 < 10; omega) ?_
  refine ez_iconst 38 dX6_from_37 rfl (nI 1) (by decide) ?_
  refine ez_istore_n 39 [(3, eI (nI 1)), (0, eR 6 0), (1, eR 1 m), (2, eI (nI r))] dX6_from_38 rfl (by decide) rfl ?_
  refine ez_iconst 40 dX6_from_39 rfl (nI 0) (by decide) ?_
  refine ez_istore 42 [(4, eI (nI 0)), (3, eI (nI 1)), (0, eR 6 0), (1, eR 1 m), (2, eI (nI r))] dX6_from_40 rfl (by decide) rfl ?_
  have Q9 : RS (bf_0 (1024 * r + 0)) (ez_st (ez_st M1 28 0 r (nI 0)) 29 0 0 (nI r)) := by
    refine ⟨fun i hi => ?_, fun j hj z => ?_⟩
    · have hi' : i < 1 := hi
      rw [show i = 0 by omega]
      have e0 : (bf_0 (1024 * r + 0)).2 0 = (1024 * r + 0, 0, nI 0) := rfl
      rw [e0, show (1024 * r + 0, 0, nI 0).1 / 1024 = r by show (1024 * r + 0) / 1024 = r; omega]
      simp [ez_rd]
    · have e : ¬ j = r := fun e => z (bf_0_vis.mpr (by omega))
      simp [ez_rd, e, hM j hj]
  refine ez_drop [(4, eI (nI 0)), (3, eI (nI 1)), (0, eR 6 0), (1, eR 1 m)] (by simp) ?_
  exact lp_from42 G d (r := r) m M hd hm hwf hr hZ _ 0 (bf_0 (1024 * r + 0)) _ rfl (by omega) rfl Q9 ((hF.st (by unfold SF; omega)).st (by unfold SF; omega))
set_option maxRecDepth 20000 in
theorem lp_from2 (G : EzG) (d : Nat) {n r : Nat} {lt : Nat → Int32} (m : Nat) (M : EzM) (hd : 2 ≤ d) (hm : m < 4) (hwf : WFz n lt) (hr : r < n) (hZ : RCz m n lt M) : ∀ (z : Nat) (t : Nat) (M1 : EzM), 10 - t = z → t ≤ 10 → (∀ j, j < t → M1.1 28 0 j = -1) → FX SF M M1 → Ez G mX6_from d 2 [(3, eI (nI t)), (0, eR 6 0), (1, eR 1 m), (2, eI (nI r))] [] M1 (fun r' M' => r' = some (eI (nI (bf_h (w_sf lt) (bf_0 (1024 * r + 0)) er_N).1.1)) ∧ RS (bf_h (w_sf lt) (bf_0 (1024 * r + 0)) er_N).1 M' ∧ FX SF M M') := by
  intro z
  induction z using Nat.strongRecOn with
  | ind z ih =>
    intro t M1 hz ht hM hF
    refine ez_iload_n 3 dX6_from_2 rfl rfl ?_
    refine ez_bipush 5 dX6_from_3 rfl (nI 10) (by decide) ?_
    refine ez_ncmp_ge 8 21 dX6_from_5 rfl (by decide) (by omega) (by omega) (fun h5 => ?_) (fun h5 => ?_)
    · refine ez_drop [(0, eR 6 0), (1, eR 1 m), (2, eI (nI r))] (by simp) ?_
      exact from_21 G d (r := r) m M M1 hd hm hwf hr hZ (fun j hj => hM j (by omega)) hF
    · refine ez_aload_n 9 dX6_from_8 rfl rfl ?_
      refine ez_getf 12 (eR 28 0) dX6_from_9 rfl fl_X6_9 (by show 0 < 1; omega) rfl ?_
      refine ez_iload_n 13 dX6_from_12 rfl rfl ?_
      refine ez_iconst 14 dX6_from_13 rfl (-1) (by decide) ?_
      refine ez_iastN t 15 dX6_from_14 rfl (by decide) (by show 0 < 1; omega) (by show t < 10; omega) ?_
      refine ez_iinc 18 (nI (t + 1)) [(3, eI (nI (t + 1))), (0, eR 6 0), (1, eR 1 m), (2, eI (nI r))] dX6_from_15 rfl rfl (nI_add t 1) (by decide) rfl ?_
      refine ez_goto 2 dX6_from_18 (by decide) ?_
      exact ih (10 - (t + 1)) (by omega) (t + 1) _ rfl (by omega) (fun j hj => by
        rw [ez_rd]
        by_cases e : j = t
        · rw [if_pos ⟨rfl, rfl, e⟩]
        · rw [if_neg (by omega)]; exact hM j (by omega)) (hF.st (by unfold SF; omega))
set_option maxRecDepth 20000 in
theorem c_X6_from (G : EzG) (d : Nat) {n r : Nat} {lt : Nat → Int32} (m : Nat) (M : EzM) (hd : 2 ≤ d) (hm : m < 4) (hwf : WFz n lt) (hr : r < n) (hZ : RCz m n lt M) : Ezc G mX6_from d [eR 6 0, eR 1 m, eI (nI r)] M (fun r' M' => r' = some (eI (nI (bf_h (w_sf lt) (bf_0 (1024 * r + 0)) er_N).1.1)) ∧ RS (bf_h (w_sf lt) (bf_0 (1024 * r + 0)) er_N).1 M' ∧ FX SF M M') := by
  refine Ezc.of (by decide +kernel) (Nat.le_of_ble_eq_true rfl) ?_
  show Ez G mX6_from d 0 [(0, eR 6 0), (1, eR 1 m), (2, eI (nI r))] [] M _
  refine ez_iconst 1 dX6_from_0 rfl (nI 0) (by decide) ?_
  refine ez_istore_n 2 [(3, eI (nI 0)), (0, eR 6 0), (1, eR 1 m), (2, eI (nI r))] dX6_from_1 rfl (by decide) rfl ?_
  exact lp_from2 G d (r := r) m M hd hm hwf hr hZ _ 0 M rfl (by omega) (fun j hj => by omega) FX.rf
noncomputable def S_way (q : EpS) (x y : Int32) : Int32 := match ep_ix x q.1.1 with
  | none => -2
  | some m => match ep_ix (y / nI 10) (q.1.2.1 m) with
    | none => -2
    | some r => match ep_ix (y - y / nI 10 * nI 10) (q.1.2.1 m) with
      | none => -2
      | some gl => g_v (w_sf (q.1.2.2.1 m)) (1024 * r + 0) (fun e => decide (e.1 / 1024 = gl))
theorem RS_gv {n r gl : Nat} {lt : Nat → Int32} {M : EzM} (hwf : WFz n lt) (hr : r < n) (hg : gl < 10) (h : RS (bf_h (w_sf lt) (bf_0 (1024 * r + 0)) er_N).1 M) : M.1 28 0 gl = g_v (w_sf lt) (1024 * r + 0) (fun e => decide (e.1 / 1024 = gl)) := by
  unfold g_v
  cases e : er_fst (fun i => decide (((bf_h (w_sf lt) (bf_0 (1024 * r + 0)) er_N).1.2 i).1 / 1024 = gl)) (bf_h (w_sf lt) (bf_0 (1024 * r + 0)) er_N).1.1 with
  | some i =>
    obtain ⟨h1, h2, -⟩ := er_fst_in e
    have h3 : ((bf_h (w_sf lt) (bf_0 (1024 * r + 0)) er_N).1.2 i).1 / 1024 = gl := of_decide_eq_true h2
    show _ = nI ((bf_h (w_sf lt) (bf_0 (1024 * r + 0)) er_N).1.2 i).2.1
    have h4 := (h.1 i h1).2
    rw [h3] at h4
    exact h4
  | none =>
    show _ = -1
    refine h.2 gl hg (fun ⟨i, hi, he⟩ => ?_)
    obtain ⟨j, hj⟩ := er_fst_ex (p := fun i => decide (((bf_h (w_sf lt) (bf_0 (1024 * r + 0)) er_N).1.2 i).1 / 1024 = gl)) (j := i) (decide_eq_true (by rw [he]; omega)) hi
    rw [e] at hj
    cases hj
set_option maxRecDepth 20000 in
theorem c_X11_way (G : EzG) (d : Nat) {q : EpS} (x y : Int32) (M : EzM) (hd : 3 ≤ d) (hW : WF q) (hC : RC q M) : Ezc G mX11_way d [eR 11 0, eI x, eI y] M (fun r M' => r = some (eI (S_way q x y)) ∧ RC q M' ∧ FX CC M M') := by
  refine Ezc.of (by decide +kernel) (Nat.le_of_ble_eq_true rfl) ?_
  have q8 := hW.2.1.1
  have q4 := hW.1.1
  have qx := hW.2.2.2.2.1
  show Ez G mX11_way d 0 [(0, eR 11 0), (1, eI x), (2, eI y)] [] M _
  refine ez_aload_n 1 dX11_way_0 rfl rfl ?_
  refine ez_iload_n 2 dX11_way_1 rfl rfl ?_
  refine ez_callV 5 [eI x] [] dX11_way_2 rfl rfl ok_X11_mazeAt in_X11_mazeAt (by decide) (by show 0 < 1; omega) ln_X11_141 (by omega) (Nat.le_of_ble_eq_true rfl) (c_X11_mazeAt G (d - 1) x q.1.1 M (by omega) hC.1.1 (by omega)) (fun r2 M2 q2 => ?_)
  obtain ⟨e2, ⟨rfl, i2⟩ | ⟨j2, b2, rfl, rfl⟩⟩ := q2
  · rw [e2]
    show Ez G mX11_way d 5 [(0, eR 11 0), (1, eI x), (2, eI y)] [eN] M _
    refine ez_astore_n 6 [(3, eN), (0, eR 11 0), (1, eI x), (2, eI y)] dX11_way_5 rfl (by decide) rfl ?_
    refine ez_aload_n 7 dX11_way_6 rfl rfl ?_
    refine ez_ifnull_n 32 dX11_way_7 (by decide) ?_
    refine ez_bipush 34 dX11_way_32 rfl (-2) (by decide) ?_
    refine ez_iret .int dX11_way_34 rfl rfl ?_
    exact ⟨by simp [S_way, i2], hC, FX.rf⟩
  · rw [e2]
    have i2 : ep_ix (nI j2) q.1.1 = some j2 := ep_ix_nI b2 (by omega)
    show Ez G mX11_way d 5 [(0, eR 11 0), (1, eI (nI j2)), (2, eI y)] [eR 1 j2] M _
    refine ez_astore_n 6 [(3, eR 1 j2), (0, eR 11 0), (1, eI (nI j2)), (2, eI y)] dX11_way_5 rfl (by decide) rfl ?_
    refine ez_aload_n 7 dX11_way_6 rfl rfl ?_
    refine ez_ifnull_r 10 dX11_way_7 rfl ?_
    refine ez_aload_n 11 dX11_way_10 rfl rfl ?_
    refine ez_iload_n 12 dX11_way_11 rfl rfl ?_
    refine ez_bipush 14 dX11_way_12 rfl (nI 10) (by decide) ?_
    refine ez_idiv 15 dX11_way_14 rfl (by decide) ?_
    refine ez_callV 18 [eI (y / (nI 10))] [] dX11_way_15 rfl rfl ok_X1_hasRoom in_X1_hasRoom (by decide) (by show j2 < 4; omega) ln_X11_148 (by omega) (Nat.le_of_ble_eq_true rfl) (c_hasRoom_c G (d - 1) j2 (y / (nI 10)) (q.1.2.1 j2) M (by omega) (hC.1.2.1 j2 (by omega)).1 (by have := (hW.1.2 j2 (by omega)).2.1; omega)) (fun r15 M15 q15 => ?_)
    obtain ⟨e15, ⟨rfl, i15⟩ | ⟨j15, b15, x15, rfl⟩⟩ := q15
    · rw [e15]
      show Ez G mX11_way d 18 [(3, eR 1 j2), (0, eR 11 0), (1, eI (nI j2)), (2, eI y)] [eI (nI 0)] M _
      refine ez_nif_eq 21 32 dX11_way_18 rfl (by decide) (by omega) (fun h18 => ?_) (fun h18 => ?_)
      · refine ez_bipush 34 dX11_way_32 rfl (-2) (by decide) ?_
        refine ez_iret .int dX11_way_34 rfl rfl ?_
        exact ⟨by simp [S_way, i2, i15], hC, FX.rf⟩
      · exact absurd h18 (by decide)
    · rw [e15]
      have i15 : ep_ix (y / (nI 10)) (q.1.2.1 j2) = some j15 := by rw [x15]; exact ep_ix_nI b15 (by have := (hW.1.2 j2 (by omega)).2.1; omega)
      show Ez G mX11_way d 18 [(3, eR 1 j2), (0, eR 11 0), (1, eI (nI j2)), (2, eI y)] [eI (nI 1)] M _
      refine ez_nif_eq 21 32 dX11_way_18 rfl (by decide) (by omega) (fun h18 => ?_) (fun h18 => ?_)
      · exact absurd h18 (by decide)
      · refine ez_aload_n 22 dX11_way_21 rfl rfl ?_
        refine ez_iload_n 23 dX11_way_22 rfl rfl ?_
        refine ez_bipush 25 dX11_way_23 rfl (nI 10) (by decide) ?_
        refine ez_irem 26 dX11_way_25 rfl (by decide) ?_
        refine ez_callV 29 [eI (y - y / (nI 10) * (nI 10))] [] dX11_way_26 rfl rfl ok_X1_hasRoom in_X1_hasRoom (by decide) (by show j2 < 4; omega) ln_X11_148 (by omega) (Nat.le_of_ble_eq_true rfl) (c_hasRoom_c G (d - 1) j2 (y - y / (nI 10) * (nI 10)) (q.1.2.1 j2) M (by omega) (hC.1.2.1 j2 (by omega)).1 (by have := (hW.1.2 j2 (by omega)).2.1; omega)) (fun r26 M26 q26 => ?_)
        obtain ⟨e26, ⟨rfl, i26⟩ | ⟨j26, b26, x26, rfl⟩⟩ := q26
        · rw [e26]
          show Ez G mX11_way d 29 [(3, eR 1 j2), (0, eR 11 0), (1, eI (nI j2)), (2, eI y)] [eI (nI 0)] M _
          refine ez_nif_ne 32 35 dX11_way_29 rfl (by decide) (by omega) (fun h29 => ?_) (fun h29 => ?_)
          · exact absurd h29 (by decide)
          · refine ez_bipush 34 dX11_way_32 rfl (-2) (by decide) ?_
            refine ez_iret .int dX11_way_34 rfl rfl ?_
            exact ⟨by simp [S_way, i2, i15, i26], hC, FX.rf⟩
        · rw [e26]
          have i26 : ep_ix (y - y / (nI 10) * (nI 10)) (q.1.2.1 j2) = some j26 := by rw [x26]; exact ep_ix_nI b26 (by have := (hW.1.2 j2 (by omega)).2.1; omega)
          show Ez G mX11_way d 29 [(3, eR 1 j2), (0, eR 11 0), (1, eI (nI j2)), (2, eI y)] [eI (nI 1)] M _
          refine ez_nif_ne 32 35 dX11_way_29 rfl (by decide) (by omega) (fun h29 => ?_) (fun h29 => ?_)
          · refine ez_aload_n 36 dX11_way_35 rfl rfl ?_
            refine ez_getf 39 (eR 6 0) dX11_way_36 rfl fl_X11_76 (by show 0 < 1; omega) rfl ?_
            refine ez_aload_n 40 dX11_way_39 rfl rfl ?_
            refine ez_iload_n 41 dX11_way_40 rfl rfl ?_
            refine ez_bipush 43 dX11_way_41 rfl (nI 10) (by decide) ?_
            refine ez_idiv 44 dX11_way_43 rfl (by decide) ?_
            refine ez_top (nI j15) x15 ?_
            refine ez_callV 47 [eR 1 j2, eI (nI j15)] [] dX11_way_44 rfl rfl ok_X6_from in_X6_from (by decide) (by show 0 < 1; omega) ln_X11_258 (by omega) (Nat.le_of_ble_eq_true rfl) (c_X6_from G (d - 1) (r := j15) j2 M (by omega) (by omega) (g_WFz hW.1 b2) b15 (g_RCz hC.1 b2)) (fun r44 M44 q44 => ?_)
            obtain ⟨rfl, S44, f44⟩ := q44
            show Ez G mX11_way d 47 [(3, eR 1 j2), (0, eR 11 0), (1, eI (nI j2)), (2, eI y)] [eI (nI ((bf_h (w_sf (q.1.2.2.1 j2)) (bf_0 (1024 * j15 + 0)) er_N).1.1))] M44 _
            refine ez_pop 48 dX11_way_47 rfl rfl ?_
            refine ez_aload_n 49 dX11_way_48 rfl rfl ?_
            refine ez_getf 52 (eR 6 0) dX11_way_49 rfl fl_X11_76 (by show 0 < 1; omega) rfl ?_
            refine ez_getf 55 (eR 28 0) dX11_way_52 rfl fl_X11_261 (by show 0 < 1; omega) rfl ?_
            have n10 := (hW.1.2 j2 b2).2.1
            refine ez_iload_n 56 dX11_way_55 rfl rfl ?_
            refine ez_bipush 58 dX11_way_56 rfl (nI 10) (by decide) ?_
            refine ez_irem 59 dX11_way_58 rfl (by decide) ?_
            refine ez_top (nI j26) x26 ?_
            refine ez_callS 62 [eR 28 0, eI (nI j26)] [] dX11_way_59 rfl rfl ok_X11_itemAt st_X11_itemAt ln_X11_159 (by omega) (Nat.le_of_ble_eq_true rfl) (c_itemAt_n G (d - 1) 28 0 j26 M44 (by decide) (by show 0 < 1; omega) (by show j26 < 10; omega)) (fun r59 M59 q59 => ?_)
            obtain ⟨rfl, e59⟩ := q59
            rw [e59]
            show Ez G mX11_way d 62 [(3, eR 1 j2), (0, eR 11 0), (1, eI (nI j2)), (2, eI y)] [eI (M44.1 28 0 j26)] M44 _
            refine ez_iret .int dX11_way_62 rfl rfl ?_
            exact ⟨by simp only [S_way, i2, i15, i26]; rw [RS_gv (g_WFz hW.1 b2) b15 (by have := (hW.1.2 j2 b2).2.1; omega) S44], RC.sc hW hC f44.sfsc, f44.sfsc.scc⟩
          · exact absurd h29 (by decide)
theorem way_bad {q : EpS} {x y : Int32} (h : ep_ix x q.1.1 = none ∨ (∀ m, ep_ix x q.1.1 = some m → ep_ix (y / nI 10) (q.1.2.1 m) = none) ∨ ∀ m, ep_ix x q.1.1 = some m → ep_ix (y / nI 10) (q.1.2.1 m) = none ∨ ep_ix (y - y / nI 10 * nI 10) (q.1.2.1 m) = none) : S_way q x y = -2 := by
  unfold S_way
  cases h1 : ep_ix x q.1.1 with
  | none => rfl
  | some m =>
    simp only []
    cases h2 : ep_ix (y / nI 10) (q.1.2.1 m) with
    | none => rfl
    | some r =>
      simp only []
      cases h3 : ep_ix (y - y / nI 10 * nI 10) (q.1.2.1 m) with
      | none => rfl
      | some gl =>
        rcases h with h | h | h
        · rw [h1] at h; cases h
        · rw [h m h1] at h2; cases h2
        · rcases h m h1 with h | h
          · rw [h2] at h; cases h
          · rw [h3] at h; cases h
set_option maxRecDepth 20000 in
theorem c_X12_way (g : EzH) (d : Nat) {q : EpS} (x y : Int32) (M : EzM) (hd : 3 ≤ d) (hW : WF q) (hC : RM q M) : Ezc (true, g) mX12_way d [eR 12 0, eI x, eI y] M (fun r M' => r = some (eI (S_way q x y)) ∧ RM q M' ∧ FX CM M M') := by
  refine Ezc.of (by decide +kernel) (Nat.le_of_ble_eq_true rfl) ?_
  have q8 := hW.2.1.1
  have q4 := hW.1.1
  have qx := hW.2.2.2.2.1
  show Ez (true, g) mX12_way d 0 [(0, eR 12 0), (1, eI x), (2, eI y)] [] M _
  refine ez_iload_n 1 dX12_way_0 rfl rfl ?_
  refine ez_if_lt 4 45 dX12_way_1 rfl (by decide) (fun h1 => ?_) (fun h1 => ?_)
  · refine ez_bipush 47 dX12_way_45 rfl (-2) (by decide) ?_
    refine ez_iret .int dX12_way_47 rfl rfl ?_
    exact ⟨by rw [way_bad (Or.inr (Or.inr (fun m hm => er_neg10 (mc := q.1.2.1 m) (n := q.1.2.1 m) h1 (by have := ep_ix_in hm; have := (hW.1.2 m this).2.1; omega) (by have := ep_ix_in hm; have := (hW.1.2 m this).2.1; omega))))], hC, FX.rf⟩
  · refine ez_aload_n 5 dX12_way_4 rfl rfl ?_
    refine ez_iload_n 6 dX12_way_5 rfl rfl ?_
    refine ez_iload_n 7 dX12_way_6 rfl rfl ?_
    refine ez_bipush 9 dX12_way_7 rfl (nI 10) (by decide) ?_
    refine ez_idiv 10 dX12_way_9 rfl (by decide) ?_
    refine ez_callV 13 [eI x, eI (y / (nI 10))] [] dX12_way_10 rfl rfl ok_X12_isRoom in_X12_isRoom (by decide) (by show 0 < 1; omega) ln_X12_165 (by omega) (Nat.le_of_ble_eq_true rfl) (c_X12_isRoom g (d - 1) x (y / (nI 10)) M (by omega) hW hC) (fun r10 M10 q10 => ?_)
    obtain ⟨e10, ⟨rfl, i10⟩ | ⟨a10, b10, p10, s10, rfl, y10, rfl⟩⟩ := q10
    · rw [e10]
      show Ez (true, g) mX12_way d 13 [(0, eR 12 0), (1, eI x), (2, eI y)] [eI (nI 0)] M _
      refine ez_nif_eq 16 45 dX12_way_13 rfl (by decide) (by omega) (fun h13 => ?_) (fun h13 => ?_)
      · refine ez_bipush 47 dX12_way_45 rfl (-2) (by decide) ?_
        refine ez_iret .int dX12_way_47 rfl rfl ?_
        exact ⟨by rw [way_bad (i10.elim Or.inl (fun z => Or.inr (Or.inl z)))], hC, FX.rf⟩
      · exact absurd h13 (by decide)
    · rw [e10]
      have t10 := (hW.1.2 a10 p10).2.1
      have u10 : ep_ix (nI a10) q.1.1 = some a10 := by exact ep_ix_nI p10 (by omega)
      have v10 : ep_ix (y / (nI 10)) (q.1.2.1 a10) = some b10 := by rw [y10]; exact ep_ix_nI s10 (by omega)
      show Ez (true, g) mX12_way d 13 [(0, eR 12 0), (1, eI (nI a10)), (2, eI y)] [eI (nI 1)] M _
      refine ez_nif_eq 16 45 dX12_way_13 rfl (by decide) (by omega) (fun h13 => ?_) (fun h13 => ?_)
      · exact absurd h13 (by decide)
      · refine ez_aload_n 17 dX12_way_16 rfl rfl ?_
        refine ez_iload_n 18 dX12_way_17 rfl rfl ?_
        refine ez_iload_n 19 dX12_way_18 rfl rfl ?_
        refine ez_bipush 21 dX12_way_19 rfl (nI 10) (by decide) ?_
        refine ez_irem 22 dX12_way_21 rfl (by decide) ?_
        refine ez_callV 25 [eI (nI a10), eI (y - y / (nI 10) * (nI 10))] [] dX12_way_22 rfl rfl ok_X12_isRoom in_X12_isRoom (by decide) (by show 0 < 1; omega) ln_X12_165 (by omega) (Nat.le_of_ble_eq_true rfl) (c_X12_isRoom g (d - 1) (nI a10) (y - y / (nI 10) * (nI 10)) M (by omega) hW hC) (fun r22 M22 q22 => ?_)
        obtain ⟨e22, ⟨rfl, i22⟩ | ⟨a22, b22, p22, s22, x22, y22, rfl⟩⟩ := q22
        · rw [e22]
          show Ez (true, g) mX12_way d 25 [(0, eR 12 0), (1, eI (nI a10)), (2, eI y)] [eI (nI 0)] M _
          refine ez_nif_eq 28 45 dX12_way_25 rfl (by decide) (by omega) (fun h25 => ?_) (fun h25 => ?_)
          · refine ez_bipush 47 dX12_way_45 rfl (-2) (by decide) ?_
            refine ez_iret .int dX12_way_47 rfl rfl ?_
            exact ⟨by rw [way_bad (i22.elim Or.inl (fun z => Or.inr (Or.inr (fun m hm => Or.inr (z m hm)))))], hC, FX.rf⟩
          · exact absurd h25 (by decide)
        · rw [e22]
          have a9 : a10 = a22 := (nI_eq (by omega) (by omega)).mp x22
          subst a9
          have v22 : ep_ix (y - y / nI 10 * nI 10) (q.1.2.1 a10) = some b22 := by rw [y22]; exact ep_ix_nI s22 (by omega)
          show Ez (true, g) mX12_way d 25 [(0, eR 12 0), (1, eI (nI a10)), (2, eI y)] [eI (nI 1)] M _
          refine ez_nif_eq 28 45 dX12_way_25 rfl (by decide) (by omega) (fun h25 => ?_) (fun h25 => ?_)
          · exact absurd h25 (by decide)
          · refine ez_aload_n 29 dX12_way_28 rfl rfl ?_
            refine ez_iload_n 30 dX12_way_29 rfl rfl ?_
            refine ez_iload_n 31 dX12_way_30 rfl rfl ?_
            refine ez_bipush 33 dX12_way_31 rfl (nI 10) (by decide) ?_
            refine ez_idiv 34 dX12_way_33 rfl (by decide) ?_
            refine ez_top (nI b10) y10 ?_
            refine ez_iload_n 35 dX12_way_34 rfl rfl ?_
            refine ez_bipush 37 dX12_way_35 rfl (nI 10) (by decide) ?_
            refine ez_irem 38 dX12_way_37 rfl (by decide) ?_
            refine ez_top (nI b22) y22 ?_
            refine ez_iconst 39 dX12_way_38 rfl (nI 0) (by decide) ?_
            refine ez_callV 42 [eI (nI a10), eI (nI b10), eI (nI b22), eI (nI 0)] [] dX12_way_39 rfl rfl ok_X12_goes in_X12_goes (by decide) (by show 0 < 1; omega) ln_X12_380 (by omega) (Nat.le_of_ble_eq_true rfl) (c_goes_0 g (d - 1) (n := q.1.2.1 a10) (r := b10) (lt := q.1.2.2.1 a10) a10 b22 M (by omega) (by omega) (g_WFz hW.1 p10) s10 (g_RMz hC.1 p10) (by omega)) (fun r39 M39 q39 => ?_)
            obtain ⟨rfl, f39⟩ := q39
            show Ez (true, g) mX12_way d 42 [(0, eR 12 0), (1, eI (nI a10)), (2, eI y)] [eI (g_v (w_sf (q.1.2.2.1 a10)) (1024 * b10 + 0) (fun e => decide (e.1 / 1024 = b22)))] M39 _
            refine ez_goto 47 dX12_way_42 (by decide) ?_
            refine ez_iret .int dX12_way_47 rfl rfl ?_
            exact ⟨by simp only [S_way, u10, v10, v22], hC.sm f39.gfsm, f39.gfsm.smm⟩
noncomputable def s_fr (lt : Nat → Int32) (n : Nat) : Nat → Int32
  | 0 => nI 0
  | r + 1 => if (bf_h (w_sf lt) (bf_0 (1024 * r + 0)) er_N).1.1 = n then s_fr lt n r ||| (nI 1 <<< (nI r &&& 31)) else s_fr lt n r
noncomputable def S_free (q : EpS) (x : Int32) : Int32 := match ep_ix x q.1.1 with
  | none => -2
  | some m => s_fr (q.1.2.2.1 m) (q.1.2.1 m) (q.1.2.1 m)
theorem w_fin {n r : Nat} {lt : Nat → Int32} (hwf : WFz n lt) (hr : r < n) : Bap (bf_h (w_sf lt) (bf_0 (1024 * r + 0)) er_N).1 ∧ ∀ i, i < (bf_h (w_sf lt) (bf_0 (1024 * r + 0)) er_N).1.1 → w_I n ((bf_h (w_sf lt) (bf_0 (1024 * r + 0)) er_N).1.2 i) := by
  have n10 := hwf.2.1
  refine ⟨bf_h_ap _ (bf_0_ap _) _, bf_h_inv (fun i _ => ?_) (w_sf_I hwf) er_N⟩
  show (1024 * r + 0) / 1024 < n ∧ (1024 * r + 0) % 1024 = 0
  omega
theorem g_v_ne {n r gl : Nat} {lt : Nat → Int32} (hwf : WFz n lt) (hr : r < n) : g_v (w_sf lt) (1024 * r + 0) (fun e => decide (e.1 / 1024 = gl)) = -1 ↔ ¬ ∃ i, i < (bf_h (w_sf lt) (bf_0 (1024 * r + 0)) er_N).1.1 ∧ ((bf_h (w_sf lt) (bf_0 (1024 * r + 0)) er_N).1.2 i).1 / 1024 = gl := by
  have n10 := hwf.2.1
  obtain ⟨A9, I9⟩ := w_fin hwf hr
  have L9 := w_le A9 I9
  have F9 := bf_h_far (w_sf_far lt) (bf_0_far (1024 * r + 0)) er_N
  unfold g_v
  cases e : er_fst (fun i => decide (((bf_h (w_sf lt) (bf_0 (1024 * r + 0)) er_N).1.2 i).1 / 1024 = gl)) (bf_h (w_sf lt) (bf_0 (1024 * r + 0)) er_N).1.1 with
  | some i =>
    obtain ⟨h1, h2, -⟩ := er_fst_in e
    have h4 := F9 i h1
    exact ⟨fun z => absurd z (ep_m1 (by omega)), fun z => absurd ⟨i, h1, of_decide_eq_true h2⟩ z⟩
  | none =>
    refine ⟨fun _ ⟨i, hi, he⟩ => ?_, fun _ => rfl⟩
    obtain ⟨j, hj⟩ := er_fst_ex (p := fun i => decide (((bf_h (w_sf lt) (bf_0 (1024 * r + 0)) er_N).1.2 i).1 / 1024 = gl)) (j := i) (decide_eq_true he) hi
    rw [e] at hj
    cases hj
set_option maxRecDepth 20000 in
theorem lp_free (G : EzG) (d : Nat) {q : EpS} (j : Nat) (M : EzM) (hd : 3 ≤ d) (hW : WF q) (hC : RC q M) (hj : j < q.1.1) : ∀ (z : Nat) (t : Nat) (v : Int32) (M1 : EzM), q.1.2.1 j - t = z → t ≤ q.1.2.1 j → v = s_fr (q.1.2.2.1 j) (q.1.2.1 j) t → FX SF M M1 → Ez G mX11_free d 18 [(4, eI (nI t)), (3, eI v), (0, eR 11 0), (2, eR 1 j)] [] M1 (fun r M' => r = some (eI (s_fr (q.1.2.2.1 j) (q.1.2.1 j) (q.1.2.1 j))) ∧ RC q M' ∧ FX CC M M') := by
  intro z
  induction z using Nat.strongRecOn with
  | ind z ih =>
    intro t v M1 hz ht hv hF
    have q8 := hW.2.1.1
    have q4 := hW.1.1
    have qx := hW.2.2.2.2.1
    have hwf := g_WFz hW.1 hj
    have gZ := g_RCz hC.1 hj
    have n10 := hwf.2.1
    have l9 : t < q.1.2.1 j → (bf_h (w_sf (q.1.2.2.1 j)) (bf_0 (1024 * t + 0)) er_N).1.1 ≤ q.1.2.1 j := fun z => w_le (w_fin hwf z).1 (w_fin hwf z).2
    refine ez_iload 20 dX11_free_18 rfl rfl ?_
    refine ez_aload_n 21 dX11_free_20 rfl rfl ?_
    refine ez_getf 24 (eI (M1.1 1 j 0)) dX11_free_21 rfl fl_X11_145 (by show j < 4; omega) rfl ?_
    refine ez_top (nI (q.1.2.1 j)) ((gZ.fx hF ⟨by unfold SF; omega, fun x => by unfold SF; omega⟩).1) ?_
    refine ez_ncmp_ge 27 57 dX11_free_24 rfl (by decide) (by omega) (by omega) (fun h24 => ?_) (fun h24 => ?_)
    · refine ez_iload_n 58 dX11_free_57 rfl rfl ?_
      refine ez_iret .int dX11_free_58 rfl rfl ?_
      have e9 : t = q.1.2.1 j := by omega
      exact ⟨by rw [hv, e9], RC.sc hW hC hF.sfsc, hF.sfsc.scc⟩
    · refine ez_aload_n 28 dX11_free_27 rfl rfl ?_
      refine ez_getf 31 (eR 6 0) dX11_free_28 rfl fl_X11_76 (by show 0 < 1; omega) rfl ?_
      refine ez_aload_n 32 dX11_free_31 rfl rfl ?_
      refine ez_iload 34 dX11_free_32 rfl rfl ?_
      refine ez_callV 37 [eR 1 j, eI (nI t)] [] dX11_free_34 rfl rfl ok_X6_from in_X6_from (by decide) (by show 0 < 1; omega) ln_X11_258 (by omega) (Nat.le_of_ble_eq_true rfl) (c_X6_from G (d - 1) (r := t) j M1 (by omega) (by omega) hwf (by omega) (gZ.fx hF ⟨by unfold SF; omega, fun x => by unfold SF; omega⟩)) (fun r34 M34 q34 => ?_)
      obtain ⟨rfl, S34, f34⟩ := q34
      show Ez G mX11_free d 37 [(4, eI (nI t)), (3, eI v), (0, eR 11 0), (2, eR 1 j)] [eI (nI ((bf_h (w_sf (q.1.2.2.1 j)) (bf_0 (1024 * t + 0)) er_N).1.1))] M34 _
      refine ez_aload_n 38 dX11_free_37 rfl rfl ?_
      refine ez_getf 41 (eI (M34.1 1 j 0)) dX11_free_38 rfl fl_X11_145 (by show j < 4; omega) rfl ?_
      refine ez_top (nI (q.1.2.1 j)) ((gZ.fx (hF.tr f34) ⟨by unfold SF; omega, fun x => by unfold SF; omega⟩).1) ?_
      refine ez_ncmp_ne 44 51 dX11_free_41 rfl (by decide) (by omega) (by omega) (fun h41 => ?_) (fun h41 => ?_)
      · refine ez_iinc 54 (nI (t + 1)) [(4, eI (nI (t + 1))), (3, eI v), (0, eR 11 0), (2, eR 1 j)] dX11_free_51 rfl rfl (nI_add t 1) (by decide) rfl ?_
        refine ez_goto 18 dX11_free_54 (by decide) ?_
        refine ez_drop [(4, eI (nI (t + 1))), (3, eI v), (0, eR 11 0), (2, eR 1 j)] (by simp) ?_
        exact ih (q.1.2.1 j - (t + 1)) (by omega) (t + 1) _ M34 rfl (by omega) (by show _ = if _ then _ else _; rw [if_neg h41, hv]) (hF.tr f34)
      · refine ez_iload_n 45 dX11_free_44 rfl rfl ?_
        refine ez_iconst 46 dX11_free_45 rfl (nI 1) (by decide) ?_
        refine ez_iload 48 dX11_free_46 rfl rfl ?_
        refine ez_ishl 49 dX11_free_48 rfl ?_
        refine ez_ior 50 dX11_free_49 rfl ?_
        refine ez_istore_n 51 [(3, eI (v ||| ((nI 1) <<< ((nI t) &&& 31)))), (4, eI (nI t)), (0, eR 11 0), (2, eR 1 j)] dX11_free_50 rfl (by decide) rfl ?_
        refine ez_iinc 54 (nI (t + 1)) [(4, eI (nI (t + 1))), (3, eI (v ||| ((nI 1) <<< ((nI t) &&& 31)))), (0, eR 11 0), (2, eR 1 j)] dX11_free_51 rfl rfl (nI_add t 1) (by decide) rfl ?_
        refine ez_goto 18 dX11_free_54 (by decide) ?_
        refine ez_drop [(4, eI (nI (t + 1))), (3, eI (v ||| ((nI 1) <<< ((nI t) &&& 31)))), (0, eR 11 0), (2, eR 1 j)] (by simp) ?_
        exact ih (q.1.2.1 j - (t + 1)) (by omega) (t + 1) _ M34 rfl (by omega) (by show _ = if _ then _ else _; rw [if_pos h41, hv]) (hF.tr f34)
set_option maxRecDepth 20000 in
theorem c_X11_free (G : EzG) (d : Nat) {q : EpS} (x : Int32) (M : EzM) (hd : 3 ≤ d) (hW : WF q) (hC : RC q M) : Ezc G mX11_free d [eR 11 0, eI x] M (fun r M' => r = some (eI (S_free q x)) ∧ RC q M' ∧ FX CC M M') := by
  refine Ezc.of (by decide +kernel) (Nat.le_of_ble_eq_true rfl) ?_
  have q8 := hW.2.1.1
  have q4 := hW.1.1
  have qx := hW.2.2.2.2.1
  show Ez G mX11_free d 0 [(0, eR 11 0), (1, eI x)] [] M _
  refine ez_aload_n 1 dX11_free_0 rfl rfl ?_
  refine ez_iload_n 2 dX11_free_1 rfl rfl ?_
  refine ez_callV 5 [eI x] [] dX11_free_2 rfl rfl ok_X11_mazeAt in_X11_mazeAt (by decide) (by show 0 < 1; omega) ln_X11_141 (by omega) (Nat.le_of_ble_eq_true rfl) (c_X11_mazeAt G (d - 1) x q.1.1 M (by omega) hC.1.1 (by omega)) (fun r2 M2 q2 => ?_)
  obtain ⟨e2, ⟨rfl, i2⟩ | ⟨j2, b2, rfl, rfl⟩⟩ := q2
  · rw [e2]
    show Ez G mX11_free d 5 [(0, eR 11 0), (1, eI x)] [eN] M _
    refine ez_astore_n 6 [(2, eN), (0, eR 11 0), (1, eI x)] dX11_free_5 rfl (by decide) rfl ?_
    refine ez_aload_n 7 dX11_free_6 rfl rfl ?_
    refine ez_ifnonnull_n 10 dX11_free_7 rfl ?_
    refine ez_bipush 12 dX11_free_10 rfl (-2) (by decide) ?_
    refine ez_iret .int dX11_free_12 rfl rfl ?_
    exact ⟨by simp [S_free, i2], hC, FX.rf⟩
  · rw [e2]
    have i2 : ep_ix (nI j2) q.1.1 = some j2 := ep_ix_nI b2 (by omega)
    show Ez G mX11_free d 5 [(0, eR 11 0), (1, eI (nI j2))] [eR 1 j2] M _
    refine ez_astore_n 6 [(2, eR 1 j2), (0, eR 11 0), (1, eI (nI j2))] dX11_free_5 rfl (by decide) rfl ?_
    refine ez_aload_n 7 dX11_free_6 rfl rfl ?_
    refine ez_ifnonnull_r 13 dX11_free_7 (by decide) ?_
    refine ez_iconst 14 dX11_free_13 rfl (nI 0) (by decide) ?_
    refine ez_istore_n 15 [(3, eI (nI 0)), (2, eR 1 j2), (0, eR 11 0), (1, eI (nI j2))] dX11_free_14 rfl (by decide) rfl ?_
    refine ez_iconst 16 dX11_free_15 rfl (nI 0) (by decide) ?_
    refine ez_istore 18 [(4, eI (nI 0)), (3, eI (nI 0)), (2, eR 1 j2), (0, eR 11 0), (1, eI (nI j2))] dX11_free_16 rfl (by decide) rfl ?_
    refine ez_drop [(4, eI (nI 0)), (3, eI (nI 0)), (0, eR 11 0), (2, eR 1 j2)] (by simp) ?_
    refine ez_wk ?_ (lp_free G d j2 M hd hW hC b2 _ 0 (nI 0) M rfl (by omega) rfl FX.rf)
    exact fun r M' z9 => ⟨by rw [z9.1]; simp only [S_free, i2], z9.2⟩
set_option maxRecDepth 20000 in
theorem lp_mfree31 (g : EzH) (d : Nat) {q : EpS} (j t : Nat) (v : Int32) (P : Option EzV → EzM → Prop) (M : EzM) (hd : 3 ≤ d) (hW : WF q) (hC : RM q M) (hj : j < q.1.1) (htn : t < q.1.2.1 j) (K : ∀ b M2, b < 2 → ((b = 1 ∧ ∀ x, x < q.1.2.1 j → ∃ i, i < (bf_h (w_sf (q.1.2.2.1 j)) (bf_0 (1024 * t + 0)) er_N).1.1 ∧ ((bf_h (w_sf (q.1.2.2.1 j)) (bf_0 (1024 * t + 0)) er_N).1.2 i).1 / 1024 = x) ∨ (b = 0 ∧ ∃ x, x < q.1.2.1 j ∧ ¬ ∃ i, i < (bf_h (w_sf (q.1.2.2.1 j)) (bf_0 (1024 * t + 0)) er_N).1.1 ∧ ((bf_h (w_sf (q.1.2.2.1 j)) (bf_0 (1024 * t + 0)) er_N).1.2 i).1 / 1024 = x)) → FX GF M M2 → Ez (true, g) mX12_free d 73 [(4, eI (nI b)), (3, eI (nI t)), (2, eI v), (0, eR 12 0), (1, eI (nI j))] [] M2 P) : ∀ (z : Nat) (c : Nat) (b : Nat) (M1 : EzM), q.1.2.1 j - c = z → c ≤ q.1.2.1 j → b < 2 → (b = 1 ∧ ∀ x, x < c → ∃ i, i < (bf_h (w_sf (q.1.2.2.1 j)) (bf_0 (1024 * t + 0)) er_N).1.1 ∧ ((bf_h (w_sf (q.1.2.2.1 j)) (bf_0 (1024 * t + 0)) er_N).1.2 i).1 / 1024 = x) ∨ (b = 0 ∧ ∃ x, x < q.1.2.1 j ∧ ¬ ∃ i, i < (bf_h (w_sf (q.1.2.2.1 j)) (bf_0 (1024 * t + 0)) er_N).1.1 ∧ ((bf_h (w_sf (q.1.2.2.1 j)) (bf_0 (1024 * t + 0)) er_N).1.2 i).1 / 1024 = x) → FX GF M M1 → Ez (true, g) mX12_free d 31 [(5, eI (nI c)), (4, eI (nI b)), (3, eI (nI t)), (2, eI v), (0, eR 12 0), (1, eI (nI j))] [] M1 (P) := by
  intro z
  induction z using Nat.strongRecOn with
  | ind z ih =>
    intro c b M1 hz hc hb2 hb hF
    have q8 := hW.2.1.1
    have q4 := hW.1.1
    have qx := hW.2.2.2.2.1
    have hwf := g_WFz hW.1 hj
    have gZ := g_RMz hC.1 hj
    have n10 := hwf.2.1
    refine ez_iload 33 dX12_free_31 rfl rfl ?_
    refine ez_aload_n 34 dX12_free_33 rfl rfl ?_
    refine ez_getf 37 (eR 46 0) dX12_free_34 rfl fl_X12_26 (by show 0 < 1; omega) rfl ?_
    refine ez_iload_n 38 dX12_free_37 rfl rfl ?_
    refine ez_ialdN j 39 dX12_free_38 rfl (by decide) (by show 0 < 1; omega) (by show j < 4; omega) ?_
    refine ez_top (nI (q.1.2.1 j)) ((gZ.fx hF ⟨by unfold GF; omega, fun x => by unfold GF; omega⟩).1) ?_
    refine ez_ncmp_ge 42 73 dX12_free_39 rfl (by decide) (by omega) (by omega) (fun h39 => ?_) (fun h39 => ?_)
    · refine ez_drop [(4, eI (nI b)), (3, eI (nI t)), (2, eI v), (0, eR 12 0), (1, eI (nI j))] (by simp) ?_
      exact K b M1 hb2 (hb.imp (fun z => ⟨z.1, fun x hx => z.2 x (by omega)⟩) id) hF
    · refine ez_iload 44 dX12_free_42 rfl rfl ?_
      refine ez_nif_eq 47 64 dX12_free_44 rfl (by decide) (by omega) (fun h44 => ?_) (fun h44 => ?_)
      · refine ez_iconst 65 dX12_free_64 rfl (nI 0) (by decide) ?_
        refine ez_istore 67 [(4, eI (nI 0)), (5, eI (nI c)), (3, eI (nI t)), (2, eI v), (0, eR 12 0), (1, eI (nI j))] dX12_free_65 rfl (by decide) rfl ?_
        refine ez_iinc 70 (nI (c + 1)) [(5, eI (nI (c + 1))), (4, eI (nI 0)), (3, eI (nI t)), (2, eI v), (0, eR 12 0), (1, eI (nI j))] dX12_free_67 rfl rfl (nI_add c 1) (by decide) rfl ?_
        refine ez_goto 31 dX12_free_70 (by decide) ?_
        refine ez_drop [(5, eI (nI (c + 1))), (4, eI (nI 0)), (3, eI (nI t)), (2, eI v), (0, eR 12 0), (1, eI (nI j))] (by simp) ?_
        exact ih (q.1.2.1 j - (c + 1)) (by omega) (c + 1) 0 M1 rfl (by omega) (by omega) (hb.elim (fun z => by omega) (fun z => Or.inr ⟨rfl, z.2⟩)) hF
      · refine ez_aload_n 48 dX12_free_47 rfl rfl ?_
        refine ez_iload_n 49 dX12_free_48 rfl rfl ?_
        refine ez_iload_n 50 dX12_free_49 rfl rfl ?_
        refine ez_iload 52 dX12_free_50 rfl rfl ?_
        refine ez_iconst 53 dX12_free_52 rfl (nI 0) (by decide) ?_
        refine ez_callV 56 [eI (nI j), eI (nI t), eI (nI c), eI (nI 0)] [] dX12_free_53 rfl rfl ok_X12_goes in_X12_goes (by decide) (by show 0 < 1; omega) ln_X12_380 (by omega) (Nat.le_of_ble_eq_true rfl) (c_goes_0 g (d - 1) (n := q.1.2.1 j) (r := t) (lt := q.1.2.2.1 j) j c M1 (by omega) (by omega) hwf htn (gZ.fx hF ⟨by unfold GF; omega, fun x => by unfold GF; omega⟩) (by omega)) (fun r53 M53 q53 => ?_)
        obtain ⟨rfl, f53⟩ := q53
        show Ez (true, g) mX12_free d 56 [(5, eI (nI c)), (4, eI (nI b)), (3, eI (nI t)), (2, eI v), (0, eR 12 0), (1, eI (nI j))] [eI (g_v (w_sf (q.1.2.2.1 j)) (1024 * t + 0) (fun e => decide (e.1 / 1024 = c)))] M53 _
        refine ez_iconst 57 dX12_free_56 rfl (-1) (by decide) ?_
        refine ez_icmp_eq 60 64 dX12_free_57 rfl (by decide) (fun h57 => ?_) (fun h57 => ?_)
        · refine ez_iconst 65 dX12_free_64 rfl (nI 0) (by decide) ?_
          refine ez_istore 67 [(4, eI (nI 0)), (5, eI (nI c)), (3, eI (nI t)), (2, eI v), (0, eR 12 0), (1, eI (nI j))] dX12_free_65 rfl (by decide) rfl ?_
          refine ez_iinc 70 (nI (c + 1)) [(5, eI (nI (c + 1))), (4, eI (nI 0)), (3, eI (nI t)), (2, eI v), (0, eR 12 0), (1, eI (nI j))] dX12_free_67 rfl rfl (nI_add c 1) (by decide) rfl ?_
          refine ez_goto 31 dX12_free_70 (by decide) ?_
          refine ez_drop [(5, eI (nI (c + 1))), (4, eI (nI 0)), (3, eI (nI t)), (2, eI v), (0, eR 12 0), (1, eI (nI j))] (by simp) ?_
          exact ih (q.1.2.1 j - (c + 1)) (by omega) (c + 1) 0 M53 rfl (by omega) (by omega) (Or.inr ⟨rfl, c, by omega, (g_v_ne hwf htn).mp h57⟩) (hF.tr f53)
        · refine ez_iconst 61 dX12_free_60 rfl (nI 1) (by decide) ?_
          refine ez_goto 65 dX12_free_61 (by decide) ?_
          refine ez_istore 67 [(4, eI (nI 1)), (5, eI (nI c)), (3, eI (nI t)), (2, eI v), (0, eR 12 0), (1, eI (nI j))] dX12_free_65 rfl (by decide) rfl ?_
          refine ez_iinc 70 (nI (c + 1)) [(5, eI (nI (c + 1))), (4, eI (nI 1)), (3, eI (nI t)), (2, eI v), (0, eR 12 0), (1, eI (nI j))] dX12_free_67 rfl rfl (nI_add c 1) (by decide) rfl ?_
          refine ez_goto 31 dX12_free_70 (by decide) ?_
          refine ez_drop [(5, eI (nI (c + 1))), (4, eI (nI 1)), (3, eI (nI t)), (2, eI v), (0, eR 12 0), (1, eI (nI j))] (by simp) ?_
          exact ih (q.1.2.1 j - (c + 1)) (by omega) (c + 1) 1 M53 rfl (by omega) (by omega) (hb.elim (fun z => Or.inl ⟨rfl, fun x hx => by
            by_cases e : x = c
            · rw [e]; exact Classical.byContradiction (fun z9 => h57 ((g_v_ne hwf htn).mpr z9))
            · exact z.2 x (by omega)⟩) (fun z => by omega)) (hF.tr f53)
set_option maxRecDepth 20000 in
theorem mfree_73 (g : EzH) (d : Nat) {q : EpS} (j t b : Nat) (v : Int32) (P : Option EzV → EzM → Prop) (M1 : EzM) (hb : b < 2) (ht : t < 10) (K : Ez (true, g) mX12_free d 15 [(3, eI (nI (t + 1))), (2, eI (if b = 1 then v ||| (nI 1 <<< (nI t &&& 31)) else v)), (0, eR 12 0), (1, eI (nI j))] [] M1 P) : Ez (true, g) mX12_free d 73 [(4, eI (nI b)), (3, eI (nI t)), (2, eI v), (0, eR 12 0), (1, eI (nI j))] [] M1 (P) := by
  refine ez_iload_n 74 dX12_free_73 rfl rfl ?_
  refine ez_iload 76 dX12_free_74 rfl rfl ?_
  refine ez_nif_eq 79 85 dX12_free_76 rfl (by decide) (by omega) (fun h76 => ?_) (fun h76 => ?_)
  · refine ez_iconst 86 dX12_free_85 rfl (nI 0) (by decide) ?_
    refine ez_ior 87 dX12_free_86 rfl ?_
    refine ez_top (if b = 1 then v ||| (nI 1 <<< (nI t &&& 31)) else v) (by rw [if_neg (show ¬ b = 1 by omega)]; exact Int32.or_zero) ?_
    refine ez_istore_n 88 [(2, eI (if b = 1 then v ||| (nI 1 <<< (nI t &&& 31)) else v)), (4, eI (nI b)), (3, eI (nI t)), (0, eR 12 0), (1, eI (nI j))] dX12_free_87 rfl (by decide) rfl ?_
    refine ez_iinc 91 (nI (t + 1)) [(3, eI (nI (t + 1))), (2, eI (if b = 1 then v ||| (nI 1 <<< (nI t &&& 31)) else v)), (4, eI (nI b)), (0, eR 12 0), (1, eI (nI j))] dX12_free_88 rfl rfl (nI_add t 1) (by decide) rfl ?_
    refine ez_goto 15 dX12_free_91 (by decide) ?_
    refine ez_drop [(3, eI (nI (t + 1))), (2, eI (if b = 1 then v ||| (nI 1 <<< (nI t &&& 31)) else v)), (0, eR 12 0), (1, eI (nI j))] (by simp) ?_
    exact K
  · refine ez_iconst 80 dX12_free_79 rfl (nI 1) (by decide) ?_
    refine ez_iload_n 81 dX12_free_80 rfl rfl ?_
    refine ez_ishl 82 dX12_free_81 rfl ?_
    refine ez_goto 86 dX12_free_82 (by decide) ?_
    refine ez_ior 87 dX12_free_86 rfl ?_
    refine ez_top (if b = 1 then v ||| (nI 1 <<< (nI t &&& 31)) else v) (by rw [if_pos (show b = 1 by omega)]) ?_
    refine ez_istore_n 88 [(2, eI (if b = 1 then v ||| (nI 1 <<< (nI t &&& 31)) else v)), (4, eI (nI b)), (3, eI (nI t)), (0, eR 12 0), (1, eI (nI j))] dX12_free_87 rfl (by decide) rfl ?_
    refine ez_iinc 91 (nI (t + 1)) [(3, eI (nI (t + 1))), (2, eI (if b = 1 then v ||| (nI 1 <<< (nI t &&& 31)) else v)), (4, eI (nI b)), (0, eR 12 0), (1, eI (nI j))] dX12_free_88 rfl rfl (nI_add t 1) (by decide) rfl ?_
    refine ez_goto 15 dX12_free_91 (by decide) ?_
    refine ez_drop [(3, eI (nI (t + 1))), (2, eI (if b = 1 then v ||| (nI 1 <<< (nI t &&& 31)) else v)), (0, eR 12 0), (1, eI (nI j))] (by simp) ?_
    exact K
set_option maxRecDepth 20000 in
theorem lp_mfree15 (g : EzH) (d : Nat) {q : EpS} (j : Nat) (M : EzM) (hd : 3 ≤ d) (hW : WF q) (hC : RM q M) (hj : j < q.1.1) : ∀ (z : Nat) (t : Nat) (v : Int32) (M1 : EzM), q.1.2.1 j - t = z → t ≤ q.1.2.1 j → v = s_fr (q.1.2.2.1 j) (q.1.2.1 j) t → FX GF M M1 → Ez (true, g) mX12_free d 15 [(3, eI (nI t)), (2, eI v), (0, eR 12 0), (1, eI (nI j))] [] M1 (fun r M' => r = some (eI (s_fr (q.1.2.2.1 j) (q.1.2.1 j) (q.1.2.1 j))) ∧ RM q M' ∧ FX CM M M') := by
  intro z
  induction z using Nat.strongRecOn with
  | ind z ih =>
    intro t v M1 hz ht hv hF
    have q8 := hW.2.1.1
    have q4 := hW.1.1
    have qx := hW.2.2.2.2.1
    have hwf := g_WFz hW.1 hj
    have gZ := g_RMz hC.1 hj
    have n10 := hwf.2.1
    refine ez_iload_n 16 dX12_free_15 rfl rfl ?_
    refine ez_aload_n 17 dX12_free_16 rfl rfl ?_
    refine ez_getf 20 (eR 46 0) dX12_free_17 rfl fl_X12_26 (by show 0 < 1; omega) rfl ?_
    refine ez_iload_n 21 dX12_free_20 rfl rfl ?_
    refine ez_ialdN j 22 dX12_free_21 rfl (by decide) (by show 0 < 1; omega) (by show j < 4; omega) ?_
    refine ez_top (nI (q.1.2.1 j)) ((gZ.fx hF ⟨by unfold GF; omega, fun x => by unfold GF; omega⟩).1) ?_
    refine ez_ncmp_ge 25 94 dX12_free_22 rfl (by decide) (by omega) (by omega) (fun h22 => ?_) (fun h22 => ?_)
    · refine ez_iload_n 95 dX12_free_94 rfl rfl ?_
      refine ez_iret .int dX12_free_95 rfl rfl ?_
      have e9 : t = q.1.2.1 j := by omega
      exact ⟨by rw [hv, e9], hC.sm hF.gfsm, hF.gfsm.smm⟩
    · refine ez_iconst 26 dX12_free_25 rfl (nI 1) (by decide) ?_
      refine ez_istore 28 [(4, eI (nI 1)), (3, eI (nI t)), (2, eI v), (0, eR 12 0), (1, eI (nI j))] dX12_free_26 rfl (by decide) rfl ?_
      refine ez_iconst 29 dX12_free_28 rfl (nI 0) (by decide) ?_
      refine ez_istore 31 [(5, eI (nI 0)), (4, eI (nI 1)), (3, eI (nI t)), (2, eI v), (0, eR 12 0), (1, eI (nI j))] dX12_free_29 rfl (by decide) rfl ?_
      refine ez_drop [(5, eI (nI 0)), (4, eI (nI 1)), (3, eI (nI t)), (2, eI v), (0, eR 12 0), (1, eI (nI j))] (by simp) ?_
      refine lp_mfree31 g d j t v _ M hd hW hC hj (by omega) (fun b M2 b2 c2 f2 => ?_) _ 0 1 M1 rfl (by omega) (by omega) (Or.inl ⟨rfl, fun x hx => by omega⟩) hF
      refine mfree_73 g d (q := q) j t b v _ M2 b2 (by omega) ?_
      have w9 : q.1.2.1 j - (t + 1) < z := by omega
      have w8 : t + 1 ≤ q.1.2.1 j := by omega
      have w7 : b = 0 → ¬ b = 1 := fun z9 => by omega
      have k9 := w_all (w_fin hwf (show t < q.1.2.1 j from w8)).1 (w_fin hwf (show t < q.1.2.1 j from w8)).2
      refine ih (q.1.2.1 j - (t + 1)) w9 (t + 1) _ M2 rfl w8 ?_ f2
      show _ = if _ then _ else _
      rcases c2 with ⟨e2, z2⟩ | ⟨e2, x2, hx2, z2⟩
      · rw [if_pos e2, if_pos (k9.mpr z2), hv]
      · rw [if_neg (w7 e2), if_neg (fun z9 => z2 (k9.mp z9 x2 hx2)), hv]
set_option maxRecDepth 20000 in
theorem c_X12_free (g : EzH) (d : Nat) {q : EpS} (x : Int32) (M : EzM) (hd : 3 ≤ d) (hW : WF q) (hC : RM q M) : Ezc (true, g) mX12_free d [eR 12 0, eI x] M (fun r M' => r = some (eI (S_free q x)) ∧ RM q M' ∧ FX CM M M') := by
  refine Ezc.of (by decide +kernel) (Nat.le_of_ble_eq_true rfl) ?_
  have q8 := hW.2.1.1
  have q4 := hW.1.1
  have qx := hW.2.2.2.2.1
  show Ez (true, g) mX12_free d 0 [(0, eR 12 0), (1, eI x)] [] M _
  refine ez_aload_n 1 dX12_free_0 rfl rfl ?_
  refine ez_iload_n 2 dX12_free_1 rfl rfl ?_
  refine ez_callV 5 [eI x] [] dX12_free_2 rfl rfl ok_X12_isMaze in_X12_isMaze (by decide) (by show 0 < 1; omega) ln_X12_137 (by omega) (Nat.le_of_ble_eq_true rfl) (c_X12_isMaze g (d - 1) x q.1.1 M (by omega) hC.1.1 (by omega)) (fun r2 M2 q2 => ?_)
  obtain ⟨e2, ⟨rfl, i2⟩ | ⟨j2, b2, rfl, rfl⟩⟩ := q2
  · rw [e2]
    show Ez (true, g) mX12_free d 5 [(0, eR 12 0), (1, eI x)] [eI (nI 0)] M _
    refine ez_nif_ne 8 11 dX12_free_5 rfl (by decide) (by omega) (fun h5 => ?_) (fun h5 => ?_)
    · exact absurd h5 (by decide)
    · refine ez_bipush 10 dX12_free_8 rfl (-2) (by decide) ?_
      refine ez_iret .int dX12_free_10 rfl rfl ?_
      exact ⟨by simp [S_free, i2], hC, FX.rf⟩
  · rw [e2]
    have i2 : ep_ix (nI j2) q.1.1 = some j2 := ep_ix_nI b2 (by omega)
    show Ez (true, g) mX12_free d 5 [(0, eR 12 0), (1, eI (nI j2))] [eI (nI 1)] M _
    refine ez_nif_ne 8 11 dX12_free_5 rfl (by decide) (by omega) (fun h5 => ?_) (fun h5 => ?_)
    · refine ez_iconst 12 dX12_free_11 rfl (nI 0) (by decide) ?_
      refine ez_istore_n 13 [(2, eI (nI 0)), (0, eR 12 0), (1, eI (nI j2))] dX12_free_12 rfl (by decide) rfl ?_
      refine ez_iconst 14 dX12_free_13 rfl (nI 0) (by decide) ?_
      refine ez_istore_n 15 [(3, eI (nI 0)), (2, eI (nI 0)), (0, eR 12 0), (1, eI (nI j2))] dX12_free_14 rfl (by decide) rfl ?_
      refine ez_drop [(3, eI (nI 0)), (2, eI (nI 0)), (0, eR 12 0), (1, eI (nI j2))] (by simp) ?_
      refine ez_wk ?_ (lp_mfree15 g d j2 M hd hW hC b2 _ 0 (nI 0) M rfl (by omega) rfl FX.rf)
      exact fun r M' z9 => ⟨by rw [z9.1]; simp only [S_free, i2], z9.2⟩
    · exact absurd h5 (by decide)
