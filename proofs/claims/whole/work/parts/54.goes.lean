/-! ways: goes of the model; way, free, all -/
def w_sf (lt : Nat → Int32) : BfF := fun e c => if lt (4 * (e.1 / 1024) + c) = -1 then none else some (.inl (1024 * ((lt (4 * (e.1 / 1024) + c)).toNatClampNeg / 10) + 0, e.2.1 + 1, nI 0))
def a_sf (lt : Nat → Int32) : BfF := fun e c => if lt (4 * (e.1 / 1024) + c) = -1 then none else some (.inl (1024 * ((lt (4 * (e.1 / 1024) + c)).toNatClampNeg / 10) + (e.1 % 1024 ||| 2 ^ ((lt (4 * (e.1 / 1024) + c)).toNatClampNeg / 10)), e.2.1 + 1, nI 0))
theorem w_sf_skip {lt : Nat → Int32} {e : BfE} {c : Nat} (h : lt (4 * (e.1 / 1024) + c) = -1) : w_sf lt e c = none := by unfold w_sf; rw [if_pos h]
theorem a_sf_skip {lt : Nat → Int32} {e : BfE} {c : Nat} (h : lt (4 * (e.1 / 1024) + c) = -1) : a_sf lt e c = none := by unfold a_sf; rw [if_pos h]
theorem w_sf_new {lt : Nat → Int32} {e : BfE} {c x : Nat} (hx : x < 2 ^ 31) (h : lt (4 * (e.1 / 1024) + c) = nI x) : w_sf lt e c = some (.inl (1024 * (x / 10) + 0, e.2.1 + 1, nI 0)) := by
  unfold w_sf
  rw [h, if_neg (ep_m1 hx), nI_clamp hx]
theorem a_sf_new {lt : Nat → Int32} {e : BfE} {c x : Nat} (hx : x < 2 ^ 31) (h : lt (4 * (e.1 / 1024) + c) = nI x) : a_sf lt e c = some (.inl (1024 * (x / 10) + (e.1 % 1024 ||| 2 ^ (x / 10)), e.2.1 + 1, nI 0)) := by
  unfold a_sf
  rw [h, if_neg (ep_m1 hx), nI_clamp hx]
theorem w_sf_far (lt : Nat → Int32) : ∀ e c e', w_sf lt e c = some (.inl e') → e'.2.1 = e.2.1 + 1 := by
  intro e c e' hs
  unfold w_sf at hs
  split at hs
  · cases hs
  · cases hs; rfl
theorem a_sf_far (lt : Nat → Int32) : ∀ e c e', a_sf lt e c = some (.inl e') → e'.2.1 = e.2.1 + 1 := by
  intro e c e' hs
  unfold a_sf at hs
  split at hs
  · cases hs
  · cases hs; rfl
def w_I (n : Nat) (e : BfE) : Prop := e.1 / 1024 < n ∧ e.1 % 1024 = 0
def a_I (n r : Nat) (e : BfE) : Prop := e.1 / 1024 < n ∧ e.1 % 1024 < 2 ^ n ∧ e.1 % 1024 / 2 ^ r % 2 = 1 ∧ e.1 % 1024 / 2 ^ (e.1 / 1024) % 2 = 1
theorem er_or2 : ∀ r, r < 10 → ∀ x, x < 1024 → (x ||| 2 ^ r) < 1024 ∧ (x ||| 2 ^ r) / 2 ^ r % 2 = 1 := by decide +kernel
theorem er_orb (x r k : Nat) (h : x / 2 ^ k % 2 = 1) : (x ||| 2 ^ r) / 2 ^ k % 2 = 1 := by
  have h1 : x.testBit k = true := by rw [Nat.testBit_eq_decide_div_mod_eq]; exact decide_eq_true h
  have h2 : (x ||| 2 ^ r).testBit k = true := by rw [Nat.testBit_or, h1]; rfl
  rw [Nat.testBit_eq_decide_div_mod_eq] at h2
  exact of_decide_eq_true h2
theorem w_sf_I {n : Nat} {lt : Nat → Int32} (hz : WFz n lt) : ∀ e c e', w_I n e → c < 4 → w_sf lt e c = some (.inl e') → w_I n e' := by
  intro e c e' he hc hs
  have n10 := hz.2.1
  have hr := he.1
  rcases hz.2.2 (e.1 / 1024) c (by omega) hc with z | ⟨-, r1, c1, b1, b2, b3⟩
  · rw [w_sf_skip z] at hs; cases hs
  · rw [w_sf_new (show 10 * r1 + c1 < 2 ^ 31 by omega) b3] at hs
    cases hs
    show (1024 * ((10 * r1 + c1) / 10) + 0) / 1024 < n ∧ (1024 * ((10 * r1 + c1) / 10) + 0) % 1024 = 0
    omega
theorem a_sf_I {n r : Nat} {lt : Nat → Int32} (hz : WFz n lt) : ∀ e c e', a_I n r e → c < 4 → a_sf lt e c = some (.inl e') → a_I n r e' := by
  intro e c e' he hc hs
  have n10 := hz.2.1
  obtain ⟨hr, h2, h3, h4⟩ := he
  rcases hz.2.2 (e.1 / 1024) c (by omega) hc with z | ⟨-, r1, c1, b1, b2, b3⟩
  · rw [a_sf_skip z] at hs; cases hs
  · rw [a_sf_new (show 10 * r1 + c1 < 2 ^ 31 by omega) b3] at hs
    cases hs
    rw [show (10 * r1 + c1) / 10 = r1 by omega]
    have k1 := er_or2 r1 (by omega) (e.1 % 1024) (by omega)
    have k2 := er_orb (e.1 % 1024) r1 r h3
    have k3 : (e.1 % 1024 ||| 2 ^ r1) < 2 ^ n := Nat.or_lt_two_pow h2 (Nat.pow_lt_pow_right (by decide) b1)
    show (1024 * r1 + (e.1 % 1024 ||| 2 ^ r1)) / 1024 < n ∧ (1024 * r1 + (e.1 % 1024 ||| 2 ^ r1)) % 1024 < 2 ^ n ∧ (1024 * r1 + (e.1 % 1024 ||| 2 ^ r1)) % 1024 / 2 ^ r % 2 = 1 ∧ (1024 * r1 + (e.1 % 1024 ||| 2 ^ r1)) % 1024 / 2 ^ ((1024 * r1 + (e.1 % 1024 ||| 2 ^ r1)) / 1024) % 2 = 1
    generalize (e.1 % 1024 ||| 2 ^ r1) = u at *
    rw [show (1024 * r1 + u) / 1024 = r1 by omega, show (1024 * r1 + u) % 1024 = u by omega]
    exact ⟨b1, k3, k2, k1.2⟩
def QG (B : BfS) (M : EzM) : Prop := (∀ i, i < B.1 → M.1 65 0 i = nI (B.2 i).1 ∧ M.1 64 0 (B.2 i).1 = nI (B.2 i).2.1) ∧ ∀ j, j < 10240 → ¬ Bvis B j → M.1 64 0 j = -1
def GF (k i s : Nat) : Prop := k = 64 ∨ k = 65
theorem FX.gfsm {M M' : EzM} (h : FX GF M M') : FX SM M M' := h.up (fun k i s z => by unfold GF at z; unfold SM; omega)
theorem QG_new {B : BfS} {M : EzM} {p f : Nat} {w : Int32} (h : QG B M) (hv : ¬ Bvis B p) : QG (bf_add B (p, f, w)) (ez_st (ez_st M 64 0 p (nI f)) 65 0 B.1 (nI p)) := by
  obtain ⟨a2, a3⟩ := h
  have hb := @Bvis_add B (p, f, w)
  rw [bf_add_new hv] at hb ⊢
  refine ⟨fun i hi => ?_, fun j hj z => ?_⟩
  · have hi' : i < B.1 + 1 := hi
    have e0 : ((B.1 + 1, va_up B.2 B.1 (p, f, w)) : BfS).2 i = va_up B.2 B.1 (p, f, w) i := rfl
    rw [e0]
    by_cases e : i = B.1
    · rw [e, va_up_self]
      simp [ez_rd]
    · rw [va_up_ne _ _ e]
      have e2 : ¬ (B.2 i).1 = p := fun z => hv ⟨i, by omega, z⟩
      have := a2 i (by omega)
      simp [ez_rd, e, e2, this]
  · have e : ¬ j = p := fun e => z (hb.mpr (Or.inr e))
    have hv2 : ¬ Bvis B j := fun y => z (hb.mpr (Or.inl y))
    simp [ez_rd, e, a3 j hj hv2]
theorem er_N0 : ∃ n : Nat, 10240 ≤ n := ⟨10240, Nat.le_refl _⟩
noncomputable def er_N : Nat := Classical.choose er_N0
theorem er_N_le : 10240 ≤ er_N := Classical.choose_spec er_N0
noncomputable def g_v (sf : BfF) (j : Nat) (p : BfE → Bool) : Int32 := match er_fst (fun i => p ((bf_h sf (bf_0 j) er_N).1.2 i)) (bf_h sf (bf_0 j) er_N).1.1 with
  | none => -1
  | some i => nI ((bf_h sf (bf_0 j) er_N).1.2 i).2.1
theorem g_v_some {sf : BfF} {j : Nat} {p : BfE → Bool} {k : Nat} {B : BfS} (hH : bf_h sf (bf_0 j) k = (B, none)) (hk : k < B.1) (hk2 : k ≤ 10240) (hp : p (B.2 k) = true) (hj : ∀ i, i < k → p (B.2 i) = false) : g_v sf j p = nI (B.2 k).2.1 := by
  have X := bf_h_ext sf (bf_0 j) k (er_N - k)
  rw [show k + (er_N - k) = er_N by have := er_N_le; omega, hH] at X
  have x1 : B.1 ≤ (bf_h sf (bf_0 j) er_N).1.1 := X.1
  have x2 : ∀ i, i < B.1 → (bf_h sf (bf_0 j) er_N).1.2 i = B.2 i := X.2
  unfold g_v
  rw [er_fst_some (p := fun i => p ((bf_h sf (bf_0 j) er_N).1.2 i)) (i := k) (by show p _ = true; rw [x2 k hk]; exact hp) (fun i hi => by show p _ = false; rw [x2 i (by omega)]; exact hj i hi) (by omega)]
  show nI ((bf_h sf (bf_0 j) er_N).1.2 k).2.1 = _
  rw [x2 k hk]
theorem g_v_none {sf : BfF} {j : Nat} {p : BfE → Bool} {k : Nat} {B : BfS} (hH : bf_h sf (bf_0 j) k = (B, none)) (hk : B.1 ≤ k) (hk2 : k ≤ 10240) (hj : ∀ i, i < B.1 → p (B.2 i) = false) : g_v sf j p = -1 := by
  have e9 := bf_h_end hH hk (er_N - k)
  rw [show k + (er_N - k) = er_N by have := er_N_le; omega] at e9
  unfold g_v
  rw [e9, er_fst_none (fun i hi => hj i hi)]
theorem fa_or2 (a b : Nat) : nI a ||| nI b = nI (a ||| b) := by
  apply Int32.toBitVec_inj.mp
  show BitVec.ofNat 32 a ||| BitVec.ofNat 32 b = BitVec.ofNat 32 (a ||| b)
  exact (BitVec.ofNat_or ..).symm
theorem er_shl1 (s : Nat) (h : s < 12) : nI 1 <<< (nI s &&& 31) = nI (2 ^ s) := by
  rcases (show s = 0 ∨ s = 1 ∨ s = 2 ∨ s = 3 ∨ s = 4 ∨ s = 5 ∨ s = 6 ∨ s = 7 ∨ s = 8 ∨ s = 9 ∨ s = 10 ∨ s = 11 by omega) with rfl | rfl | rfl | rfl | rfl | rfl | rfl | rfl | rfl | rfl | rfl | rfl <;> decide
set_option maxRecDepth 20000 in
theorem lp_goes135_0 (g : EzH) (d : Nat) {B : BfS} {n r : Nat} {lt : Nat → Int32} (m k gl : Nat) (P : Option EzV → EzM → Prop) (M0 : EzM) (hd : 2 ≤ d) (hm : m < 4) (hwf : WFz n lt) (hr : r < n) (hZ : RMz m n lt M0) (hk : k < B.1) (hA : Bap B) (hI : ∀ i, i < B.1 → w_I n (B.2 i)) (hfar : Bfar B) (hon : ∀ B2 M', bf_d (w_sf lt) (B.2 k) B 4 = (B2, none) → QG B2 M' → FX GF M0 M' → Ez (true, g) mX12_goes d 248 [(8, eI (nI k)), (7, eI (nI B2.1)), (5, eI (nI (2 ^ n - 1))), (4, eI (nI 0)), (0, eR 12 0), (1, eI (nI m)), (3, eI (nI gl))] [] M' P) : ∀ (z : Nat) (c : Nat) (B1 : BfS) (M1 : EzM), 4 - c = z → c ≤ 4 → bf_d (w_sf lt) (B.2 k) B c = (B1, none) → QG B1 M1 → FX GF M0 M1 → Ez (true, g) mX12_goes d 135 [(10, eI (nI c)), (9, eI (nI ((B.2 k).1))), (8, eI (nI k)), (7, eI (nI B1.1)), (5, eI (nI (2 ^ n - 1))), (4, eI (nI 0)), (0, eR 12 0), (1, eI (nI m)), (3, eI (nI gl))] [] M1 (P) := by
  intro z
  induction z using Nat.strongRecOn with
  | ind z ih =>
    intro c B1 M1 hz hc hD hQ hF
    have n10 := hwf.2.1
    have t1 := (hI k hk).1
    have f9 := hfar k hk
    have A9 : Bap B1 := by have := bf_d_ap (w_sf lt) (B.2 k) hA c; rw [hD] at this; exact this
    have I9 : ∀ i, i < B1.1 → w_I n (B1.2 i) := by have := bf_d_inv (sf := w_sf lt) (e := B.2 k) hI (fun c e' hc he => w_sf_I hwf _ c e' (hI k hk) hc he) c hc; rw [hD] at this; exact this
    have N9 : ∀ i, i < B1.1 → (B1.2 i).1 < 10240 := fun i hi => by have := (I9 i hi).1; omega
    have F9 : Bfar B1 := by have := bf_d_far (w_sf_far lt) hfar (show (B.2 k).2.1 + 1 ≤ B.1 by omega) c; rw [hD] at this; exact this
    have X9 : BfX B B1 := by have := bf_d_ext (w_sf lt) (B.2 k) B c; rw [hD] at this; exact this
    have b101 := A9.le N9
    have x9 := X9.1
    have v9 := hQ.1 k (by omega)
    rw [X9.2 k hk] at v9
    refine ez_iload 137 dX12_goes_135 rfl rfl ?_
    refine ez_iconst 138 dX12_goes_137 rfl (nI 4) (by decide) ?_
    refine ez_ncmp_ge 141 248 dX12_goes_138 rfl (by decide) (by omega) (by omega) (fun h138 => ?_) (fun h138 => ?_)
    · have e9 : c = 4 := by omega
      subst e9
      refine ez_drop [(8, eI (nI k)), (7, eI (nI B1.1)), (5, eI (nI (2 ^ n - 1))), (4, eI (nI 0)), (0, eR 12 0), (1, eI (nI m)), (3, eI (nI gl))] (by simp) ?_
      exact hon B1 M1 hD hQ hF
    · refine ez_aload_n 142 dX12_goes_141 rfl rfl ?_
      refine ez_iload_n 143 dX12_goes_142 rfl rfl ?_
      refine ez_iload 145 dX12_goes_143 rfl rfl ?_
      refine ez_sipush 148 dX12_goes_145 rfl (nI 1024) (by decide) ?_
      refine ez_idiv 149 dX12_goes_148 rfl (by decide) ?_
      refine ez_top (nI (((B.2 k).1) / 1024)) (pk_div (by omega) (by omega) (by omega)) ?_
      refine ez_iload 151 dX12_goes_149 rfl rfl ?_
      refine ez_callV 154 [eI (nI m), eI (nI (((B.2 k).1) / 1024)), eI (nI c)] [] dX12_goes_151 rfl rfl ok_X12_to in_X12_to (by decide) (by show 0 < 1; omega) ln_X12_170 (by omega) (Nat.le_of_ble_eq_true rfl) (c_X12_to g (d - 1) m (((B.2 k).1) / 1024) c M1 (by omega) (by omega) (by omega)) (fun r151 M151 q151 => ?_)
      obtain ⟨rfl, e151⟩ := q151
      rw [e151, show M1.1 45 0 (40 * m + (4 * (((B.2 k).1) / 1024) + c)) = lt (4 * (((B.2 k).1) / 1024) + c) from (hZ.fx hF ⟨by unfold GF; omega, fun x => by unfold GF; omega⟩).2 _ (by omega)]
      show Ez (true, g) mX12_goes d 154 [(10, eI (nI c)), (9, eI (nI ((B.2 k).1))), (8, eI (nI k)), (7, eI (nI B1.1)), (5, eI (nI (2 ^ n - 1))), (4, eI (nI 0)), (0, eR 12 0), (1, eI (nI m)), (3, eI (nI gl))] [eI (lt (4 * (((B.2 k).1) / 1024) + c))] M1 _
      refine ez_istore 156 [(11, eI (lt (4 * (((B.2 k).1) / 1024) + c))), (10, eI (nI c)), (9, eI (nI ((B.2 k).1))), (8, eI (nI k)), (7, eI (nI B1.1)), (5, eI (nI (2 ^ n - 1))), (4, eI (nI 0)), (0, eR 12 0), (1, eI (nI m)), (3, eI (nI gl))] dX12_goes_154 rfl (by decide) rfl ?_
      refine ez_iload 158 dX12_goes_156 rfl rfl ?_
      refine ez_iconst 159 dX12_goes_158 rfl (-1) (by decide) ?_
      refine ez_icmp_ne 162 165 dX12_goes_159 rfl (by decide) (fun h159 => ?_) (fun h159 => ?_)
      · rcases hwf.2.2 ((B.2 k).1 / 1024) c (by omega) (by omega) with z | ⟨-, r1, c1, b1, b2, b3⟩
        · exact absurd z h159
        rw [b3]
        show Ez (true, g) mX12_goes d 165 [(11, eI (nI (10 * r1 + c1))), (10, eI (nI c)), (9, eI (nI ((B.2 k).1))), (8, eI (nI k)), (7, eI (nI B1.1)), (5, eI (nI (2 ^ n - 1))), (4, eI (nI 0)), (0, eR 12 0), (1, eI (nI m)), (3, eI (nI gl))] [] M1 _
        refine ez_sipush 168 dX12_goes_165 rfl (nI 1024) (by decide) ?_
        refine ez_iload 170 dX12_goes_168 rfl rfl ?_
        refine ez_bipush 172 dX12_goes_170 rfl (nI 10) (by decide) ?_
        refine ez_idiv 173 dX12_goes_172 rfl (by decide) ?_
        refine ez_top (nI ((10 * r1 + c1) / 10)) (pk_div (by omega) (by omega) (by omega)) ?_
        refine ez_imul 174 dX12_goes_173 rfl ?_
        refine ez_top (nI (1024 * ((10 * r1 + c1) / 10))) (pk_mul _ _) ?_
        refine ez_iload 176 dX12_goes_174 rfl rfl ?_
        refine ez_nif_eq 179 196 dX12_goes_176 rfl (by decide) (by omega) (fun h176 => ?_) (fun h176 => ?_)
        · refine ez_iconst 197 dX12_goes_196 rfl (nI 0) (by decide) ?_
          refine ez_iadd 198 dX12_goes_197 rfl ?_
          refine ez_top (nI (1024 * ((10 * r1 + c1) / 10) + 0)) (nI_add _ _) ?_
          have p9 : 1024 * ((10 * r1 + c1) / 10) + 0 < 10240 := by omega
          generalize ep9 : 1024 * ((10 * r1 + c1) / 10) + 0 = pv at p9 ⊢
          refine ez_istore 200 [(12, eI (nI pv)), (11, eI (nI (10 * r1 + c1))), (10, eI (nI c)), (9, eI (nI ((B.2 k).1))), (8, eI (nI k)), (7, eI (nI B1.1)), (5, eI (nI (2 ^ n - 1))), (4, eI (nI 0)), (0, eR 12 0), (1, eI (nI m)), (3, eI (nI gl))] dX12_goes_198 rfl (by decide) rfl ?_
          by_cases hv : Bvis B1 pv
          · obtain ⟨i9, hi9, he9⟩ := hv
            have f8 := F9 i9 hi9
            have hv : Bvis B1 pv := ⟨i9, hi9, he9⟩
            refine ez_aload_n 201 dX12_goes_200 rfl rfl ?_
            refine ez_getf 204 (eR 64 0) dX12_goes_201 rfl fl_X12_81 (by show 0 < 1; omega) rfl ?_
            refine ez_iload 206 dX12_goes_204 rfl rfl ?_
            refine ez_ialdN pv 207 dX12_goes_206 rfl (by decide) (by show 0 < 1; omega) (by show pv < 10240; omega) ?_
            refine ez_top (nI ((B1.2 i9).2.1)) (by rw [← he9]; exact (hQ.1 i9 hi9).2) ?_
            refine ez_iconst 208 dX12_goes_207 rfl (-1) (by decide) ?_
            refine ez_icmp_eq 211 214 dX12_goes_208 rfl (by decide) (fun h208 => ?_) (fun h208 => ?_)
            · exact absurd h208 (ep_m1 (by omega))
            · refine ez_goto 242 dX12_goes_211 (by decide) ?_
              refine ez_iinc 245 (nI (c + 1)) [(10, eI (nI (c + 1))), (12, eI (nI pv)), (11, eI (nI (10 * r1 + c1))), (9, eI (nI ((B.2 k).1))), (8, eI (nI k)), (7, eI (nI B1.1)), (5, eI (nI (2 ^ n - 1))), (4, eI (nI 0)), (0, eR 12 0), (1, eI (nI m)), (3, eI (nI gl))] dX12_goes_242 rfl rfl (nI_add c 1) (by decide) rfl ?_
              refine ez_goto 135 dX12_goes_245 (by decide) ?_
              have s9 := w_sf_new (lt := lt) (e := B.2 k) (c := c) (show 10 * r1 + c1 < 2 ^ 31 by omega) b3
              rw [ep9] at s9
              refine ez_drop [(10, eI (nI (c + 1))), (9, eI (nI ((B.2 k).1))), (8, eI (nI k)), (7, eI (nI B1.1)), (5, eI (nI (2 ^ n - 1))), (4, eI (nI 0)), (0, eR 12 0), (1, eI (nI m)), (3, eI (nI gl))] (by simp) ?_
              have e7 := bf_d_new hD s9
              rw [bf_add_in hv] at e7
              exact ih (4 - (c + 1)) (by omega) (c + 1) B1 M1 rfl (by omega) e7 hQ hF
          · have hlt : B1.1 < 10240 := A9.lt N9 p9 hv
            refine ez_aload_n 201 dX12_goes_200 rfl rfl ?_
            refine ez_getf 204 (eR 64 0) dX12_goes_201 rfl fl_X12_81 (by show 0 < 1; omega) rfl ?_
            refine ez_iload 206 dX12_goes_204 rfl rfl ?_
            refine ez_ialdN pv 207 dX12_goes_206 rfl (by decide) (by show 0 < 1; omega) (by show pv < 10240; omega) ?_
            refine ez_top (-1) (hQ.2 pv p9 hv) ?_
            refine ez_iconst 208 dX12_goes_207 rfl (-1) (by decide) ?_
            refine ez_icmp_eq 211 214 dX12_goes_208 rfl (by decide) (fun h208 => ?_) (fun h208 => ?_)
            · refine ez_aload_n 215 dX12_goes_214 rfl rfl ?_
              refine ez_getf 218 (eR 64 0) dX12_goes_215 rfl fl_X12_81 (by show 0 < 1; omega) rfl ?_
              refine ez_iload 220 dX12_goes_218 rfl rfl ?_
              refine ez_aload_n 221 dX12_goes_220 rfl rfl ?_
              refine ez_getf 224 (eR 64 0) dX12_goes_221 rfl fl_X12_81 (by show 0 < 1; omega) rfl ?_
              refine ez_iload 226 dX12_goes_224 rfl rfl ?_
              refine ez_ialdN ((B.2 k).1) 227 dX12_goes_226 rfl (by decide) (by show 0 < 1; omega) (by show (B.2 k).1 < 10240; omega) ?_
              refine ez_top (nI ((B.2 k).2.1)) v9.2 ?_
              refine ez_iconst 228 dX12_goes_227 rfl (nI 1) (by decide) ?_
              refine ez_iadd 229 dX12_goes_228 rfl ?_
              refine ez_top (nI ((B.2 k).2.1 + 1)) (nI_add _ _) ?_
              refine ez_iastN pv 230 dX12_goes_229 rfl (by decide) (by show 0 < 1; omega) (by show pv < 10240; omega) ?_
              refine ez_aload_n 231 dX12_goes_230 rfl rfl ?_
              refine ez_getf 234 (eR 65 0) dX12_goes_231 rfl fl_X12_84 (by show 0 < 1; omega) rfl ?_
              refine ez_iload 236 dX12_goes_234 rfl rfl ?_
              refine ez_iload 238 dX12_goes_236 rfl rfl ?_
              refine ez_iastN B1.1 239 dX12_goes_238 rfl (by decide) (by show 0 < 1; omega) (by show B1.1 < 10240; omega) ?_
              refine ez_iinc 242 (nI (B1.1 + 1)) [(7, eI (nI (B1.1 + 1))), (12, eI (nI pv)), (11, eI (nI (10 * r1 + c1))), (10, eI (nI c)), (9, eI (nI ((B.2 k).1))), (8, eI (nI k)), (5, eI (nI (2 ^ n - 1))), (4, eI (nI 0)), (0, eR 12 0), (1, eI (nI m)), (3, eI (nI gl))] dX12_goes_239 rfl rfl (nI_add B1.1 1) (by decide) rfl ?_
              refine ez_iinc 245 (nI (c + 1)) [(10, eI (nI (c + 1))), (7, eI (nI (B1.1 + 1))), (12, eI (nI pv)), (11, eI (nI (10 * r1 + c1))), (9, eI (nI ((B.2 k).1))), (8, eI (nI k)), (5, eI (nI (2 ^ n - 1))), (4, eI (nI 0)), (0, eR 12 0), (1, eI (nI m)), (3, eI (nI gl))] dX12_goes_242 rfl rfl (nI_add c 1) (by decide) rfl ?_
              refine ez_goto 135 dX12_goes_245 (by decide) ?_
              have s9 := w_sf_new (lt := lt) (e := B.2 k) (c := c) (show 10 * r1 + c1 < 2 ^ 31 by omega) b3
              rw [ep9] at s9
              refine ez_drop [(10, eI (nI (c + 1))), (9, eI (nI ((B.2 k).1))), (8, eI (nI k)), (7, eI (nI (B1.1 + 1))), (5, eI (nI (2 ^ n - 1))), (4, eI (nI 0)), (0, eR 12 0), (1, eI (nI m)), (3, eI (nI gl))] (by simp) ?_
              have e8 : (bf_add B1 (pv, (B.2 k).2.1 + 1, nI 0)).1 = B1.1 + 1 := by rw [bf_add_new hv]
              rw [← e8]
              exact ih (4 - (c + 1)) (by omega) (c + 1) _ _ rfl (by omega) (bf_d_new hD s9) (QG_new hQ hv) ((hF.st (by unfold GF; omega)).st (by unfold GF; omega))
            · exact absurd rfl h208
        · exact absurd h176 (by decide)
      · refine ez_goto 242 dX12_goes_162 (by decide) ?_
        refine ez_iinc 245 (nI (c + 1)) [(10, eI (nI (c + 1))), (11, eI (lt (4 * (((B.2 k).1) / 1024) + c))), (9, eI (nI ((B.2 k).1))), (8, eI (nI k)), (7, eI (nI B1.1)), (5, eI (nI (2 ^ n - 1))), (4, eI (nI 0)), (0, eR 12 0), (1, eI (nI m)), (3, eI (nI gl))] dX12_goes_242 rfl rfl (nI_add c 1) (by decide) rfl ?_
        refine ez_goto 135 dX12_goes_245 (by decide) ?_
        refine ez_drop [(10, eI (nI (c + 1))), (9, eI (nI ((B.2 k).1))), (8, eI (nI k)), (7, eI (nI B1.1)), (5, eI (nI (2 ^ n - 1))), (4, eI (nI 0)), (0, eR 12 0), (1, eI (nI m)), (3, eI (nI gl))] (by simp) ?_
        exact ih (4 - (c + 1)) (by omega) (c + 1) B1 M1 rfl (by omega) (bf_d_skip hD (w_sf_skip h159)) hQ hF
set_option maxRecDepth 20000 in
theorem goes_248_0 (g : EzH) (d : Nat) (m k b n gl : Nat) (P : Option EzV → EzM → Prop) (M1 : EzM) (K : Ez (true, g) mX12_goes d 79 [(8, eI (nI (k + 1))), (7, eI (nI b)), (5, eI (nI (2 ^ n - 1))), (4, eI (nI 0)), (0, eR 12 0), (1, eI (nI m)), (3, eI (nI gl))] [] M1 P) : Ez (true, g) mX12_goes d 248 [(8, eI (nI k)), (7, eI (nI b)), (5, eI (nI (2 ^ n - 1))), (4, eI (nI 0)), (0, eR 12 0), (1, eI (nI m)), (3, eI (nI gl))] [] M1 (P) := by
  refine ez_iinc 251 (nI (k + 1)) [(8, eI (nI (k + 1))), (7, eI (nI b)), (5, eI (nI (2 ^ n - 1))), (4, eI (nI 0)), (0, eR 12 0), (1, eI (nI m)), (3, eI (nI gl))] dX12_goes_248 rfl rfl (nI_add k 1) (by decide) rfl ?_
  refine ez_goto 79 dX12_goes_251 (by decide) ?_
  exact K
set_option maxRecDepth 20000 in
theorem lp_goes79_0 (g : EzH) (d : Nat) {n r : Nat} {lt : Nat → Int32} (m gl : Nat) (M : EzM) (hd : 2 ≤ d) (hm : m < 4) (hwf : WFz n lt) (hr : r < n) (hZ : RMz m n lt M) (hgl : gl < 2 ^ 31) : ∀ (z : Nat) (k : Nat) (B1 : BfS) (M1 : EzM), 10240 - k = z → k ≤ 10240 → bf_h (w_sf lt) (bf_0 (1024 * r + 0)) k = (B1, none) → QG B1 M1 → (∀ i, i < k → i < B1.1 → ¬ (B1.2 i).1 / 1024 = gl) → FX GF M M1 → Ez (true, g) mX12_goes d 79 [(8, eI (nI k)), (7, eI (nI B1.1)), (5, eI (nI (2 ^ n - 1))), (4, eI (nI 0)), (0, eR 12 0), (1, eI (nI m)), (3, eI (nI gl))] [] M1 (fun r' M' => r' = some (eI (g_v (w_sf lt) (1024 * r + 0) (fun e => decide (e.1 / 1024 = gl)))) ∧ FX GF M M') := by
  intro z
  induction z using Nat.strongRecOn with
  | ind z ih =>
    intro k B1 M1 hz hk hH hQ hj hF
    have n10 := hwf.2.1
    have i0 : ∀ i, i < (bf_0 (1024 * r + 0)).1 → w_I n ((bf_0 (1024 * r + 0)).2 i) := fun i _ => by
      show (1024 * r + 0) / 1024 < n ∧ (1024 * r + 0) % 1024 = 0
      omega
    have A9 : Bap B1 := by have := bf_h_ap (w_sf lt) (bf_0_ap (1024 * r + 0)) k; rw [hH] at this; exact this
    have I9 : ∀ i, i < B1.1 → w_I n (B1.2 i) := by have := bf_h_inv i0 (w_sf_I hwf) k; rw [hH] at this; exact this
    have F9 : Bfar B1 := by have := bf_h_far (w_sf_far lt) (bf_0_far (1024 * r + 0)) k; rw [hH] at this; exact this
    have N9 : ∀ i, i < B1.1 → (B1.2 i).1 < 10240 := fun i hi => by have := (I9 i hi).1; omega
    have b101 := A9.le N9
    refine ez_iload 81 dX12_goes_79 rfl rfl ?_
    refine ez_iload 83 dX12_goes_81 rfl rfl ?_
    refine ez_ncmp_ge 86 254 dX12_goes_83 rfl (by decide) (by omega) (by omega) (fun h83 => ?_) (fun h83 => ?_)
    · refine ez_iconst 255 dX12_goes_254 rfl (-1) (by decide) ?_
      refine ez_iret .int dX12_goes_255 rfl rfl ?_
      exact ⟨by rw [g_v_none (p := (fun e => decide (e.1 / 1024 = gl))) hH (by omega) hk (fun i hi => decide_eq_false (hj i (by omega) (by omega)))], hF⟩
    · have n9 := N9 k (by omega)
      have f8 := F9 k (by omega)
      refine ez_aload_n 87 dX12_goes_86 rfl rfl ?_
      refine ez_getf 90 (eR 65 0) dX12_goes_87 rfl fl_X12_84 (by show 0 < 1; omega) rfl ?_
      refine ez_iload 92 dX12_goes_90 rfl rfl ?_
      refine ez_ialdN k 93 dX12_goes_92 rfl (by decide) (by show 0 < 1; omega) (by show k < 10240; omega) ?_
      refine ez_top (nI ((B1.2 k).1)) (hQ.1 k (by omega)).1 ?_
      refine ez_istore 95 [(9, eI (nI ((B1.2 k).1))), (8, eI (nI k)), (7, eI (nI B1.1)), (5, eI (nI (2 ^ n - 1))), (4, eI (nI 0)), (0, eR 12 0), (1, eI (nI m)), (3, eI (nI gl))] dX12_goes_93 rfl (by decide) rfl ?_
      refine ez_iload 97 dX12_goes_95 rfl rfl ?_
      refine ez_nif_eq 100 114 dX12_goes_97 rfl (by decide) (by omega) (fun h97 => ?_) (fun h97 => ?_)
      · refine ez_iload 116 dX12_goes_114 rfl rfl ?_
        refine ez_sipush 119 dX12_goes_116 rfl (nI 1024) (by decide) ?_
        refine ez_idiv 120 dX12_goes_119 rfl (by decide) ?_
        refine ez_top (nI (((B1.2 k).1) / 1024)) (pk_div (by omega) (by omega) (by omega)) ?_
        refine ez_iload_n 121 dX12_goes_120 rfl rfl ?_
        refine ez_ncmp_ne 124 132 dX12_goes_121 rfl (by decide) (by omega) (by omega) (fun h121 => ?_) (fun h121 => ?_)
        · refine ez_iconst 133 dX12_goes_132 rfl (nI 0) (by decide) ?_
          refine ez_istore 135 [(10, eI (nI 0)), (9, eI (nI ((B1.2 k).1))), (8, eI (nI k)), (7, eI (nI B1.1)), (5, eI (nI (2 ^ n - 1))), (4, eI (nI 0)), (0, eR 12 0), (1, eI (nI m)), (3, eI (nI gl))] dX12_goes_133 rfl (by decide) rfl ?_
          refine ez_drop [(10, eI (nI 0)), (9, eI (nI ((B1.2 k).1))), (8, eI (nI k)), (7, eI (nI B1.1)), (5, eI (nI (2 ^ n - 1))), (4, eI (nI 0)), (0, eR 12 0), (1, eI (nI m)), (3, eI (nI gl))] (by simp) ?_
          refine lp_goes135_0 g d (r := r) m k gl _ M hd hm hwf hr hZ (by omega) A9 I9 F9 (fun B2 M' e91 q91 f91 => ?_) _ 0 B1 M1 rfl (by omega) rfl hQ hF
          refine goes_248_0 g d m k B2.1 n gl _ M' ?_
          have H2 := bf_h_go hH (by omega) e91
          have X2 : BfX B1 B2 := by have := bf_h_ext1 (w_sf lt) (bf_0 (1024 * r + 0)) k; rw [hH, H2] at this; exact this
          exact ih (10240 - (k + 1)) (by omega) (k + 1) B2 M' rfl (by omega) H2 q91 (fun i hi hi2 => by
            by_cases e : i = k
            · rw [e, X2.2 k (by omega)]; exact h121
            · rw [X2.2 i (by omega)]; exact hj i (by omega) (by omega)) f91
        · refine ez_aload_n 125 dX12_goes_124 rfl rfl ?_
          refine ez_getf 128 (eR 64 0) dX12_goes_125 rfl fl_X12_81 (by show 0 < 1; omega) rfl ?_
          refine ez_iload 130 dX12_goes_128 rfl rfl ?_
          refine ez_ialdN ((B1.2 k).1) 131 dX12_goes_130 rfl (by decide) (by show 0 < 1; omega) (by show (B1.2 k).1 < 10240; omega) ?_
          refine ez_top (nI ((B1.2 k).2.1)) (hQ.1 k (by omega)).2 ?_
          refine ez_iret .int dX12_goes_131 rfl rfl ?_
          exact ⟨by rw [g_v_some (p := (fun e => decide (e.1 / 1024 = gl))) hH (by omega) hk (decide_eq_true h121) (fun i hi => decide_eq_false (hj i hi (by omega)))], hF⟩
      · exact absurd h97 (by decide)
set_option maxRecDepth 20000 in
theorem goes_37_0 (g : EzH) (d : Nat) {n r : Nat} {lt : Nat → Int32} (m gl : Nat) (M M1 : EzM) (hd : 2 ≤ d) (hm : m < 4) (hwf : WFz n lt) (hr : r < n) (hZ : RMz m n lt M) (hgl : gl < 2 ^ 31) (hM : ∀ j, j < 10240 → M1.1 64 0 j = -1) (hF : FX GF M M1) : Ez (true, g) mX12_goes d 37 [(5, eI (nI (2 ^ n - 1))), (0, eR 12 0), (1, eI (nI m)), (2, eI (nI r)), (3, eI (nI gl)), (4, eI (nI 0))] [] M1 (fun r' M' => r' = some (eI (g_v (w_sf lt) (1024 * r + 0) (fun e => decide (e.1 / 1024 = gl)))) ∧ FX GF M M') := by
  have n10 := hwf.2.1
  refine ez_sipush 40 dX12_goes_37 rfl (nI 1024) (by decide) ?_
  refine ez_iload_n 41 dX12_goes_40 rfl rfl ?_
  refine ez_imul 42 dX12_goes_41 rfl ?_
  refine ez_top (nI (1024 * r)) (pk_mul _ _) ?_
  refine ez_iload 44 dX12_goes_42 rfl rfl ?_
  refine ez_nif_eq 47 53 dX12_goes_44 rfl (by decide) (by omega) (fun h44 => ?_) (fun h44 => ?_)
  · refine ez_iconst 54 dX12_goes_53 rfl (nI 0) (by decide) ?_
    refine ez_iadd 55 dX12_goes_54 rfl ?_
    refine ez_top (nI (1024 * r + 0)) (nI_add _ _) ?_
    refine ez_istore 57 [(6, eI (nI (1024 * r + 0))), (5, eI (nI (2 ^ n - 1))), (0, eR 12 0), (1, eI (nI m)), (2, eI (nI r)), (3, eI (nI gl)), (4, eI (nI 0))] dX12_goes_55 rfl (by decide) rfl ?_
    refine ez_aload_n 58 dX12_goes_57 rfl rfl ?_
    refine ez_getf 61 (eR 64 0) dX12_goes_58 rfl fl_X12_81 (by show 0 < 1; omega) rfl ?_
    refine ez_iload 63 dX12_goes_61 rfl rfl ?_
    refine ez_iconst 64 dX12_goes_63 rfl (nI 0) (by decide) ?_
    refine ez_iastN (1024 * r + 0) 65 dX12_goes_64 rfl (by decide) (by show 0 < 1; omega) (by show 1024 * r + 0 < 10240; omega) ?_
    refine ez_aload_n 66 dX12_goes_65 rfl rfl ?_
    refine ez_getf 69 (eR 65 0) dX12_goes_66 rfl fl_X12_84 (by show 0 < 1; omega) rfl ?_
    refine ez_iconst 70 dX12_goes_69 rfl (nI 0) (by decide) ?_
    refine ez_iload 72 dX12_goes_70 rfl rfl ?_
    refine ez_iastN 0 73 dX12_goes_72 rfl (by decide) (by show 0 < 1; omega) (by show 0 < 10240; omega) ?_
    refine ez_iconst 74 dX12_goes_73 rfl (nI 1) (by decide) ?_
    refine ez_istore 76 [(7, eI (nI 1)), (6, eI (nI (1024 * r + 0))), (5, eI (nI (2 ^ n - 1))), (0, eR 12 0), (1, eI (nI m)), (2, eI (nI r)), (3, eI (nI gl)), (4, eI (nI 0))] dX12_goes_74 rfl (by decide) rfl ?_
    refine ez_iconst 77 dX12_goes_76 rfl (nI 0) (by decide) ?_
    refine ez_istore 79 [(8, eI (nI 0)), (7, eI (nI 1)), (6, eI (nI (1024 * r + 0))), (5, eI (nI (2 ^ n - 1))), (0, eR 12 0), (1, eI (nI m)), (2, eI (nI r)), (3, eI (nI gl)), (4, eI (nI 0))] dX12_goes_77 rfl (by decide) rfl ?_
    have Q9 : QG (bf_0 (1024 * r + 0)) (ez_st (ez_st M1 64 0 (1024 * r + 0) (nI 0)) 65 0 0 (nI (1024 * r + 0))) := by
      refine ⟨fun i hi => ?_, fun j hj z => ?_⟩
      · have hi' : i < 1 := hi
        rw [show i = 0 by omega]
        have e0 : (bf_0 (1024 * r + 0)).2 0 = (1024 * r + 0, 0, nI 0) := rfl
        rw [e0]
        simp [ez_rd]
      · have e : ¬ j = 1024 * r + 0 := fun e => z (bf_0_vis.mpr e)
        rw [ez_rd, if_neg (by omega), ez_rd, if_neg (fun z9 => e z9.2.2)]
        exact hM j hj
    refine ez_drop [(8, eI (nI 0)), (7, eI (nI 1)), (5, eI (nI (2 ^ n - 1))), (4, eI (nI 0)), (0, eR 12 0), (1, eI (nI m)), (3, eI (nI gl))] (by simp) ?_
    exact lp_goes79_0 g d (r := r) m gl M hd hm hwf hr hZ hgl _ 0 (bf_0 (1024 * r + 0)) _ rfl (by omega) rfl Q9 (fun i hi => by omega) ((hF.st (by unfold GF; omega)).st (by unfold GF; omega))
  · exact absurd h44 (by decide)
set_option maxRecDepth 20000 in
theorem lp_goes15_0 (g : EzH) (d : Nat) {n r : Nat} {lt : Nat → Int32} (m gl : Nat) (M : EzM) (hd : 2 ≤ d) (hm : m < 4) (hwf : WFz n lt) (hr : r < n) (hZ : RMz m n lt M) (hgl : gl < 2 ^ 31) : ∀ (z : Nat) (t : Nat) (M1 : EzM), 10240 - t = z → t ≤ 10240 → (∀ j, j < t → M1.1 64 0 j = -1) → FX GF M M1 → Ez (true, g) mX12_goes d 15 [(6, eI (nI t)), (5, eI (nI (2 ^ n - 1))), (0, eR 12 0), (1, eI (nI m)), (2, eI (nI r)), (3, eI (nI gl)), (4, eI (nI 0))] [] M1 (fun r' M' => r' = some (eI (g_v (w_sf lt) (1024 * r + 0) (fun e => decide (e.1 / 1024 = gl)))) ∧ FX GF M M') := by
  intro z
  induction z using Nat.strongRecOn with
  | ind z ih =>
    intro t M1 hz ht hM hF
    refine ez_iload 17 dX12_goes_15 rfl rfl ?_
    refine ez_sipush 20 dX12_goes_17 rfl (nI 10240) (by decide) ?_
    refine ez_ncmp_ge 23 37 dX12_goes_20 rfl (by decide) (by omega) (by omega) (fun h20 => ?_) (fun h20 => ?_)
    · refine ez_drop [(5, eI (nI (2 ^ n - 1))), (0, eR 12 0), (1, eI (nI m)), (2, eI (nI r)), (3, eI (nI gl)), (4, eI (nI 0))] (by simp) ?_
      exact goes_37_0 g d (r := r) m gl M M1 hd hm hwf hr hZ hgl (fun j hj => hM j (by omega)) hF
    · refine ez_aload_n 24 dX12_goes_23 rfl rfl ?_
      refine ez_getf 27 (eR 64 0) dX12_goes_24 rfl fl_X12_81 (by show 0 < 1; omega) rfl ?_
      refine ez_iload 29 dX12_goes_27 rfl rfl ?_
      refine ez_iconst 30 dX12_goes_29 rfl (-1) (by decide) ?_
      refine ez_iastN t 31 dX12_goes_30 rfl (by decide) (by show 0 < 1; omega) (by show t < 10240; omega) ?_
      refine ez_iinc 34 (nI (t + 1)) [(6, eI (nI (t + 1))), (5, eI (nI (2 ^ n - 1))), (0, eR 12 0), (1, eI (nI m)), (2, eI (nI r)), (3, eI (nI gl)), (4, eI (nI 0))] dX12_goes_31 rfl rfl (nI_add t 1) (by decide) rfl ?_
      refine ez_goto 15 dX12_goes_34 (by decide) ?_
      exact ih (10240 - (t + 1)) (by omega) (t + 1) _ rfl (by omega) (fun j hj => by
        rw [ez_rd]
        by_cases e : j = t
        · rw [if_pos ⟨rfl, rfl, e⟩]
        · rw [if_neg (by omega)]; exact hM j (by omega)) (hF.st (by unfold GF; omega))
set_option maxRecDepth 20000 in
theorem c_goes_0 (g : EzH) (d : Nat) {n r : Nat} {lt : Nat → Int32} (m gl : Nat) (M : EzM) (hd : 2 ≤ d) (hm : m < 4) (hwf : WFz n lt) (hr : r < n) (hZ : RMz m n lt M) (hgl : gl < 2 ^ 31) : Ezc (true, g) mX12_goes d [eR 12 0, eI (nI m), eI (nI r), eI (nI gl), eI (nI 0)] M (fun r' M' => r' = some (eI (g_v (w_sf lt) (1024 * r + 0) (fun e => decide (e.1 / 1024 = gl)))) ∧ FX GF M M') := by
  refine Ezc.of (by decide +kernel) (Nat.le_of_ble_eq_true rfl) ?_
  have n10 := hwf.2.1
  show Ez (true, g) mX12_goes d 0 [(0, eR 12 0), (1, eI (nI m)), (2, eI (nI r)), (3, eI (nI gl)), (4, eI (nI 0))] [] M _
  refine ez_iconst 1 dX12_goes_0 rfl (nI 1) (by decide) ?_
  refine ez_aload_n 2 dX12_goes_1 rfl rfl ?_
  refine ez_getf 5 (eR 46 0) dX12_goes_2 rfl fl_X12_26 (by show 0 < 1; omega) rfl ?_
  refine ez_iload_n 6 dX12_goes_5 rfl rfl ?_
  refine ez_ialdN m 7 dX12_goes_6 rfl (by decide) (by show 0 < 1; omega) (by show m < 4; omega) ?_
  refine ez_top (nI n) hZ.1 ?_
  refine ez_ishl 8 dX12_goes_7 rfl ?_
  refine ez_top (nI (2 ^ n)) (er_shl1 _ (by omega)) ?_
  refine ez_iconst 9 dX12_goes_8 rfl (nI 1) (by decide) ?_
  refine ez_isub 10 dX12_goes_9 rfl ?_
  refine ez_top (nI (2 ^ n - 1)) (pk_sub (Nat.one_le_two_pow)) ?_
  refine ez_istore 12 [(5, eI (nI (2 ^ n - 1))), (0, eR 12 0), (1, eI (nI m)), (2, eI (nI r)), (3, eI (nI gl)), (4, eI (nI 0))] dX12_goes_10 rfl (by decide) rfl ?_
  refine ez_iconst 13 dX12_goes_12 rfl (nI 0) (by decide) ?_
  refine ez_istore 15 [(6, eI (nI 0)), (5, eI (nI (2 ^ n - 1))), (0, eR 12 0), (1, eI (nI m)), (2, eI (nI r)), (3, eI (nI gl)), (4, eI (nI 0))] dX12_goes_13 rfl (by decide) rfl ?_
  refine ez_drop [(6, eI (nI 0)), (5, eI (nI (2 ^ n - 1))), (0, eR 12 0), (1, eI (nI m)), (2, eI (nI r)), (3, eI (nI gl)), (4, eI (nI 0))] (by simp) ?_
  exact lp_goes15_0 g d (r := r) m gl M hd hm hwf hr hZ hgl _ 0 M rfl (by omega) (fun j hj => by omega) FX.rf
set_option maxRecDepth 20000 in
theorem lp_goes135_1 (g : EzH) (d : Nat) {B : BfS} {n r : Nat} {lt : Nat → Int32} (m k gl : Nat) (P : Option EzV → EzM → Prop) (M0 : EzM) (hd : 2 ≤ d) (hm : m < 4) (hwf : WFz n lt) (hr : r < n) (hZ : RMz m n lt M0) (hk : k < B.1) (hA : Bap B) (hI : ∀ i, i < B.1 → a_I n r (B.2 i)) (hfar : Bfar B) (hon : ∀ B2 M', bf_d (a_sf lt) (B.2 k) B 4 = (B2, none) → QG B2 M' → FX GF M0 M' → Ez (true, g) mX12_goes d 248 [(8, eI (nI k)), (7, eI (nI B2.1)), (5, eI (nI (2 ^ n - 1))), (4, eI (nI 1)), (0, eR 12 0), (1, eI (nI m)), (3, eI (nI gl))] [] M' P) : ∀ (z : Nat) (c : Nat) (B1 : BfS) (M1 : EzM), 4 - c = z → c ≤ 4 → bf_d (a_sf lt) (B.2 k) B c = (B1, none) → QG B1 M1 → FX GF M0 M1 → Ez (true, g) mX12_goes d 135 [(10, eI (nI c)), (9, eI (nI ((B.2 k).1))), (8, eI (nI k)), (7, eI (nI B1.1)), (5, eI (nI (2 ^ n - 1))), (4, eI (nI 1)), (0, eR 12 0), (1, eI (nI m)), (3, eI (nI gl))] [] M1 (P) := by
  intro z
  induction z using Nat.strongRecOn with
  | ind z ih =>
    intro c B1 M1 hz hc hD hQ hF
    have n10 := hwf.2.1
    have t1 := (hI k hk).1
    have f9 := hfar k hk
    have A9 : Bap B1 := by have := bf_d_ap (a_sf lt) (B.2 k) hA c; rw [hD] at this; exact this
    have I9 : ∀ i, i < B1.1 → a_I n r (B1.2 i) := by have := bf_d_inv (sf := a_sf lt) (e := B.2 k) hI (fun c e' hc he => a_sf_I hwf _ c e' (hI k hk) hc he) c hc; rw [hD] at this; exact this
    have N9 : ∀ i, i < B1.1 → (B1.2 i).1 < 10240 := fun i hi => by have := (I9 i hi).1; omega
    have F9 : Bfar B1 := by have := bf_d_far (a_sf_far lt) hfar (show (B.2 k).2.1 + 1 ≤ B.1 by omega) c; rw [hD] at this; exact this
    have X9 : BfX B B1 := by have := bf_d_ext (a_sf lt) (B.2 k) B c; rw [hD] at this; exact this
    have b101 := A9.le N9
    have x9 := X9.1
    have v9 := hQ.1 k (by omega)
    rw [X9.2 k hk] at v9
    refine ez_iload 137 dX12_goes_135 rfl rfl ?_
    refine ez_iconst 138 dX12_goes_137 rfl (nI 4) (by decide) ?_
    refine ez_ncmp_ge 141 248 dX12_goes_138 rfl (by decide) (by omega) (by omega) (fun h138 => ?_) (fun h138 => ?_)
    · have e9 : c = 4 := by omega
      subst e9
      refine ez_drop [(8, eI (nI k)), (7, eI (nI B1.1)), (5, eI (nI (2 ^ n - 1))), (4, eI (nI 1)), (0, eR 12 0), (1, eI (nI m)), (3, eI (nI gl))] (by simp) ?_
      exact hon B1 M1 hD hQ hF
    · refine ez_aload_n 142 dX12_goes_141 rfl rfl ?_
      refine ez_iload_n 143 dX12_goes_142 rfl rfl ?_
      refine ez_iload 145 dX12_goes_143 rfl rfl ?_
      refine ez_sipush 148 dX12_goes_145 rfl (nI 1024) (by decide) ?_
      refine ez_idiv 149 dX12_goes_148 rfl (by decide) ?_
      refine ez_top (nI (((B.2 k).1) / 1024)) (pk_div (by omega) (by omega) (by omega)) ?_
      refine ez_iload 151 dX12_goes_149 rfl rfl ?_
      refine ez_callV 154 [eI (nI m), eI (nI (((B.2 k).1) / 1024)), eI (nI c)] [] dX12_goes_151 rfl rfl ok_X12_to in_X12_to (by decide) (by show 0 < 1; omega) ln_X12_170 (by omega) (Nat.le_of_ble_eq_true rfl) (c_X12_to g (d - 1) m (((B.2 k).1) / 1024) c M1 (by omega) (by omega) (by omega)) (fun r151 M151 q151 => ?_)
      obtain ⟨rfl, e151⟩ := q151
      rw [e151, show M1.1 45 0 (40 * m + (4 * (((B.2 k).1) / 1024) + c)) = lt (4 * (((B.2 k).1) / 1024) + c) from (hZ.fx hF ⟨by unfold GF; omega, fun x => by unfold GF; omega⟩).2 _ (by omega)]
      show Ez (true, g) mX12_goes d 154 [(10, eI (nI c)), (9, eI (nI ((B.2 k).1))), (8, eI (nI k)), (7, eI (nI B1.1)), (5, eI (nI (2 ^ n - 1))), (4, eI (nI 1)), (0, eR 12 0), (1, eI (nI m)), (3, eI (nI gl))] [eI (lt (4 * (((B.2 k).1) / 1024) + c))] M1 _
      refine ez_istore 156 [(11, eI (lt (4 * (((B.2 k).1) / 1024) + c))), (10, eI (nI c)), (9, eI (nI ((B.2 k).1))), (8, eI (nI k)), (7, eI (nI B1.1)), (5, eI (nI (2 ^ n - 1))), (4, eI (nI 1)), (0, eR 12 0), (1, eI (nI m)), (3, eI (nI gl))] dX12_goes_154 rfl (by decide) rfl ?_
      refine ez_iload 158 dX12_goes_156 rfl rfl ?_
      refine ez_iconst 159 dX12_goes_158 rfl (-1) (by decide) ?_
      refine ez_icmp_ne 162 165 dX12_goes_159 rfl (by decide) (fun h159 => ?_) (fun h159 => ?_)
      · rcases hwf.2.2 ((B.2 k).1 / 1024) c (by omega) (by omega) with z | ⟨-, r1, c1, b1, b2, b3⟩
        · exact absurd z h159
        rw [b3]
        show Ez (true, g) mX12_goes d 165 [(11, eI (nI (10 * r1 + c1))), (10, eI (nI c)), (9, eI (nI ((B.2 k).1))), (8, eI (nI k)), (7, eI (nI B1.1)), (5, eI (nI (2 ^ n - 1))), (4, eI (nI 1)), (0, eR 12 0), (1, eI (nI m)), (3, eI (nI gl))] [] M1 _
        refine ez_sipush 168 dX12_goes_165 rfl (nI 1024) (by decide) ?_
        refine ez_iload 170 dX12_goes_168 rfl rfl ?_
        refine ez_bipush 172 dX12_goes_170 rfl (nI 10) (by decide) ?_
        refine ez_idiv 173 dX12_goes_172 rfl (by decide) ?_
        refine ez_top (nI ((10 * r1 + c1) / 10)) (pk_div (by omega) (by omega) (by omega)) ?_
        refine ez_imul 174 dX12_goes_173 rfl ?_
        refine ez_top (nI (1024 * ((10 * r1 + c1) / 10))) (pk_mul _ _) ?_
        refine ez_iload 176 dX12_goes_174 rfl rfl ?_
        refine ez_nif_eq 179 196 dX12_goes_176 rfl (by decide) (by omega) (fun h176 => ?_) (fun h176 => ?_)
        · exact absurd h176 (by decide)
        · refine ez_iload 181 dX12_goes_179 rfl rfl ?_
          refine ez_sipush 184 dX12_goes_181 rfl (nI 1024) (by decide) ?_
          refine ez_irem 185 dX12_goes_184 rfl (by decide) ?_
          refine ez_top (nI (((B.2 k).1) % 1024)) (pk_rem (by omega) (by omega) (by omega)) ?_
          refine ez_iconst 186 dX12_goes_185 rfl (nI 1) (by decide) ?_
          refine ez_iload 188 dX12_goes_186 rfl rfl ?_
          refine ez_bipush 190 dX12_goes_188 rfl (nI 10) (by decide) ?_
          refine ez_idiv 191 dX12_goes_190 rfl (by decide) ?_
          refine ez_top (nI ((10 * r1 + c1) / 10)) (pk_div (by omega) (by omega) (by omega)) ?_
          refine ez_ishl 192 dX12_goes_191 rfl ?_
          refine ez_top (nI (2 ^ ((10 * r1 + c1) / 10))) (er_shl1 _ (by omega)) ?_
          refine ez_ior 193 dX12_goes_192 rfl ?_
          refine ez_top (nI ((B.2 k).1 % 1024 ||| 2 ^ ((10 * r1 + c1) / 10))) (fa_or2 _ _) ?_
          refine ez_goto 197 dX12_goes_193 (by decide) ?_
          refine ez_iadd 198 dX12_goes_197 rfl ?_
          refine ez_top (nI (1024 * ((10 * r1 + c1) / 10) + ((B.2 k).1 % 1024 ||| 2 ^ ((10 * r1 + c1) / 10)))) (nI_add _ _) ?_
          have o9 := (er_or2 ((10 * r1 + c1) / 10) (by omega) ((B.2 k).1 % 1024) (by omega)).1
          have p9 : 1024 * ((10 * r1 + c1) / 10) + ((B.2 k).1 % 1024 ||| 2 ^ ((10 * r1 + c1) / 10)) < 10240 := by omega
          generalize ep9 : 1024 * ((10 * r1 + c1) / 10) + ((B.2 k).1 % 1024 ||| 2 ^ ((10 * r1 + c1) / 10)) = pv at p9 ⊢
          refine ez_istore 200 [(12, eI (nI pv)), (11, eI (nI (10 * r1 + c1))), (10, eI (nI c)), (9, eI (nI ((B.2 k).1))), (8, eI (nI k)), (7, eI (nI B1.1)), (5, eI (nI (2 ^ n - 1))), (4, eI (nI 1)), (0, eR 12 0), (1, eI (nI m)), (3, eI (nI gl))] dX12_goes_198 rfl (by decide) rfl ?_
          by_cases hv : Bvis B1 pv
          · obtain ⟨i9, hi9, he9⟩ := hv
            have f8 := F9 i9 hi9
            have hv : Bvis B1 pv := ⟨i9, hi9, he9⟩
            refine ez_aload_n 201 dX12_goes_200 rfl rfl ?_
            refine ez_getf 204 (eR 64 0) dX12_goes_201 rfl fl_X12_81 (by show 0 < 1; omega) rfl ?_
            refine ez_iload 206 dX12_goes_204 rfl rfl ?_
            refine ez_ialdN pv 207 dX12_goes_206 rfl (by decide) (by show 0 < 1; omega) (by show pv < 10240; omega) ?_
            refine ez_top (nI ((B1.2 i9).2.1)) (by rw [← he9]; exact (hQ.1 i9 hi9).2) ?_
            refine ez_iconst 208 dX12_goes_207 rfl (-1) (by decide) ?_
            refine ez_icmp_eq 211 214 dX12_goes_208 rfl (by decide) (fun h208 => ?_) (fun h208 => ?_)
            · exact absurd h208 (ep_m1 (by omega))
            · refine ez_goto 242 dX12_goes_211 (by decide) ?_
              refine ez_iinc 245 (nI (c + 1)) [(10, eI (nI (c + 1))), (12, eI (nI pv)), (11, eI (nI (10 * r1 + c1))), (9, eI (nI ((B.2 k).1))), (8, eI (nI k)), (7, eI (nI B1.1)), (5, eI (nI (2 ^ n - 1))), (4, eI (nI 1)), (0, eR 12 0), (1, eI (nI m)), (3, eI (nI gl))] dX12_goes_242 rfl rfl (nI_add c 1) (by decide) rfl ?_
              refine ez_goto 135 dX12_goes_245 (by decide) ?_
              have s9 := a_sf_new (lt := lt) (e := B.2 k) (c := c) (show 10 * r1 + c1 < 2 ^ 31 by omega) b3
              rw [ep9] at s9
              refine ez_drop [(10, eI (nI (c + 1))), (9, eI (nI ((B.2 k).1))), (8, eI (nI k)), (7, eI (nI B1.1)), (5, eI (nI (2 ^ n - 1))), (4, eI (nI 1)), (0, eR 12 0), (1, eI (nI m)), (3, eI (nI gl))] (by simp) ?_
              have e7 := bf_d_new hD s9
              rw [bf_add_in hv] at e7
              exact ih (4 - (c + 1)) (by omega) (c + 1) B1 M1 rfl (by omega) e7 hQ hF
          · have hlt : B1.1 < 10240 := A9.lt N9 p9 hv
            refine ez_aload_n 201 dX12_goes_200 rfl rfl ?_
            refine ez_getf 204 (eR 64 0) dX12_goes_201 rfl fl_X12_81 (by show 0 < 1; omega) rfl ?_
            refine ez_iload 206 dX12_goes_204 rfl rfl ?_
            refine ez_ialdN pv 207 dX12_goes_206 rfl (by decide) (by show 0 < 1; omega) (by show pv < 10240; omega) ?_
            refine ez_top (-1) (hQ.2 pv p9 hv) ?_
            refine ez_iconst 208 dX12_goes_207 rfl (-1) (by decide) ?_
            refine ez_icmp_eq 211 214 dX12_goes_208 rfl (by decide) (fun h208 => ?_) (fun h208 => ?_)
            · refine ez_aload_n 215 dX12_goes_214 rfl rfl ?_
              refine ez_getf 218 (eR 64 0) dX12_goes_215 rfl fl_X12_81 (by show 0 < 1; omega) rfl ?_
              refine ez_iload 220 dX12_goes_218 rfl rfl ?_
              refine ez_aload_n 221 dX12_goes_220 rfl rfl ?_
              refine ez_getf 224 (eR 64 0) dX12_goes_221 rfl fl_X12_81 (by show 0 < 1; omega) rfl ?_
              refine ez_iload 226 dX12_goes_224 rfl rfl ?_
              refine ez_ialdN ((B.2 k).1) 227 dX12_goes_226 rfl (by decide) (by show 0 < 1; omega) (by show (B.2 k).1 < 10240; omega) ?_
              refine ez_top (nI ((B.2 k).2.1)) v9.2 ?_
              refine ez_iconst 228 dX12_goes_227 rfl (nI 1) (by decide) ?_
              refine ez_iadd 229 dX12_goes_228 rfl ?_
              refine ez_top (nI ((B.2 k).2.1 + 1)) (nI_add _ _) ?_
              refine ez_iastN pv 230 dX12_goes_229 rfl (by decide) (by show 0 < 1; omega) (by show pv < 10240; omega) ?_
              refine ez_aload_n 231 dX12_goes_230 rfl rfl ?_
              refine ez_getf 234 (eR 65 0) dX12_goes_231 rfl fl_X12_84 (by show 0 < 1; omega) rfl ?_
              refine ez_iload 236 dX12_goes_234 rfl rfl ?_
              refine ez_iload 238 dX12_goes_236 rfl rfl ?_
              refine ez_iastN B1.1 239 dX12_goes_238 rfl (by decide) (by show 0 < 1; omega) (by show B1.1 < 10240; omega) ?_
              refine ez_iinc 242 (nI (B1.1 + 1)) [(7, eI (nI (B1.1 + 1))), (12, eI (nI pv)), (11, eI (nI (10 * r1 + c1))), (10, eI (nI c)), (9, eI (nI ((B.2 k).1))), (8, eI (nI k)), (5, eI (nI (2 ^ n - 1))), (4, eI (nI 1)), (0, eR 12 0), (1, eI (nI m)), (3, eI (nI gl))] dX12_goes_239 rfl rfl (nI_add B1.1 1) (by decide) rfl ?_
              refine ez_iinc 245 (nI (c + 1)) [(10, eI (nI (c + 1))), (7, eI (nI (B1.1 + 1))), (12, eI (nI pv)), (11, eI (nI (10 * r1 + c1))), (9, eI (nI ((B.2 k).1))), (8, eI (nI k)), (5, eI (nI (2 ^ n - 1))), (4, eI (nI 1)), (0, eR 12 0), (1, eI (nI m)), (3, eI (nI gl))] dX12_goes_242 rfl rfl (nI_add c 1) (by decide) rfl ?_
              refine ez_goto 135 dX12_goes_245 (by decide) ?_
              have s9 := a_sf_new (lt := lt) (e := B.2 k) (c := c) (show 10 * r1 + c1 < 2 ^ 31 by omega) b3
              rw [ep9] at s9
              refine ez_drop [(10, eI (nI (c + 1))), (9, eI (nI ((B.2 k).1))), (8, eI (nI k)), (7, eI (nI (B1.1 + 1))), (5, eI (nI (2 ^ n - 1))), (4, eI (nI 1)), (0, eR 12 0), (1, eI (nI m)), (3, eI (nI gl))] (by simp) ?_
              have e8 : (bf_add B1 (pv, (B.2 k).2.1 + 1, nI 0)).1 = B1.1 + 1 := by rw [bf_add_new hv]
              rw [← e8]
              exact ih (4 - (c + 1)) (by omega) (c + 1) _ _ rfl (by omega) (bf_d_new hD s9) (QG_new hQ hv) ((hF.st (by unfold GF; omega)).st (by unfold GF; omega))
            · exact absurd rfl h208
      · refine ez_goto 242 dX12_goes_162 (by decide) ?_
        refine ez_iinc 245 (nI (c + 1)) [(10, eI (nI (c + 1))), (11, eI (lt (4 * (((B.2 k).1) / 1024) + c))), (9, eI (nI ((B.2 k).1))), (8, eI (nI k)), (7, eI (nI B1.1)), (5, eI (nI (2 ^ n - 1))), (4, eI (nI 1)), (0, eR 12 0), (1, eI (nI m)), (3, eI (nI gl))] dX12_goes_242 rfl rfl (nI_add c 1) (by decide) rfl ?_
        refine ez_goto 135 dX12_goes_245 (by decide) ?_
        refine ez_drop [(10, eI (nI (c + 1))), (9, eI (nI ((B.2 k).1))), (8, eI (nI k)), (7, eI (nI B1.1)), (5, eI (nI (2 ^ n - 1))), (4, eI (nI 1)), (0, eR 12 0), (1, eI (nI m)), (3, eI (nI gl))] (by simp) ?_
        exact ih (4 - (c + 1)) (by omega) (c + 1) B1 M1 rfl (by omega) (bf_d_skip hD (a_sf_skip h159)) hQ hF
set_option maxRecDepth 20000 in
theorem goes_248_1 (g : EzH) (d : Nat) (m k b n gl : Nat) (P : Option EzV → EzM → Prop) (M1 : EzM) (K : Ez (true, g) mX12_goes d 79 [(8, eI (nI (k + 1))), (7, eI (nI b)), (5, eI (nI (2 ^ n - 1))), (4, eI (nI 1)), (0, eR 12 0), (1, eI (nI m)), (3, eI (nI gl))] [] M1 P) : Ez (true, g) mX12_goes d 248 [(8, eI (nI k)), (7, eI (nI b)), (5, eI (nI (2 ^ n - 1))), (4, eI (nI 1)), (0, eR 12 0), (1, eI (nI m)), (3, eI (nI gl))] [] M1 (P) := by
  refine ez_iinc 251 (nI (k + 1)) [(8, eI (nI (k + 1))), (7, eI (nI b)), (5, eI (nI (2 ^ n - 1))), (4, eI (nI 1)), (0, eR 12 0), (1, eI (nI m)), (3, eI (nI gl))] dX12_goes_248 rfl rfl (nI_add k 1) (by decide) rfl ?_
  refine ez_goto 79 dX12_goes_251 (by decide) ?_
  exact K
set_option maxRecDepth 20000 in
theorem lp_goes79_1 (g : EzH) (d : Nat) {n r : Nat} {lt : Nat → Int32} (m gl : Nat) (M : EzM) (hd : 2 ≤ d) (hm : m < 4) (hwf : WFz n lt) (hr : r < n) (hZ : RMz m n lt M) : ∀ (z : Nat) (k : Nat) (B1 : BfS) (M1 : EzM), 10240 - k = z → k ≤ 10240 → bf_h (a_sf lt) (bf_0 (1024 * r + 2 ^ r)) k = (B1, none) → QG B1 M1 → (∀ i, i < k → i < B1.1 → ¬ (B1.2 i).1 % 1024 = 2 ^ n - 1) → FX GF M M1 → Ez (true, g) mX12_goes d 79 [(8, eI (nI k)), (7, eI (nI B1.1)), (5, eI (nI (2 ^ n - 1))), (4, eI (nI 1)), (0, eR 12 0), (1, eI (nI m)), (3, eI (nI gl))] [] M1 (fun r' M' => r' = some (eI (g_v (a_sf lt) (1024 * r + 2 ^ r) (fun e => decide (e.1 % 1024 = 2 ^ n - 1)))) ∧ FX GF M M') := by
  intro z
  induction z using Nat.strongRecOn with
  | ind z ih =>
    intro k B1 M1 hz hk hH hQ hj hF
    have n10 := hwf.2.1
    have o9 := er_or2 r (by have := hwf.2.1; omega) 0 (by omega)
    rw [Nat.zero_or] at o9
    have o8 : 2 ^ r < 2 ^ n := Nat.pow_lt_pow_right (by decide) hr
    have i0 : ∀ i, i < (bf_0 (1024 * r + 2 ^ r)).1 → a_I n r ((bf_0 (1024 * r + 2 ^ r)).2 i) := fun i _ => by
      show (1024 * r + 2 ^ r) / 1024 < n ∧ (1024 * r + 2 ^ r) % 1024 < 2 ^ n ∧ (1024 * r + 2 ^ r) % 1024 / 2 ^ r % 2 = 1 ∧ (1024 * r + 2 ^ r) % 1024 / 2 ^ ((1024 * r + 2 ^ r) / 1024) % 2 = 1
      have key : ∀ u, u < 1024 → (1024 * r + u) / 1024 = r ∧ (1024 * r + u) % 1024 = u := fun u hu => ⟨by omega, by omega⟩
      rw [(key _ o9.1).1, (key _ o9.1).2]
      exact ⟨hr, o8, o9.2, o9.2⟩
    have A9 : Bap B1 := by have := bf_h_ap (a_sf lt) (bf_0_ap (1024 * r + 2 ^ r)) k; rw [hH] at this; exact this
    have I9 : ∀ i, i < B1.1 → a_I n r (B1.2 i) := by have := bf_h_inv i0 (a_sf_I hwf) k; rw [hH] at this; exact this
    have F9 : Bfar B1 := by have := bf_h_far (a_sf_far lt) (bf_0_far (1024 * r + 2 ^ r)) k; rw [hH] at this; exact this
    have N9 : ∀ i, i < B1.1 → (B1.2 i).1 < 10240 := fun i hi => by have := (I9 i hi).1; omega
    have b101 := A9.le N9
    have p2 : 2 ^ n ≤ 1024 := by have := Nat.pow_le_pow_right (show 0 < 2 by decide) n10; omega
    refine ez_iload 81 dX12_goes_79 rfl rfl ?_
    refine ez_iload 83 dX12_goes_81 rfl rfl ?_
    refine ez_ncmp_ge 86 254 dX12_goes_83 rfl (by decide) (by omega) (by omega) (fun h83 => ?_) (fun h83 => ?_)
    · refine ez_iconst 255 dX12_goes_254 rfl (-1) (by decide) ?_
      refine ez_iret .int dX12_goes_255 rfl rfl ?_
      exact ⟨by rw [g_v_none (p := (fun e => decide (e.1 % 1024 = 2 ^ n - 1))) hH (by omega) hk (fun i hi => decide_eq_false (hj i (by omega) (by omega)))], hF⟩
    · have n9 := N9 k (by omega)
      have f8 := F9 k (by omega)
      refine ez_aload_n 87 dX12_goes_86 rfl rfl ?_
      refine ez_getf 90 (eR 65 0) dX12_goes_87 rfl fl_X12_84 (by show 0 < 1; omega) rfl ?_
      refine ez_iload 92 dX12_goes_90 rfl rfl ?_
      refine ez_ialdN k 93 dX12_goes_92 rfl (by decide) (by show 0 < 1; omega) (by show k < 10240; omega) ?_
      refine ez_top (nI ((B1.2 k).1)) (hQ.1 k (by omega)).1 ?_
      refine ez_istore 95 [(9, eI (nI ((B1.2 k).1))), (8, eI (nI k)), (7, eI (nI B1.1)), (5, eI (nI (2 ^ n - 1))), (4, eI (nI 1)), (0, eR 12 0), (1, eI (nI m)), (3, eI (nI gl))] dX12_goes_93 rfl (by decide) rfl ?_
      refine ez_iload 97 dX12_goes_95 rfl rfl ?_
      refine ez_nif_eq 100 114 dX12_goes_97 rfl (by decide) (by omega) (fun h97 => ?_) (fun h97 => ?_)
      · exact absurd h97 (by decide)
      · refine ez_iload 102 dX12_goes_100 rfl rfl ?_
        refine ez_sipush 105 dX12_goes_102 rfl (nI 1024) (by decide) ?_
        refine ez_irem 106 dX12_goes_105 rfl (by decide) ?_
        refine ez_top (nI (((B1.2 k).1) % 1024)) (pk_rem (by omega) (by omega) (by omega)) ?_
        refine ez_iload 108 dX12_goes_106 rfl rfl ?_
        refine ez_ncmp_ne 111 132 dX12_goes_108 rfl (by decide) (by omega) (by omega) (fun h108 => ?_) (fun h108 => ?_)
        · refine ez_iconst 133 dX12_goes_132 rfl (nI 0) (by decide) ?_
          refine ez_istore 135 [(10, eI (nI 0)), (9, eI (nI ((B1.2 k).1))), (8, eI (nI k)), (7, eI (nI B1.1)), (5, eI (nI (2 ^ n - 1))), (4, eI (nI 1)), (0, eR 12 0), (1, eI (nI m)), (3, eI (nI gl))] dX12_goes_133 rfl (by decide) rfl ?_
          refine ez_drop [(10, eI (nI 0)), (9, eI (nI ((B1.2 k).1))), (8, eI (nI k)), (7, eI (nI B1.1)), (5, eI (nI (2 ^ n - 1))), (4, eI (nI 1)), (0, eR 12 0), (1, eI (nI m)), (3, eI (nI gl))] (by simp) ?_
          refine lp_goes135_1 g d (r := r) m k gl _ M hd hm hwf hr hZ (by omega) A9 I9 F9 (fun B2 M' e91 q91 f91 => ?_) _ 0 B1 M1 rfl (by omega) rfl hQ hF
          refine goes_248_1 g d m k B2.1 n gl _ M' ?_
          have H2 := bf_h_go hH (by omega) e91
          have X2 : BfX B1 B2 := by have := bf_h_ext1 (a_sf lt) (bf_0 (1024 * r + 2 ^ r)) k; rw [hH, H2] at this; exact this
          exact ih (10240 - (k + 1)) (by omega) (k + 1) B2 M' rfl (by omega) H2 q91 (fun i hi hi2 => by
            by_cases e : i = k
            · rw [e, X2.2 k (by omega)]; exact h108
            · rw [X2.2 i (by omega)]; exact hj i (by omega) (by omega)) f91
        · refine ez_goto 124 dX12_goes_111 (by decide) ?_
          refine ez_aload_n 125 dX12_goes_124 rfl rfl ?_
          refine ez_getf 128 (eR 64 0) dX12_goes_125 rfl fl_X12_81 (by show 0 < 1; omega) rfl ?_
          refine ez_iload 130 dX12_goes_128 rfl rfl ?_
          refine ez_ialdN ((B1.2 k).1) 131 dX12_goes_130 rfl (by decide) (by show 0 < 1; omega) (by show (B1.2 k).1 < 10240; omega) ?_
          refine ez_top (nI ((B1.2 k).2.1)) (hQ.1 k (by omega)).2 ?_
          refine ez_iret .int dX12_goes_131 rfl rfl ?_
          exact ⟨by rw [g_v_some (p := (fun e => decide (e.1 % 1024 = 2 ^ n - 1))) hH (by omega) hk (decide_eq_true h108) (fun i hi => decide_eq_false (hj i hi (by omega)))], hF⟩
set_option maxRecDepth 20000 in
theorem goes_37_1 (g : EzH) (d : Nat) {n r : Nat} {lt : Nat → Int32} (m gl : Nat) (M M1 : EzM) (hd : 2 ≤ d) (hm : m < 4) (hwf : WFz n lt) (hr : r < n) (hZ : RMz m n lt M) (hM : ∀ j, j < 10240 → M1.1 64 0 j = -1) (hF : FX GF M M1) : Ez (true, g) mX12_goes d 37 [(5, eI (nI (2 ^ n - 1))), (0, eR 12 0), (1, eI (nI m)), (2, eI (nI r)), (3, eI (nI gl)), (4, eI (nI 1))] [] M1 (fun r' M' => r' = some (eI (g_v (a_sf lt) (1024 * r + 2 ^ r) (fun e => decide (e.1 % 1024 = 2 ^ n - 1)))) ∧ FX GF M M') := by
  have n10 := hwf.2.1
  have p9 : 2 ^ r ≤ 512 := by have := Nat.pow_le_pow_right (show 0 < 2 by decide) (show r ≤ 9 by omega); omega
  refine ez_sipush 40 dX12_goes_37 rfl (nI 1024) (by decide) ?_
  refine ez_iload_n 41 dX12_goes_40 rfl rfl ?_
  refine ez_imul 42 dX12_goes_41 rfl ?_
  refine ez_top (nI (1024 * r)) (pk_mul _ _) ?_
  refine ez_iload 44 dX12_goes_42 rfl rfl ?_
  refine ez_nif_eq 47 53 dX12_goes_44 rfl (by decide) (by omega) (fun h44 => ?_) (fun h44 => ?_)
  · exact absurd h44 (by decide)
  · refine ez_iconst 48 dX12_goes_47 rfl (nI 1) (by decide) ?_
    refine ez_iload_n 49 dX12_goes_48 rfl rfl ?_
    refine ez_ishl 50 dX12_goes_49 rfl ?_
    refine ez_top (nI (2 ^ r)) (er_shl1 _ (by omega)) ?_
    refine ez_goto 54 dX12_goes_50 (by decide) ?_
    refine ez_iadd 55 dX12_goes_54 rfl ?_
    refine ez_top (nI (1024 * r + 2 ^ r)) (nI_add _ _) ?_
    refine ez_istore 57 [(6, eI (nI (1024 * r + 2 ^ r))), (5, eI (nI (2 ^ n - 1))), (0, eR 12 0), (1, eI (nI m)), (2, eI (nI r)), (3, eI (nI gl)), (4, eI (nI 1))] dX12_goes_55 rfl (by decide) rfl ?_
    refine ez_aload_n 58 dX12_goes_57 rfl rfl ?_
    refine ez_getf 61 (eR 64 0) dX12_goes_58 rfl fl_X12_81 (by show 0 < 1; omega) rfl ?_
    refine ez_iload 63 dX12_goes_61 rfl rfl ?_
    refine ez_iconst 64 dX12_goes_63 rfl (nI 0) (by decide) ?_
    refine ez_iastN (1024 * r + 2 ^ r) 65 dX12_goes_64 rfl (by decide) (by show 0 < 1; omega) (by show 1024 * r + 2 ^ r < 10240; omega) ?_
    refine ez_aload_n 66 dX12_goes_65 rfl rfl ?_
    refine ez_getf 69 (eR 65 0) dX12_goes_66 rfl fl_X12_84 (by show 0 < 1; omega) rfl ?_
    refine ez_iconst 70 dX12_goes_69 rfl (nI 0) (by decide) ?_
    refine ez_iload 72 dX12_goes_70 rfl rfl ?_
    refine ez_iastN 0 73 dX12_goes_72 rfl (by decide) (by show 0 < 1; omega) (by show 0 < 10240; omega) ?_
    refine ez_iconst 74 dX12_goes_73 rfl (nI 1) (by decide) ?_
    refine ez_istore 76 [(7, eI (nI 1)), (6, eI (nI (1024 * r + 2 ^ r))), (5, eI (nI (2 ^ n - 1))), (0, eR 12 0), (1, eI (nI m)), (2, eI (nI r)), (3, eI (nI gl)), (4, eI (nI 1))] dX12_goes_74 rfl (by decide) rfl ?_
    refine ez_iconst 77 dX12_goes_76 rfl (nI 0) (by decide) ?_
    refine ez_istore 79 [(8, eI (nI 0)), (7, eI (nI 1)), (6, eI (nI (1024 * r + 2 ^ r))), (5, eI (nI (2 ^ n - 1))), (0, eR 12 0), (1, eI (nI m)), (2, eI (nI r)), (3, eI (nI gl)), (4, eI (nI 1))] dX12_goes_77 rfl (by decide) rfl ?_
    have Q9 : QG (bf_0 (1024 * r + 2 ^ r)) (ez_st (ez_st M1 64 0 (1024 * r + 2 ^ r) (nI 0)) 65 0 0 (nI (1024 * r + 2 ^ r))) := by
      refine ⟨fun i hi => ?_, fun j hj z => ?_⟩
      · have hi' : i < 1 := hi
        rw [show i = 0 by omega]
        have e0 : (bf_0 (1024 * r + 2 ^ r)).2 0 = (1024 * r + 2 ^ r, 0, nI 0) := rfl
        rw [e0]
        simp [ez_rd]
      · have e : ¬ j = 1024 * r + 2 ^ r := fun e => z (bf_0_vis.mpr e)
        rw [ez_rd, if_neg (by omega), ez_rd, if_neg (fun z9 => e z9.2.2)]
        exact hM j hj
    refine ez_drop [(8, eI (nI 0)), (7, eI (nI 1)), (5, eI (nI (2 ^ n - 1))), (4, eI (nI 1)), (0, eR 12 0), (1, eI (nI m)), (3, eI (nI gl))] (by simp) ?_
    exact lp_goes79_1 g d (r := r) m gl M hd hm hwf hr hZ _ 0 (bf_0 (1024 * r + 2 ^ r)) _ rfl (by omega) rfl Q9 (fun i hi => by omega) ((hF.st (by unfold GF; omega)).st (by unfold GF; omega))
set_option maxRecDepth 20000 in
theorem lp_goes15_1 (g : EzH) (d : Nat) {n r : Nat} {lt : Nat → Int32} (m gl : Nat) (M : EzM) (hd : 2 ≤ d) (hm : m < 4) (hwf : WFz n lt) (hr : r < n) (hZ : RMz m n lt M) : ∀ (z : Nat) (t : Nat) (M1 : EzM), 10240 - t = z → t ≤ 10240 → (∀ j, j < t → M1.1 64 0 j = -1) → FX GF M M1 → Ez (true, g) mX12_goes d 15 [(6, eI (nI t)), (5, eI (nI (2 ^ n - 1))), (0, eR 12 0), (1, eI (nI m)), (2, eI (nI r)), (3, eI (nI gl)), (4, eI (nI 1))] [] M1 (fun r' M' => r' = some (eI (g_v (a_sf lt) (1024 * r + 2 ^ r) (fun e => decide (e.1 % 1024 = 2 ^ n - 1)))) ∧ FX GF M M') := by
  intro z
  induction z using Nat.strongRecOn with
  | ind z ih =>
    intro t M1 hz ht hM hF
    refine ez_iload 17 dX12_goes_15 rfl rfl ?_
    refine ez_sipush 20 dX12_goes_17 rfl (nI 10240) (by decide) ?_
    refine ez_ncmp_ge 23 37 dX12_goes_20 rfl (by decide) (by omega) (by omega) (fun h20 => ?_) (fun h20 => ?_)
    · refine ez_drop [(5, eI (nI (2 ^ n - 1))), (0, eR 12 0), (1, eI (nI m)), (2, eI (nI r)), (3, eI (nI gl)), (4, eI (nI 1))] (by simp) ?_
      exact goes_37_1 g d (r := r) m gl M M1 hd hm hwf hr hZ (fun j hj => hM j (by omega)) hF
    · refine ez_aload_n 24 dX12_goes_23 rfl rfl ?_
      refine ez_getf 27 (eR 64 0) dX12_goes_24 rfl fl_X12_81 (by show 0 < 1; omega) rfl ?_
      refine ez_iload 29 dX12_goes_27 rfl rfl ?_
      refine ez_iconst 30 dX12_goes_29 rfl (-1) (by decide) ?_
      refine ez_iastN t 31 dX12_goes_30 rfl (by decide) (by show 0 < 1; omega) (by show t < 10240; omega) ?_
      refine ez_iinc 34 (nI (t + 1)) [(6, eI (nI (t + 1))), (5, eI (nI (2 ^ n - 1))), (0, eR 12 0), (1, eI (nI m)), (2, eI (nI r)), (3, eI (nI gl)), (4, eI (nI 1))] dX12_goes_31 rfl rfl (nI_add t 1) (by decide) rfl ?_
      refine ez_goto 15 dX12_goes_34 (by decide) ?_
      exact ih (10240 - (t + 1)) (by omega) (t + 1) _ rfl (by omega) (fun j hj => by
        rw [ez_rd]
        by_cases e : j = t
        · rw [if_pos ⟨rfl, rfl, e⟩]
        · rw [if_neg (by omega)]; exact hM j (by omega)) (hF.st (by unfold GF; omega))
set_option maxRecDepth 20000 in
theorem c_goes_1 (g : EzH) (d : Nat) {n r : Nat} {lt : Nat → Int32} (m gl : Nat) (M : EzM) (hd : 2 ≤ d) (hm : m < 4) (hwf : WFz n lt) (hr : r < n) (hZ : RMz m n lt M) : Ezc (true, g) mX12_goes d [eR 12 0, eI (nI m), eI (nI r), eI (nI gl), eI (nI 1)] M (fun r' M' => r' = some (eI (g_v (a_sf lt) (1024 * r + 2 ^ r) (fun e => decide (e.1 % 1024 = 2 ^ n - 1)))) ∧ FX GF M M') := by
  refine Ezc.of (by decide +kernel) (Nat.le_of_ble_eq_true rfl) ?_
  have n10 := hwf.2.1
  show Ez (true, g) mX12_goes d 0 [(0, eR 12 0), (1, eI (nI m)), (2, eI (nI r)), (3, eI (nI gl)), (4, eI (nI 1))] [] M _
  refine ez_iconst 1 dX12_goes_0 rfl (nI 1) (by decide) ?_
  refine ez_aload_n 2 dX12_goes_1 rfl rfl ?_
  refine ez_getf 5 (eR 46 0) dX12_goes_2 rfl fl_X12_26 (by show 0 < 1; omega) rfl ?_
  refine ez_iload_n 6 dX12_goes_5 rfl rfl ?_
  refine ez_ialdN m 7 dX12_goes_6 rfl (by decide) (by show 0 < 1; omega) (by show m < 4; omega) ?_
  refine ez_top (nI n) hZ.1 ?_
  refine ez_ishl 8 dX12_goes_7 rfl ?_
  refine ez_top (nI (2 ^ n)) (er_shl1 _ (by omega)) ?_
  refine ez_iconst 9 dX12_goes_8 rfl (nI 1) (by decide) ?_
  refine ez_isub 10 dX12_goes_9 rfl ?_
  refine ez_top (nI (2 ^ n - 1)) (pk_sub (Nat.one_le_two_pow)) ?_
  refine ez_istore 12 [(5, eI (nI (2 ^ n - 1))), (0, eR 12 0), (1, eI (nI m)), (2, eI (nI r)), (3, eI (nI gl)), (4, eI (nI 1))] dX12_goes_10 rfl (by decide) rfl ?_
  refine ez_iconst 13 dX12_goes_12 rfl (nI 0) (by decide) ?_
  refine ez_istore 15 [(6, eI (nI 0)), (5, eI (nI (2 ^ n - 1))), (0, eR 12 0), (1, eI (nI m)), (2, eI (nI r)), (3, eI (nI gl)), (4, eI (nI 1))] dX12_goes_13 rfl (by decide) rfl ?_
  refine ez_drop [(6, eI (nI 0)), (5, eI (nI (2 ^ n - 1))), (0, eR 12 0), (1, eI (nI m)), (2, eI (nI r)), (3, eI (nI gl)), (4, eI (nI 1))] (by simp) ?_
  exact lp_goes15_1 g d (r := r) m gl M hd hm hwf hr hZ _ 0 M rfl (by omega) (fun j hj => by omega) FX.rf
