/-! the first text, in the class and in the model -/
def fx_b1 (i : Nat) : Nat := ([103, 111, 32, 49, 32, 59, 32, 112, 117, 116, 32, 112, 101, 98, 98, 108, 101, 115, 32, 61, 32, 48, 32, 59, 32, 116, 97, 107, 101, 32, 48, 32, 59] : List Nat).getD i 0
def fx_b2 (i : Nat) : Nat := ([103, 111, 32, 49, 32, 59, 32, 112, 117, 116, 32, 112, 101, 98, 98, 108, 101, 115, 32, 61, 32, 48, 32, 59, 32, 116, 97, 107, 101, 32, 48, 32, 59, 32, 32, 32, 32, 32, 32, 32] : List Nat).getD i 0
def fx_tk (k : Nat) : Nat := ([16, 1001, 59, 17, 12, 61, 1000, 59, 18, 1000, 59] : List Nat).getD k 0
def fx_f : EpF := fun k => if k = 0 then ([nI 1], fun _ => nI 1) else if k = 1 then ([-10 - nI 2, nI 0, -24], fun nm => ep_tr (nm 2 = nI 0)) else ([nI 0], fun _ => nI 0)
theorem fx_pl {b : Nat → Nat} {n : Nat} (h : ep_pl b n 11 = n) : ∀ k, ep_pl b n (11 + k) = n
  | 0 => h
  | k + 1 => by
    show ep_sk b n (ep_en b n (ep_pl b n (11 + k))) = n
    have e : ep_en b n n = n := by unfold ep_en; rw [if_pos (Nat.le_refl _)]
    rw [fx_pl h k, e]
    have := ep_sk_le b (Nat.le_refl n)
    omega
theorem fx_t {b : Nat → Nat} {n : Nat} (h : ep_pl b n 11 = n) (h2 : ∀ k, k < 11 → ep_tk b n k = fx_tk k) : ep_tk b n = fx_tk := funext fun k => by
  by_cases hk : k < 11
  · exact h2 k hk
  · have e := fx_pl h (k - 11)
    rw [show 11 + (k - 11) = k by omega] at e
    unfold ep_tk
    rw [e]
    unfold ep_tok fx_tk
    rw [if_pos (Nat.le_refl _), List.getD_eq_getElem?_getD, List.getElem?_eq_none (Nat.le_of_not_lt hk)]
    rfl
theorem fx_t1 : ep_tk fx_b1 33 = fx_tk := fx_t (by decide +kernel) (by decide +kernel)
theorem fx_t2 : ep_tk fx_b2 40 = fx_tk := fx_t (by decide +kernel) (by decide +kernel)
set_option maxRecDepth 20000 in
theorem fx_tx : EpTx fx_tk 140 (.inl fx_f) := ⟨3, 8, 11, rfl, rfl, rfl, rfl⟩
def fx_sb (w : Int64) (i : Nat) : Int32 := ((w >>> ((nI (56 - 8 * i)).toInt64 &&& 63)) &&& 255).toInt32
set_option maxRecDepth 20000 in
theorem lp_spell (g : EzH) (d : Nat) (x : Nat) (w : Int64) (M : EzM) (hx : x + 8 ≤ 960) : ∀ (z : Nat) (i : Nat) (M1 : EzM), 8 - i = z → i ≤ 8 → (∀ y, y < i → M1.1 42 0 (x + y) = fx_sb w y) → FX (fun k i s => k = 42 ∧ x ≤ s ∧ s < x + 8) M M1 → Ez (true, g) mX12_spell d 3 [(4, eI (nI i)), (2, eL w), (1, eI (nI x)), (0, eR 12 0)] [] M1 (fun r M' => r = none ∧ (∀ i, i < 8 → M'.1 42 0 (x + i) = fx_sb w i) ∧ FX (fun k i s => k = 42 ∧ x ≤ s ∧ s < x + 8) M M') := by
  intro z
  induction z using Nat.strongRecOn with
  | ind z ih =>
    intro i M1 hz hi hv hF
    refine ez_iload 5 dX12_spell_3 rfl rfl ?_
    refine ez_bipush 7 dX12_spell_5 rfl (nI 8) (by decide) ?_
    refine ez_ncmp_ge 10 40 dX12_spell_7 rfl (by decide) (by omega) (by omega) (fun h7 => ?_) (fun h7 => ?_)
    · refine ez_vret dX12_spell_40 rfl ?_
      exact ⟨rfl, fun y hy => hv y (by omega), hF⟩
    · refine ez_aload_n 11 dX12_spell_10 rfl rfl ?_
      refine ez_getf 14 (eR 42 0) dX12_spell_11 rfl fl_X12_13 (by show 0 < 1; omega) rfl ?_
      refine ez_iload_n 15 dX12_spell_14 rfl rfl ?_
      refine ez_iload 17 dX12_spell_15 rfl rfl ?_
      refine ez_iadd 18 dX12_spell_17 rfl ?_
      refine ez_top (nI (x + i)) (nI_add _ _) ?_
      refine ez_lload_n 19 dX12_spell_18 rfl rfl ?_
      refine ez_bipush 21 dX12_spell_19 rfl (nI 56) (by decide) ?_
      refine ez_bipush 23 dX12_spell_21 rfl (nI 8) (by decide) ?_
      refine ez_iload 25 dX12_spell_23 rfl rfl ?_
      refine ez_imul 26 dX12_spell_25 rfl ?_
      refine ez_top (nI (8 * i)) (pk_mul _ _) ?_
      refine ez_isub 27 dX12_spell_26 rfl ?_
      refine ez_top (nI (56 - (8 * i))) (pk_sub (by omega)) ?_
      refine ez_lshr 28 dX12_spell_27 rfl ?_
      refine ez_ldc2 31 dX12_spell_28 rfl 255 cn_X12_128 ?_
      refine ez_land 32 dX12_spell_31 rfl ?_
      refine ez_l2i 33 dX12_spell_32 rfl ?_
      refine ez_iastN (x + i) 34 dX12_spell_33 rfl (by decide) (by show 0 < 1; omega) (by show x + i < 960; omega) ?_
      refine ez_iinc 37 (nI (i + 1)) [(4, eI (nI (i + 1))), (2, eL w), (1, eI (nI x)), (0, eR 12 0)] dX12_spell_34 rfl rfl (nI_add i 1) (by decide) rfl ?_
      refine ez_goto 3 dX12_spell_37 (by decide) ?_
      refine ih (8 - (i + 1)) (by omega) (i + 1) _ rfl (by omega) (fun y hy => ?_) (hF.st (by omega))
      rw [ez_rd]
      by_cases e : y = i
      · rw [if_pos (by omega), e]; rfl
      · rw [if_neg (by omega)]; exact hv y (by omega)
set_option maxRecDepth 20000 in
theorem c_X12_spell (g : EzH) (d : Nat) (x : Nat) (w : Int64) (M : EzM) (hx : x + 8 ≤ 960) : Ezc (true, g) mX12_spell d [eR 12 0, eI (nI x), eL w] M (fun r M' => r = none ∧ (∀ i, i < 8 → M'.1 42 0 (x + i) = fx_sb w i) ∧ FX (fun k i s => k = 42 ∧ x ≤ s ∧ s < x + 8) M M') := by
  refine Ezc.of (by decide +kernel) (Nat.le_of_ble_eq_true rfl) ?_
  show Ez (true, g) mX12_spell d 0 [(0, eR 12 0), (1, eI (nI x)), (2, eL w)] [] M _
  refine ez_iconst 1 dX12_spell_0 rfl (nI 0) (by decide) ?_
  refine ez_istore 3 [(4, eI (nI 0)), (0, eR 12 0), (1, eI (nI x)), (2, eL w)] dX12_spell_1 rfl (by decide) rfl ?_
  refine ez_drop [(4, eI (nI 0)), (2, eL w), (1, eI (nI x)), (0, eR 12 0)] (by simp) ?_
  exact lp_spell g d x w M hx _ 0 M rfl (by omega) (fun y hy => absurd hy (Nat.not_lt_zero y)) FX.rf
theorem fx_sp : (∀ i, i < 8 → fx_sb 7453211303687692400 i = nI (fx_b2 i)) ∧ (∀ i, i < 8 → fx_sb 8463425266845377132 i = nI (fx_b2 (8 + i))) ∧ (∀ i, i < 8 → fx_sb 7310222067057565755 i = nI (fx_b2 (16 + i))) ∧ (∀ i, i < 8 → fx_sb 2338601220398133280 i = nI (fx_b2 (24 + i))) ∧ ∀ i, i < 8 → fx_sb 4260440569842507808 i = nI (fx_b2 (32 + i)) := by decide +kernel
theorem fx_b1c : ∀ i, i < 33 → fx_b1 i < 256 ∧ (ez_ch 12 i).toInt8.toInt32 = ep_sb (fx_b1 i) := by decide +kernel
theorem fx_b2c : ∀ i, i < 40 → fx_b2 i < 256 := by decide +kernel
