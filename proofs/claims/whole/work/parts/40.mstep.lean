/-! the model's step -/
def ep_dp (lt : Nat → Int32) (r : Nat) : Nat → Nat
  | 0 => 0
  | c + 1 => ep_dp lt r c + (if lt (4 * r + c) = -1 then 0 else 2 ^ c)
theorem ep_dp4 (lt : Nat → Int32) (r : Nat) : ep_dp lt r 4 = ep_dn lt r := by
  show (((0 + _) + _) + _) + _ = _
  unfold ep_dn
  rw [Nat.zero_add]
  rfl
theorem ep_dp_lt (lt : Nat → Int32) (r : Nat) : ∀ c, ep_dp lt r c < 2 ^ c
  | 0 => by show 0 < 1; decide
  | c + 1 => by
    have := ep_dp_lt lt r c
    show ep_dp lt r c + (if lt (4 * r + c) = -1 then 0 else 2 ^ c) < 2 ^ (c + 1)
    rw [Nat.pow_succ]
    split <;> omega
theorem ep_orn : ∀ c, c < 4 → ∀ a, a < 2 ^ c → (nI a ||| (nI 1 <<< (nI c &&& 31))) = nI (a + 2 ^ c) ∧ (nI a ||| nI 0) = nI a := by decide +kernel
def ep_cl (y : Nat) : Nat := y &&& (y - 1)
theorem ep_cln : ∀ y, y < 16 → 0 < y → (nI y &&& nI (y - 1)) = nI (ep_cl y) ∧ ep_cl y < y ∧ ep_bc (ep_cl y) + 1 = ep_bc y := by decide +kernel
set_option maxRecDepth 20000 in
theorem lp_doorsOf (g : EzH) (d : Nat) (m n r : Nat) (lt : Nat → Int32) (M : EzM) (hd : 1 ≤ d) (hm : m < 4) (hr : r < 10) (hZ : RMz m n lt M) : ∀ (z : Nat) (c : Nat), 4 - c = z → c ≤ 4 → Ez (true, g) mX12_doorsOf d 5 [(4, eI (nI c)), (3, eI (nI (ep_dp lt r c))), (0, eR 12 0), (1, eI (nI m)), (2, eI (nI r))] [] M (fun q M' => q = some (eI (nI (ep_dn lt r))) ∧ M' = M) := by
  intro z
  induction z using Nat.strongRecOn with
  | ind z ih =>
    intro c hz hc
    refine ez_iload 7 dX12_doorsOf_5 rfl rfl ?_
    refine ez_iconst 8 dX12_doorsOf_7 rfl (nI 4) (by decide) ?_
    refine ez_ncmp_ge 11 40 dX12_doorsOf_8 rfl (by decide) (by omega) (by omega) (fun h8 => ?_) (fun h8 => ?_)
    · refine ez_iload_n 41 dX12_doorsOf_40 rfl rfl ?_
      refine ez_iret .int dX12_doorsOf_41 rfl rfl ?_
      exact ⟨by rw [← ep_dp4, show c = 4 by omega], rfl⟩
    · refine ez_iload_n 12 dX12_doorsOf_11 rfl rfl ?_
      refine ez_aload_n 13 dX12_doorsOf_12 rfl rfl ?_
      refine ez_iload_n 14 dX12_doorsOf_13 rfl rfl ?_
      refine ez_iload_n 15 dX12_doorsOf_14 rfl rfl ?_
      refine ez_iload 17 dX12_doorsOf_15 rfl rfl ?_
      refine ez_callV 20 [eI (nI m), eI (nI r), eI (nI c)] [eI (nI (ep_dp lt r c))] dX12_doorsOf_17 rfl rfl ok_X12_to in_X12_to (by decide) (by show 0 < 1; omega) ln_X12_170 (by omega) (Nat.le_of_ble_eq_true rfl) (c_X12_to g (d - 1) m r c M (by omega) (by omega) (by omega)) (fun r17 M17 q17 => ?_)
      obtain ⟨rfl, e17⟩ := q17
      rw [e17, show M.1 45 0 (40 * m + (4 * r + c)) = lt (4 * r + c) from hZ.2 _ (by omega)]
      show Ez (true, g) mX12_doorsOf d 20 [(4, eI (nI c)), (3, eI (nI (ep_dp lt r c))), (0, eR 12 0), (1, eI (nI m)), (2, eI (nI r))] [eI (lt (4 * r + c)), eI (nI (ep_dp lt r c))] M _
      refine ez_iconst 21 dX12_doorsOf_20 rfl (-1) (by decide) ?_
      refine ez_icmp_eq 24 31 dX12_doorsOf_21 rfl (by decide) (fun h21 => ?_) (fun h21 => ?_)
      · refine ez_iconst 32 dX12_doorsOf_31 rfl (nI 0) (by decide) ?_
        refine ez_ior 33 dX12_doorsOf_32 rfl ?_
        refine ez_top (nI (ep_dp lt r (c + 1))) (by rw [(ep_orn c (by omega) _ (ep_dp_lt lt r c)).2]; show _ = nI (ep_dp lt r c + (if lt (4 * r + c) = -1 then 0 else 2 ^ c)); rw [if_pos h21, Nat.add_zero]) ?_
        refine ez_istore_n 34 [(3, eI (nI (ep_dp lt r (c + 1)))), (4, eI (nI c)), (0, eR 12 0), (1, eI (nI m)), (2, eI (nI r))] dX12_doorsOf_33 rfl (by decide) rfl ?_
        refine ez_iinc 37 (nI (c + 1)) [(4, eI (nI (c + 1))), (3, eI (nI (ep_dp lt r (c + 1)))), (0, eR 12 0), (1, eI (nI m)), (2, eI (nI r))] dX12_doorsOf_34 rfl rfl (nI_add c 1) (by decide) rfl ?_
        refine ez_goto 5 dX12_doorsOf_37 (by decide) ?_
        exact ih (4 - (c + 1)) (by omega) (c + 1) rfl (by omega)
      · refine ez_iconst 25 dX12_doorsOf_24 rfl (nI 1) (by decide) ?_
        refine ez_iload 27 dX12_doorsOf_25 rfl rfl ?_
        refine ez_ishl 28 dX12_doorsOf_27 rfl ?_
        refine ez_goto 32 dX12_doorsOf_28 (by decide) ?_
        refine ez_ior 33 dX12_doorsOf_32 rfl ?_
        refine ez_top (nI (ep_dp lt r (c + 1))) (by rw [(ep_orn c (by omega) _ (ep_dp_lt lt r c)).1]; show _ = nI (ep_dp lt r c + (if lt (4 * r + c) = -1 then 0 else 2 ^ c)); rw [if_neg h21]) ?_
        refine ez_istore_n 34 [(3, eI (nI (ep_dp lt r (c + 1)))), (4, eI (nI c)), (0, eR 12 0), (1, eI (nI m)), (2, eI (nI r))] dX12_doorsOf_33 rfl (by decide) rfl ?_
        refine ez_iinc 37 (nI (c + 1)) [(4, eI (nI (c + 1))), (3, eI (nI (ep_dp lt r (c + 1)))), (0, eR 12 0), (1, eI (nI m)), (2, eI (nI r))] dX12_doorsOf_34 rfl rfl (nI_add c 1) (by decide) rfl ?_
        refine ez_goto 5 dX12_doorsOf_37 (by decide) ?_
        exact ih (4 - (c + 1)) (by omega) (c + 1) rfl (by omega)
set_option maxRecDepth 20000 in
theorem c_X12_doorsOf (g : EzH) (d : Nat) (m n r : Nat) (lt : Nat → Int32) (M : EzM) (hd : 1 ≤ d) (hm : m < 4) (hr : r < 10) (hZ : RMz m n lt M) : Ezc (true, g) mX12_doorsOf d [eR 12 0, eI (nI m), eI (nI r)] M (fun q M' => q = some (eI (nI (ep_dn lt r))) ∧ M' = M) := by
  refine Ezc.of (by decide +kernel) (Nat.le_of_ble_eq_true rfl) ?_
  show Ez (true, g) mX12_doorsOf d 0 [(0, eR 12 0), (1, eI (nI m)), (2, eI (nI r))] [] M _
  refine ez_iconst 1 dX12_doorsOf_0 rfl (nI 0) (by decide) ?_
  refine ez_istore_n 2 [(3, eI (nI 0)), (0, eR 12 0), (1, eI (nI m)), (2, eI (nI r))] dX12_doorsOf_1 rfl (by decide) rfl ?_
  refine ez_iconst 3 dX12_doorsOf_2 rfl (nI 0) (by decide) ?_
  refine ez_istore 5 [(4, eI (nI 0)), (3, eI (nI 0)), (0, eR 12 0), (1, eI (nI m)), (2, eI (nI r))] dX12_doorsOf_3 rfl (by decide) rfl ?_
  exact lp_doorsOf g d m n r lt M hd hm hr hZ _ 0 rfl (by omega)
set_option maxRecDepth 20000 in
theorem lp_bitsOf (g : EzH) (d : Nat) (x : Nat) (M : EzM) (hx : x < 16) : ∀ (z : Nat) (t : Nat) (y : Nat), y = z → y < 16 → t + ep_bc y = ep_bc x → Ez (true, g) mX12_bitsOf d 4 [(2, eI (nI y)), (1, eI (nI t)), (0, eI (nI x))] [] M (fun r M' => r = some (eI (nI (ep_bc x))) ∧ M' = M) := by
  intro z
  induction z using Nat.strongRecOn with
  | ind z ih =>
    intro t y hz hy ht
    refine ez_iload_n 5 dX12_bitsOf_4 rfl rfl ?_
    refine ez_nif_eq 8 20 dX12_bitsOf_5 rfl (by decide) (by omega) (fun h5 => ?_) (fun h5 => ?_)
    · refine ez_iload_n 21 dX12_bitsOf_20 rfl rfl ?_
      refine ez_iret .int dX12_bitsOf_21 rfl rfl ?_
      exact ⟨by rw [← ht, h5]; rfl, rfl⟩
    · refine ez_iinc 11 (nI (t + 1)) [(1, eI (nI (t + 1))), (2, eI (nI y)), (0, eI (nI x))] dX12_bitsOf_8 rfl rfl (nI_add t 1) (by decide) rfl ?_
      refine ez_iload_n 12 dX12_bitsOf_11 rfl rfl ?_
      refine ez_iload_n 13 dX12_bitsOf_12 rfl rfl ?_
      refine ez_iconst 14 dX12_bitsOf_13 rfl (nI 1) (by decide) ?_
      refine ez_isub 15 dX12_bitsOf_14 rfl ?_
      refine ez_top (nI (y - 1)) (pk_sub (by omega)) ?_
      refine ez_iand 16 dX12_bitsOf_15 rfl ?_
      refine ez_top (nI (ep_cl y)) (ep_cln y (by omega) (by omega)).1 ?_
      refine ez_istore_n 17 [(2, eI (nI (ep_cl y))), (1, eI (nI (t + 1))), (0, eI (nI x))] dX12_bitsOf_16 rfl (by decide) rfl ?_
      refine ez_goto 4 dX12_bitsOf_17 (by decide) ?_
      have q9 := ep_cln y (by omega) (by omega)
      exact ih (ep_cl y) (by omega) (t + 1) (ep_cl y) rfl (by omega) (by omega)
set_option maxRecDepth 20000 in
theorem c_X12_bitsOf (g : EzH) (d : Nat) (x : Nat) (M : EzM) (hx : x < 16) : Ezc (true, g) mX12_bitsOf d [eI (nI x)] M (fun r M' => r = some (eI (nI (ep_bc x))) ∧ M' = M) := by
  refine Ezc.of (by decide +kernel) (Nat.le_of_ble_eq_true rfl) ?_
  show Ez (true, g) mX12_bitsOf d 0 [(0, eI (nI x))] [] M _
  refine ez_iconst 1 dX12_bitsOf_0 rfl (nI 0) (by decide) ?_
  refine ez_istore_n 2 [(1, eI (nI 0)), (0, eI (nI x))] dX12_bitsOf_1 rfl (by decide) rfl ?_
  refine ez_iload_n 3 dX12_bitsOf_2 rfl rfl ?_
  refine ez_istore_n 4 [(2, eI (nI x)), (1, eI (nI 0)), (0, eI (nI x))] dX12_bitsOf_3 rfl (by decide) rfl ?_
  exact lp_bitsOf g d x M hx _ 0 x rfl hx (by omega)
set_option maxRecDepth 20000 in
theorem c_X12_says1 (g : EzH) (d : Nat) {kind mz num : Nat} {S : EpW} {n : Nat} {lt : Nat → Int32} {bl xc xr : Nat} {tf : Nat → EpF} (w key : Nat) (M : EzM) (hd : 63 ≤ d) (hk : key < 3) (hw : w < 8) (hmz : mz < 4) (hz : WFz n lt) (hS : WFS n S) (hR : RMW kind mz num S w M) (hZ : RMz mz n lt M) (hW : WFx xc xr tf) (hb2 : bl < 2) (hX : RMx xc xr tf M) (hbl : M.1 12 0 20 = nI bl) : Ezc (true, g) mX12_says1 d [eR 12 0, eI (nI w), eI (nI key)] M (fun r M' => r = some (eI ((tf xr key).2 (ep_nm lt bl num S))) ∧ FX (fun k i s => k = 12 ∧ (i ≠ 0 ∨ (21 ≤ s ∧ s < 36))) M M') := by
  refine Ezc.of (by decide +kernel) (Nat.le_of_ble_eq_true rfl) ?_
  have z1 := hz.2.1
  have s1 := hS.1
  have d16 := ep_dn16 lt S.1
  have x1 := hW.2.1
  have x2 := hW.2.2.1
  show Ez (true, g) mX12_says1 d 0 [(0, eR 12 0), (1, eI (nI w)), (2, eI (nI key))] [] M _
  refine ez_aload_n 1 dX12_says1_0 rfl rfl ?_
  refine ez_aload_n 2 dX12_says1_1 rfl rfl ?_
  refine ez_getf 5 (eR 51 0) dX12_says1_2 rfl fl_X12_41 (by show 0 < 1; omega) rfl ?_
  refine ez_iload_n 6 dX12_says1_5 rfl rfl ?_
  refine ez_ialdN w 7 dX12_says1_6 rfl (by decide) (by show 0 < 1; omega) (by show w < 8; omega) ?_
  refine ez_top (nI S.2.1) hR.2.2.2.1 ?_
  refine ez_putf 10 .int dX12_says1_7 rfl fp_X12_202 (by show 0 < 1; omega) rfl (by decide) rfl rfl ?_
  refine ez_aload_n 11 dX12_says1_10 rfl rfl ?_
  refine ez_aload_n 12 dX12_says1_11 rfl rfl ?_
  refine ez_aload_n 13 dX12_says1_12 rfl rfl ?_
  refine ez_getf 16 (eR 49 0) dX12_says1_13 rfl fl_X12_35 (by show 0 < 1; omega) rfl ?_
  refine ez_iload_n 17 dX12_says1_16 rfl rfl ?_
  refine ez_ialdN w 18 dX12_says1_17 rfl (by decide) (by show 0 < 1; omega) (by show w < 8; omega) ?_
  refine ez_top (M.1 49 0 w) rfl ?_
  refine ez_top (nI mz) hR.2.1 ?_
  refine ez_aload_n 19 dX12_says1_18 rfl rfl ?_
  refine ez_getf 22 (eR 50 0) dX12_says1_19 rfl fl_X12_38 (by show 0 < 1; omega) rfl ?_
  refine ez_iload_n 23 dX12_says1_22 rfl rfl ?_
  refine ez_ialdN w 24 dX12_says1_23 rfl (by decide) (by show 0 < 1; omega) (by show w < 8; omega) ?_
  refine ez_top (M.1 50 0 w) rfl ?_
  refine ez_top (nI S.1) hR.2.2.1 ?_
  refine ez_callV 27 [eI (nI mz), eI (nI S.1)] [eR 12 0] dX12_says1_24 rfl rfl ok_X12_doorsOf in_X12_doorsOf (by decide) (by show 0 < 1; omega) ln_X12_190 (by omega) (Nat.le_of_ble_eq_true rfl) (c_X12_doorsOf g (d - 1) mz n S.1 lt (ez_st M 12 0 30 (nI S.2.1)) (by omega) (by omega) (by omega) (hZ.fx (ch := fun k i s => k = 12) (FX.rf.st (by omega)) ⟨by omega, fun x => by omega⟩)) (fun r24 M24 q24 => ?_)
  obtain ⟨rfl, e24⟩ := q24
  rw [e24]
  show Ez (true, g) mX12_says1 d 27 [(0, eR 12 0), (1, eI (nI w)), (2, eI (nI key))] [eI (nI (ep_dn lt S.1)), eR 12 0] (ez_st M 12 0 30 (nI S.2.1)) _
  refine ez_callS 30 [eI (nI (ep_dn lt S.1))] [eR 12 0] dX12_says1_27 rfl rfl ok_X12_bitsOf st_X12_bitsOf ln_X12_205 (by omega) (Nat.le_of_ble_eq_true rfl) (c_X12_bitsOf g (d - 1) (ep_dn lt S.1) (ez_st M 12 0 30 (nI S.2.1)) (by omega)) (fun r27 M27 q27 => ?_)
  obtain ⟨rfl, e27⟩ := q27
  rw [e27]
  show Ez (true, g) mX12_says1 d 30 [(0, eR 12 0), (1, eI (nI w)), (2, eI (nI key))] [eI (nI (ep_bc (ep_dn lt S.1))), eR 12 0] (ez_st M 12 0 30 (nI S.2.1)) _
  refine ez_putf 33 .int dX12_says1_30 rfl fp_X12_208 (by show 0 < 1; omega) rfl (by decide) rfl rfl ?_
  refine ez_aload_n 34 dX12_says1_33 rfl rfl ?_
  refine ez_aload_n 35 dX12_says1_34 rfl rfl ?_
  refine ez_getf 38 (eR 47 0) dX12_says1_35 rfl fl_X12_29 (by show 0 < 1; omega) rfl ?_
  refine ez_bipush 40 dX12_says1_38 rfl (nI 10) (by decide) ?_
  refine ez_aload_n 41 dX12_says1_40 rfl rfl ?_
  refine ez_getf 44 (eR 49 0) dX12_says1_41 rfl fl_X12_35 (by show 0 < 1; omega) rfl ?_
  refine ez_iload_n 45 dX12_says1_44 rfl rfl ?_
  refine ez_ialdN w 46 dX12_says1_45 rfl (by decide) (by show 0 < 1; omega) (by show w < 8; omega) ?_
  refine ez_top (M.1 49 0 w) rfl ?_
  refine ez_top (nI mz) hR.2.1 ?_
  refine ez_imul 47 dX12_says1_46 rfl ?_
  refine ez_top (nI (10 * mz)) (pk_mul _ _) ?_
  refine ez_aload_n 48 dX12_says1_47 rfl rfl ?_
  refine ez_getf 51 (eR 50 0) dX12_says1_48 rfl fl_X12_38 (by show 0 < 1; omega) rfl ?_
  refine ez_iload_n 52 dX12_says1_51 rfl rfl ?_
  refine ez_ialdN w 53 dX12_says1_52 rfl (by decide) (by show 0 < 1; omega) (by show w < 8; omega) ?_
  refine ez_top (M.1 50 0 w) rfl ?_
  refine ez_top (nI S.1) hR.2.2.1 ?_
  refine ez_iadd 54 dX12_says1_53 rfl ?_
  refine ez_top (nI (10 * mz + S.1)) (nI_add _ _) ?_
  refine ez_ialdN (10 * mz + S.1) 55 dX12_says1_54 rfl (by decide) (by show 0 < 1; omega) (by show 10 * mz + S.1 < 40; omega) ?_
  refine ez_top (M.1 47 0 (10 * mz + S.1)) rfl ?_
  refine ez_top (nI (S.2.2.2.2.2 S.1)) (hR.2.2.2.2.2.2.2 S.1 (by omega)).2 ?_
  refine ez_putf 58 .int dX12_says1_55 rfl fp_X12_211 (by show 0 < 1; omega) rfl (by decide) rfl rfl ?_
  refine ez_aload_n 59 dX12_says1_58 rfl rfl ?_
  refine ez_aload_n 60 dX12_says1_59 rfl rfl ?_
  refine ez_getf 63 (eR 53 0) dX12_says1_60 rfl fl_X12_47 (by show 0 < 1; omega) rfl ?_
  refine ez_iload_n 64 dX12_says1_63 rfl rfl ?_
  refine ez_ialdN w 65 dX12_says1_64 rfl (by decide) (by show 0 < 1; omega) (by show w < 8; omega) ?_
  refine ez_top (M.1 53 0 w) rfl ?_
  refine ez_top S.2.2.1 hR.2.2.2.2.2.1 ?_
  refine ez_putf 68 .int dX12_says1_65 rfl fp_X12_214 (by show 0 < 1; omega) rfl (by decide) rfl rfl ?_
  refine ez_aload_n 69 dX12_says1_68 rfl rfl ?_
  refine ez_aload_n 70 dX12_says1_69 rfl rfl ?_
  refine ez_getf 73 (eI (M.1 12 0 20)) dX12_says1_70 rfl fl_X12_217 (by show 0 < 1; omega) rfl ?_
  refine ez_top (nI bl) hbl ?_
  refine ez_nif_eq 76 80 dX12_says1_73 rfl (by decide) (by omega) (fun h73 => ?_) (fun h73 => ?_)
  · refine ez_aload_n 81 dX12_says1_80 rfl rfl ?_
    refine ez_getf 84 (eR 54 0) dX12_says1_81 rfl fl_X12_50 (by show 0 < 1; omega) rfl ?_
    refine ez_iload_n 85 dX12_says1_84 rfl rfl ?_
    refine ez_ialdN w 86 dX12_says1_85 rfl (by decide) (by show 0 < 1; omega) (by show w < 8; omega) ?_
    refine ez_top (M.1 54 0 w) rfl ?_
    refine ez_top S.2.2.2.1 hR.2.2.2.2.2.2.1 ?_
    refine ez_putf 89 .int dX12_says1_86 rfl fp_X12_221 (by show 0 < 1; omega) rfl (by decide) rfl rfl ?_
    refine ez_aload_n 90 dX12_says1_89 rfl rfl ?_
    refine ez_aload_n 91 dX12_says1_90 rfl rfl ?_
    refine ez_getf 94 (eR 52 0) dX12_says1_91 rfl fl_X12_44 (by show 0 < 1; omega) rfl ?_
    refine ez_iload_n 95 dX12_says1_94 rfl rfl ?_
    refine ez_ialdN w 96 dX12_says1_95 rfl (by decide) (by show 0 < 1; omega) (by show w < 8; omega) ?_
    refine ez_top (M.1 52 0 w) rfl ?_
    refine ez_top (nI num) hR.2.2.2.2.1 ?_
    refine ez_putf 99 .int dX12_says1_96 rfl fp_X12_224 (by show 0 < 1; omega) rfl (by decide) rfl rfl ?_
    have F9 : FX (fun k i s => k = 12 ∧ 30 ≤ s ∧ s < 36) M (ez_st (ez_st (ez_st (ez_st (ez_st (ez_st M 12 0 30 (nI S.2.1)) 12 0 31 (nI (ep_bc (ep_dn lt S.1)))) 12 0 32 (nI (S.2.2.2.2.2 S.1))) 12 0 33 S.2.2.1) 12 0 34 S.2.2.2.1) 12 0 35 (nI num)) := ((((((FX.rf.st (by omega)).st (by omega)).st (by omega)).st (by omega)).st (by omega)).st (by omega))
    obtain ⟨n0, N, z, b, hn, hb, hsz, hby, hH, ht⟩ := hX.2.2 xr hW.2.2.1
    refine ez_aload_n 100 dX12_says1_99 rfl rfl ?_
    refine ez_aload_n 101 dX12_says1_100 rfl rfl ?_
    refine ez_getf 104 (eI (M.1 12 0 4)) dX12_says1_101 rfl fl_X12_227 (by show 0 < 1; omega) rfl ?_
    refine ez_top (nI xr) hX.2.1 ?_
    refine ez_iload_n 105 dX12_says1_104 rfl rfl ?_
    refine ez_callV 108 [eI (nI xr), eI (nI key)] [] dX12_says1_105 rfl rfl ok_X12_read in_X12_read (by decide) (by show 0 < 1; omega) ln_X12_230 (by omega) (Nat.le_of_ble_eq_true rfl) (c_read g (d - 1) (nm := ep_nm lt bl num S) xr key (.inl (tf xr)) (ez_st (ez_st (ez_st (ez_st (ez_st (ez_st M 12 0 30 (nI S.2.1)) 12 0 31 (nI (ep_bc (ep_dn lt S.1)))) 12 0 32 (nI (S.2.2.2.2.2 S.1))) 12 0 33 S.2.2.1) 12 0 34 S.2.2.2.1) 12 0 35 (nI num)) (by omega) (by omega) hk hn hb (by rw [F9 _ _ _ (by omega)]; exact hsz) (fun i hi => by rw [F9 _ _ _ (by omega)]; exact hby i hi) (fun f hf => by
  simp only [ez_rd, true_and]
  rcases (show f = 0 ∨ f = 1 ∨ f = 2 ∨ f = 3 ∨ f = 4 ∨ f = 5 by omega) with rfl | rfl | rfl | rfl | rfl | rfl <;> simp [ep_nm, h73]) hH ht) (fun r105 M105 q105 => ?_)
    obtain ⟨f105, rfl, g105⟩ := q105
    show Ez (true, g) mX12_says1 d 108 [(0, eR 12 0), (1, eI (nI w)), (2, eI (nI key))] [eI ((tf xr key).2 (ep_nm lt bl num S))] M105 _
    refine ez_iret .int dX12_says1_108 rfl rfl ?_
    exact ⟨rfl, (F9.up (fun k i s q9 => by omega)).tr (FX.mf2 f105 (fun i s q9 => by omega))⟩
  · refine ez_iconst 77 dX12_says1_76 rfl (nI 0) (by decide) ?_
    refine ez_goto 86 dX12_says1_77 (by decide) ?_
    refine ez_putf 89 .int dX12_says1_86 rfl fp_X12_221 (by show 0 < 1; omega) rfl (by decide) rfl rfl ?_
    refine ez_aload_n 90 dX12_says1_89 rfl rfl ?_
    refine ez_aload_n 91 dX12_says1_90 rfl rfl ?_
    refine ez_getf 94 (eR 52 0) dX12_says1_91 rfl fl_X12_44 (by show 0 < 1; omega) rfl ?_
    refine ez_iload_n 95 dX12_says1_94 rfl rfl ?_
    refine ez_ialdN w 96 dX12_says1_95 rfl (by decide) (by show 0 < 1; omega) (by show w < 8; omega) ?_
    refine ez_top (M.1 52 0 w) rfl ?_
    refine ez_top (nI num) hR.2.2.2.2.1 ?_
    refine ez_putf 99 .int dX12_says1_96 rfl fp_X12_224 (by show 0 < 1; omega) rfl (by decide) rfl rfl ?_
    have F9 : FX (fun k i s => k = 12 ∧ 30 ≤ s ∧ s < 36) M (ez_st (ez_st (ez_st (ez_st (ez_st (ez_st M 12 0 30 (nI S.2.1)) 12 0 31 (nI (ep_bc (ep_dn lt S.1)))) 12 0 32 (nI (S.2.2.2.2.2 S.1))) 12 0 33 S.2.2.1) 12 0 34 (nI 0)) 12 0 35 (nI num)) := ((((((FX.rf.st (by omega)).st (by omega)).st (by omega)).st (by omega)).st (by omega)).st (by omega))
    obtain ⟨n0, N, z, b, hn, hb, hsz, hby, hH, ht⟩ := hX.2.2 xr hW.2.2.1
    refine ez_aload_n 100 dX12_says1_99 rfl rfl ?_
    refine ez_aload_n 101 dX12_says1_100 rfl rfl ?_
    refine ez_getf 104 (eI (M.1 12 0 4)) dX12_says1_101 rfl fl_X12_227 (by show 0 < 1; omega) rfl ?_
    refine ez_top (nI xr) hX.2.1 ?_
    refine ez_iload_n 105 dX12_says1_104 rfl rfl ?_
    refine ez_callV 108 [eI (nI xr), eI (nI key)] [] dX12_says1_105 rfl rfl ok_X12_read in_X12_read (by decide) (by show 0 < 1; omega) ln_X12_230 (by omega) (Nat.le_of_ble_eq_true rfl) (c_read g (d - 1) (nm := ep_nm lt bl num S) xr key (.inl (tf xr)) (ez_st (ez_st (ez_st (ez_st (ez_st (ez_st M 12 0 30 (nI S.2.1)) 12 0 31 (nI (ep_bc (ep_dn lt S.1)))) 12 0 32 (nI (S.2.2.2.2.2 S.1))) 12 0 33 S.2.2.1) 12 0 34 (nI 0)) 12 0 35 (nI num)) (by omega) (by omega) hk hn hb (by rw [F9 _ _ _ (by omega)]; exact hsz) (fun i hi => by rw [F9 _ _ _ (by omega)]; exact hby i hi) (fun f hf => by
  simp only [ez_rd, true_and]
  rcases (show f = 0 ∨ f = 1 ∨ f = 2 ∨ f = 3 ∨ f = 4 ∨ f = 5 by omega) with rfl | rfl | rfl | rfl | rfl | rfl <;> simp [ep_nm, show ¬ bl = 0 by omega]) hH ht) (fun r105 M105 q105 => ?_)
    obtain ⟨f105, rfl, g105⟩ := q105
    show Ez (true, g) mX12_says1 d 108 [(0, eR 12 0), (1, eI (nI w)), (2, eI (nI key))] [eI ((tf xr key).2 (ep_nm lt bl num S))] M105 _
    refine ez_iret .int dX12_says1_108 rfl rfl ?_
    exact ⟨rfl, (F9.up (fun k i s q9 => by omega)).tr (FX.mf2 f105 (fun i s q9 => by omega))⟩
set_option maxRecDepth 20000 in
theorem c_X12_round (g : EzH) (d : Nat) {kind mz num : Nat} {S : EpW} {n : Nat} {lt : Nat → Int32} (w : Nat) (f : Int32) (M : EzM) (hd : 1 ≤ d) (hw : w < 8) (hmz : mz < 4) (hz : WFz n lt) (hS : WFS n S) (hR : RMW kind mz num S w M) (hZ : RMz mz n lt M) : Ezc (true, g) mX12_round d [eR 12 0, eI (nI w), eI f] M (fun r M' => r = some (eI (ep_oi (ep_ff (ep_dn lt S.1) (ep_m4 f)))) ∧ M' = M) := by
  refine Ezc.of (by decide +kernel) (Nat.le_of_ble_eq_true rfl) ?_
  have z1 := hz.2.1
  have s1 := hS.1
  show Ez (true, g) mX12_round d 0 [(0, eR 12 0), (1, eI (nI w)), (2, eI f)] [] M _
  refine ez_iconst 1 dX12_round_0 rfl (nI 0) (by decide) ?_
  refine ez_istore_n 2 [(3, eI (nI 0)), (0, eR 12 0), (1, eI (nI w)), (2, eI f)] dX12_round_1 rfl (by decide) rfl ?_
  refine ez_iload_n 3 dX12_round_2 rfl rfl ?_
  refine ez_iconst 4 dX12_round_3 rfl (nI 4) (by decide) ?_
  refine ez_ncmp_ge 7 49 dX12_round_4 rfl (by decide) (by omega) (by omega) (fun h4 => ?_) (fun h4 => ?_)
  · exact absurd h4 (by decide)
  · refine ez_iload_n 8 dX12_round_7 rfl rfl ?_
    refine ez_iconst 9 dX12_round_8 rfl (nI 4) (by decide) ?_
    refine ez_irem 10 dX12_round_9 rfl (by decide) ?_
    refine ez_iconst 11 dX12_round_10 rfl (nI 4) (by decide) ?_
    refine ez_iadd 12 dX12_round_11 rfl ?_
    refine ez_iload_n 13 dX12_round_12 rfl rfl ?_
    refine ez_iadd 14 dX12_round_13 rfl ?_
    refine ez_iconst 15 dX12_round_14 rfl (nI 4) (by decide) ?_
    refine ez_irem 16 dX12_round_15 rfl (by decide) ?_
    refine ez_top (nI ((ep_m4 f + 0) % 4)) (ep_m4_rem f (by decide)) ?_
    refine ez_istore 18 [(4, eI (nI ((ep_m4 f + 0) % 4))), (3, eI (nI 0)), (0, eR 12 0), (1, eI (nI w)), (2, eI f)] dX12_round_16 rfl (by decide) rfl ?_
    refine ez_aload_n 19 dX12_round_18 rfl rfl ?_
    refine ez_aload_n 20 dX12_round_19 rfl rfl ?_
    refine ez_getf 23 (eR 49 0) dX12_round_20 rfl fl_X12_35 (by show 0 < 1; omega) rfl ?_
    refine ez_iload_n 24 dX12_round_23 rfl rfl ?_
    refine ez_ialdN w 25 dX12_round_24 rfl (by decide) (by show 0 < 1; omega) (by show w < 8; omega) ?_
    refine ez_top (nI mz) hR.2.1 ?_
    refine ez_aload_n 26 dX12_round_25 rfl rfl ?_
    refine ez_getf 29 (eR 50 0) dX12_round_26 rfl fl_X12_38 (by show 0 < 1; omega) rfl ?_
    refine ez_iload_n 30 dX12_round_29 rfl rfl ?_
    refine ez_ialdN w 31 dX12_round_30 rfl (by decide) (by show 0 < 1; omega) (by show w < 8; omega) ?_
    refine ez_top (nI S.1) hR.2.2.1 ?_
    refine ez_iload 33 dX12_round_31 rfl rfl ?_
    refine ez_callV 36 [eI (nI mz), eI (nI S.1), eI (nI ((ep_m4 f + 0) % 4))] [] dX12_round_33 rfl rfl ok_X12_to in_X12_to (by decide) (by show 0 < 1; omega) ln_X12_170 (by omega) (Nat.le_of_ble_eq_true rfl) (c_X12_to g (d - 1) mz S.1 ((ep_m4 f + 0) % 4) M (by omega) (by omega) (by omega)) (fun r33 M33 q33 => ?_)
    obtain ⟨rfl, e33⟩ := q33
    rw [e33, show M.1 45 0 (40 * mz + (4 * S.1 + (ep_m4 f + 0) % 4)) = lt (4 * S.1 + (ep_m4 f + 0) % 4) from hZ.2 _ (by omega)]
    show Ez (true, g) mX12_round d 36 [(4, eI (nI ((ep_m4 f + 0) % 4))), (3, eI (nI 0)), (0, eR 12 0), (1, eI (nI w)), (2, eI f)] [eI (lt (4 * S.1 + (ep_m4 f + 0) % 4))] M _
    refine ez_iconst 37 dX12_round_36 rfl (-1) (by decide) ?_
    refine ez_icmp_eq 40 43 dX12_round_37 rfl (by decide) (fun h37 => ?_) (fun h37 => ?_)
    · refine ez_iinc 46 (nI 1) [(3, eI (nI 1)), (4, eI (nI ((ep_m4 f + 0) % 4))), (0, eR 12 0), (1, eI (nI w)), (2, eI f)] dX12_round_43 rfl rfl (by decide) (by decide) rfl ?_
      refine ez_goto 2 dX12_round_46 (by decide) ?_
      refine ez_iload_n 3 dX12_round_2 rfl rfl ?_
      refine ez_iconst 4 dX12_round_3 rfl (nI 4) (by decide) ?_
      refine ez_ncmp_ge 7 49 dX12_round_4 rfl (by decide) (by omega) (by omega) (fun h4' => ?_) (fun h4' => ?_)
      · exact absurd h4' (by decide)
      · refine ez_iload_n 8 dX12_round_7 rfl rfl ?_
        refine ez_iconst 9 dX12_round_8 rfl (nI 4) (by decide) ?_
        refine ez_irem 10 dX12_round_9 rfl (by decide) ?_
        refine ez_iconst 11 dX12_round_10 rfl (nI 4) (by decide) ?_
        refine ez_iadd 12 dX12_round_11 rfl ?_
        refine ez_iload_n 13 dX12_round_12 rfl rfl ?_
        refine ez_iadd 14 dX12_round_13 rfl ?_
        refine ez_iconst 15 dX12_round_14 rfl (nI 4) (by decide) ?_
        refine ez_irem 16 dX12_round_15 rfl (by decide) ?_
        refine ez_top (nI ((ep_m4 f + 1) % 4)) (ep_m4_rem f (by decide)) ?_
        refine ez_istore 18 [(4, eI (nI ((ep_m4 f + 1) % 4))), (3, eI (nI 1)), (0, eR 12 0), (1, eI (nI w)), (2, eI f)] dX12_round_16 rfl (by decide) rfl ?_
        refine ez_aload_n 19 dX12_round_18 rfl rfl ?_
        refine ez_aload_n 20 dX12_round_19 rfl rfl ?_
        refine ez_getf 23 (eR 49 0) dX12_round_20 rfl fl_X12_35 (by show 0 < 1; omega) rfl ?_
        refine ez_iload_n 24 dX12_round_23 rfl rfl ?_
        refine ez_ialdN w 25 dX12_round_24 rfl (by decide) (by show 0 < 1; omega) (by show w < 8; omega) ?_
        refine ez_top (nI mz) hR.2.1 ?_
        refine ez_aload_n 26 dX12_round_25 rfl rfl ?_
        refine ez_getf 29 (eR 50 0) dX12_round_26 rfl fl_X12_38 (by show 0 < 1; omega) rfl ?_
        refine ez_iload_n 30 dX12_round_29 rfl rfl ?_
        refine ez_ialdN w 31 dX12_round_30 rfl (by decide) (by show 0 < 1; omega) (by show w < 8; omega) ?_
        refine ez_top (nI S.1) hR.2.2.1 ?_
        refine ez_iload 33 dX12_round_31 rfl rfl ?_
        refine ez_callV 36 [eI (nI mz), eI (nI S.1), eI (nI ((ep_m4 f + 1) % 4))] [] dX12_round_33 rfl rfl ok_X12_to in_X12_to (by decide) (by show 0 < 1; omega) ln_X12_170 (by omega) (Nat.le_of_ble_eq_true rfl) (c_X12_to g (d - 1) mz S.1 ((ep_m4 f + 1) % 4) M (by omega) (by omega) (by omega)) (fun r33 M33 q33 => ?_)
        obtain ⟨rfl, e33⟩ := q33
        rw [e33, show M.1 45 0 (40 * mz + (4 * S.1 + (ep_m4 f + 1) % 4)) = lt (4 * S.1 + (ep_m4 f + 1) % 4) from hZ.2 _ (by omega)]
        show Ez (true, g) mX12_round d 36 [(4, eI (nI ((ep_m4 f + 1) % 4))), (3, eI (nI 1)), (0, eR 12 0), (1, eI (nI w)), (2, eI f)] [eI (lt (4 * S.1 + (ep_m4 f + 1) % 4))] M _
        refine ez_iconst 37 dX12_round_36 rfl (-1) (by decide) ?_
        refine ez_icmp_eq 40 43 dX12_round_37 rfl (by decide) (fun h37' => ?_) (fun h37' => ?_)
        · refine ez_iinc 46 (nI 2) [(3, eI (nI 2)), (4, eI (nI ((ep_m4 f + 1) % 4))), (0, eR 12 0), (1, eI (nI w)), (2, eI f)] dX12_round_43 rfl rfl (by decide) (by decide) rfl ?_
          refine ez_goto 2 dX12_round_46 (by decide) ?_
          refine ez_iload_n 3 dX12_round_2 rfl rfl ?_
          refine ez_iconst 4 dX12_round_3 rfl (nI 4) (by decide) ?_
          refine ez_ncmp_ge 7 49 dX12_round_4 rfl (by decide) (by omega) (by omega) (fun h4'' => ?_) (fun h4'' => ?_)
          · exact absurd h4'' (by decide)
          · refine ez_iload_n 8 dX12_round_7 rfl rfl ?_
            refine ez_iconst 9 dX12_round_8 rfl (nI 4) (by decide) ?_
            refine ez_irem 10 dX12_round_9 rfl (by decide) ?_
            refine ez_iconst 11 dX12_round_10 rfl (nI 4) (by decide) ?_
            refine ez_iadd 12 dX12_round_11 rfl ?_
            refine ez_iload_n 13 dX12_round_12 rfl rfl ?_
            refine ez_iadd 14 dX12_round_13 rfl ?_
            refine ez_iconst 15 dX12_round_14 rfl (nI 4) (by decide) ?_
            refine ez_irem 16 dX12_round_15 rfl (by decide) ?_
            refine ez_top (nI ((ep_m4 f + 2) % 4)) (ep_m4_rem f (by decide)) ?_
            refine ez_istore 18 [(4, eI (nI ((ep_m4 f + 2) % 4))), (3, eI (nI 2)), (0, eR 12 0), (1, eI (nI w)), (2, eI f)] dX12_round_16 rfl (by decide) rfl ?_
            refine ez_aload_n 19 dX12_round_18 rfl rfl ?_
            refine ez_aload_n 20 dX12_round_19 rfl rfl ?_
            refine ez_getf 23 (eR 49 0) dX12_round_20 rfl fl_X12_35 (by show 0 < 1; omega) rfl ?_
            refine ez_iload_n 24 dX12_round_23 rfl rfl ?_
            refine ez_ialdN w 25 dX12_round_24 rfl (by decide) (by show 0 < 1; omega) (by show w < 8; omega) ?_
            refine ez_top (nI mz) hR.2.1 ?_
            refine ez_aload_n 26 dX12_round_25 rfl rfl ?_
            refine ez_getf 29 (eR 50 0) dX12_round_26 rfl fl_X12_38 (by show 0 < 1; omega) rfl ?_
            refine ez_iload_n 30 dX12_round_29 rfl rfl ?_
            refine ez_ialdN w 31 dX12_round_30 rfl (by decide) (by show 0 < 1; omega) (by show w < 8; omega) ?_
            refine ez_top (nI S.1) hR.2.2.1 ?_
            refine ez_iload 33 dX12_round_31 rfl rfl ?_
            refine ez_callV 36 [eI (nI mz), eI (nI S.1), eI (nI ((ep_m4 f + 2) % 4))] [] dX12_round_33 rfl rfl ok_X12_to in_X12_to (by decide) (by show 0 < 1; omega) ln_X12_170 (by omega) (Nat.le_of_ble_eq_true rfl) (c_X12_to g (d - 1) mz S.1 ((ep_m4 f + 2) % 4) M (by omega) (by omega) (by omega)) (fun r33 M33 q33 => ?_)
            obtain ⟨rfl, e33⟩ := q33
            rw [e33, show M.1 45 0 (40 * mz + (4 * S.1 + (ep_m4 f + 2) % 4)) = lt (4 * S.1 + (ep_m4 f + 2) % 4) from hZ.2 _ (by omega)]
            show Ez (true, g) mX12_round d 36 [(4, eI (nI ((ep_m4 f + 2) % 4))), (3, eI (nI 2)), (0, eR 12 0), (1, eI (nI w)), (2, eI f)] [eI (lt (4 * S.1 + (ep_m4 f + 2) % 4))] M _
            refine ez_iconst 37 dX12_round_36 rfl (-1) (by decide) ?_
            refine ez_icmp_eq 40 43 dX12_round_37 rfl (by decide) (fun h37'' => ?_) (fun h37'' => ?_)
            · refine ez_iinc 46 (nI 3) [(3, eI (nI 3)), (4, eI (nI ((ep_m4 f + 2) % 4))), (0, eR 12 0), (1, eI (nI w)), (2, eI f)] dX12_round_43 rfl rfl (by decide) (by decide) rfl ?_
              refine ez_goto 2 dX12_round_46 (by decide) ?_
              refine ez_iload_n 3 dX12_round_2 rfl rfl ?_
              refine ez_iconst 4 dX12_round_3 rfl (nI 4) (by decide) ?_
              refine ez_ncmp_ge 7 49 dX12_round_4 rfl (by decide) (by omega) (by omega) (fun h4''' => ?_) (fun h4''' => ?_)
              · exact absurd h4''' (by decide)
              · refine ez_iload_n 8 dX12_round_7 rfl rfl ?_
                refine ez_iconst 9 dX12_round_8 rfl (nI 4) (by decide) ?_
                refine ez_irem 10 dX12_round_9 rfl (by decide) ?_
                refine ez_iconst 11 dX12_round_10 rfl (nI 4) (by decide) ?_
                refine ez_iadd 12 dX12_round_11 rfl ?_
                refine ez_iload_n 13 dX12_round_12 rfl rfl ?_
                refine ez_iadd 14 dX12_round_13 rfl ?_
                refine ez_iconst 15 dX12_round_14 rfl (nI 4) (by decide) ?_
                refine ez_irem 16 dX12_round_15 rfl (by decide) ?_
                refine ez_top (nI ((ep_m4 f + 3) % 4)) (ep_m4_rem f (by decide)) ?_
                refine ez_istore 18 [(4, eI (nI ((ep_m4 f + 3) % 4))), (3, eI (nI 3)), (0, eR 12 0), (1, eI (nI w)), (2, eI f)] dX12_round_16 rfl (by decide) rfl ?_
                refine ez_aload_n 19 dX12_round_18 rfl rfl ?_
                refine ez_aload_n 20 dX12_round_19 rfl rfl ?_
                refine ez_getf 23 (eR 49 0) dX12_round_20 rfl fl_X12_35 (by show 0 < 1; omega) rfl ?_
                refine ez_iload_n 24 dX12_round_23 rfl rfl ?_
                refine ez_ialdN w 25 dX12_round_24 rfl (by decide) (by show 0 < 1; omega) (by show w < 8; omega) ?_
                refine ez_top (nI mz) hR.2.1 ?_
                refine ez_aload_n 26 dX12_round_25 rfl rfl ?_
                refine ez_getf 29 (eR 50 0) dX12_round_26 rfl fl_X12_38 (by show 0 < 1; omega) rfl ?_
                refine ez_iload_n 30 dX12_round_29 rfl rfl ?_
                refine ez_ialdN w 31 dX12_round_30 rfl (by decide) (by show 0 < 1; omega) (by show w < 8; omega) ?_
                refine ez_top (nI S.1) hR.2.2.1 ?_
                refine ez_iload 33 dX12_round_31 rfl rfl ?_
                refine ez_callV 36 [eI (nI mz), eI (nI S.1), eI (nI ((ep_m4 f + 3) % 4))] [] dX12_round_33 rfl rfl ok_X12_to in_X12_to (by decide) (by show 0 < 1; omega) ln_X12_170 (by omega) (Nat.le_of_ble_eq_true rfl) (c_X12_to g (d - 1) mz S.1 ((ep_m4 f + 3) % 4) M (by omega) (by omega) (by omega)) (fun r33 M33 q33 => ?_)
                obtain ⟨rfl, e33⟩ := q33
                rw [e33, show M.1 45 0 (40 * mz + (4 * S.1 + (ep_m4 f + 3) % 4)) = lt (4 * S.1 + (ep_m4 f + 3) % 4) from hZ.2 _ (by omega)]
                show Ez (true, g) mX12_round d 36 [(4, eI (nI ((ep_m4 f + 3) % 4))), (3, eI (nI 3)), (0, eR 12 0), (1, eI (nI w)), (2, eI f)] [eI (lt (4 * S.1 + (ep_m4 f + 3) % 4))] M _
                refine ez_iconst 37 dX12_round_36 rfl (-1) (by decide) ?_
                refine ez_icmp_eq 40 43 dX12_round_37 rfl (by decide) (fun h37''' => ?_) (fun h37''' => ?_)
                · refine ez_iinc 46 (nI 4) [(3, eI (nI 4)), (4, eI (nI ((ep_m4 f + 3) % 4))), (0, eR 12 0), (1, eI (nI w)), (2, eI f)] dX12_round_43 rfl rfl (by decide) (by decide) rfl ?_
                  refine ez_goto 2 dX12_round_46 (by decide) ?_
                  refine ez_iload_n 3 dX12_round_2 rfl rfl ?_
                  refine ez_iconst 4 dX12_round_3 rfl (nI 4) (by decide) ?_
                  refine ez_ncmp_ge 7 49 dX12_round_4 rfl (by decide) (by omega) (by omega) (fun h4'''' => ?_) (fun h4'''' => ?_)
                  · refine ez_iconst 50 dX12_round_49 rfl (-1) (by decide) ?_
                    refine ez_iret .int dX12_round_50 rfl rfl ?_
                    have b0 := ep_b2 (ep_dn lt S.1) ((ep_m4 f + 0) % 4)
                    have i0 := ep_dn_b lt S.1 (show (ep_m4 f + 0) % 4 < 4 by omega)
                    have b1 := ep_b2 (ep_dn lt S.1) ((ep_m4 f + 1) % 4)
                    have i1 := ep_dn_b lt S.1 (show (ep_m4 f + 1) % 4 < 4 by omega)
                    have b2 := ep_b2 (ep_dn lt S.1) ((ep_m4 f + 2) % 4)
                    have i2 := ep_dn_b lt S.1 (show (ep_m4 f + 2) % 4 < 4 by omega)
                    have b3 := ep_b2 (ep_dn lt S.1) ((ep_m4 f + 3) % 4)
                    have i3 := ep_dn_b lt S.1 (show (ep_m4 f + 3) % 4 < 4 by omega)
                    exact ⟨by unfold ep_ff; rw [if_neg (fun z9 => i0.mp z9 h37), if_neg (fun z9 => i1.mp z9 h37'), if_neg (fun z9 => i2.mp z9 h37''), if_neg (fun z9 => i3.mp z9 h37''')]; rfl, rfl⟩
                  · exact absurd h4'''' (by decide)
                · refine ez_iload 42 dX12_round_40 rfl rfl ?_
                  refine ez_iret .int dX12_round_42 rfl rfl ?_
                  have b0 := ep_b2 (ep_dn lt S.1) ((ep_m4 f + 0) % 4)
                  have i0 := ep_dn_b lt S.1 (show (ep_m4 f + 0) % 4 < 4 by omega)
                  have b1 := ep_b2 (ep_dn lt S.1) ((ep_m4 f + 1) % 4)
                  have i1 := ep_dn_b lt S.1 (show (ep_m4 f + 1) % 4 < 4 by omega)
                  have b2 := ep_b2 (ep_dn lt S.1) ((ep_m4 f + 2) % 4)
                  have i2 := ep_dn_b lt S.1 (show (ep_m4 f + 2) % 4 < 4 by omega)
                  have b3 := ep_b2 (ep_dn lt S.1) ((ep_m4 f + 3) % 4)
                  have i3 := ep_dn_b lt S.1 (show (ep_m4 f + 3) % 4 < 4 by omega)
                  exact ⟨by unfold ep_ff; rw [if_neg (fun z9 => i0.mp z9 h37), if_neg (fun z9 => i1.mp z9 h37'), if_neg (fun z9 => i2.mp z9 h37''), if_pos (i3.mpr h37''')]; rfl, rfl⟩
            · refine ez_iload 42 dX12_round_40 rfl rfl ?_
              refine ez_iret .int dX12_round_42 rfl rfl ?_
              have b0 := ep_b2 (ep_dn lt S.1) ((ep_m4 f + 0) % 4)
              have i0 := ep_dn_b lt S.1 (show (ep_m4 f + 0) % 4 < 4 by omega)
              have b1 := ep_b2 (ep_dn lt S.1) ((ep_m4 f + 1) % 4)
              have i1 := ep_dn_b lt S.1 (show (ep_m4 f + 1) % 4 < 4 by omega)
              have b2 := ep_b2 (ep_dn lt S.1) ((ep_m4 f + 2) % 4)
              have i2 := ep_dn_b lt S.1 (show (ep_m4 f + 2) % 4 < 4 by omega)
              have b3 := ep_b2 (ep_dn lt S.1) ((ep_m4 f + 3) % 4)
              have i3 := ep_dn_b lt S.1 (show (ep_m4 f + 3) % 4 < 4 by omega)
              exact ⟨by unfold ep_ff; rw [if_neg (fun z9 => i0.mp z9 h37), if_neg (fun z9 => i1.mp z9 h37'), if_pos (i2.mpr h37'')]; rfl, rfl⟩
        · refine ez_iload 42 dX12_round_40 rfl rfl ?_
          refine ez_iret .int dX12_round_42 rfl rfl ?_
          have b0 := ep_b2 (ep_dn lt S.1) ((ep_m4 f + 0) % 4)
          have i0 := ep_dn_b lt S.1 (show (ep_m4 f + 0) % 4 < 4 by omega)
          have b1 := ep_b2 (ep_dn lt S.1) ((ep_m4 f + 1) % 4)
          have i1 := ep_dn_b lt S.1 (show (ep_m4 f + 1) % 4 < 4 by omega)
          have b2 := ep_b2 (ep_dn lt S.1) ((ep_m4 f + 2) % 4)
          have i2 := ep_dn_b lt S.1 (show (ep_m4 f + 2) % 4 < 4 by omega)
          have b3 := ep_b2 (ep_dn lt S.1) ((ep_m4 f + 3) % 4)
          have i3 := ep_dn_b lt S.1 (show (ep_m4 f + 3) % 4 < 4 by omega)
          exact ⟨by unfold ep_ff; rw [if_neg (fun z9 => i0.mp z9 h37), if_pos (i1.mpr h37')]; rfl, rfl⟩
    · refine ez_iload 42 dX12_round_40 rfl rfl ?_
      refine ez_iret .int dX12_round_42 rfl rfl ?_
      have b0 := ep_b2 (ep_dn lt S.1) ((ep_m4 f + 0) % 4)
      have i0 := ep_dn_b lt S.1 (show (ep_m4 f + 0) % 4 < 4 by omega)
      have b1 := ep_b2 (ep_dn lt S.1) ((ep_m4 f + 1) % 4)
      have i1 := ep_dn_b lt S.1 (show (ep_m4 f + 1) % 4 < 4 by omega)
      have b2 := ep_b2 (ep_dn lt S.1) ((ep_m4 f + 2) % 4)
      have i2 := ep_dn_b lt S.1 (show (ep_m4 f + 2) % 4 < 4 by omega)
      have b3 := ep_b2 (ep_dn lt S.1) ((ep_m4 f + 3) % 4)
      have i3 := ep_dn_b lt S.1 (show (ep_m4 f + 3) % 4 < 4 by omega)
      exact ⟨by unfold ep_ff; rw [if_pos (i0.mpr h37)]; rfl, rfl⟩
set_option maxRecDepth 20000 in
theorem c_X12_plainly (g : EzH) (d : Nat) {kind mz num : Nat} {S : EpW} {n : Nat} {lt : Nat → Int32} {bl xc xr : Nat} {tf : Nat → EpF} (w : Nat) (M : EzM) (hd : 64 ≤ d) (hw : w < 8) (hmz : mz < 4) (hz : WFz n lt) (hS : WFS n S) (hR : RMW kind mz num S w M) (hZ : RMz mz n lt M) (hW : WFx xc xr tf) (hb2 : bl < 2) (hX : RMx xc xr tf M) (hbl : M.1 12 0 20 = nI bl) : Ezc (true, g) mX12_plainly d [eR 12 0, eI (nI w)] M (fun r M' => r = some (eI (ep_oi (ep_ff (ep_dn lt S.1) (ep_m4 (nI S.2.1 + (tf xr 0).2 (ep_nm lt bl num S)))))) ∧ FX (fun k i s => k = 12 ∧ (i ≠ 0 ∨ (21 ≤ s ∧ s < 36))) M M') := by
  refine Ezc.of (by decide +kernel) (Nat.le_of_ble_eq_true rfl) ?_
  show Ez (true, g) mX12_plainly d 0 [(0, eR 12 0), (1, eI (nI w))] [] M _
  refine ez_aload_n 1 dX12_plainly_0 rfl rfl ?_
  refine ez_iload_n 2 dX12_plainly_1 rfl rfl ?_
  refine ez_aload_n 3 dX12_plainly_2 rfl rfl ?_
  refine ez_getf 6 (eR 51 0) dX12_plainly_3 rfl fl_X12_41 (by show 0 < 1; omega) rfl ?_
  refine ez_iload_n 7 dX12_plainly_6 rfl rfl ?_
  refine ez_ialdN w 8 dX12_plainly_7 rfl (by decide) (by show 0 < 1; omega) (by show w < 8; omega) ?_
  refine ez_top (nI S.2.1) hR.2.2.2.1 ?_
  refine ez_aload_n 9 dX12_plainly_8 rfl rfl ?_
  refine ez_iload_n 10 dX12_plainly_9 rfl rfl ?_
  refine ez_iconst 11 dX12_plainly_10 rfl (nI 0) (by decide) ?_
  refine ez_callV 14 [eI (nI w), eI (nI 0)] [eI (nI S.2.1), eI (nI w), eR 12 0] dX12_plainly_11 rfl rfl ok_X12_says1 in_X12_says1 (by decide) (by show 0 < 1; omega) ln_X12_183 (by omega) (Nat.le_of_ble_eq_true rfl) (c_X12_says1 g (d - 1) w 0 M (by omega) (by omega) hw hmz hz hS hR hZ hW hb2 hX hbl) (fun r11 M11 q11 => ?_)
  obtain ⟨rfl, f11⟩ := q11
  have R11 := hR.fx f11 ⟨by omega, by omega, by omega, by omega, by omega, by omega, by omega, fun r hr => by omega⟩
  have Z11 := hZ.fx f11 ⟨by omega, fun x => by omega⟩
  show Ez (true, g) mX12_plainly d 14 [(0, eR 12 0), (1, eI (nI w))] [eI ((tf xr 0).2 (ep_nm lt bl num S)), eI (nI S.2.1), eI (nI w), eR 12 0] M11 _
  refine ez_iadd 15 dX12_plainly_14 rfl ?_
  refine ez_callV 18 [eI (nI w), eI ((nI S.2.1) + ((tf xr 0).2 (ep_nm lt bl num S)))] [] dX12_plainly_15 rfl rfl ok_X12_round in_X12_round (by decide) (by show 0 < 1; omega) ln_X12_187 (by omega) (Nat.le_of_ble_eq_true rfl) (c_X12_round g (d - 1) (n := n) w ((nI S.2.1) + ((tf xr 0).2 (ep_nm lt bl num S))) M11 (by omega) hw hmz hz hS R11 Z11) (fun r15 M15 q15 => ?_)
  obtain ⟨rfl, e15⟩ := q15
  rw [e15]
  show Ez (true, g) mX12_plainly d 18 [(0, eR 12 0), (1, eI (nI w))] [eI (ep_oi (ep_ff (ep_dn lt S.1) (ep_m4 ((nI S.2.1) + ((tf xr 0).2 (ep_nm lt bl num S))))))] M11 _
  refine ez_iret .int dX12_plainly_18 rfl rfl ?_
  exact ⟨rfl, f11⟩
set_option maxRecDepth 20000 in
theorem c_mwants_0 (g : EzH) (d : Nat) {mz num : Nat} {S : EpW} {n : Nat} {lt : Nat → Int32} {bl xc xr : Nat} {tf : Nat → EpF} (w : Nat) (M : EzM) (hd : 65 ≤ d) (hnum : num ≤ 9) (hw : w < 8) (hmz : mz < 4) (hz : WFz n lt) (hS : WFS n S) (hR : RMW 0 mz num S w M) (hZ : RMz mz n lt M) (hW : WFx xc xr tf) (hb2 : bl < 2) (hX : RMx xc xr tf M) (hbl : M.1 12 0 20 = nI bl) : Ezc (true, g) mX12_wants d [eR 12 0, eI (nI w)] M (fun r M' => r = some (eI (ep_oi (ep_dr lt 0 num ((tf xr 0).2 (ep_nm lt bl num S)) S))) ∧ FX (fun k i s => k = 12 ∧ (i ≠ 0 ∨ (21 ≤ s ∧ s < 36))) M M') := by
  refine Ezc.of (by decide +kernel) (Nat.le_of_ble_eq_true rfl) ?_
  have z1 := hz.2.1
  have s1 := hS.1
  have s2 := hS.2.1
  have hk0 := hR.1
  have d16 := ep_dn16 lt S.1
  have g16 := (hS.2.2 S.1 (by omega)).1
  have p99 := (hS.2.2 S.1 (by omega)).2
  have f16 := (ep_frn _ d16 _ g16).2
  have b2 := ep_b2 (ep_dn lt S.1) S.2.1
  show Ez (true, g) mX12_wants d 0 [(0, eR 12 0), (1, eI (nI w))] [] M _
  refine ez_aload_n 1 dX12_wants_0 rfl rfl ?_
  refine ez_aload_n 2 dX12_wants_1 rfl rfl ?_
  refine ez_getf 5 (eR 49 0) dX12_wants_2 rfl fl_X12_35 (by show 0 < 1; omega) rfl ?_
  refine ez_iload_n 6 dX12_wants_5 rfl rfl ?_
  refine ez_ialdN w 7 dX12_wants_6 rfl (by decide) (by show 0 < 1; omega) (by show w < 8; omega) ?_
  refine ez_top (nI mz) hR.2.1 ?_
  refine ez_aload_n 8 dX12_wants_7 rfl rfl ?_
  refine ez_getf 11 (eR 50 0) dX12_wants_8 rfl fl_X12_38 (by show 0 < 1; omega) rfl ?_
  refine ez_iload_n 12 dX12_wants_11 rfl rfl ?_
  refine ez_ialdN w 13 dX12_wants_12 rfl (by decide) (by show 0 < 1; omega) (by show w < 8; omega) ?_
  refine ez_top (nI S.1) hR.2.2.1 ?_
  refine ez_callV 16 [eI (nI mz), eI (nI S.1)] [] dX12_wants_13 rfl rfl ok_X12_doorsOf in_X12_doorsOf (by decide) (by show 0 < 1; omega) ln_X12_190 (by omega) (Nat.le_of_ble_eq_true rfl) (c_X12_doorsOf g (d - 1) mz n S.1 lt M (by omega) (by omega) (by omega) hZ) (fun r13 M13 q13 => ?_)
  obtain ⟨rfl, e13⟩ := q13
  rw [e13]
  show Ez (true, g) mX12_wants d 16 [(0, eR 12 0), (1, eI (nI w))] [eI (nI (ep_dn lt S.1))] M _
  refine ez_istore_n 17 [(2, eI (nI (ep_dn lt S.1))), (0, eR 12 0), (1, eI (nI w))] dX12_wants_16 rfl (by decide) rfl ?_
  refine ez_iload_n 18 dX12_wants_17 rfl rfl ?_
  refine ez_aload_n 19 dX12_wants_18 rfl rfl ?_
  refine ez_getf 22 (eR 55 0) dX12_wants_19 rfl fl_X12_53 (by show 0 < 1; omega) rfl ?_
  refine ez_bipush 24 dX12_wants_22 rfl (nI 10) (by decide) ?_
  refine ez_iload_n 25 dX12_wants_24 rfl rfl ?_
  refine ez_imul 26 dX12_wants_25 rfl ?_
  refine ez_top (nI (10 * w)) (pk_mul _ _) ?_
  refine ez_aload_n 27 dX12_wants_26 rfl rfl ?_
  refine ez_getf 30 (eR 50 0) dX12_wants_27 rfl fl_X12_38 (by show 0 < 1; omega) rfl ?_
  refine ez_iload_n 31 dX12_wants_30 rfl rfl ?_
  refine ez_ialdN w 32 dX12_wants_31 rfl (by decide) (by show 0 < 1; omega) (by show w < 8; omega) ?_
  refine ez_top (nI S.1) hR.2.2.1 ?_
  refine ez_iadd 33 dX12_wants_32 rfl ?_
  refine ez_top (nI (10 * w + S.1)) (nI_add _ _) ?_
  refine ez_ialdN (10 * w + S.1) 34 dX12_wants_33 rfl (by decide) (by show 0 < 1; omega) (by show 10 * w + S.1 < 80; omega) ?_
  refine ez_top (nI (S.2.2.2.2.1 S.1)) (hR.2.2.2.2.2.2.2 S.1 (by omega)).1 ?_
  refine ez_iconst 35 dX12_wants_34 rfl (-1) (by decide) ?_
  refine ez_ixor 36 dX12_wants_35 rfl ?_
  refine ez_iand 37 dX12_wants_36 rfl ?_
  refine ez_top (nI (ep_fr (ep_dn lt S.1) (S.2.2.2.2.1 S.1))) (ep_frn _ d16 _ g16).1 ?_
  refine ez_istore_n 38 [(3, eI (nI (ep_fr (ep_dn lt S.1) (S.2.2.2.2.1 S.1)))), (2, eI (nI (ep_dn lt S.1))), (0, eR 12 0), (1, eI (nI w))] dX12_wants_37 rfl (by decide) rfl ?_
  refine ez_aload_n 39 dX12_wants_38 rfl rfl ?_
  refine ez_getf 42 (eR 47 0) dX12_wants_39 rfl fl_X12_29 (by show 0 < 1; omega) rfl ?_
  refine ez_bipush 44 dX12_wants_42 rfl (nI 10) (by decide) ?_
  refine ez_aload_n 45 dX12_wants_44 rfl rfl ?_
  refine ez_getf 48 (eR 49 0) dX12_wants_45 rfl fl_X12_35 (by show 0 < 1; omega) rfl ?_
  refine ez_iload_n 49 dX12_wants_48 rfl rfl ?_
  refine ez_ialdN w 50 dX12_wants_49 rfl (by decide) (by show 0 < 1; omega) (by show w < 8; omega) ?_
  refine ez_top (nI mz) hR.2.1 ?_
  refine ez_imul 51 dX12_wants_50 rfl ?_
  refine ez_top (nI (10 * mz)) (pk_mul _ _) ?_
  refine ez_aload_n 52 dX12_wants_51 rfl rfl ?_
  refine ez_getf 55 (eR 50 0) dX12_wants_52 rfl fl_X12_38 (by show 0 < 1; omega) rfl ?_
  refine ez_iload_n 56 dX12_wants_55 rfl rfl ?_
  refine ez_ialdN w 57 dX12_wants_56 rfl (by decide) (by show 0 < 1; omega) (by show w < 8; omega) ?_
  refine ez_top (nI S.1) hR.2.2.1 ?_
  refine ez_iadd 58 dX12_wants_57 rfl ?_
  refine ez_top (nI (10 * mz + S.1)) (nI_add _ _) ?_
  refine ez_ialdN (10 * mz + S.1) 59 dX12_wants_58 rfl (by decide) (by show 0 < 1; omega) (by show 10 * mz + S.1 < 40; omega) ?_
  refine ez_top (nI (S.2.2.2.2.2 S.1)) (hR.2.2.2.2.2.2.2 S.1 (by omega)).2 ?_
  refine ez_nif_le 62 66 dX12_wants_59 rfl (by decide) (by omega) (fun h59 => ?_) (fun h59 => ?_)
  · refine ez_iconst 67 dX12_wants_66 rfl (nI 0) (by decide) ?_
    refine ez_istore 69 [(4, eI (nI 0)), (3, eI (nI (ep_fr (ep_dn lt S.1) (S.2.2.2.2.1 S.1)))), (2, eI (nI (ep_dn lt S.1))), (0, eR 12 0), (1, eI (nI w))] dX12_wants_67 rfl (by decide) rfl ?_
    refine ez_aload_n 70 dX12_wants_69 rfl rfl ?_
    refine ez_getf 73 (eR 48 0) dX12_wants_70 rfl fl_X12_32 (by show 0 < 1; omega) rfl ?_
    refine ez_iload_n 74 dX12_wants_73 rfl rfl ?_
    refine ez_ialdN w 75 dX12_wants_74 rfl (by decide) (by show 0 < 1; omega) (by show w < 8; omega) ?_
    refine ez_top (nI 0) hk0 ?_
    refine ez_tabOut 227 dX12_wants_75 (by decide) (by decide) ?_
    refine ez_aload_n 228 dX12_wants_227 rfl rfl ?_
    refine ez_iload_n 229 dX12_wants_228 rfl rfl ?_
    refine ez_callV 232 [eI (nI w)] [] dX12_wants_229 rfl rfl ok_X12_plainly in_X12_plainly (by decide) (by show 0 < 1; omega) ln_X12_193 (by omega) (Nat.le_of_ble_eq_true rfl) (c_X12_plainly g (d - 1) w M (by omega) hw hmz hz hS hR hZ hW hb2 hX hbl) (fun r229 M229 q229 => ?_)
    obtain ⟨rfl, f229⟩ := q229
    show Ez (true, g) mX12_wants d 232 [(4, eI (nI 0)), (3, eI (nI (ep_fr (ep_dn lt S.1) (S.2.2.2.2.1 S.1)))), (2, eI (nI (ep_dn lt S.1))), (0, eR 12 0), (1, eI (nI w))] [eI (ep_oi (ep_ff (ep_dn lt S.1) (ep_m4 (nI S.2.1 + ((tf xr 0).2 (ep_nm lt bl num S))))))] M229 _
    refine ez_iret .int dX12_wants_232 rfl rfl ?_
    have hpe : ep_hp S = 0 := by unfold ep_hp; rw [if_neg (by omega)]
    exact ⟨by unfold ep_dr; simp [ep_wt, ep_oi, hpe], f229⟩
  · refine ez_iconst 63 dX12_wants_62 rfl (nI 1) (by decide) ?_
    refine ez_goto 67 dX12_wants_63 (by decide) ?_
    refine ez_istore 69 [(4, eI (nI 1)), (3, eI (nI (ep_fr (ep_dn lt S.1) (S.2.2.2.2.1 S.1)))), (2, eI (nI (ep_dn lt S.1))), (0, eR 12 0), (1, eI (nI w))] dX12_wants_67 rfl (by decide) rfl ?_
    refine ez_aload_n 70 dX12_wants_69 rfl rfl ?_
    refine ez_getf 73 (eR 48 0) dX12_wants_70 rfl fl_X12_32 (by show 0 < 1; omega) rfl ?_
    refine ez_iload_n 74 dX12_wants_73 rfl rfl ?_
    refine ez_ialdN w 75 dX12_wants_74 rfl (by decide) (by show 0 < 1; omega) (by show w < 8; omega) ?_
    refine ez_top (nI 0) hk0 ?_
    refine ez_tabOut 227 dX12_wants_75 (by decide) (by decide) ?_
    refine ez_aload_n 228 dX12_wants_227 rfl rfl ?_
    refine ez_iload_n 229 dX12_wants_228 rfl rfl ?_
    refine ez_callV 232 [eI (nI w)] [] dX12_wants_229 rfl rfl ok_X12_plainly in_X12_plainly (by decide) (by show 0 < 1; omega) ln_X12_193 (by omega) (Nat.le_of_ble_eq_true rfl) (c_X12_plainly g (d - 1) w M (by omega) hw hmz hz hS hR hZ hW hb2 hX hbl) (fun r229 M229 q229 => ?_)
    obtain ⟨rfl, f229⟩ := q229
    show Ez (true, g) mX12_wants d 232 [(4, eI (nI 1)), (3, eI (nI (ep_fr (ep_dn lt S.1) (S.2.2.2.2.1 S.1)))), (2, eI (nI (ep_dn lt S.1))), (0, eR 12 0), (1, eI (nI w))] [eI (ep_oi (ep_ff (ep_dn lt S.1) (ep_m4 (nI S.2.1 + ((tf xr 0).2 (ep_nm lt bl num S))))))] M229 _
    refine ez_iret .int dX12_wants_232 rfl rfl ?_
    have hpe : ep_hp S = 1 := by unfold ep_hp; rw [if_pos (by omega)]
    exact ⟨by unfold ep_dr; simp [ep_wt, ep_oi, hpe], f229⟩
set_option maxRecDepth 20000 in
theorem c_mwants_1 (g : EzH) (d : Nat) {mz num : Nat} {S : EpW} {n : Nat} {lt : Nat → Int32} {bl xc xr : Nat} {tf : Nat → EpF} (w : Nat) (M : EzM) (hd : 65 ≤ d) (hnum : num ≤ 9) (hw : w < 8) (hmz : mz < 4) (hz : WFz n lt) (hS : WFS n S) (hR : RMW 1 mz num S w M) (hZ : RMz mz n lt M) (hW : WFx xc xr tf) (hb2 : bl < 2) (hX : RMx xc xr tf M) (hbl : M.1 12 0 20 = nI bl) : Ezc (true, g) mX12_wants d [eR 12 0, eI (nI w)] M (fun r M' => r = some (eI (ep_oi (ep_dr lt 1 num ((tf xr 0).2 (ep_nm lt bl num S)) S))) ∧ FX (fun k i s => k = 12 ∧ (i ≠ 0 ∨ (21 ≤ s ∧ s < 36))) M M') := by
  refine Ezc.of (by decide +kernel) (Nat.le_of_ble_eq_true rfl) ?_
  have z1 := hz.2.1
  have s1 := hS.1
  have s2 := hS.2.1
  have hk0 := hR.1
  have d16 := ep_dn16 lt S.1
  have g16 := (hS.2.2 S.1 (by omega)).1
  have p99 := (hS.2.2 S.1 (by omega)).2
  have f16 := (ep_frn _ d16 _ g16).2
  have b2 := ep_b2 (ep_dn lt S.1) S.2.1
  show Ez (true, g) mX12_wants d 0 [(0, eR 12 0), (1, eI (nI w))] [] M _
  refine ez_aload_n 1 dX12_wants_0 rfl rfl ?_
  refine ez_aload_n 2 dX12_wants_1 rfl rfl ?_
  refine ez_getf 5 (eR 49 0) dX12_wants_2 rfl fl_X12_35 (by show 0 < 1; omega) rfl ?_
  refine ez_iload_n 6 dX12_wants_5 rfl rfl ?_
  refine ez_ialdN w 7 dX12_wants_6 rfl (by decide) (by show 0 < 1; omega) (by show w < 8; omega) ?_
  refine ez_top (nI mz) hR.2.1 ?_
  refine ez_aload_n 8 dX12_wants_7 rfl rfl ?_
  refine ez_getf 11 (eR 50 0) dX12_wants_8 rfl fl_X12_38 (by show 0 < 1; omega) rfl ?_
  refine ez_iload_n 12 dX12_wants_11 rfl rfl ?_
  refine ez_ialdN w 13 dX12_wants_12 rfl (by decide) (by show 0 < 1; omega) (by show w < 8; omega) ?_
  refine ez_top (nI S.1) hR.2.2.1 ?_
  refine ez_callV 16 [eI (nI mz), eI (nI S.1)] [] dX12_wants_13 rfl rfl ok_X12_doorsOf in_X12_doorsOf (by decide) (by show 0 < 1; omega) ln_X12_190 (by omega) (Nat.le_of_ble_eq_true rfl) (c_X12_doorsOf g (d - 1) mz n S.1 lt M (by omega) (by omega) (by omega) hZ) (fun r13 M13 q13 => ?_)
  obtain ⟨rfl, e13⟩ := q13
  rw [e13]
  show Ez (true, g) mX12_wants d 16 [(0, eR 12 0), (1, eI (nI w))] [eI (nI (ep_dn lt S.1))] M _
  refine ez_istore_n 17 [(2, eI (nI (ep_dn lt S.1))), (0, eR 12 0), (1, eI (nI w))] dX12_wants_16 rfl (by decide) rfl ?_
  refine ez_iload_n 18 dX12_wants_17 rfl rfl ?_
  refine ez_aload_n 19 dX12_wants_18 rfl rfl ?_
  refine ez_getf 22 (eR 55 0) dX12_wants_19 rfl fl_X12_53 (by show 0 < 1; omega) rfl ?_
  refine ez_bipush 24 dX12_wants_22 rfl (nI 10) (by decide) ?_
  refine ez_iload_n 25 dX12_wants_24 rfl rfl ?_
  refine ez_imul 26 dX12_wants_25 rfl ?_
  refine ez_top (nI (10 * w)) (pk_mul _ _) ?_
  refine ez_aload_n 27 dX12_wants_26 rfl rfl ?_
  refine ez_getf 30 (eR 50 0) dX12_wants_27 rfl fl_X12_38 (by show 0 < 1; omega) rfl ?_
  refine ez_iload_n 31 dX12_wants_30 rfl rfl ?_
  refine ez_ialdN w 32 dX12_wants_31 rfl (by decide) (by show 0 < 1; omega) (by show w < 8; omega) ?_
  refine ez_top (nI S.1) hR.2.2.1 ?_
  refine ez_iadd 33 dX12_wants_32 rfl ?_
  refine ez_top (nI (10 * w + S.1)) (nI_add _ _) ?_
  refine ez_ialdN (10 * w + S.1) 34 dX12_wants_33 rfl (by decide) (by show 0 < 1; omega) (by show 10 * w + S.1 < 80; omega) ?_
  refine ez_top (nI (S.2.2.2.2.1 S.1)) (hR.2.2.2.2.2.2.2 S.1 (by omega)).1 ?_
  refine ez_iconst 35 dX12_wants_34 rfl (-1) (by decide) ?_
  refine ez_ixor 36 dX12_wants_35 rfl ?_
  refine ez_iand 37 dX12_wants_36 rfl ?_
  refine ez_top (nI (ep_fr (ep_dn lt S.1) (S.2.2.2.2.1 S.1))) (ep_frn _ d16 _ g16).1 ?_
  refine ez_istore_n 38 [(3, eI (nI (ep_fr (ep_dn lt S.1) (S.2.2.2.2.1 S.1)))), (2, eI (nI (ep_dn lt S.1))), (0, eR 12 0), (1, eI (nI w))] dX12_wants_37 rfl (by decide) rfl ?_
  refine ez_aload_n 39 dX12_wants_38 rfl rfl ?_
  refine ez_getf 42 (eR 47 0) dX12_wants_39 rfl fl_X12_29 (by show 0 < 1; omega) rfl ?_
  refine ez_bipush 44 dX12_wants_42 rfl (nI 10) (by decide) ?_
  refine ez_aload_n 45 dX12_wants_44 rfl rfl ?_
  refine ez_getf 48 (eR 49 0) dX12_wants_45 rfl fl_X12_35 (by show 0 < 1; omega) rfl ?_
  refine ez_iload_n 49 dX12_wants_48 rfl rfl ?_
  refine ez_ialdN w 50 dX12_wants_49 rfl (by decide) (by show 0 < 1; omega) (by show w < 8; omega) ?_
  refine ez_top (nI mz) hR.2.1 ?_
  refine ez_imul 51 dX12_wants_50 rfl ?_
  refine ez_top (nI (10 * mz)) (pk_mul _ _) ?_
  refine ez_aload_n 52 dX12_wants_51 rfl rfl ?_
  refine ez_getf 55 (eR 50 0) dX12_wants_52 rfl fl_X12_38 (by show 0 < 1; omega) rfl ?_
  refine ez_iload_n 56 dX12_wants_55 rfl rfl ?_
  refine ez_ialdN w 57 dX12_wants_56 rfl (by decide) (by show 0 < 1; omega) (by show w < 8; omega) ?_
  refine ez_top (nI S.1) hR.2.2.1 ?_
  refine ez_iadd 58 dX12_wants_57 rfl ?_
  refine ez_top (nI (10 * mz + S.1)) (nI_add _ _) ?_
  refine ez_ialdN (10 * mz + S.1) 59 dX12_wants_58 rfl (by decide) (by show 0 < 1; omega) (by show 10 * mz + S.1 < 40; omega) ?_
  refine ez_top (nI (S.2.2.2.2.2 S.1)) (hR.2.2.2.2.2.2.2 S.1 (by omega)).2 ?_
  refine ez_nif_le 62 66 dX12_wants_59 rfl (by decide) (by omega) (fun h59 => ?_) (fun h59 => ?_)
  · refine ez_iconst 67 dX12_wants_66 rfl (nI 0) (by decide) ?_
    refine ez_istore 69 [(4, eI (nI 0)), (3, eI (nI (ep_fr (ep_dn lt S.1) (S.2.2.2.2.1 S.1)))), (2, eI (nI (ep_dn lt S.1))), (0, eR 12 0), (1, eI (nI w))] dX12_wants_67 rfl (by decide) rfl ?_
    refine ez_aload_n 70 dX12_wants_69 rfl rfl ?_
    refine ez_getf 73 (eR 48 0) dX12_wants_70 rfl fl_X12_32 (by show 0 < 1; omega) rfl ?_
    refine ez_iload_n 74 dX12_wants_73 rfl rfl ?_
    refine ez_ialdN w 75 dX12_wants_74 rfl (by decide) (by show 0 < 1; omega) (by show w < 8; omega) ?_
    refine ez_top (nI 1) hk0 ?_
    refine ez_tabIn (off := 33) 108 dX12_wants_75 (by decide) (by decide) (by decide) (by decide) ?_
    refine ez_aload_n 109 dX12_wants_108 rfl rfl ?_
    refine ez_iload_n 110 dX12_wants_109 rfl rfl ?_
    refine ez_aload_n 111 dX12_wants_110 rfl rfl ?_
    refine ez_getf 114 (eR 51 0) dX12_wants_111 rfl fl_X12_41 (by show 0 < 1; omega) rfl ?_
    refine ez_iload_n 115 dX12_wants_114 rfl rfl ?_
    refine ez_ialdN w 116 dX12_wants_115 rfl (by decide) (by show 0 < 1; omega) (by show w < 8; omega) ?_
    refine ez_top (nI S.2.1) hR.2.2.2.1 ?_
    refine ez_iconst 117 dX12_wants_116 rfl (nI 1) (by decide) ?_
    refine ez_iadd 118 dX12_wants_117 rfl ?_
    refine ez_top (nI (S.2.1 + 1)) (nI_add _ _) ?_
    refine ez_callV 121 [eI (nI w), eI (nI (S.2.1 + 1))] [] dX12_wants_118 rfl rfl ok_X12_round in_X12_round (by decide) (by show 0 < 1; omega) ln_X12_187 (by omega) (Nat.le_of_ble_eq_true rfl) (c_X12_round g (d - 1) (n := n) w (nI (S.2.1 + 1)) M (by omega) hw hmz hz hS hR hZ) (fun r118 M118 q118 => ?_)
    obtain ⟨rfl, e118⟩ := q118
    rw [e118]
    show Ez (true, g) mX12_wants d 121 [(4, eI (nI 0)), (3, eI (nI (ep_fr (ep_dn lt S.1) (S.2.2.2.2.1 S.1)))), (2, eI (nI (ep_dn lt S.1))), (0, eR 12 0), (1, eI (nI w))] [eI (ep_oi (ep_ff (ep_dn lt S.1) (ep_m4 (nI (S.2.1 + 1)))))] M _
    refine ez_iret .int dX12_wants_121 rfl rfl ?_
    have hpe : ep_hp S = 0 := by unfold ep_hp; rw [if_neg (by omega)]
    exact ⟨by unfold ep_dr; simp [ep_wt, ep_oi, hpe], FX.rf⟩
  · refine ez_iconst 63 dX12_wants_62 rfl (nI 1) (by decide) ?_
    refine ez_goto 67 dX12_wants_63 (by decide) ?_
    refine ez_istore 69 [(4, eI (nI 1)), (3, eI (nI (ep_fr (ep_dn lt S.1) (S.2.2.2.2.1 S.1)))), (2, eI (nI (ep_dn lt S.1))), (0, eR 12 0), (1, eI (nI w))] dX12_wants_67 rfl (by decide) rfl ?_
    refine ez_aload_n 70 dX12_wants_69 rfl rfl ?_
    refine ez_getf 73 (eR 48 0) dX12_wants_70 rfl fl_X12_32 (by show 0 < 1; omega) rfl ?_
    refine ez_iload_n 74 dX12_wants_73 rfl rfl ?_
    refine ez_ialdN w 75 dX12_wants_74 rfl (by decide) (by show 0 < 1; omega) (by show w < 8; omega) ?_
    refine ez_top (nI 1) hk0 ?_
    refine ez_tabIn (off := 33) 108 dX12_wants_75 (by decide) (by decide) (by decide) (by decide) ?_
    refine ez_aload_n 109 dX12_wants_108 rfl rfl ?_
    refine ez_iload_n 110 dX12_wants_109 rfl rfl ?_
    refine ez_aload_n 111 dX12_wants_110 rfl rfl ?_
    refine ez_getf 114 (eR 51 0) dX12_wants_111 rfl fl_X12_41 (by show 0 < 1; omega) rfl ?_
    refine ez_iload_n 115 dX12_wants_114 rfl rfl ?_
    refine ez_ialdN w 116 dX12_wants_115 rfl (by decide) (by show 0 < 1; omega) (by show w < 8; omega) ?_
    refine ez_top (nI S.2.1) hR.2.2.2.1 ?_
    refine ez_iconst 117 dX12_wants_116 rfl (nI 1) (by decide) ?_
    refine ez_iadd 118 dX12_wants_117 rfl ?_
    refine ez_top (nI (S.2.1 + 1)) (nI_add _ _) ?_
    refine ez_callV 121 [eI (nI w), eI (nI (S.2.1 + 1))] [] dX12_wants_118 rfl rfl ok_X12_round in_X12_round (by decide) (by show 0 < 1; omega) ln_X12_187 (by omega) (Nat.le_of_ble_eq_true rfl) (c_X12_round g (d - 1) (n := n) w (nI (S.2.1 + 1)) M (by omega) hw hmz hz hS hR hZ) (fun r118 M118 q118 => ?_)
    obtain ⟨rfl, e118⟩ := q118
    rw [e118]
    show Ez (true, g) mX12_wants d 121 [(4, eI (nI 1)), (3, eI (nI (ep_fr (ep_dn lt S.1) (S.2.2.2.2.1 S.1)))), (2, eI (nI (ep_dn lt S.1))), (0, eR 12 0), (1, eI (nI w))] [eI (ep_oi (ep_ff (ep_dn lt S.1) (ep_m4 (nI (S.2.1 + 1)))))] M _
    refine ez_iret .int dX12_wants_121 rfl rfl ?_
    have hpe : ep_hp S = 1 := by unfold ep_hp; rw [if_pos (by omega)]
    exact ⟨by unfold ep_dr; simp [ep_wt, ep_oi, hpe], FX.rf⟩
set_option maxRecDepth 20000 in
theorem c_mwants_2 (g : EzH) (d : Nat) {mz num : Nat} {S : EpW} {n : Nat} {lt : Nat → Int32} {bl xc xr : Nat} {tf : Nat → EpF} (w : Nat) (M : EzM) (hd : 65 ≤ d) (hnum : num ≤ 9) (hw : w < 8) (hmz : mz < 4) (hz : WFz n lt) (hS : WFS n S) (hR : RMW 2 mz num S w M) (hZ : RMz mz n lt M) (hW : WFx xc xr tf) (hb2 : bl < 2) (hX : RMx xc xr tf M) (hbl : M.1 12 0 20 = nI bl) : Ezc (true, g) mX12_wants d [eR 12 0, eI (nI w)] M (fun r M' => r = some (eI (ep_oi (ep_dr lt 2 num ((tf xr 0).2 (ep_nm lt bl num S)) S))) ∧ FX (fun k i s => k = 12 ∧ (i ≠ 0 ∨ (21 ≤ s ∧ s < 36))) M M') := by
  refine Ezc.of (by decide +kernel) (Nat.le_of_ble_eq_true rfl) ?_
  have z1 := hz.2.1
  have s1 := hS.1
  have s2 := hS.2.1
  have hk0 := hR.1
  have d16 := ep_dn16 lt S.1
  have g16 := (hS.2.2 S.1 (by omega)).1
  have p99 := (hS.2.2 S.1 (by omega)).2
  have f16 := (ep_frn _ d16 _ g16).2
  have b2 := ep_b2 (ep_dn lt S.1) S.2.1
  show Ez (true, g) mX12_wants d 0 [(0, eR 12 0), (1, eI (nI w))] [] M _
  refine ez_aload_n 1 dX12_wants_0 rfl rfl ?_
  refine ez_aload_n 2 dX12_wants_1 rfl rfl ?_
  refine ez_getf 5 (eR 49 0) dX12_wants_2 rfl fl_X12_35 (by show 0 < 1; omega) rfl ?_
  refine ez_iload_n 6 dX12_wants_5 rfl rfl ?_
  refine ez_ialdN w 7 dX12_wants_6 rfl (by decide) (by show 0 < 1; omega) (by show w < 8; omega) ?_
  refine ez_top (nI mz) hR.2.1 ?_
  refine ez_aload_n 8 dX12_wants_7 rfl rfl ?_
  refine ez_getf 11 (eR 50 0) dX12_wants_8 rfl fl_X12_38 (by show 0 < 1; omega) rfl ?_
  refine ez_iload_n 12 dX12_wants_11 rfl rfl ?_
  refine ez_ialdN w 13 dX12_wants_12 rfl (by decide) (by show 0 < 1; omega) (by show w < 8; omega) ?_
  refine ez_top (nI S.1) hR.2.2.1 ?_
  refine ez_callV 16 [eI (nI mz), eI (nI S.1)] [] dX12_wants_13 rfl rfl ok_X12_doorsOf in_X12_doorsOf (by decide) (by show 0 < 1; omega) ln_X12_190 (by omega) (Nat.le_of_ble_eq_true rfl) (c_X12_doorsOf g (d - 1) mz n S.1 lt M (by omega) (by omega) (by omega) hZ) (fun r13 M13 q13 => ?_)
  obtain ⟨rfl, e13⟩ := q13
  rw [e13]
  show Ez (true, g) mX12_wants d 16 [(0, eR 12 0), (1, eI (nI w))] [eI (nI (ep_dn lt S.1))] M _
  refine ez_istore_n 17 [(2, eI (nI (ep_dn lt S.1))), (0, eR 12 0), (1, eI (nI w))] dX12_wants_16 rfl (by decide) rfl ?_
  refine ez_iload_n 18 dX12_wants_17 rfl rfl ?_
  refine ez_aload_n 19 dX12_wants_18 rfl rfl ?_
  refine ez_getf 22 (eR 55 0) dX12_wants_19 rfl fl_X12_53 (by show 0 < 1; omega) rfl ?_
  refine ez_bipush 24 dX12_wants_22 rfl (nI 10) (by decide) ?_
  refine ez_iload_n 25 dX12_wants_24 rfl rfl ?_
  refine ez_imul 26 dX12_wants_25 rfl ?_
  refine ez_top (nI (10 * w)) (pk_mul _ _) ?_
  refine ez_aload_n 27 dX12_wants_26 rfl rfl ?_
  refine ez_getf 30 (eR 50 0) dX12_wants_27 rfl fl_X12_38 (by show 0 < 1; omega) rfl ?_
  refine ez_iload_n 31 dX12_wants_30 rfl rfl ?_
  refine ez_ialdN w 32 dX12_wants_31 rfl (by decide) (by show 0 < 1; omega) (by show w < 8; omega) ?_
  refine ez_top (nI S.1) hR.2.2.1 ?_
  refine ez_iadd 33 dX12_wants_32 rfl ?_
  refine ez_top (nI (10 * w + S.1)) (nI_add _ _) ?_
  refine ez_ialdN (10 * w + S.1) 34 dX12_wants_33 rfl (by decide) (by show 0 < 1; omega) (by show 10 * w + S.1 < 80; omega) ?_
  refine ez_top (nI (S.2.2.2.2.1 S.1)) (hR.2.2.2.2.2.2.2 S.1 (by omega)).1 ?_
  refine ez_iconst 35 dX12_wants_34 rfl (-1) (by decide) ?_
  refine ez_ixor 36 dX12_wants_35 rfl ?_
  refine ez_iand 37 dX12_wants_36 rfl ?_
  refine ez_top (nI (ep_fr (ep_dn lt S.1) (S.2.2.2.2.1 S.1))) (ep_frn _ d16 _ g16).1 ?_
  refine ez_istore_n 38 [(3, eI (nI (ep_fr (ep_dn lt S.1) (S.2.2.2.2.1 S.1)))), (2, eI (nI (ep_dn lt S.1))), (0, eR 12 0), (1, eI (nI w))] dX12_wants_37 rfl (by decide) rfl ?_
  refine ez_aload_n 39 dX12_wants_38 rfl rfl ?_
  refine ez_getf 42 (eR 47 0) dX12_wants_39 rfl fl_X12_29 (by show 0 < 1; omega) rfl ?_
  refine ez_bipush 44 dX12_wants_42 rfl (nI 10) (by decide) ?_
  refine ez_aload_n 45 dX12_wants_44 rfl rfl ?_
  refine ez_getf 48 (eR 49 0) dX12_wants_45 rfl fl_X12_35 (by show 0 < 1; omega) rfl ?_
  refine ez_iload_n 49 dX12_wants_48 rfl rfl ?_
  refine ez_ialdN w 50 dX12_wants_49 rfl (by decide) (by show 0 < 1; omega) (by show w < 8; omega) ?_
  refine ez_top (nI mz) hR.2.1 ?_
  refine ez_imul 51 dX12_wants_50 rfl ?_
  refine ez_top (nI (10 * mz)) (pk_mul _ _) ?_
  refine ez_aload_n 52 dX12_wants_51 rfl rfl ?_
  refine ez_getf 55 (eR 50 0) dX12_wants_52 rfl fl_X12_38 (by show 0 < 1; omega) rfl ?_
  refine ez_iload_n 56 dX12_wants_55 rfl rfl ?_
  refine ez_ialdN w 57 dX12_wants_56 rfl (by decide) (by show 0 < 1; omega) (by show w < 8; omega) ?_
  refine ez_top (nI S.1) hR.2.2.1 ?_
  refine ez_iadd 58 dX12_wants_57 rfl ?_
  refine ez_top (nI (10 * mz + S.1)) (nI_add _ _) ?_
  refine ez_ialdN (10 * mz + S.1) 59 dX12_wants_58 rfl (by decide) (by show 0 < 1; omega) (by show 10 * mz + S.1 < 40; omega) ?_
  refine ez_top (nI (S.2.2.2.2.2 S.1)) (hR.2.2.2.2.2.2.2 S.1 (by omega)).2 ?_
  refine ez_nif_le 62 66 dX12_wants_59 rfl (by decide) (by omega) (fun h59 => ?_) (fun h59 => ?_)
  · refine ez_iconst 67 dX12_wants_66 rfl (nI 0) (by decide) ?_
    refine ez_istore 69 [(4, eI (nI 0)), (3, eI (nI (ep_fr (ep_dn lt S.1) (S.2.2.2.2.1 S.1)))), (2, eI (nI (ep_dn lt S.1))), (0, eR 12 0), (1, eI (nI w))] dX12_wants_67 rfl (by decide) rfl ?_
    refine ez_aload_n 70 dX12_wants_69 rfl rfl ?_
    refine ez_getf 73 (eR 48 0) dX12_wants_70 rfl fl_X12_32 (by show 0 < 1; omega) rfl ?_
    refine ez_iload_n 74 dX12_wants_73 rfl rfl ?_
    refine ez_ialdN w 75 dX12_wants_74 rfl (by decide) (by show 0 < 1; omega) (by show w < 8; omega) ?_
    refine ez_top (nI 2) hk0 ?_
    refine ez_tabIn (off := 118) 193 dX12_wants_75 (by decide) (by decide) (by decide) (by decide) ?_
    refine ez_iload_n 194 dX12_wants_193 rfl rfl ?_
    refine ez_nif_ne 197 205 dX12_wants_194 rfl (by decide) (by omega) (fun h194 => ?_) (fun h194 => ?_)
    · refine ez_iload_n 206 dX12_wants_205 rfl rfl ?_
      refine ez_callS 209 [eI (nI (ep_fr (ep_dn lt S.1) (S.2.2.2.2.1 S.1)))] [] dX12_wants_206 rfl rfl ok_X12_least st_X12_least ln_X12_196 (by omega) (Nat.le_of_ble_eq_true rfl) (c_X12_least g (d - 1) (ep_fr (ep_dn lt S.1) (S.2.2.2.2.1 S.1)) M (by omega) (by omega)) (fun r206 M206 q206 => ?_)
      obtain ⟨rfl, e206⟩ := q206
      rw [e206]
      show Ez (true, g) mX12_wants d 209 [(4, eI (nI 0)), (3, eI (nI (ep_fr (ep_dn lt S.1) (S.2.2.2.2.1 S.1)))), (2, eI (nI (ep_dn lt S.1))), (0, eR 12 0), (1, eI (nI w))] [eI (ep_oi (ep_ff (ep_fr (ep_dn lt S.1) (S.2.2.2.2.1 S.1)) 0))] M _
      refine ez_iret .int dX12_wants_209 rfl rfl ?_
      have hpe : ep_hp S = 0 := by unfold ep_hp; rw [if_neg (by omega)]
      exact ⟨by unfold ep_dr; simp [ep_wt, ep_oi, hpe, show ¬ ep_fr (ep_dn lt S.1) (S.2.2.2.2.1 S.1) = 0 by omega], FX.rf⟩
    · refine ez_aload_n 198 dX12_wants_197 rfl rfl ?_
      refine ez_iload_n 199 dX12_wants_198 rfl rfl ?_
      refine ez_callV 202 [eI (nI w)] [] dX12_wants_199 rfl rfl ok_X12_plainly in_X12_plainly (by decide) (by show 0 < 1; omega) ln_X12_193 (by omega) (Nat.le_of_ble_eq_true rfl) (c_X12_plainly g (d - 1) w M (by omega) hw hmz hz hS hR hZ hW hb2 hX hbl) (fun r199 M199 q199 => ?_)
      obtain ⟨rfl, f199⟩ := q199
      show Ez (true, g) mX12_wants d 202 [(4, eI (nI 0)), (3, eI (nI (ep_fr (ep_dn lt S.1) (S.2.2.2.2.1 S.1)))), (2, eI (nI (ep_dn lt S.1))), (0, eR 12 0), (1, eI (nI w))] [eI (ep_oi (ep_ff (ep_dn lt S.1) (ep_m4 (nI S.2.1 + ((tf xr 0).2 (ep_nm lt bl num S))))))] M199 _
      refine ez_goto 209 dX12_wants_202 (by decide) ?_
      refine ez_iret .int dX12_wants_209 rfl rfl ?_
      have hpe : ep_hp S = 0 := by unfold ep_hp; rw [if_neg (by omega)]
      exact ⟨by unfold ep_dr; simp [ep_wt, ep_oi, hpe, show ep_fr (ep_dn lt S.1) (S.2.2.2.2.1 S.1) = 0 by omega], f199⟩
  · refine ez_iconst 63 dX12_wants_62 rfl (nI 1) (by decide) ?_
    refine ez_goto 67 dX12_wants_63 (by decide) ?_
    refine ez_istore 69 [(4, eI (nI 1)), (3, eI (nI (ep_fr (ep_dn lt S.1) (S.2.2.2.2.1 S.1)))), (2, eI (nI (ep_dn lt S.1))), (0, eR 12 0), (1, eI (nI w))] dX12_wants_67 rfl (by decide) rfl ?_
    refine ez_aload_n 70 dX12_wants_69 rfl rfl ?_
    refine ez_getf 73 (eR 48 0) dX12_wants_70 rfl fl_X12_32 (by show 0 < 1; omega) rfl ?_
    refine ez_iload_n 74 dX12_wants_73 rfl rfl ?_
    refine ez_ialdN w 75 dX12_wants_74 rfl (by decide) (by show 0 < 1; omega) (by show w < 8; omega) ?_
    refine ez_top (nI 2) hk0 ?_
    refine ez_tabIn (off := 118) 193 dX12_wants_75 (by decide) (by decide) (by decide) (by decide) ?_
    refine ez_iload_n 194 dX12_wants_193 rfl rfl ?_
    refine ez_nif_ne 197 205 dX12_wants_194 rfl (by decide) (by omega) (fun h194 => ?_) (fun h194 => ?_)
    · refine ez_iload_n 206 dX12_wants_205 rfl rfl ?_
      refine ez_callS 209 [eI (nI (ep_fr (ep_dn lt S.1) (S.2.2.2.2.1 S.1)))] [] dX12_wants_206 rfl rfl ok_X12_least st_X12_least ln_X12_196 (by omega) (Nat.le_of_ble_eq_true rfl) (c_X12_least g (d - 1) (ep_fr (ep_dn lt S.1) (S.2.2.2.2.1 S.1)) M (by omega) (by omega)) (fun r206 M206 q206 => ?_)
      obtain ⟨rfl, e206⟩ := q206
      rw [e206]
      show Ez (true, g) mX12_wants d 209 [(4, eI (nI 1)), (3, eI (nI (ep_fr (ep_dn lt S.1) (S.2.2.2.2.1 S.1)))), (2, eI (nI (ep_dn lt S.1))), (0, eR 12 0), (1, eI (nI w))] [eI (ep_oi (ep_ff (ep_fr (ep_dn lt S.1) (S.2.2.2.2.1 S.1)) 0))] M _
      refine ez_iret .int dX12_wants_209 rfl rfl ?_
      have hpe : ep_hp S = 1 := by unfold ep_hp; rw [if_pos (by omega)]
      exact ⟨by unfold ep_dr; simp [ep_wt, ep_oi, hpe, show ¬ ep_fr (ep_dn lt S.1) (S.2.2.2.2.1 S.1) = 0 by omega], FX.rf⟩
    · refine ez_aload_n 198 dX12_wants_197 rfl rfl ?_
      refine ez_iload_n 199 dX12_wants_198 rfl rfl ?_
      refine ez_callV 202 [eI (nI w)] [] dX12_wants_199 rfl rfl ok_X12_plainly in_X12_plainly (by decide) (by show 0 < 1; omega) ln_X12_193 (by omega) (Nat.le_of_ble_eq_true rfl) (c_X12_plainly g (d - 1) w M (by omega) hw hmz hz hS hR hZ hW hb2 hX hbl) (fun r199 M199 q199 => ?_)
      obtain ⟨rfl, f199⟩ := q199
      show Ez (true, g) mX12_wants d 202 [(4, eI (nI 1)), (3, eI (nI (ep_fr (ep_dn lt S.1) (S.2.2.2.2.1 S.1)))), (2, eI (nI (ep_dn lt S.1))), (0, eR 12 0), (1, eI (nI w))] [eI (ep_oi (ep_ff (ep_dn lt S.1) (ep_m4 (nI S.2.1 + ((tf xr 0).2 (ep_nm lt bl num S))))))] M199 _
      refine ez_goto 209 dX12_wants_202 (by decide) ?_
      refine ez_iret .int dX12_wants_209 rfl rfl ?_
      have hpe : ep_hp S = 1 := by unfold ep_hp; rw [if_pos (by omega)]
      exact ⟨by unfold ep_dr; simp [ep_wt, ep_oi, hpe, show ep_fr (ep_dn lt S.1) (S.2.2.2.2.1 S.1) = 0 by omega], f199⟩
set_option maxRecDepth 20000 in
theorem c_mwants_3 (g : EzH) (d : Nat) {mz num : Nat} {S : EpW} {n : Nat} {lt : Nat → Int32} {bl xc xr : Nat} {tf : Nat → EpF} (w : Nat) (M : EzM) (hd : 65 ≤ d) (hnum : num ≤ 9) (hw : w < 8) (hmz : mz < 4) (hz : WFz n lt) (hS : WFS n S) (hR : RMW 3 mz num S w M) (hZ : RMz mz n lt M) (hW : WFx xc xr tf) (hb2 : bl < 2) (hX : RMx xc xr tf M) (hbl : M.1 12 0 20 = nI bl) : Ezc (true, g) mX12_wants d [eR 12 0, eI (nI w)] M (fun r M' => r = some (eI (ep_oi (ep_dr lt 3 num ((tf xr 0).2 (ep_nm lt bl num S)) S))) ∧ FX (fun k i s => k = 12 ∧ (i ≠ 0 ∨ (21 ≤ s ∧ s < 36))) M M') := by
  refine Ezc.of (by decide +kernel) (Nat.le_of_ble_eq_true rfl) ?_
  have z1 := hz.2.1
  have s1 := hS.1
  have s2 := hS.2.1
  have hk0 := hR.1
  have d16 := ep_dn16 lt S.1
  have g16 := (hS.2.2 S.1 (by omega)).1
  have p99 := (hS.2.2 S.1 (by omega)).2
  have f16 := (ep_frn _ d16 _ g16).2
  have b2 := ep_b2 (ep_dn lt S.1) S.2.1
  show Ez (true, g) mX12_wants d 0 [(0, eR 12 0), (1, eI (nI w))] [] M _
  refine ez_aload_n 1 dX12_wants_0 rfl rfl ?_
  refine ez_aload_n 2 dX12_wants_1 rfl rfl ?_
  refine ez_getf 5 (eR 49 0) dX12_wants_2 rfl fl_X12_35 (by show 0 < 1; omega) rfl ?_
  refine ez_iload_n 6 dX12_wants_5 rfl rfl ?_
  refine ez_ialdN w 7 dX12_wants_6 rfl (by decide) (by show 0 < 1; omega) (by show w < 8; omega) ?_
  refine ez_top (nI mz) hR.2.1 ?_
  refine ez_aload_n 8 dX12_wants_7 rfl rfl ?_
  refine ez_getf 11 (eR 50 0) dX12_wants_8 rfl fl_X12_38 (by show 0 < 1; omega) rfl ?_
  refine ez_iload_n 12 dX12_wants_11 rfl rfl ?_
  refine ez_ialdN w 13 dX12_wants_12 rfl (by decide) (by show 0 < 1; omega) (by show w < 8; omega) ?_
  refine ez_top (nI S.1) hR.2.2.1 ?_
  refine ez_callV 16 [eI (nI mz), eI (nI S.1)] [] dX12_wants_13 rfl rfl ok_X12_doorsOf in_X12_doorsOf (by decide) (by show 0 < 1; omega) ln_X12_190 (by omega) (Nat.le_of_ble_eq_true rfl) (c_X12_doorsOf g (d - 1) mz n S.1 lt M (by omega) (by omega) (by omega) hZ) (fun r13 M13 q13 => ?_)
  obtain ⟨rfl, e13⟩ := q13
  rw [e13]
  show Ez (true, g) mX12_wants d 16 [(0, eR 12 0), (1, eI (nI w))] [eI (nI (ep_dn lt S.1))] M _
  refine ez_istore_n 17 [(2, eI (nI (ep_dn lt S.1))), (0, eR 12 0), (1, eI (nI w))] dX12_wants_16 rfl (by decide) rfl ?_
  refine ez_iload_n 18 dX12_wants_17 rfl rfl ?_
  refine ez_aload_n 19 dX12_wants_18 rfl rfl ?_
  refine ez_getf 22 (eR 55 0) dX12_wants_19 rfl fl_X12_53 (by show 0 < 1; omega) rfl ?_
  refine ez_bipush 24 dX12_wants_22 rfl (nI 10) (by decide) ?_
  refine ez_iload_n 25 dX12_wants_24 rfl rfl ?_
  refine ez_imul 26 dX12_wants_25 rfl ?_
  refine ez_top (nI (10 * w)) (pk_mul _ _) ?_
  refine ez_aload_n 27 dX12_wants_26 rfl rfl ?_
  refine ez_getf 30 (eR 50 0) dX12_wants_27 rfl fl_X12_38 (by show 0 < 1; omega) rfl ?_
  refine ez_iload_n 31 dX12_wants_30 rfl rfl ?_
  refine ez_ialdN w 32 dX12_wants_31 rfl (by decide) (by show 0 < 1; omega) (by show w < 8; omega) ?_
  refine ez_top (nI S.1) hR.2.2.1 ?_
  refine ez_iadd 33 dX12_wants_32 rfl ?_
  refine ez_top (nI (10 * w + S.1)) (nI_add _ _) ?_
  refine ez_ialdN (10 * w + S.1) 34 dX12_wants_33 rfl (by decide) (by show 0 < 1; omega) (by show 10 * w + S.1 < 80; omega) ?_
  refine ez_top (nI (S.2.2.2.2.1 S.1)) (hR.2.2.2.2.2.2.2 S.1 (by omega)).1 ?_
  refine ez_iconst 35 dX12_wants_34 rfl (-1) (by decide) ?_
  refine ez_ixor 36 dX12_wants_35 rfl ?_
  refine ez_iand 37 dX12_wants_36 rfl ?_
  refine ez_top (nI (ep_fr (ep_dn lt S.1) (S.2.2.2.2.1 S.1))) (ep_frn _ d16 _ g16).1 ?_
  refine ez_istore_n 38 [(3, eI (nI (ep_fr (ep_dn lt S.1) (S.2.2.2.2.1 S.1)))), (2, eI (nI (ep_dn lt S.1))), (0, eR 12 0), (1, eI (nI w))] dX12_wants_37 rfl (by decide) rfl ?_
  refine ez_aload_n 39 dX12_wants_38 rfl rfl ?_
  refine ez_getf 42 (eR 47 0) dX12_wants_39 rfl fl_X12_29 (by show 0 < 1; omega) rfl ?_
  refine ez_bipush 44 dX12_wants_42 rfl (nI 10) (by decide) ?_
  refine ez_aload_n 45 dX12_wants_44 rfl rfl ?_
  refine ez_getf 48 (eR 49 0) dX12_wants_45 rfl fl_X12_35 (by show 0 < 1; omega) rfl ?_
  refine ez_iload_n 49 dX12_wants_48 rfl rfl ?_
  refine ez_ialdN w 50 dX12_wants_49 rfl (by decide) (by show 0 < 1; omega) (by show w < 8; omega) ?_
  refine ez_top (nI mz) hR.2.1 ?_
  refine ez_imul 51 dX12_wants_50 rfl ?_
  refine ez_top (nI (10 * mz)) (pk_mul _ _) ?_
  refine ez_aload_n 52 dX12_wants_51 rfl rfl ?_
  refine ez_getf 55 (eR 50 0) dX12_wants_52 rfl fl_X12_38 (by show 0 < 1; omega) rfl ?_
  refine ez_iload_n 56 dX12_wants_55 rfl rfl ?_
  refine ez_ialdN w 57 dX12_wants_56 rfl (by decide) (by show 0 < 1; omega) (by show w < 8; omega) ?_
  refine ez_top (nI S.1) hR.2.2.1 ?_
  refine ez_iadd 58 dX12_wants_57 rfl ?_
  refine ez_top (nI (10 * mz + S.1)) (nI_add _ _) ?_
  refine ez_ialdN (10 * mz + S.1) 59 dX12_wants_58 rfl (by decide) (by show 0 < 1; omega) (by show 10 * mz + S.1 < 40; omega) ?_
  refine ez_top (nI (S.2.2.2.2.2 S.1)) (hR.2.2.2.2.2.2.2 S.1 (by omega)).2 ?_
  refine ez_nif_le 62 66 dX12_wants_59 rfl (by decide) (by omega) (fun h59 => ?_) (fun h59 => ?_)
  · refine ez_iconst 67 dX12_wants_66 rfl (nI 0) (by decide) ?_
    refine ez_istore 69 [(4, eI (nI 0)), (3, eI (nI (ep_fr (ep_dn lt S.1) (S.2.2.2.2.1 S.1)))), (2, eI (nI (ep_dn lt S.1))), (0, eR 12 0), (1, eI (nI w))] dX12_wants_67 rfl (by decide) rfl ?_
    refine ez_aload_n 70 dX12_wants_69 rfl rfl ?_
    refine ez_getf 73 (eR 48 0) dX12_wants_70 rfl fl_X12_32 (by show 0 < 1; omega) rfl ?_
    refine ez_iload_n 74 dX12_wants_73 rfl rfl ?_
    refine ez_ialdN w 75 dX12_wants_74 rfl (by decide) (by show 0 < 1; omega) (by show w < 8; omega) ?_
    refine ez_top (nI 3) hk0 ?_
    refine ez_tabIn (off := 47) 122 dX12_wants_75 (by decide) (by decide) (by decide) (by decide) ?_
    refine ez_aload_n 123 dX12_wants_122 rfl rfl ?_
    refine ez_iload_n 124 dX12_wants_123 rfl rfl ?_
    refine ez_aload_n 125 dX12_wants_124 rfl rfl ?_
    refine ez_getf 128 (eR 51 0) dX12_wants_125 rfl fl_X12_41 (by show 0 < 1; omega) rfl ?_
    refine ez_iload_n 129 dX12_wants_128 rfl rfl ?_
    refine ez_ialdN w 130 dX12_wants_129 rfl (by decide) (by show 0 < 1; omega) (by show w < 8; omega) ?_
    refine ez_top (nI S.2.1) hR.2.2.2.1 ?_
    refine ez_iload 132 dX12_wants_130 rfl rfl ?_
    refine ez_nif_eq 135 144 dX12_wants_132 rfl (by decide) (by omega) (fun h132 => ?_) (fun h132 => ?_)
    · refine ez_iconst 145 dX12_wants_144 rfl (nI 1) (by decide) ?_
      refine ez_iadd 146 dX12_wants_145 rfl ?_
      refine ez_top (nI (S.2.1 + 1)) (nI_add _ _) ?_
      refine ez_callV 149 [eI (nI w), eI (nI (S.2.1 + 1))] [] dX12_wants_146 rfl rfl ok_X12_round in_X12_round (by decide) (by show 0 < 1; omega) ln_X12_187 (by omega) (Nat.le_of_ble_eq_true rfl) (c_X12_round g (d - 1) (n := n) w (nI (S.2.1 + 1)) M (by omega) hw hmz hz hS hR hZ) (fun r146 M146 q146 => ?_)
      obtain ⟨rfl, e146⟩ := q146
      rw [e146]
      show Ez (true, g) mX12_wants d 149 [(4, eI (nI 0)), (3, eI (nI (ep_fr (ep_dn lt S.1) (S.2.2.2.2.1 S.1)))), (2, eI (nI (ep_dn lt S.1))), (0, eR 12 0), (1, eI (nI w))] [eI (ep_oi (ep_ff (ep_dn lt S.1) (ep_m4 (nI (S.2.1 + 1)))))] M _
      refine ez_iret .int dX12_wants_149 rfl rfl ?_
      have hpe : ep_hp S = 0 := by unfold ep_hp; rw [if_neg (by omega)]
      exact ⟨by unfold ep_dr; simp [ep_wt, ep_oi, hpe], FX.rf⟩
    · exact absurd h132 (by decide)
  · refine ez_iconst 63 dX12_wants_62 rfl (nI 1) (by decide) ?_
    refine ez_goto 67 dX12_wants_63 (by decide) ?_
    refine ez_istore 69 [(4, eI (nI 1)), (3, eI (nI (ep_fr (ep_dn lt S.1) (S.2.2.2.2.1 S.1)))), (2, eI (nI (ep_dn lt S.1))), (0, eR 12 0), (1, eI (nI w))] dX12_wants_67 rfl (by decide) rfl ?_
    refine ez_aload_n 70 dX12_wants_69 rfl rfl ?_
    refine ez_getf 73 (eR 48 0) dX12_wants_70 rfl fl_X12_32 (by show 0 < 1; omega) rfl ?_
    refine ez_iload_n 74 dX12_wants_73 rfl rfl ?_
    refine ez_ialdN w 75 dX12_wants_74 rfl (by decide) (by show 0 < 1; omega) (by show w < 8; omega) ?_
    refine ez_top (nI 3) hk0 ?_
    refine ez_tabIn (off := 47) 122 dX12_wants_75 (by decide) (by decide) (by decide) (by decide) ?_
    refine ez_aload_n 123 dX12_wants_122 rfl rfl ?_
    refine ez_iload_n 124 dX12_wants_123 rfl rfl ?_
    refine ez_aload_n 125 dX12_wants_124 rfl rfl ?_
    refine ez_getf 128 (eR 51 0) dX12_wants_125 rfl fl_X12_41 (by show 0 < 1; omega) rfl ?_
    refine ez_iload_n 129 dX12_wants_128 rfl rfl ?_
    refine ez_ialdN w 130 dX12_wants_129 rfl (by decide) (by show 0 < 1; omega) (by show w < 8; omega) ?_
    refine ez_top (nI S.2.1) hR.2.2.2.1 ?_
    refine ez_iload 132 dX12_wants_130 rfl rfl ?_
    refine ez_nif_eq 135 144 dX12_wants_132 rfl (by decide) (by omega) (fun h132 => ?_) (fun h132 => ?_)
    · exact absurd h132 (by decide)
    · refine ez_aload_n 136 dX12_wants_135 rfl rfl ?_
      refine ez_getf 139 (eR 52 0) dX12_wants_136 rfl fl_X12_44 (by show 0 < 1; omega) rfl ?_
      refine ez_iload_n 140 dX12_wants_139 rfl rfl ?_
      refine ez_ialdN w 141 dX12_wants_140 rfl (by decide) (by show 0 < 1; omega) (by show w < 8; omega) ?_
      refine ez_top (nI num) hR.2.2.2.2.1 ?_
      refine ez_goto 145 dX12_wants_141 (by decide) ?_
      refine ez_iadd 146 dX12_wants_145 rfl ?_
      refine ez_top (nI (S.2.1 + num)) (nI_add _ _) ?_
      refine ez_callV 149 [eI (nI w), eI (nI (S.2.1 + num))] [] dX12_wants_146 rfl rfl ok_X12_round in_X12_round (by decide) (by show 0 < 1; omega) ln_X12_187 (by omega) (Nat.le_of_ble_eq_true rfl) (c_X12_round g (d - 1) (n := n) w (nI (S.2.1 + num)) M (by omega) hw hmz hz hS hR hZ) (fun r146 M146 q146 => ?_)
      obtain ⟨rfl, e146⟩ := q146
      rw [e146]
      show Ez (true, g) mX12_wants d 149 [(4, eI (nI 1)), (3, eI (nI (ep_fr (ep_dn lt S.1) (S.2.2.2.2.1 S.1)))), (2, eI (nI (ep_dn lt S.1))), (0, eR 12 0), (1, eI (nI w))] [eI (ep_oi (ep_ff (ep_dn lt S.1) (ep_m4 (nI (S.2.1 + num)))))] M _
      refine ez_iret .int dX12_wants_149 rfl rfl ?_
      have hpe : ep_hp S = 1 := by unfold ep_hp; rw [if_pos (by omega)]
      exact ⟨by unfold ep_dr; simp [ep_wt, ep_oi, hpe], FX.rf⟩
set_option maxRecDepth 20000 in
theorem c_mwants_4 (g : EzH) (d : Nat) {mz num : Nat} {S : EpW} {n : Nat} {lt : Nat → Int32} {bl xc xr : Nat} {tf : Nat → EpF} (w : Nat) (M : EzM) (hd : 65 ≤ d) (hnum : num ≤ 9) (hw : w < 8) (hmz : mz < 4) (hz : WFz n lt) (hS : WFS n S) (hR : RMW 4 mz num S w M) (hZ : RMz mz n lt M) (hW : WFx xc xr tf) (hb2 : bl < 2) (hX : RMx xc xr tf M) (hbl : M.1 12 0 20 = nI bl) : Ezc (true, g) mX12_wants d [eR 12 0, eI (nI w)] M (fun r M' => r = some (eI (ep_oi (ep_dr lt 4 num ((tf xr 0).2 (ep_nm lt bl num S)) S))) ∧ FX (fun k i s => k = 12 ∧ (i ≠ 0 ∨ (21 ≤ s ∧ s < 36))) M M') := by
  refine Ezc.of (by decide +kernel) (Nat.le_of_ble_eq_true rfl) ?_
  have z1 := hz.2.1
  have s1 := hS.1
  have s2 := hS.2.1
  have hk0 := hR.1
  have d16 := ep_dn16 lt S.1
  have g16 := (hS.2.2 S.1 (by omega)).1
  have p99 := (hS.2.2 S.1 (by omega)).2
  have f16 := (ep_frn _ d16 _ g16).2
  have b2 := ep_b2 (ep_dn lt S.1) S.2.1
  show Ez (true, g) mX12_wants d 0 [(0, eR 12 0), (1, eI (nI w))] [] M _
  refine ez_aload_n 1 dX12_wants_0 rfl rfl ?_
  refine ez_aload_n 2 dX12_wants_1 rfl rfl ?_
  refine ez_getf 5 (eR 49 0) dX12_wants_2 rfl fl_X12_35 (by show 0 < 1; omega) rfl ?_
  refine ez_iload_n 6 dX12_wants_5 rfl rfl ?_
  refine ez_ialdN w 7 dX12_wants_6 rfl (by decide) (by show 0 < 1; omega) (by show w < 8; omega) ?_
  refine ez_top (nI mz) hR.2.1 ?_
  refine ez_aload_n 8 dX12_wants_7 rfl rfl ?_
  refine ez_getf 11 (eR 50 0) dX12_wants_8 rfl fl_X12_38 (by show 0 < 1; omega) rfl ?_
  refine ez_iload_n 12 dX12_wants_11 rfl rfl ?_
  refine ez_ialdN w 13 dX12_wants_12 rfl (by decide) (by show 0 < 1; omega) (by show w < 8; omega) ?_
  refine ez_top (nI S.1) hR.2.2.1 ?_
  refine ez_callV 16 [eI (nI mz), eI (nI S.1)] [] dX12_wants_13 rfl rfl ok_X12_doorsOf in_X12_doorsOf (by decide) (by show 0 < 1; omega) ln_X12_190 (by omega) (Nat.le_of_ble_eq_true rfl) (c_X12_doorsOf g (d - 1) mz n S.1 lt M (by omega) (by omega) (by omega) hZ) (fun r13 M13 q13 => ?_)
  obtain ⟨rfl, e13⟩ := q13
  rw [e13]
  show Ez (true, g) mX12_wants d 16 [(0, eR 12 0), (1, eI (nI w))] [eI (nI (ep_dn lt S.1))] M _
  refine ez_istore_n 17 [(2, eI (nI (ep_dn lt S.1))), (0, eR 12 0), (1, eI (nI w))] dX12_wants_16 rfl (by decide) rfl ?_
  refine ez_iload_n 18 dX12_wants_17 rfl rfl ?_
  refine ez_aload_n 19 dX12_wants_18 rfl rfl ?_
  refine ez_getf 22 (eR 55 0) dX12_wants_19 rfl fl_X12_53 (by show 0 < 1; omega) rfl ?_
  refine ez_bipush 24 dX12_wants_22 rfl (nI 10) (by decide) ?_
  refine ez_iload_n 25 dX12_wants_24 rfl rfl ?_
  refine ez_imul 26 dX12_wants_25 rfl ?_
  refine ez_top (nI (10 * w)) (pk_mul _ _) ?_
  refine ez_aload_n 27 dX12_wants_26 rfl rfl ?_
  refine ez_getf 30 (eR 50 0) dX12_wants_27 rfl fl_X12_38 (by show 0 < 1; omega) rfl ?_
  refine ez_iload_n 31 dX12_wants_30 rfl rfl ?_
  refine ez_ialdN w 32 dX12_wants_31 rfl (by decide) (by show 0 < 1; omega) (by show w < 8; omega) ?_
  refine ez_top (nI S.1) hR.2.2.1 ?_
  refine ez_iadd 33 dX12_wants_32 rfl ?_
  refine ez_top (nI (10 * w + S.1)) (nI_add _ _) ?_
  refine ez_ialdN (10 * w + S.1) 34 dX12_wants_33 rfl (by decide) (by show 0 < 1; omega) (by show 10 * w + S.1 < 80; omega) ?_
  refine ez_top (nI (S.2.2.2.2.1 S.1)) (hR.2.2.2.2.2.2.2 S.1 (by omega)).1 ?_
  refine ez_iconst 35 dX12_wants_34 rfl (-1) (by decide) ?_
  refine ez_ixor 36 dX12_wants_35 rfl ?_
  refine ez_iand 37 dX12_wants_36 rfl ?_
  refine ez_top (nI (ep_fr (ep_dn lt S.1) (S.2.2.2.2.1 S.1))) (ep_frn _ d16 _ g16).1 ?_
  refine ez_istore_n 38 [(3, eI (nI (ep_fr (ep_dn lt S.1) (S.2.2.2.2.1 S.1)))), (2, eI (nI (ep_dn lt S.1))), (0, eR 12 0), (1, eI (nI w))] dX12_wants_37 rfl (by decide) rfl ?_
  refine ez_aload_n 39 dX12_wants_38 rfl rfl ?_
  refine ez_getf 42 (eR 47 0) dX12_wants_39 rfl fl_X12_29 (by show 0 < 1; omega) rfl ?_
  refine ez_bipush 44 dX12_wants_42 rfl (nI 10) (by decide) ?_
  refine ez_aload_n 45 dX12_wants_44 rfl rfl ?_
  refine ez_getf 48 (eR 49 0) dX12_wants_45 rfl fl_X12_35 (by show 0 < 1; omega) rfl ?_
  refine ez_iload_n 49 dX12_wants_48 rfl rfl ?_
  refine ez_ialdN w 50 dX12_wants_49 rfl (by decide) (by show 0 < 1; omega) (by show w < 8; omega) ?_
  refine ez_top (nI mz) hR.2.1 ?_
  refine ez_imul 51 dX12_wants_50 rfl ?_
  refine ez_top (nI (10 * mz)) (pk_mul _ _) ?_
  refine ez_aload_n 52 dX12_wants_51 rfl rfl ?_
  refine ez_getf 55 (eR 50 0) dX12_wants_52 rfl fl_X12_38 (by show 0 < 1; omega) rfl ?_
  refine ez_iload_n 56 dX12_wants_55 rfl rfl ?_
  refine ez_ialdN w 57 dX12_wants_56 rfl (by decide) (by show 0 < 1; omega) (by show w < 8; omega) ?_
  refine ez_top (nI S.1) hR.2.2.1 ?_
  refine ez_iadd 58 dX12_wants_57 rfl ?_
  refine ez_top (nI (10 * mz + S.1)) (nI_add _ _) ?_
  refine ez_ialdN (10 * mz + S.1) 59 dX12_wants_58 rfl (by decide) (by show 0 < 1; omega) (by show 10 * mz + S.1 < 40; omega) ?_
  refine ez_top (nI (S.2.2.2.2.2 S.1)) (hR.2.2.2.2.2.2.2 S.1 (by omega)).2 ?_
  refine ez_nif_le 62 66 dX12_wants_59 rfl (by decide) (by omega) (fun h59 => ?_) (fun h59 => ?_)
  · refine ez_iconst 67 dX12_wants_66 rfl (nI 0) (by decide) ?_
    refine ez_istore 69 [(4, eI (nI 0)), (3, eI (nI (ep_fr (ep_dn lt S.1) (S.2.2.2.2.1 S.1)))), (2, eI (nI (ep_dn lt S.1))), (0, eR 12 0), (1, eI (nI w))] dX12_wants_67 rfl (by decide) rfl ?_
    refine ez_aload_n 70 dX12_wants_69 rfl rfl ?_
    refine ez_getf 73 (eR 48 0) dX12_wants_70 rfl fl_X12_32 (by show 0 < 1; omega) rfl ?_
    refine ez_iload_n 74 dX12_wants_73 rfl rfl ?_
    refine ez_ialdN w 75 dX12_wants_74 rfl (by decide) (by show 0 < 1; omega) (by show w < 8; omega) ?_
    refine ez_top (nI 4) hk0 ?_
    refine ez_tabIn (off := 75) 150 dX12_wants_75 (by decide) (by decide) (by decide) (by decide) ?_
    refine ez_iload 152 dX12_wants_150 rfl rfl ?_
    refine ez_nif_eq 155 176 dX12_wants_152 rfl (by decide) (by omega) (fun h152 => ?_) (fun h152 => ?_)
    · refine ez_iload_n 177 dX12_wants_176 rfl rfl ?_
      refine ez_nif_ne 180 188 dX12_wants_177 rfl (by decide) (by omega) (fun h177 => ?_) (fun h177 => ?_)
      · refine ez_iload_n 189 dX12_wants_188 rfl rfl ?_
        refine ez_callS 192 [eI (nI (ep_fr (ep_dn lt S.1) (S.2.2.2.2.1 S.1)))] [] dX12_wants_189 rfl rfl ok_X12_least st_X12_least ln_X12_196 (by omega) (Nat.le_of_ble_eq_true rfl) (c_X12_least g (d - 1) (ep_fr (ep_dn lt S.1) (S.2.2.2.2.1 S.1)) M (by omega) (by omega)) (fun r189 M189 q189 => ?_)
        obtain ⟨rfl, e189⟩ := q189
        rw [e189]
        show Ez (true, g) mX12_wants d 192 [(4, eI (nI 0)), (3, eI (nI (ep_fr (ep_dn lt S.1) (S.2.2.2.2.1 S.1)))), (2, eI (nI (ep_dn lt S.1))), (0, eR 12 0), (1, eI (nI w))] [eI (ep_oi (ep_ff (ep_fr (ep_dn lt S.1) (S.2.2.2.2.1 S.1)) 0))] M _
        refine ez_iret .int dX12_wants_192 rfl rfl ?_
        have hpe : ep_hp S = 0 := by unfold ep_hp; rw [if_neg (by omega)]
        exact ⟨by unfold ep_dr; simp [ep_wt, ep_oi, hpe, show ¬ ep_fr (ep_dn lt S.1) (S.2.2.2.2.1 S.1) = 0 by omega], FX.rf⟩
      · refine ez_aload_n 181 dX12_wants_180 rfl rfl ?_
        refine ez_iload_n 182 dX12_wants_181 rfl rfl ?_
        refine ez_callV 185 [eI (nI w)] [] dX12_wants_182 rfl rfl ok_X12_plainly in_X12_plainly (by decide) (by show 0 < 1; omega) ln_X12_193 (by omega) (Nat.le_of_ble_eq_true rfl) (c_X12_plainly g (d - 1) w M (by omega) hw hmz hz hS hR hZ hW hb2 hX hbl) (fun r182 M182 q182 => ?_)
        obtain ⟨rfl, f182⟩ := q182
        show Ez (true, g) mX12_wants d 185 [(4, eI (nI 0)), (3, eI (nI (ep_fr (ep_dn lt S.1) (S.2.2.2.2.1 S.1)))), (2, eI (nI (ep_dn lt S.1))), (0, eR 12 0), (1, eI (nI w))] [eI (ep_oi (ep_ff (ep_dn lt S.1) (ep_m4 (nI S.2.1 + ((tf xr 0).2 (ep_nm lt bl num S))))))] M182 _
        refine ez_goto 192 dX12_wants_185 (by decide) ?_
        refine ez_iret .int dX12_wants_192 rfl rfl ?_
        have hpe : ep_hp S = 0 := by unfold ep_hp; rw [if_neg (by omega)]
        exact ⟨by unfold ep_dr; simp [ep_wt, ep_oi, hpe, show ep_fr (ep_dn lt S.1) (S.2.2.2.2.1 S.1) = 0 by omega], f182⟩
    · exact absurd h152 (by decide)
  · refine ez_iconst 63 dX12_wants_62 rfl (nI 1) (by decide) ?_
    refine ez_goto 67 dX12_wants_63 (by decide) ?_
    refine ez_istore 69 [(4, eI (nI 1)), (3, eI (nI (ep_fr (ep_dn lt S.1) (S.2.2.2.2.1 S.1)))), (2, eI (nI (ep_dn lt S.1))), (0, eR 12 0), (1, eI (nI w))] dX12_wants_67 rfl (by decide) rfl ?_
    refine ez_aload_n 70 dX12_wants_69 rfl rfl ?_
    refine ez_getf 73 (eR 48 0) dX12_wants_70 rfl fl_X12_32 (by show 0 < 1; omega) rfl ?_
    refine ez_iload_n 74 dX12_wants_73 rfl rfl ?_
    refine ez_ialdN w 75 dX12_wants_74 rfl (by decide) (by show 0 < 1; omega) (by show w < 8; omega) ?_
    refine ez_top (nI 4) hk0 ?_
    refine ez_tabIn (off := 75) 150 dX12_wants_75 (by decide) (by decide) (by decide) (by decide) ?_
    refine ez_iload 152 dX12_wants_150 rfl rfl ?_
    refine ez_nif_eq 155 176 dX12_wants_152 rfl (by decide) (by omega) (fun h152 => ?_) (fun h152 => ?_)
    · exact absurd h152 (by decide)
    · refine ez_iload_n 156 dX12_wants_155 rfl rfl ?_
      refine ez_aload_n 157 dX12_wants_156 rfl rfl ?_
      refine ez_getf 160 (eR 51 0) dX12_wants_157 rfl fl_X12_41 (by show 0 < 1; omega) rfl ?_
      refine ez_iload_n 161 dX12_wants_160 rfl rfl ?_
      refine ez_ialdN w 162 dX12_wants_161 rfl (by decide) (by show 0 < 1; omega) (by show w < 8; omega) ?_
      refine ez_top (nI S.2.1) hR.2.2.2.1 ?_
      refine ez_ishr 163 dX12_wants_162 rfl ?_
      refine ez_iconst 164 dX12_wants_163 rfl (nI 1) (by decide) ?_
      refine ez_iand 165 dX12_wants_164 rfl ?_
      refine ez_top (nI (ep_b (ep_dn lt S.1) S.2.1)) (ep_bshr _ d16 _ hS.2.1) ?_
      refine ez_iconst 166 dX12_wants_165 rfl (nI 1) (by decide) ?_
      refine ez_ncmp_ne 169 176 dX12_wants_166 rfl (by decide) (by omega) (by omega) (fun h166 => ?_) (fun h166 => ?_)
      · refine ez_iload_n 177 dX12_wants_176 rfl rfl ?_
        refine ez_nif_ne 180 188 dX12_wants_177 rfl (by decide) (by omega) (fun h177 => ?_) (fun h177 => ?_)
        · refine ez_iload_n 189 dX12_wants_188 rfl rfl ?_
          refine ez_callS 192 [eI (nI (ep_fr (ep_dn lt S.1) (S.2.2.2.2.1 S.1)))] [] dX12_wants_189 rfl rfl ok_X12_least st_X12_least ln_X12_196 (by omega) (Nat.le_of_ble_eq_true rfl) (c_X12_least g (d - 1) (ep_fr (ep_dn lt S.1) (S.2.2.2.2.1 S.1)) M (by omega) (by omega)) (fun r189 M189 q189 => ?_)
          obtain ⟨rfl, e189⟩ := q189
          rw [e189]
          show Ez (true, g) mX12_wants d 192 [(4, eI (nI 1)), (3, eI (nI (ep_fr (ep_dn lt S.1) (S.2.2.2.2.1 S.1)))), (2, eI (nI (ep_dn lt S.1))), (0, eR 12 0), (1, eI (nI w))] [eI (ep_oi (ep_ff (ep_fr (ep_dn lt S.1) (S.2.2.2.2.1 S.1)) 0))] M _
          refine ez_iret .int dX12_wants_192 rfl rfl ?_
          have hpe : ep_hp S = 1 := by unfold ep_hp; rw [if_pos (by omega)]
          exact ⟨by unfold ep_dr; simp [ep_wt, ep_oi, hpe, show ¬ ep_b (ep_dn lt S.1) S.2.1 = 1 by omega, show ¬ ep_fr (ep_dn lt S.1) (S.2.2.2.2.1 S.1) = 0 by omega], FX.rf⟩
        · refine ez_aload_n 181 dX12_wants_180 rfl rfl ?_
          refine ez_iload_n 182 dX12_wants_181 rfl rfl ?_
          refine ez_callV 185 [eI (nI w)] [] dX12_wants_182 rfl rfl ok_X12_plainly in_X12_plainly (by decide) (by show 0 < 1; omega) ln_X12_193 (by omega) (Nat.le_of_ble_eq_true rfl) (c_X12_plainly g (d - 1) w M (by omega) hw hmz hz hS hR hZ hW hb2 hX hbl) (fun r182 M182 q182 => ?_)
          obtain ⟨rfl, f182⟩ := q182
          show Ez (true, g) mX12_wants d 185 [(4, eI (nI 1)), (3, eI (nI (ep_fr (ep_dn lt S.1) (S.2.2.2.2.1 S.1)))), (2, eI (nI (ep_dn lt S.1))), (0, eR 12 0), (1, eI (nI w))] [eI (ep_oi (ep_ff (ep_dn lt S.1) (ep_m4 (nI S.2.1 + ((tf xr 0).2 (ep_nm lt bl num S))))))] M182 _
          refine ez_goto 192 dX12_wants_185 (by decide) ?_
          refine ez_iret .int dX12_wants_192 rfl rfl ?_
          have hpe : ep_hp S = 1 := by unfold ep_hp; rw [if_pos (by omega)]
          exact ⟨by unfold ep_dr; simp [ep_wt, ep_oi, hpe, show ¬ ep_b (ep_dn lt S.1) S.2.1 = 1 by omega, show ep_fr (ep_dn lt S.1) (S.2.2.2.2.1 S.1) = 0 by omega], f182⟩
      · refine ez_aload_n 170 dX12_wants_169 rfl rfl ?_
        refine ez_getf 173 (eR 51 0) dX12_wants_170 rfl fl_X12_41 (by show 0 < 1; omega) rfl ?_
        refine ez_iload_n 174 dX12_wants_173 rfl rfl ?_
        refine ez_ialdN w 175 dX12_wants_174 rfl (by decide) (by show 0 < 1; omega) (by show w < 8; omega) ?_
        refine ez_top (nI S.2.1) hR.2.2.2.1 ?_
        refine ez_iret .int dX12_wants_175 rfl rfl ?_
        have hpe : ep_hp S = 1 := by unfold ep_hp; rw [if_pos (by omega)]
        exact ⟨by unfold ep_dr; simp [ep_wt, ep_oi, hpe, show ep_b (ep_dn lt S.1) S.2.1 = 1 by omega], FX.rf⟩
set_option maxRecDepth 20000 in
theorem c_mwants_5 (g : EzH) (d : Nat) {mz num : Nat} {S : EpW} {n : Nat} {lt : Nat → Int32} {bl xc xr : Nat} {tf : Nat → EpF} (w : Nat) (M : EzM) (hd : 65 ≤ d) (hnum : num ≤ 9) (hw : w < 8) (hmz : mz < 4) (hz : WFz n lt) (hS : WFS n S) (hR : RMW 5 mz num S w M) (hZ : RMz mz n lt M) (hW : WFx xc xr tf) (hb2 : bl < 2) (hX : RMx xc xr tf M) (hbl : M.1 12 0 20 = nI bl) : Ezc (true, g) mX12_wants d [eR 12 0, eI (nI w)] M (fun r M' => r = some (eI (ep_oi (ep_dr lt 5 num ((tf xr 0).2 (ep_nm lt bl num S)) S))) ∧ FX (fun k i s => k = 12 ∧ (i ≠ 0 ∨ (21 ≤ s ∧ s < 36))) M M') := by
  refine Ezc.of (by decide +kernel) (Nat.le_of_ble_eq_true rfl) ?_
  have z1 := hz.2.1
  have s1 := hS.1
  have s2 := hS.2.1
  have hk0 := hR.1
  have d16 := ep_dn16 lt S.1
  have g16 := (hS.2.2 S.1 (by omega)).1
  have p99 := (hS.2.2 S.1 (by omega)).2
  have f16 := (ep_frn _ d16 _ g16).2
  have b2 := ep_b2 (ep_dn lt S.1) S.2.1
  show Ez (true, g) mX12_wants d 0 [(0, eR 12 0), (1, eI (nI w))] [] M _
  refine ez_aload_n 1 dX12_wants_0 rfl rfl ?_
  refine ez_aload_n 2 dX12_wants_1 rfl rfl ?_
  refine ez_getf 5 (eR 49 0) dX12_wants_2 rfl fl_X12_35 (by show 0 < 1; omega) rfl ?_
  refine ez_iload_n 6 dX12_wants_5 rfl rfl ?_
  refine ez_ialdN w 7 dX12_wants_6 rfl (by decide) (by show 0 < 1; omega) (by show w < 8; omega) ?_
  refine ez_top (nI mz) hR.2.1 ?_
  refine ez_aload_n 8 dX12_wants_7 rfl rfl ?_
  refine ez_getf 11 (eR 50 0) dX12_wants_8 rfl fl_X12_38 (by show 0 < 1; omega) rfl ?_
  refine ez_iload_n 12 dX12_wants_11 rfl rfl ?_
  refine ez_ialdN w 13 dX12_wants_12 rfl (by decide) (by show 0 < 1; omega) (by show w < 8; omega) ?_
  refine ez_top (nI S.1) hR.2.2.1 ?_
  refine ez_callV 16 [eI (nI mz), eI (nI S.1)] [] dX12_wants_13 rfl rfl ok_X12_doorsOf in_X12_doorsOf (by decide) (by show 0 < 1; omega) ln_X12_190 (by omega) (Nat.le_of_ble_eq_true rfl) (c_X12_doorsOf g (d - 1) mz n S.1 lt M (by omega) (by omega) (by omega) hZ) (fun r13 M13 q13 => ?_)
  obtain ⟨rfl, e13⟩ := q13
  rw [e13]
  show Ez (true, g) mX12_wants d 16 [(0, eR 12 0), (1, eI (nI w))] [eI (nI (ep_dn lt S.1))] M _
  refine ez_istore_n 17 [(2, eI (nI (ep_dn lt S.1))), (0, eR 12 0), (1, eI (nI w))] dX12_wants_16 rfl (by decide) rfl ?_
  refine ez_iload_n 18 dX12_wants_17 rfl rfl ?_
  refine ez_aload_n 19 dX12_wants_18 rfl rfl ?_
  refine ez_getf 22 (eR 55 0) dX12_wants_19 rfl fl_X12_53 (by show 0 < 1; omega) rfl ?_
  refine ez_bipush 24 dX12_wants_22 rfl (nI 10) (by decide) ?_
  refine ez_iload_n 25 dX12_wants_24 rfl rfl ?_
  refine ez_imul 26 dX12_wants_25 rfl ?_
  refine ez_top (nI (10 * w)) (pk_mul _ _) ?_
  refine ez_aload_n 27 dX12_wants_26 rfl rfl ?_
  refine ez_getf 30 (eR 50 0) dX12_wants_27 rfl fl_X12_38 (by show 0 < 1; omega) rfl ?_
  refine ez_iload_n 31 dX12_wants_30 rfl rfl ?_
  refine ez_ialdN w 32 dX12_wants_31 rfl (by decide) (by show 0 < 1; omega) (by show w < 8; omega) ?_
  refine ez_top (nI S.1) hR.2.2.1 ?_
  refine ez_iadd 33 dX12_wants_32 rfl ?_
  refine ez_top (nI (10 * w + S.1)) (nI_add _ _) ?_
  refine ez_ialdN (10 * w + S.1) 34 dX12_wants_33 rfl (by decide) (by show 0 < 1; omega) (by show 10 * w + S.1 < 80; omega) ?_
  refine ez_top (nI (S.2.2.2.2.1 S.1)) (hR.2.2.2.2.2.2.2 S.1 (by omega)).1 ?_
  refine ez_iconst 35 dX12_wants_34 rfl (-1) (by decide) ?_
  refine ez_ixor 36 dX12_wants_35 rfl ?_
  refine ez_iand 37 dX12_wants_36 rfl ?_
  refine ez_top (nI (ep_fr (ep_dn lt S.1) (S.2.2.2.2.1 S.1))) (ep_frn _ d16 _ g16).1 ?_
  refine ez_istore_n 38 [(3, eI (nI (ep_fr (ep_dn lt S.1) (S.2.2.2.2.1 S.1)))), (2, eI (nI (ep_dn lt S.1))), (0, eR 12 0), (1, eI (nI w))] dX12_wants_37 rfl (by decide) rfl ?_
  refine ez_aload_n 39 dX12_wants_38 rfl rfl ?_
  refine ez_getf 42 (eR 47 0) dX12_wants_39 rfl fl_X12_29 (by show 0 < 1; omega) rfl ?_
  refine ez_bipush 44 dX12_wants_42 rfl (nI 10) (by decide) ?_
  refine ez_aload_n 45 dX12_wants_44 rfl rfl ?_
  refine ez_getf 48 (eR 49 0) dX12_wants_45 rfl fl_X12_35 (by show 0 < 1; omega) rfl ?_
  refine ez_iload_n 49 dX12_wants_48 rfl rfl ?_
  refine ez_ialdN w 50 dX12_wants_49 rfl (by decide) (by show 0 < 1; omega) (by show w < 8; omega) ?_
  refine ez_top (nI mz) hR.2.1 ?_
  refine ez_imul 51 dX12_wants_50 rfl ?_
  refine ez_top (nI (10 * mz)) (pk_mul _ _) ?_
  refine ez_aload_n 52 dX12_wants_51 rfl rfl ?_
  refine ez_getf 55 (eR 50 0) dX12_wants_52 rfl fl_X12_38 (by show 0 < 1; omega) rfl ?_
  refine ez_iload_n 56 dX12_wants_55 rfl rfl ?_
  refine ez_ialdN w 57 dX12_wants_56 rfl (by decide) (by show 0 < 1; omega) (by show w < 8; omega) ?_
  refine ez_top (nI S.1) hR.2.2.1 ?_
  refine ez_iadd 58 dX12_wants_57 rfl ?_
  refine ez_top (nI (10 * mz + S.1)) (nI_add _ _) ?_
  refine ez_ialdN (10 * mz + S.1) 59 dX12_wants_58 rfl (by decide) (by show 0 < 1; omega) (by show 10 * mz + S.1 < 40; omega) ?_
  refine ez_top (nI (S.2.2.2.2.2 S.1)) (hR.2.2.2.2.2.2.2 S.1 (by omega)).2 ?_
  refine ez_nif_le 62 66 dX12_wants_59 rfl (by decide) (by omega) (fun h59 => ?_) (fun h59 => ?_)
  · refine ez_iconst 67 dX12_wants_66 rfl (nI 0) (by decide) ?_
    refine ez_istore 69 [(4, eI (nI 0)), (3, eI (nI (ep_fr (ep_dn lt S.1) (S.2.2.2.2.1 S.1)))), (2, eI (nI (ep_dn lt S.1))), (0, eR 12 0), (1, eI (nI w))] dX12_wants_67 rfl (by decide) rfl ?_
    refine ez_aload_n 70 dX12_wants_69 rfl rfl ?_
    refine ez_getf 73 (eR 48 0) dX12_wants_70 rfl fl_X12_32 (by show 0 < 1; omega) rfl ?_
    refine ez_iload_n 74 dX12_wants_73 rfl rfl ?_
    refine ez_ialdN w 75 dX12_wants_74 rfl (by decide) (by show 0 < 1; omega) (by show w < 8; omega) ?_
    refine ez_top (nI 5) hk0 ?_
    refine ez_tabIn (off := 135) 210 dX12_wants_75 (by decide) (by decide) (by decide) (by decide) ?_
    refine ez_iload_n 211 dX12_wants_210 rfl rfl ?_
    refine ez_nif_ne 214 222 dX12_wants_211 rfl (by decide) (by omega) (fun h211 => ?_) (fun h211 => ?_)
    · refine ez_iload_n 223 dX12_wants_222 rfl rfl ?_
      refine ez_callS 226 [eI (nI (ep_fr (ep_dn lt S.1) (S.2.2.2.2.1 S.1)))] [] dX12_wants_223 rfl rfl ok_X12_greatest st_X12_greatest ln_X12_199 (by omega) (Nat.le_of_ble_eq_true rfl) (c_X12_greatest g (d - 1) (ep_fr (ep_dn lt S.1) (S.2.2.2.2.1 S.1)) M (by omega) (by omega)) (fun r223 M223 q223 => ?_)
      obtain ⟨rfl, e223⟩ := q223
      rw [e223]
      show Ez (true, g) mX12_wants d 226 [(4, eI (nI 0)), (3, eI (nI (ep_fr (ep_dn lt S.1) (S.2.2.2.2.1 S.1)))), (2, eI (nI (ep_dn lt S.1))), (0, eR 12 0), (1, eI (nI w))] [eI (ep_oi (ep_gr (ep_fr (ep_dn lt S.1) (S.2.2.2.2.1 S.1))))] M _
      refine ez_iret .int dX12_wants_226 rfl rfl ?_
      have hpe : ep_hp S = 0 := by unfold ep_hp; rw [if_neg (by omega)]
      exact ⟨by unfold ep_dr; simp [ep_wt, ep_oi, hpe, show ¬ ep_fr (ep_dn lt S.1) (S.2.2.2.2.1 S.1) = 0 by omega], FX.rf⟩
    · refine ez_aload_n 215 dX12_wants_214 rfl rfl ?_
      refine ez_iload_n 216 dX12_wants_215 rfl rfl ?_
      refine ez_callV 219 [eI (nI w)] [] dX12_wants_216 rfl rfl ok_X12_plainly in_X12_plainly (by decide) (by show 0 < 1; omega) ln_X12_193 (by omega) (Nat.le_of_ble_eq_true rfl) (c_X12_plainly g (d - 1) w M (by omega) hw hmz hz hS hR hZ hW hb2 hX hbl) (fun r216 M216 q216 => ?_)
      obtain ⟨rfl, f216⟩ := q216
      show Ez (true, g) mX12_wants d 219 [(4, eI (nI 0)), (3, eI (nI (ep_fr (ep_dn lt S.1) (S.2.2.2.2.1 S.1)))), (2, eI (nI (ep_dn lt S.1))), (0, eR 12 0), (1, eI (nI w))] [eI (ep_oi (ep_ff (ep_dn lt S.1) (ep_m4 (nI S.2.1 + ((tf xr 0).2 (ep_nm lt bl num S))))))] M216 _
      refine ez_goto 226 dX12_wants_219 (by decide) ?_
      refine ez_iret .int dX12_wants_226 rfl rfl ?_
      have hpe : ep_hp S = 0 := by unfold ep_hp; rw [if_neg (by omega)]
      exact ⟨by unfold ep_dr; simp [ep_wt, ep_oi, hpe, show ep_fr (ep_dn lt S.1) (S.2.2.2.2.1 S.1) = 0 by omega], f216⟩
  · refine ez_iconst 63 dX12_wants_62 rfl (nI 1) (by decide) ?_
    refine ez_goto 67 dX12_wants_63 (by decide) ?_
    refine ez_istore 69 [(4, eI (nI 1)), (3, eI (nI (ep_fr (ep_dn lt S.1) (S.2.2.2.2.1 S.1)))), (2, eI (nI (ep_dn lt S.1))), (0, eR 12 0), (1, eI (nI w))] dX12_wants_67 rfl (by decide) rfl ?_
    refine ez_aload_n 70 dX12_wants_69 rfl rfl ?_
    refine ez_getf 73 (eR 48 0) dX12_wants_70 rfl fl_X12_32 (by show 0 < 1; omega) rfl ?_
    refine ez_iload_n 74 dX12_wants_73 rfl rfl ?_
    refine ez_ialdN w 75 dX12_wants_74 rfl (by decide) (by show 0 < 1; omega) (by show w < 8; omega) ?_
    refine ez_top (nI 5) hk0 ?_
    refine ez_tabIn (off := 135) 210 dX12_wants_75 (by decide) (by decide) (by decide) (by decide) ?_
    refine ez_iload_n 211 dX12_wants_210 rfl rfl ?_
    refine ez_nif_ne 214 222 dX12_wants_211 rfl (by decide) (by omega) (fun h211 => ?_) (fun h211 => ?_)
    · refine ez_iload_n 223 dX12_wants_222 rfl rfl ?_
      refine ez_callS 226 [eI (nI (ep_fr (ep_dn lt S.1) (S.2.2.2.2.1 S.1)))] [] dX12_wants_223 rfl rfl ok_X12_greatest st_X12_greatest ln_X12_199 (by omega) (Nat.le_of_ble_eq_true rfl) (c_X12_greatest g (d - 1) (ep_fr (ep_dn lt S.1) (S.2.2.2.2.1 S.1)) M (by omega) (by omega)) (fun r223 M223 q223 => ?_)
      obtain ⟨rfl, e223⟩ := q223
      rw [e223]
      show Ez (true, g) mX12_wants d 226 [(4, eI (nI 1)), (3, eI (nI (ep_fr (ep_dn lt S.1) (S.2.2.2.2.1 S.1)))), (2, eI (nI (ep_dn lt S.1))), (0, eR 12 0), (1, eI (nI w))] [eI (ep_oi (ep_gr (ep_fr (ep_dn lt S.1) (S.2.2.2.2.1 S.1))))] M _
      refine ez_iret .int dX12_wants_226 rfl rfl ?_
      have hpe : ep_hp S = 1 := by unfold ep_hp; rw [if_pos (by omega)]
      exact ⟨by unfold ep_dr; simp [ep_wt, ep_oi, hpe, show ¬ ep_fr (ep_dn lt S.1) (S.2.2.2.2.1 S.1) = 0 by omega], FX.rf⟩
    · refine ez_aload_n 215 dX12_wants_214 rfl rfl ?_
      refine ez_iload_n 216 dX12_wants_215 rfl rfl ?_
      refine ez_callV 219 [eI (nI w)] [] dX12_wants_216 rfl rfl ok_X12_plainly in_X12_plainly (by decide) (by show 0 < 1; omega) ln_X12_193 (by omega) (Nat.le_of_ble_eq_true rfl) (c_X12_plainly g (d - 1) w M (by omega) hw hmz hz hS hR hZ hW hb2 hX hbl) (fun r216 M216 q216 => ?_)
      obtain ⟨rfl, f216⟩ := q216
      show Ez (true, g) mX12_wants d 219 [(4, eI (nI 1)), (3, eI (nI (ep_fr (ep_dn lt S.1) (S.2.2.2.2.1 S.1)))), (2, eI (nI (ep_dn lt S.1))), (0, eR 12 0), (1, eI (nI w))] [eI (ep_oi (ep_ff (ep_dn lt S.1) (ep_m4 (nI S.2.1 + ((tf xr 0).2 (ep_nm lt bl num S))))))] M216 _
      refine ez_goto 226 dX12_wants_219 (by decide) ?_
      refine ez_iret .int dX12_wants_226 rfl rfl ?_
      have hpe : ep_hp S = 1 := by unfold ep_hp; rw [if_pos (by omega)]
      exact ⟨by unfold ep_dr; simp [ep_wt, ep_oi, hpe, show ep_fr (ep_dn lt S.1) (S.2.2.2.2.1 S.1) = 0 by omega], f216⟩
theorem c_X12_wants (g : EzH) (d : Nat) {kind mz num : Nat} {S : EpW} {n : Nat} {lt : Nat → Int32} {bl xc xr : Nat} {tf : Nat → EpF} (w : Nat) (M : EzM) (hd : 65 ≤ d) (hkd : kind < 6) (hnum : num ≤ 9) (hw : w < 8) (hmz : mz < 4) (hz : WFz n lt) (hS : WFS n S) (hR : RMW kind mz num S w M) (hZ : RMz mz n lt M) (hW : WFx xc xr tf) (hb2 : bl < 2) (hX : RMx xc xr tf M) (hbl : M.1 12 0 20 = nI bl) : Ezc (true, g) mX12_wants d [eR 12 0, eI (nI w)] M (fun r M' => r = some (eI (ep_oi (ep_dr lt kind num ((tf xr 0).2 (ep_nm lt bl num S)) S))) ∧ FX (fun k i s => k = 12 ∧ (i ≠ 0 ∨ (21 ≤ s ∧ s < 36))) M M') := by
  rcases (show kind = 0 ∨ kind = 1 ∨ kind = 2 ∨ kind = 3 ∨ kind = 4 ∨ kind = 5 by omega) with rfl | rfl | rfl | rfl | rfl | rfl
  · exact c_mwants_0 g d w M hd hnum hw hmz hz hS hR hZ hW hb2 hX hbl
  · exact c_mwants_1 g d w M hd hnum hw hmz hz hS hR hZ hW hb2 hX hbl
  · exact c_mwants_2 g d w M hd hnum hw hmz hz hS hR hZ hW hb2 hX hbl
  · exact c_mwants_3 g d w M hd hnum hw hmz hz hS hR hZ hW hb2 hX hbl
  · exact c_mwants_4 g d w M hd hnum hw hmz hz hS hR hZ hW hb2 hX hbl
  · exact c_mwants_5 g d w M hd hnum hw hmz hz hS hR hZ hW hb2 hX hbl
