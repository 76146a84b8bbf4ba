/-! the model's steps1 -/
theorem RMW_lie {kind mz num w : Nat} {S : EpW} {M : EzM} {lie : Nat} (h : RMW kind mz num S w M) : RMW kind mz num (ep_mid S S.2.2.1 lie) w (ez_st M 47 0 (10 * mz + S.1) (nI lie)) := by
  obtain ⟨a0, a1, a2, a3, a4, a5, a6, a7⟩ := h
  refine ⟨a0, a1, a2, a3, a4, a5, a6, fun r hr => ⟨(a7 r hr).1, ?_⟩⟩
  rw [ez_rd]
  show _ = nI (va_up S.2.2.2.2.2 S.1 lie r)
  by_cases e : r = S.1
  · rw [if_pos ⟨rfl, rfl, by omega⟩, e, va_up_self]
  · rw [if_neg (fun z => e (by have := z.2.2; omega)), va_up_ne _ _ e]; exact (a7 r hr).2
theorem RMW_bag {kind mz num w : Nat} {S : EpW} {M : EzM} {bg : Int32} (h : RMW kind mz num S w M) : RMW kind mz num (S.1, S.2.1, bg, S.2.2.2.1, S.2.2.2.2.1, S.2.2.2.2.2) w (ez_st M 53 0 w bg) := by
  obtain ⟨a0, a1, a2, a3, a4, a5, a6, a7⟩ := h
  exact ⟨a0, a1, a2, a3, a4, by simp [ez_rd], a6, a7⟩
theorem RMW_pass {kind mz num w n : Nat} {S : EpW} {M : EzM} {a b c : Nat} (hw : S.1 < 10) (h : RMW kind mz num S w M) : RMW kind mz num (a, b, S.2.2.1, S.2.2.2.1 + nI 1, va_up S.2.2.2.2.1 S.1 (S.2.2.2.2.1 S.1 ||| 2 ^ c), S.2.2.2.2.2) w (ez_st (ez_st (ez_st (ez_st M 55 0 (10 * w + S.1) (nI (S.2.2.2.2.1 S.1 ||| 2 ^ c))) 50 0 w (nI a)) 51 0 w (nI b)) 54 0 w (S.2.2.2.1 + nI 1)) := by
  obtain ⟨a0, a1, a2, a3, a4, a5, a6, a7⟩ := h
  refine ⟨a0, a1, by simp [ez_rd], by simp [ez_rd], a4, a5, by simp [ez_rd], fun r hr => ⟨?_, (a7 r hr).2⟩⟩
  rw [ez_rd, if_neg (by omega), ez_rd, if_neg (by omega), ez_rd, if_neg (by omega), ez_rd]
  show _ = nI (va_up S.2.2.2.2.1 S.1 (S.2.2.2.2.1 S.1 ||| 2 ^ c) r)
  by_cases e : r = S.1
  · rw [if_pos ⟨rfl, rfl, by omega⟩, e, va_up_self]
  · rw [if_neg (fun z => e (by have := z.2.2; omega)), va_up_ne _ _ e]; exact (a7 r hr).1
set_option maxRecDepth 20000 in
theorem ms_107 (g : EzH) (d : Nat) {kind mz num : Nat} {S : EpW} {n : Nat} {lt : Nat → Int32} {bl xc xr : Nat} {tf : Nat → EpF} (w : Nat) (M : EzM) (hd : 66 ≤ d) (hkd : kind < 6) (hnum : num ≤ 9) (hw : w < 8) (hmz : mz < 4) (hz : WFz n lt) (hS : WFS n S) (hR : RMW kind mz num S w M) (hZ : RMz mz n lt M) (hW : WFx xc xr tf) (hb2 : bl < 2) (hX : RMx xc xr tf M) (hbl : M.1 12 0 20 = nI bl) : Ez (true, g) mX12_steps1 d 107 [(0, eR 12 0), (1, eI (nI w))] [] M (fun r M' => r = none ∧ RMW kind mz num (ep_fin lt (fun key => (tf xr key).2) bl kind num S) w M' ∧ FX (fun k i s => ((k = 50 ∨ k = 51 ∨ k = 53 ∨ k = 54) ∧ s = w) ∨ (k = 55 ∧ 10 * w ≤ s ∧ s < 10 * w + 10) ∨ (k = 47 ∧ 10 * mz ≤ s ∧ s < 10 * mz + 10) ∨ (k = 12 ∧ (i ≠ 0 ∨ (21 ≤ s ∧ s < 36)))) M M') := by
  have z1 := hz.2.1
  have s1 := hS.1
  have g16 := (hS.2.2 S.1 (by omega)).1
  refine ez_aload_n 108 dX12_steps1_107 rfl rfl ?_
  refine ez_iload_n 109 dX12_steps1_108 rfl rfl ?_
  refine ez_callV 112 [eI (nI w)] [] dX12_steps1_109 rfl rfl ok_X12_wants in_X12_wants (by decide) (by show 0 < 1; omega) ln_X12_233 (by omega) (Nat.le_of_ble_eq_true rfl) (c_X12_wants g (d - 1) w M (by omega) hkd hnum hw hmz hz hS hR hZ hW hb2 hX hbl) (fun r109 M109 q109 => ?_)
  obtain ⟨rfl, f109⟩ := q109
  have R109 := hR.fx f109 ⟨by omega, by omega, by omega, by omega, by omega, by omega, by omega, fun r hr => by omega⟩
  have Z109 := hZ.fx f109 ⟨by omega, fun x => by omega⟩
  show Ez (true, g) mX12_steps1 d 112 [(0, eR 12 0), (1, eI (nI w))] [eI (ep_oi (ep_dr lt kind num ((tf xr 0).2 (ep_nm lt bl num S)) S))] M109 _
  cases hdr : ep_dr lt kind num ((tf xr 0).2 (ep_nm lt bl num S)) S with
  | none =>
    show Ez (true, g) mX12_steps1 d 112 _ [eI (-1)] M109 _
    refine ez_istore_n 113 [(3, eI (-1)), (0, eR 12 0), (1, eI (nI w))] dX12_steps1_112 rfl (by decide) rfl ?_
    refine ez_iload_n 114 dX12_steps1_113 rfl rfl ?_
    refine ez_iconst 115 dX12_steps1_114 rfl (-1) (by decide) ?_
    refine ez_icmp_ne 118 119 dX12_steps1_115 rfl (by decide) (fun h115 => ?_) (fun h115 => ?_)
    · exact absurd rfl h115
    · refine ez_vret dX12_steps1_118 rfl ?_
      refine ⟨rfl, ?_, f109.up (fun k i s q9 => by omega)⟩
      show RMW kind mz num (ep_fin lt (fun key => (tf xr key).2) bl kind num S) w M109
      unfold ep_fin
      rw [hdr]
      exact R109
  | some c =>
    obtain ⟨c4, r1, c1, b1, b2, b3⟩ := ep_dr_to hz hS hdr
    show Ez (true, g) mX12_steps1 d 112 _ [eI (nI c)] M109 _
    refine ez_istore_n 113 [(3, eI (nI c)), (0, eR 12 0), (1, eI (nI w))] dX12_steps1_112 rfl (by decide) rfl ?_
    refine ez_iload_n 114 dX12_steps1_113 rfl rfl ?_
    refine ez_iconst 115 dX12_steps1_114 rfl (-1) (by decide) ?_
    refine ez_icmp_ne 118 119 dX12_steps1_115 rfl (by decide) (fun h115 => ?_) (fun h115 => ?_)
    · refine ez_aload_n 120 dX12_steps1_119 rfl rfl ?_
      refine ez_aload_n 121 dX12_steps1_120 rfl rfl ?_
      refine ez_getf 124 (eR 49 0) dX12_steps1_121 rfl fl_X12_35 (by show 0 < 1; omega) rfl ?_
      refine ez_iload_n 125 dX12_steps1_124 rfl rfl ?_
      refine ez_ialdN w 126 dX12_steps1_125 rfl (by decide) (by show 0 < 1; omega) (by show w < 8; omega) ?_
      refine ez_top (nI mz) R109.2.1 ?_
      refine ez_aload_n 127 dX12_steps1_126 rfl rfl ?_
      refine ez_getf 130 (eR 50 0) dX12_steps1_127 rfl fl_X12_38 (by show 0 < 1; omega) rfl ?_
      refine ez_iload_n 131 dX12_steps1_130 rfl rfl ?_
      refine ez_ialdN w 132 dX12_steps1_131 rfl (by decide) (by show 0 < 1; omega) (by show w < 8; omega) ?_
      refine ez_top (nI S.1) R109.2.2.1 ?_
      refine ez_iload_n 133 dX12_steps1_132 rfl rfl ?_
      refine ez_callV 136 [eI (nI mz), eI (nI S.1), eI (nI c)] [] dX12_steps1_133 rfl rfl ok_X12_to in_X12_to (by decide) (by show 0 < 1; omega) ln_X12_170 (by omega) (Nat.le_of_ble_eq_true rfl) (c_X12_to g (d - 1) mz S.1 c M109 (by omega) (by omega) (by omega)) (fun r133 M133 q133 => ?_)
      obtain ⟨rfl, e133⟩ := q133
      rw [e133, show M109.1 45 0 (40 * mz + (4 * S.1 + c)) = nI (10 * r1 + c1) by rw [Z109.2 _ (by omega)]; exact b3]
      show Ez (true, g) mX12_steps1 d 136 [(3, eI (nI c)), (0, eR 12 0), (1, eI (nI w))] [eI (nI (10 * r1 + c1))] M109 _
      refine ez_istore 138 [(4, eI (nI (10 * r1 + c1))), (3, eI (nI c)), (0, eR 12 0), (1, eI (nI w))] dX12_steps1_136 rfl (by decide) rfl ?_
      refine ez_aload_n 139 dX12_steps1_138 rfl rfl ?_
      refine ez_getf 142 (eR 55 0) dX12_steps1_139 rfl fl_X12_53 (by show 0 < 1; omega) rfl ?_
      refine ez_bipush 144 dX12_steps1_142 rfl (nI 10) (by decide) ?_
      refine ez_iload_n 145 dX12_steps1_144 rfl rfl ?_
      refine ez_imul 146 dX12_steps1_145 rfl ?_
      refine ez_top (nI (10 * w)) (pk_mul _ _) ?_
      refine ez_aload_n 147 dX12_steps1_146 rfl rfl ?_
      refine ez_getf 150 (eR 50 0) dX12_steps1_147 rfl fl_X12_38 (by show 0 < 1; omega) rfl ?_
      refine ez_iload_n 151 dX12_steps1_150 rfl rfl ?_
      refine ez_ialdN w 152 dX12_steps1_151 rfl (by decide) (by show 0 < 1; omega) (by show w < 8; omega) ?_
      refine ez_top (nI S.1) R109.2.2.1 ?_
      refine ez_iadd 153 dX12_steps1_152 rfl ?_
      refine ez_top (nI (10 * w + S.1)) (nI_add _ _) ?_
      refine ez_dup2 154 dX12_steps1_153 rfl rfl rfl ?_
      refine ez_ialdN (10 * w + S.1) 155 dX12_steps1_154 rfl (by decide) (by show 0 < 1; omega) (by show 10 * w + S.1 < 80; omega) ?_
      refine ez_top (nI (S.2.2.2.2.1 S.1)) (R109.2.2.2.2.2.2.2 S.1 (by omega)).1 ?_
      refine ez_iconst 156 dX12_steps1_155 rfl (nI 1) (by decide) ?_
      refine ez_iload_n 157 dX12_steps1_156 rfl rfl ?_
      refine ez_ishl 158 dX12_steps1_157 rfl ?_
      refine ez_ior 159 dX12_steps1_158 rfl ?_
      refine ez_top (nI (S.2.2.2.2.1 S.1 ||| 2 ^ c)) (ep_or16 _ g16 c c4).1 ?_
      refine ez_iastN (10 * w + S.1) 160 dX12_steps1_159 rfl (by decide) (by show 0 < 1; omega) (by show 10 * w + S.1 < 80; omega) ?_
      refine ez_aload_n 161 dX12_steps1_160 rfl rfl ?_
      refine ez_getf 164 (eR 50 0) dX12_steps1_161 rfl fl_X12_38 (by show 0 < 1; omega) rfl ?_
      refine ez_iload_n 165 dX12_steps1_164 rfl rfl ?_
      refine ez_iload 167 dX12_steps1_165 rfl rfl ?_
      refine ez_bipush 169 dX12_steps1_167 rfl (nI 10) (by decide) ?_
      refine ez_idiv 170 dX12_steps1_169 rfl (by decide) ?_
      refine ez_top (nI ((10 * r1 + c1) / 10)) (pk_div (by omega) (by omega) (by omega)) ?_
      refine ez_iastN w 171 dX12_steps1_170 rfl (by decide) (by show 0 < 1; omega) (by show w < 8; omega) ?_
      refine ez_aload_n 172 dX12_steps1_171 rfl rfl ?_
      refine ez_getf 175 (eR 51 0) dX12_steps1_172 rfl fl_X12_41 (by show 0 < 1; omega) rfl ?_
      refine ez_iload_n 176 dX12_steps1_175 rfl rfl ?_
      refine ez_iload 178 dX12_steps1_176 rfl rfl ?_
      refine ez_bipush 180 dX12_steps1_178 rfl (nI 10) (by decide) ?_
      refine ez_irem 181 dX12_steps1_180 rfl (by decide) ?_
      refine ez_top (nI ((10 * r1 + c1) % 10)) (pk_rem (by omega) (by omega) (by omega)) ?_
      refine ez_iastN w 182 dX12_steps1_181 rfl (by decide) (by show 0 < 1; omega) (by show w < 8; omega) ?_
      refine ez_aload_n 183 dX12_steps1_182 rfl rfl ?_
      refine ez_getf 186 (eR 54 0) dX12_steps1_183 rfl fl_X12_50 (by show 0 < 1; omega) rfl ?_
      refine ez_iload_n 187 dX12_steps1_186 rfl rfl ?_
      refine ez_dup2 188 dX12_steps1_187 rfl rfl rfl ?_
      refine ez_ialdN w 189 dX12_steps1_188 rfl (by decide) (by show 0 < 1; omega) (by show w < 8; omega) ?_
      refine ez_top (M109.1 54 0 w) rfl ?_
      refine ez_top S.2.2.2.1 R109.2.2.2.2.2.2.1 ?_
      refine ez_iconst 190 dX12_steps1_189 rfl (nI 1) (by decide) ?_
      refine ez_iadd 191 dX12_steps1_190 rfl ?_
      refine ez_iastN w 192 dX12_steps1_191 rfl (by decide) (by show 0 < 1; omega) (by show w < 8; omega) ?_
      refine ez_vret dX12_steps1_192 rfl ?_
      refine ⟨rfl, ?_, ((((f109.up (fun k i s q9 => by omega)).st (by omega)).st (by omega)).st (by omega)).st (by omega)⟩
      show RMW kind mz num (ep_fin lt (fun key => (tf xr key).2) bl kind num S) w _
      unfold ep_fin
      rw [hdr]
      show RMW kind mz num ((lt (4 * S.1 + c)).toNatClampNeg / 10, (lt (4 * S.1 + c)).toNatClampNeg % 10, _, _, _, _) w _
      rw [show lt (4 * S.1 + c) = nI (10 * r1 + c1) from b3, nI_clamp (by omega)]
      exact RMW_pass (n := n) (by omega) R109
    · exact absurd h115 (ep_m1 (by omega))
theorem ep_mid_self (S : EpW) : ep_mid S S.2.2.1 (S.2.2.2.2.2 S.1) = S := by
  unfold ep_mid
  rw [show va_up S.2.2.2.2.2 S.1 (S.2.2.2.2.2 S.1) = S.2.2.2.2.2 from funext (fun x => by
    by_cases z : x = S.1
    · rw [z, va_up_self]
    · rw [va_up_ne _ _ z])]
set_option maxRecDepth 20000 in
theorem c_X12_steps1 (g : EzH) (d : Nat) {kind mz num : Nat} {S : EpW} {n : Nat} {lt : Nat → Int32} {bl xc xr : Nat} {tf : Nat → EpF} (w : Nat) (M : EzM) (hd : 66 ≤ d) (hkd : kind < 6) (hnum : num ≤ 9) (hw : w < 8) (hmz : mz < 4) (hz : WFz n lt) (hS : WFS n S) (hR : RMW kind mz num S w M) (hZ : RMz mz n lt M) (hW : WFx xc xr tf) (hb2 : bl < 2) (hX : RMx xc xr tf M) (hbl : M.1 12 0 20 = nI bl) : Ezc (true, g) mX12_steps1 d [eR 12 0, eI (nI w)] M (fun r M' => r = none ∧ RMW kind mz num (ep_step lt (fun key => (tf xr key).2) bl kind num S) w M' ∧ FX (fun k i s => ((k = 50 ∨ k = 51 ∨ k = 53 ∨ k = 54) ∧ s = w) ∨ (k = 55 ∧ 10 * w ≤ s ∧ s < 10 * w + 10) ∨ (k = 47 ∧ 10 * mz ≤ s ∧ s < 10 * mz + 10) ∨ (k = 12 ∧ (i ≠ 0 ∨ (21 ≤ s ∧ s < 36)))) M M') := by
  refine Ezc.of (by decide +kernel) (Nat.le_of_ble_eq_true rfl) ?_
  have z1 := hz.2.1
  have s1 := hS.1
  have p99 := (hS.2.2 S.1 (by omega)).2
  show Ez (true, g) mX12_steps1 d 0 [(0, eR 12 0), (1, eI (nI w))] [] M _
  refine ez_bipush 2 dX12_steps1_0 rfl (nI 10) (by decide) ?_
  refine ez_aload_n 3 dX12_steps1_2 rfl rfl ?_
  refine ez_getf 6 (eR 49 0) dX12_steps1_3 rfl fl_X12_35 (by show 0 < 1; omega) rfl ?_
  refine ez_iload_n 7 dX12_steps1_6 rfl rfl ?_
  refine ez_ialdN w 8 dX12_steps1_7 rfl (by decide) (by show 0 < 1; omega) (by show w < 8; omega) ?_
  refine ez_top (nI mz) hR.2.1 ?_
  refine ez_imul 9 dX12_steps1_8 rfl ?_
  refine ez_top (nI (10 * mz)) (pk_mul _ _) ?_
  refine ez_aload_n 10 dX12_steps1_9 rfl rfl ?_
  refine ez_getf 13 (eR 50 0) dX12_steps1_10 rfl fl_X12_38 (by show 0 < 1; omega) rfl ?_
  refine ez_iload_n 14 dX12_steps1_13 rfl rfl ?_
  refine ez_ialdN w 15 dX12_steps1_14 rfl (by decide) (by show 0 < 1; omega) (by show w < 8; omega) ?_
  refine ez_top (nI S.1) hR.2.2.1 ?_
  refine ez_iadd 16 dX12_steps1_15 rfl ?_
  refine ez_top (nI (10 * mz + S.1)) (nI_add _ _) ?_
  refine ez_istore_n 17 [(2, eI (nI (10 * mz + S.1))), (0, eR 12 0), (1, eI (nI w))] dX12_steps1_16 rfl (by decide) rfl ?_
  refine ez_aload_n 18 dX12_steps1_17 rfl rfl ?_
  refine ez_getf 21 (eR 47 0) dX12_steps1_18 rfl fl_X12_29 (by show 0 < 1; omega) rfl ?_
  refine ez_iload_n 22 dX12_steps1_21 rfl rfl ?_
  refine ez_ialdN (10 * mz + S.1) 23 dX12_steps1_22 rfl (by decide) (by show 0 < 1; omega) (by show 10 * mz + S.1 < 40; omega) ?_
  refine ez_top (nI (S.2.2.2.2.2 S.1)) (hR.2.2.2.2.2.2.2 S.1 (by omega)).2 ?_
  refine ez_nif_le 26 58 dX12_steps1_23 rfl (by decide) (by omega) (fun h23 => ?_) (fun h23 => ?_)
  · refine ez_aload_n 59 dX12_steps1_58 rfl rfl ?_
    refine ez_getf 62 (eR 53 0) dX12_steps1_59 rfl fl_X12_47 (by show 0 < 1; omega) rfl ?_
    refine ez_iload_n 63 dX12_steps1_62 rfl rfl ?_
    refine ez_ialdN w 64 dX12_steps1_63 rfl (by decide) (by show 0 < 1; omega) (by show w < 8; omega) ?_
    refine ez_top S.2.2.1 hR.2.2.2.2.2.1 ?_
    refine ez_if_le 67 107 dX12_steps1_64 rfl (by decide) (fun h64 => ?_) (fun h64 => ?_)
    · have eT : ep_take lt (fun key => (tf xr key).2) bl num S = (S.2.2.1, S.2.2.2.2.2 S.1) := by unfold ep_take; rw [if_neg (fun z9 => by have := z9.1; omega), if_neg (fun z9 => Int32.not_lt.mpr h64 z9.1)]
      have hF9 : FX (fun k i s => ((k = 50 ∨ k = 51 ∨ k = 53 ∨ k = 54) ∧ s = w) ∨ (k = 55 ∧ 10 * w ≤ s ∧ s < 10 * w + 10) ∨ (k = 47 ∧ 10 * mz ≤ s ∧ s < 10 * mz + 10) ∨ (k = 12 ∧ (i ≠ 0 ∨ (21 ≤ s ∧ s < 36)))) M M := FX.rf
      have hR9 : RMW kind mz num (ep_mid S S.2.2.1 (S.2.2.2.2.2 S.1)) w M := by rw [ep_mid_self]; exact hR
      have hL9 := ep_take_le (lt := lt) (tv := (fun key => (tf xr key).2)) (bl := bl) (num := num) z1 hS
      unfold ep_step
      rw [eT] at hL9 ⊢
      refine ez_drop [(0, eR 12 0), (1, eI (nI w))] (by simp) ?_
      refine ez_wk ?_ (ms_107 g d (tf := tf) w M hd hkd hnum hw hmz hz (WFS_mid hS hL9) hR9 (hZ.fx hF9 ⟨by omega, fun x => by omega⟩) hW hb2 (hX.fx hF9 ⟨by omega, by omega, fun x hx => ⟨by omega, fun i hi => by omega⟩⟩) (by rw [hF9 _ _ _ (by omega)]; exact hbl))
      exact fun r M' q9 => ⟨q9.1, q9.2.1, hF9.tr q9.2.2⟩
    · refine ez_aload_n 68 dX12_steps1_67 rfl rfl ?_
      refine ez_getf 71 (eR 47 0) dX12_steps1_68 rfl fl_X12_29 (by show 0 < 1; omega) rfl ?_
      refine ez_iload_n 72 dX12_steps1_71 rfl rfl ?_
      refine ez_ialdN (10 * mz + S.1) 73 dX12_steps1_72 rfl (by decide) (by show 0 < 1; omega) (by show 10 * mz + S.1 < 40; omega) ?_
      refine ez_top (nI (S.2.2.2.2.2 S.1)) (hR.2.2.2.2.2.2.2 S.1 (by omega)).2 ?_
      refine ez_bipush 75 dX12_steps1_73 rfl (nI 99) (by decide) ?_
      refine ez_ncmp_ge 78 107 dX12_steps1_75 rfl (by decide) (by omega) (by omega) (fun h75 => ?_) (fun h75 => ?_)
      · have eT : ep_take lt (fun key => (tf xr key).2) bl num S = (S.2.2.1, S.2.2.2.2.2 S.1) := by unfold ep_take; rw [if_neg (fun z9 => by have := z9.1; omega), if_neg (fun z9 => by have := z9.2.1; omega)]
        have hF9 : FX (fun k i s => ((k = 50 ∨ k = 51 ∨ k = 53 ∨ k = 54) ∧ s = w) ∨ (k = 55 ∧ 10 * w ≤ s ∧ s < 10 * w + 10) ∨ (k = 47 ∧ 10 * mz ≤ s ∧ s < 10 * mz + 10) ∨ (k = 12 ∧ (i ≠ 0 ∨ (21 ≤ s ∧ s < 36)))) M M := FX.rf
        have hR9 : RMW kind mz num (ep_mid S S.2.2.1 (S.2.2.2.2.2 S.1)) w M := by rw [ep_mid_self]; exact hR
        have hL9 := ep_take_le (lt := lt) (tv := (fun key => (tf xr key).2)) (bl := bl) (num := num) z1 hS
        unfold ep_step
        rw [eT] at hL9 ⊢
        refine ez_drop [(0, eR 12 0), (1, eI (nI w))] (by simp) ?_
        refine ez_wk ?_ (ms_107 g d (tf := tf) w M hd hkd hnum hw hmz hz (WFS_mid hS hL9) hR9 (hZ.fx hF9 ⟨by omega, fun x => by omega⟩) hW hb2 (hX.fx hF9 ⟨by omega, by omega, fun x hx => ⟨by omega, fun i hi => by omega⟩⟩) (by rw [hF9 _ _ _ (by omega)]; exact hbl))
        exact fun r M' q9 => ⟨q9.1, q9.2.1, hF9.tr q9.2.2⟩
      · refine ez_aload_n 79 dX12_steps1_78 rfl rfl ?_
        refine ez_iload_n 80 dX12_steps1_79 rfl rfl ?_
        refine ez_iconst 81 dX12_steps1_80 rfl (nI 1) (by decide) ?_
        refine ez_callV 84 [eI (nI w), eI (nI 1)] [] dX12_steps1_81 rfl rfl ok_X12_says1 in_X12_says1 (by decide) (by show 0 < 1; omega) ln_X12_183 (by omega) (Nat.le_of_ble_eq_true rfl) (c_X12_says1 g (d - 1) w 1 M (by omega) (by omega) hw hmz hz hS hR hZ hW hb2 hX hbl) (fun r81 M81 q81 => ?_)
        obtain ⟨rfl, f81⟩ := q81
        have R81 := hR.fx f81 ⟨by omega, by omega, by omega, by omega, by omega, by omega, by omega, fun r hr => by omega⟩
        have Z81 := hZ.fx f81 ⟨by omega, fun x => by omega⟩
        show Ez (true, g) mX12_steps1 d 84 [(2, eI (nI (10 * mz + S.1))), (0, eR 12 0), (1, eI (nI w))] [eI ((tf xr 1).2 (ep_nm lt bl num S))] M81 _
        refine ez_if_eq 87 107 dX12_steps1_84 rfl (by decide) (fun h84 => ?_) (fun h84 => ?_)
        · have eT : ep_take lt (fun key => (tf xr key).2) bl num S = (S.2.2.1, S.2.2.2.2.2 S.1) := by unfold ep_take; rw [if_neg (fun z9 => by have := z9.1; omega), if_neg (fun z9 => z9.2.2 h84)]
          have hF9 : FX (fun k i s => ((k = 50 ∨ k = 51 ∨ k = 53 ∨ k = 54) ∧ s = w) ∨ (k = 55 ∧ 10 * w ≤ s ∧ s < 10 * w + 10) ∨ (k = 47 ∧ 10 * mz ≤ s ∧ s < 10 * mz + 10) ∨ (k = 12 ∧ (i ≠ 0 ∨ (21 ≤ s ∧ s < 36)))) M M81 := (FX.rf.tr (f81.up (fun k i s q9 => by omega)))
          have hR9 : RMW kind mz num (ep_mid S S.2.2.1 (S.2.2.2.2.2 S.1)) w M81 := by rw [ep_mid_self]; exact R81
          have hL9 := ep_take_le (lt := lt) (tv := (fun key => (tf xr key).2)) (bl := bl) (num := num) z1 hS
          unfold ep_step
          rw [eT] at hL9 ⊢
          refine ez_drop [(0, eR 12 0), (1, eI (nI w))] (by simp) ?_
          refine ez_wk ?_ (ms_107 g d (tf := tf) w M81 hd hkd hnum hw hmz hz (WFS_mid hS hL9) hR9 (hZ.fx hF9 ⟨by omega, fun x => by omega⟩) hW hb2 (hX.fx hF9 ⟨by omega, by omega, fun x hx => ⟨by omega, fun i hi => by omega⟩⟩) (by rw [hF9 _ _ _ (by omega)]; exact hbl))
          exact fun r M' q9 => ⟨q9.1, q9.2.1, hF9.tr q9.2.2⟩
        · refine ez_aload_n 88 dX12_steps1_87 rfl rfl ?_
          refine ez_getf 91 (eR 47 0) dX12_steps1_88 rfl fl_X12_29 (by show 0 < 1; omega) rfl ?_
          refine ez_iload_n 92 dX12_steps1_91 rfl rfl ?_
          refine ez_dup2 93 dX12_steps1_92 rfl rfl rfl ?_
          refine ez_ialdN (10 * mz + S.1) 94 dX12_steps1_93 rfl (by decide) (by show 0 < 1; omega) (by show 10 * mz + S.1 < 40; omega) ?_
          refine ez_top (nI (S.2.2.2.2.2 S.1)) (R81.2.2.2.2.2.2.2 S.1 (by omega)).2 ?_
          refine ez_iconst 95 dX12_steps1_94 rfl (nI 1) (by decide) ?_
          refine ez_iadd 96 dX12_steps1_95 rfl ?_
          refine ez_top (nI (S.2.2.2.2.2 S.1 + 1)) (nI_add _ _) ?_
          refine ez_iastN (10 * mz + S.1) 97 dX12_steps1_96 rfl (by decide) (by show 0 < 1; omega) (by show 10 * mz + S.1 < 40; omega) ?_
          refine ez_aload_n 98 dX12_steps1_97 rfl rfl ?_
          refine ez_getf 101 (eR 53 0) dX12_steps1_98 rfl fl_X12_47 (by show 0 < 1; omega) rfl ?_
          refine ez_iload_n 102 dX12_steps1_101 rfl rfl ?_
          refine ez_dup2 103 dX12_steps1_102 rfl rfl rfl ?_
          refine ez_ialdN w 104 dX12_steps1_103 rfl (by decide) (by show 0 < 1; omega) (by show w < 8; omega) ?_
          refine ez_top (M81.1 53 0 w) rfl ?_
          refine ez_top S.2.2.1 R81.2.2.2.2.2.1 ?_
          refine ez_iconst 105 dX12_steps1_104 rfl (nI 1) (by decide) ?_
          refine ez_isub 106 dX12_steps1_105 rfl ?_
          refine ez_iastN w 107 dX12_steps1_106 rfl (by decide) (by show 0 < 1; omega) (by show w < 8; omega) ?_
          have eT : ep_take lt (fun key => (tf xr key).2) bl num S = (S.2.2.1 - nI 1, S.2.2.2.2.2 S.1 + 1) := by unfold ep_take; rw [if_neg (fun z9 => by have := z9.1; omega), if_pos ⟨Int32.not_le.mp h64, h75, h84⟩]
          have hF9 : FX (fun k i s => ((k = 50 ∨ k = 51 ∨ k = 53 ∨ k = 54) ∧ s = w) ∨ (k = 55 ∧ 10 * w ≤ s ∧ s < 10 * w + 10) ∨ (k = 47 ∧ 10 * mz ≤ s ∧ s < 10 * mz + 10) ∨ (k = 12 ∧ (i ≠ 0 ∨ (21 ≤ s ∧ s < 36)))) M (ez_st (ez_st M81 47 0 (10 * mz + S.1) (nI (S.2.2.2.2.2 S.1 + 1))) 53 0 w (S.2.2.1 - (nI 1))) := (((FX.rf.tr (f81.up (fun k i s q9 => by omega))).st (by omega)).st (by omega))
          have hR9 : RMW kind mz num (ep_mid S (S.2.2.1 - (nI 1)) (S.2.2.2.2.2 S.1 + 1)) w (ez_st (ez_st M81 47 0 (10 * mz + S.1) (nI (S.2.2.2.2.2 S.1 + 1))) 53 0 w (S.2.2.1 - (nI 1))) := RMW_bag (RMW_lie R81)
          have hL9 := ep_take_le (lt := lt) (tv := (fun key => (tf xr key).2)) (bl := bl) (num := num) z1 hS
          unfold ep_step
          rw [eT] at hL9 ⊢
          refine ez_drop [(0, eR 12 0), (1, eI (nI w))] (by simp) ?_
          refine ez_wk ?_ (ms_107 g d (tf := tf) w (ez_st (ez_st M81 47 0 (10 * mz + S.1) (nI (S.2.2.2.2.2 S.1 + 1))) 53 0 w (S.2.2.1 - (nI 1))) hd hkd hnum hw hmz hz (WFS_mid hS hL9) hR9 (hZ.fx hF9 ⟨by omega, fun x => by omega⟩) hW hb2 (hX.fx hF9 ⟨by omega, by omega, fun x hx => ⟨by omega, fun i hi => by omega⟩⟩) (by rw [hF9 _ _ _ (by omega)]; exact hbl))
          exact fun r M' q9 => ⟨q9.1, q9.2.1, hF9.tr q9.2.2⟩
  · refine ez_aload_n 27 dX12_steps1_26 rfl rfl ?_
    refine ez_iload_n 28 dX12_steps1_27 rfl rfl ?_
    refine ez_iconst 29 dX12_steps1_28 rfl (nI 2) (by decide) ?_
    refine ez_callV 32 [eI (nI w), eI (nI 2)] [] dX12_steps1_29 rfl rfl ok_X12_says1 in_X12_says1 (by decide) (by show 0 < 1; omega) ln_X12_183 (by omega) (Nat.le_of_ble_eq_true rfl) (c_X12_says1 g (d - 1) w 2 M (by omega) (by omega) hw hmz hz hS hR hZ hW hb2 hX hbl) (fun r29 M29 q29 => ?_)
    obtain ⟨rfl, f29⟩ := q29
    have R29 := hR.fx f29 ⟨by omega, by omega, by omega, by omega, by omega, by omega, by omega, fun r hr => by omega⟩
    have Z29 := hZ.fx f29 ⟨by omega, fun x => by omega⟩
    show Ez (true, g) mX12_steps1 d 32 [(2, eI (nI (10 * mz + S.1))), (0, eR 12 0), (1, eI (nI w))] [eI ((tf xr 2).2 (ep_nm lt bl num S))] M29 _
    refine ez_if_eq 35 58 dX12_steps1_32 rfl (by decide) (fun h32 => ?_) (fun h32 => ?_)
    · refine ez_aload_n 59 dX12_steps1_58 rfl rfl ?_
      refine ez_getf 62 (eR 53 0) dX12_steps1_59 rfl fl_X12_47 (by show 0 < 1; omega) rfl ?_
      refine ez_iload_n 63 dX12_steps1_62 rfl rfl ?_
      refine ez_ialdN w 64 dX12_steps1_63 rfl (by decide) (by show 0 < 1; omega) (by show w < 8; omega) ?_
      refine ez_top S.2.2.1 R29.2.2.2.2.2.1 ?_
      refine ez_if_le 67 107 dX12_steps1_64 rfl (by decide) (fun h64 => ?_) (fun h64 => ?_)
      · have eT : ep_take lt (fun key => (tf xr key).2) bl num S = (S.2.2.1, S.2.2.2.2.2 S.1) := by unfold ep_take; rw [if_neg (fun z9 => z9.2 h32), if_neg (fun z9 => Int32.not_lt.mpr h64 z9.1)]
        have hF9 : FX (fun k i s => ((k = 50 ∨ k = 51 ∨ k = 53 ∨ k = 54) ∧ s = w) ∨ (k = 55 ∧ 10 * w ≤ s ∧ s < 10 * w + 10) ∨ (k = 47 ∧ 10 * mz ≤ s ∧ s < 10 * mz + 10) ∨ (k = 12 ∧ (i ≠ 0 ∨ (21 ≤ s ∧ s < 36)))) M M29 := (FX.rf.tr (f29.up (fun k i s q9 => by omega)))
        have hR9 : RMW kind mz num (ep_mid S S.2.2.1 (S.2.2.2.2.2 S.1)) w M29 := by rw [ep_mid_self]; exact R29
        have hL9 := ep_take_le (lt := lt) (tv := (fun key => (tf xr key).2)) (bl := bl) (num := num) z1 hS
        unfold ep_step
        rw [eT] at hL9 ⊢
        refine ez_drop [(0, eR 12 0), (1, eI (nI w))] (by simp) ?_
        refine ez_wk ?_ (ms_107 g d (tf := tf) w M29 hd hkd hnum hw hmz hz (WFS_mid hS hL9) hR9 (hZ.fx hF9 ⟨by omega, fun x => by omega⟩) hW hb2 (hX.fx hF9 ⟨by omega, by omega, fun x hx => ⟨by omega, fun i hi => by omega⟩⟩) (by rw [hF9 _ _ _ (by omega)]; exact hbl))
        exact fun r M' q9 => ⟨q9.1, q9.2.1, hF9.tr q9.2.2⟩
      · refine ez_aload_n 68 dX12_steps1_67 rfl rfl ?_
        refine ez_getf 71 (eR 47 0) dX12_steps1_68 rfl fl_X12_29 (by show 0 < 1; omega) rfl ?_
        refine ez_iload_n 72 dX12_steps1_71 rfl rfl ?_
        refine ez_ialdN (10 * mz + S.1) 73 dX12_steps1_72 rfl (by decide) (by show 0 < 1; omega) (by show 10 * mz + S.1 < 40; omega) ?_
        refine ez_top (nI (S.2.2.2.2.2 S.1)) (R29.2.2.2.2.2.2.2 S.1 (by omega)).2 ?_
        refine ez_bipush 75 dX12_steps1_73 rfl (nI 99) (by decide) ?_
        refine ez_ncmp_ge 78 107 dX12_steps1_75 rfl (by decide) (by omega) (by omega) (fun h75 => ?_) (fun h75 => ?_)
        · have eT : ep_take lt (fun key => (tf xr key).2) bl num S = (S.2.2.1, S.2.2.2.2.2 S.1) := by unfold ep_take; rw [if_neg (fun z9 => z9.2 h32), if_neg (fun z9 => by have := z9.2.1; omega)]
          have hF9 : FX (fun k i s => ((k = 50 ∨ k = 51 ∨ k = 53 ∨ k = 54) ∧ s = w) ∨ (k = 55 ∧ 10 * w ≤ s ∧ s < 10 * w + 10) ∨ (k = 47 ∧ 10 * mz ≤ s ∧ s < 10 * mz + 10) ∨ (k = 12 ∧ (i ≠ 0 ∨ (21 ≤ s ∧ s < 36)))) M M29 := (FX.rf.tr (f29.up (fun k i s q9 => by omega)))
          have hR9 : RMW kind mz num (ep_mid S S.2.2.1 (S.2.2.2.2.2 S.1)) w M29 := by rw [ep_mid_self]; exact R29
          have hL9 := ep_take_le (lt := lt) (tv := (fun key => (tf xr key).2)) (bl := bl) (num := num) z1 hS
          unfold ep_step
          rw [eT] at hL9 ⊢
          refine ez_drop [(0, eR 12 0), (1, eI (nI w))] (by simp) ?_
          refine ez_wk ?_ (ms_107 g d (tf := tf) w M29 hd hkd hnum hw hmz hz (WFS_mid hS hL9) hR9 (hZ.fx hF9 ⟨by omega, fun x => by omega⟩) hW hb2 (hX.fx hF9 ⟨by omega, by omega, fun x hx => ⟨by omega, fun i hi => by omega⟩⟩) (by rw [hF9 _ _ _ (by omega)]; exact hbl))
          exact fun r M' q9 => ⟨q9.1, q9.2.1, hF9.tr q9.2.2⟩
        · refine ez_aload_n 79 dX12_steps1_78 rfl rfl ?_
          refine ez_iload_n 80 dX12_steps1_79 rfl rfl ?_
          refine ez_iconst 81 dX12_steps1_80 rfl (nI 1) (by decide) ?_
          refine ez_callV 84 [eI (nI w), eI (nI 1)] [] dX12_steps1_81 rfl rfl ok_X12_says1 in_X12_says1 (by decide) (by show 0 < 1; omega) ln_X12_183 (by omega) (Nat.le_of_ble_eq_true rfl) (c_X12_says1 g (d - 1) w 1 M29 (by omega) (by omega) hw hmz hz hS R29 Z29 hW hb2 (hX.fx f29 ⟨by omega, by omega, fun x hx => ⟨by omega, fun i hi => by omega⟩⟩) (by rw [f29 _ _ _ (by omega)]; exact hbl)) (fun r81 M81 q81 => ?_)
          obtain ⟨rfl, f81⟩ := q81
          have R81 := R29.fx f81 ⟨by omega, by omega, by omega, by omega, by omega, by omega, by omega, fun r hr => by omega⟩
          have Z81 := Z29.fx f81 ⟨by omega, fun x => by omega⟩
          show Ez (true, g) mX12_steps1 d 84 [(2, eI (nI (10 * mz + S.1))), (0, eR 12 0), (1, eI (nI w))] [eI ((tf xr 1).2 (ep_nm lt bl num S))] M81 _
          refine ez_if_eq 87 107 dX12_steps1_84 rfl (by decide) (fun h84 => ?_) (fun h84 => ?_)
          · have eT : ep_take lt (fun key => (tf xr key).2) bl num S = (S.2.2.1, S.2.2.2.2.2 S.1) := by unfold ep_take; rw [if_neg (fun z9 => z9.2 h32), if_neg (fun z9 => z9.2.2 h84)]
            have hF9 : FX (fun k i s => ((k = 50 ∨ k = 51 ∨ k = 53 ∨ k = 54) ∧ s = w) ∨ (k = 55 ∧ 10 * w ≤ s ∧ s < 10 * w + 10) ∨ (k = 47 ∧ 10 * mz ≤ s ∧ s < 10 * mz + 10) ∨ (k = 12 ∧ (i ≠ 0 ∨ (21 ≤ s ∧ s < 36)))) M M81 := ((FX.rf.tr (f29.up (fun k i s q9 => by omega))).tr (f81.up (fun k i s q9 => by omega)))
            have hR9 : RMW kind mz num (ep_mid S S.2.2.1 (S.2.2.2.2.2 S.1)) w M81 := by rw [ep_mid_self]; exact R81
            have hL9 := ep_take_le (lt := lt) (tv := (fun key => (tf xr key).2)) (bl := bl) (num := num) z1 hS
            unfold ep_step
            rw [eT] at hL9 ⊢
            refine ez_drop [(0, eR 12 0), (1, eI (nI w))] (by simp) ?_
            refine ez_wk ?_ (ms_107 g d (tf := tf) w M81 hd hkd hnum hw hmz hz (WFS_mid hS hL9) hR9 (hZ.fx hF9 ⟨by omega, fun x => by omega⟩) hW hb2 (hX.fx hF9 ⟨by omega, by omega, fun x hx => ⟨by omega, fun i hi => by omega⟩⟩) (by rw [hF9 _ _ _ (by omega)]; exact hbl))
            exact fun r M' q9 => ⟨q9.1, q9.2.1, hF9.tr q9.2.2⟩
          · refine ez_aload_n 88 dX12_steps1_87 rfl rfl ?_
            refine ez_getf 91 (eR 47 0) dX12_steps1_88 rfl fl_X12_29 (by show 0 < 1; omega) rfl ?_
            refine ez_iload_n 92 dX12_steps1_91 rfl rfl ?_
            refine ez_dup2 93 dX12_steps1_92 rfl rfl rfl ?_
            refine ez_ialdN (10 * mz + S.1) 94 dX12_steps1_93 rfl (by decide) (by show 0 < 1; omega) (by show 10 * mz + S.1 < 40; omega) ?_
            refine ez_top (nI (S.2.2.2.2.2 S.1)) (R81.2.2.2.2.2.2.2 S.1 (by omega)).2 ?_
            refine ez_iconst 95 dX12_steps1_94 rfl (nI 1) (by decide) ?_
            refine ez_iadd 96 dX12_steps1_95 rfl ?_
            refine ez_top (nI (S.2.2.2.2.2 S.1 + 1)) (nI_add _ _) ?_
            refine ez_iastN (10 * mz + S.1) 97 dX12_steps1_96 rfl (by decide) (by show 0 < 1; omega) (by show 10 * mz + S.1 < 40; omega) ?_
            refine ez_aload_n 98 dX12_steps1_97 rfl rfl ?_
            refine ez_getf 101 (eR 53 0) dX12_steps1_98 rfl fl_X12_47 (by show 0 < 1; omega) rfl ?_
            refine ez_iload_n 102 dX12_steps1_101 rfl rfl ?_
            refine ez_dup2 103 dX12_steps1_102 rfl rfl rfl ?_
            refine ez_ialdN w 104 dX12_steps1_103 rfl (by decide) (by show 0 < 1; omega) (by show w < 8; omega) ?_
            refine ez_top (M81.1 53 0 w) rfl ?_
            refine ez_top S.2.2.1 R81.2.2.2.2.2.1 ?_
            refine ez_iconst 105 dX12_steps1_104 rfl (nI 1) (by decide) ?_
            refine ez_isub 106 dX12_steps1_105 rfl ?_
            refine ez_iastN w 107 dX12_steps1_106 rfl (by decide) (by show 0 < 1; omega) (by show w < 8; omega) ?_
            have eT : ep_take lt (fun key => (tf xr key).2) bl num S = (S.2.2.1 - nI 1, S.2.2.2.2.2 S.1 + 1) := by unfold ep_take; rw [if_neg (fun z9 => z9.2 h32), if_pos ⟨Int32.not_le.mp h64, h75, h84⟩]
            have hF9 : FX (fun k i s => ((k = 50 ∨ k = 51 ∨ k = 53 ∨ k = 54) ∧ s = w) ∨ (k = 55 ∧ 10 * w ≤ s ∧ s < 10 * w + 10) ∨ (k = 47 ∧ 10 * mz ≤ s ∧ s < 10 * mz + 10) ∨ (k = 12 ∧ (i ≠ 0 ∨ (21 ≤ s ∧ s < 36)))) M (ez_st (ez_st M81 47 0 (10 * mz + S.1) (nI (S.2.2.2.2.2 S.1 + 1))) 53 0 w (S.2.2.1 - (nI 1))) := ((((FX.rf.tr (f29.up (fun k i s q9 => by omega))).tr (f81.up (fun k i s q9 => by omega))).st (by omega)).st (by omega))
            have hR9 : RMW kind mz num (ep_mid S (S.2.2.1 - (nI 1)) (S.2.2.2.2.2 S.1 + 1)) w (ez_st (ez_st M81 47 0 (10 * mz + S.1) (nI (S.2.2.2.2.2 S.1 + 1))) 53 0 w (S.2.2.1 - (nI 1))) := RMW_bag (RMW_lie R81)
            have hL9 := ep_take_le (lt := lt) (tv := (fun key => (tf xr key).2)) (bl := bl) (num := num) z1 hS
            unfold ep_step
            rw [eT] at hL9 ⊢
            refine ez_drop [(0, eR 12 0), (1, eI (nI w))] (by simp) ?_
            refine ez_wk ?_ (ms_107 g d (tf := tf) w (ez_st (ez_st M81 47 0 (10 * mz + S.1) (nI (S.2.2.2.2.2 S.1 + 1))) 53 0 w (S.2.2.1 - (nI 1))) hd hkd hnum hw hmz hz (WFS_mid hS hL9) hR9 (hZ.fx hF9 ⟨by omega, fun x => by omega⟩) hW hb2 (hX.fx hF9 ⟨by omega, by omega, fun x hx => ⟨by omega, fun i hi => by omega⟩⟩) (by rw [hF9 _ _ _ (by omega)]; exact hbl))
            exact fun r M' q9 => ⟨q9.1, q9.2.1, hF9.tr q9.2.2⟩
    · refine ez_aload_n 36 dX12_steps1_35 rfl rfl ?_
      refine ez_getf 39 (eR 47 0) dX12_steps1_36 rfl fl_X12_29 (by show 0 < 1; omega) rfl ?_
      refine ez_iload_n 40 dX12_steps1_39 rfl rfl ?_
      refine ez_dup2 41 dX12_steps1_40 rfl rfl rfl ?_
      refine ez_ialdN (10 * mz + S.1) 42 dX12_steps1_41 rfl (by decide) (by show 0 < 1; omega) (by show 10 * mz + S.1 < 40; omega) ?_
      refine ez_top (nI (S.2.2.2.2.2 S.1)) (R29.2.2.2.2.2.2.2 S.1 (by omega)).2 ?_
      refine ez_iconst 43 dX12_steps1_42 rfl (nI 1) (by decide) ?_
      refine ez_isub 44 dX12_steps1_43 rfl ?_
      refine ez_top (nI (S.2.2.2.2.2 S.1 - 1)) (pk_sub (by omega)) ?_
      refine ez_iastN (10 * mz + S.1) 45 dX12_steps1_44 rfl (by decide) (by show 0 < 1; omega) (by show 10 * mz + S.1 < 40; omega) ?_
      refine ez_aload_n 46 dX12_steps1_45 rfl rfl ?_
      refine ez_getf 49 (eR 53 0) dX12_steps1_46 rfl fl_X12_47 (by show 0 < 1; omega) rfl ?_
      refine ez_iload_n 50 dX12_steps1_49 rfl rfl ?_
      refine ez_dup2 51 dX12_steps1_50 rfl rfl rfl ?_
      refine ez_ialdN w 52 dX12_steps1_51 rfl (by decide) (by show 0 < 1; omega) (by show w < 8; omega) ?_
      refine ez_top (M29.1 53 0 w) rfl ?_
      refine ez_top S.2.2.1 R29.2.2.2.2.2.1 ?_
      refine ez_iconst 53 dX12_steps1_52 rfl (nI 1) (by decide) ?_
      refine ez_iadd 54 dX12_steps1_53 rfl ?_
      refine ez_iastN w 55 dX12_steps1_54 rfl (by decide) (by show 0 < 1; omega) (by show w < 8; omega) ?_
      refine ez_goto 107 dX12_steps1_55 (by decide) ?_
      have eT : ep_take lt (fun key => (tf xr key).2) bl num S = (S.2.2.1 + nI 1, S.2.2.2.2.2 S.1 - 1) := by unfold ep_take; rw [if_pos ⟨h23, h32⟩]
      have hF9 : FX (fun k i s => ((k = 50 ∨ k = 51 ∨ k = 53 ∨ k = 54) ∧ s = w) ∨ (k = 55 ∧ 10 * w ≤ s ∧ s < 10 * w + 10) ∨ (k = 47 ∧ 10 * mz ≤ s ∧ s < 10 * mz + 10) ∨ (k = 12 ∧ (i ≠ 0 ∨ (21 ≤ s ∧ s < 36)))) M (ez_st (ez_st M29 47 0 (10 * mz + S.1) (nI (S.2.2.2.2.2 S.1 - 1))) 53 0 w (S.2.2.1 + (nI 1))) := (((FX.rf.tr (f29.up (fun k i s q9 => by omega))).st (by omega)).st (by omega))
      have hR9 : RMW kind mz num (ep_mid S (S.2.2.1 + (nI 1)) (S.2.2.2.2.2 S.1 - 1)) w (ez_st (ez_st M29 47 0 (10 * mz + S.1) (nI (S.2.2.2.2.2 S.1 - 1))) 53 0 w (S.2.2.1 + (nI 1))) := RMW_bag (RMW_lie R29)
      have hL9 := ep_take_le (lt := lt) (tv := (fun key => (tf xr key).2)) (bl := bl) (num := num) z1 hS
      unfold ep_step
      rw [eT] at hL9 ⊢
      refine ez_drop [(0, eR 12 0), (1, eI (nI w))] (by simp) ?_
      refine ez_wk ?_ (ms_107 g d (tf := tf) w (ez_st (ez_st M29 47 0 (10 * mz + S.1) (nI (S.2.2.2.2.2 S.1 - 1))) 53 0 w (S.2.2.1 + (nI 1))) hd hkd hnum hw hmz hz (WFS_mid hS hL9) hR9 (hZ.fx hF9 ⟨by omega, fun x => by omega⟩) hW hb2 (hX.fx hF9 ⟨by omega, by omega, fun x hx => ⟨by omega, fun i hi => by omega⟩⟩) (by rw [hF9 _ _ _ (by omega)]; exact hbl))
      exact fun r M' q9 => ⟨q9.1, q9.2.1, hF9.tr q9.2.2⟩
