/-! ring of the model -/
theorem er_nz {b : Nat} (h : b < 2) : narrow .boolean (.int (nI b)) = .int (nI b) := by
  rcases (show b = 0 ∨ b = 1 by omega) with rfl | rfl <;> decide
theorem er_if2 {c : Nat} {fv lv : Int32} (h : ¬ fv = -1) : (if fv = -1 ∨ c = 0 then fv else lv) = if c = 0 then fv else lv := by
  by_cases e : c = 0
  · rw [if_pos (Or.inr e), if_pos e]
  · rw [if_neg (fun z => z.elim h e), if_neg e]
theorem KP_al {a c n : Nat} {S T : EpW} {M : EzM} (hn : n ≤ 10) (hS : WFS n S) (hT : WFS n T) (hA : KP 57 (23 * a) S M) (hB : KP 57 (23 * c) T M) : er_al S T = true ↔ ∀ j, j < 23 → M.1 57 0 (23 * a + j) = M.1 57 0 (23 * c + j) := by
  rw [er_al_iff]
  obtain ⟨a1, a2, a3, a4⟩ := hA
  obtain ⟨b1, b2, b3, b4⟩ := hB
  have s1 := hS.1
  have s2 := hS.2.1
  have t1 := hT.1
  have t2 := hT.2.1
  constructor
  · rintro ⟨e1, e2, e3, e4⟩ j hj
    rcases (show j = 0 ∨ j = 1 ∨ j = 2 ∨ (3 ≤ j ∧ j < 13) ∨ (13 ≤ j ∧ j < 23) by omega) with rfl | rfl | rfl | ⟨h1, h2⟩ | ⟨h1, h2⟩
    · rw [Nat.add_zero, Nat.add_zero, a1, b1, e1]
    · rw [a2, b2, e2]
    · rw [a3, b3, e3]
    · have z1 := (a4 (j - 3) (by omega)).1
      have z2 := (b4 (j - 3) (by omega)).1
      rw [show 23 * a + 3 + (j - 3) = 23 * a + j by omega] at z1
      rw [show 23 * c + 3 + (j - 3) = 23 * c + j by omega] at z2
      rw [z1, z2, (e4 (j - 3) (by omega)).1]
    · have z1 := (a4 (j - 13) (by omega)).2
      have z2 := (b4 (j - 13) (by omega)).2
      rw [show 23 * a + 13 + (j - 13) = 23 * a + j by omega] at z1
      rw [show 23 * c + 13 + (j - 13) = 23 * c + j by omega] at z2
      rw [z1, z2, (e4 (j - 13) (by omega)).2]
  · intro h
    have h0 := h 0 (by omega)
    rw [Nat.add_zero, Nat.add_zero, a1, b1] at h0
    have h1 := h 1 (by omega)
    rw [a2, b2] at h1
    have h2 := h 2 (by omega)
    rw [a3, b3] at h2
    refine ⟨(nI_eq (by omega) (by omega)).mp h0, (nI_eq (by omega) (by omega)).mp h1, h2, fun r hr => ⟨?_, ?_⟩⟩
    · have h3 := h (3 + r) (by omega)
      rw [show 23 * a + (3 + r) = 23 * a + 3 + r by omega, show 23 * c + (3 + r) = 23 * c + 3 + r by omega, (a4 r hr).1, (b4 r hr).1] at h3
      have u1 := (hS.2.2 r hr).1
      have u2 := (hT.2.2 r hr).1
      exact (nI_eq (by omega) (by omega)).mp h3
    · have h3 := h (13 + r) (by omega)
      rw [show 23 * a + (13 + r) = 23 * a + 13 + r by omega, show 23 * c + (13 + r) = 23 * c + 13 + r by omega, (a4 r hr).2, (b4 r hr).2] at h3
      have u1 := (hS.2.2 r hr).2
      have u2 := (hT.2.2 r hr).2
      exact (nI_eq (by omega) (by omega)).mp h3
set_option maxRecDepth 20000 in
theorem lp_areAlike (g : EzH) (d : Nat) {S T : EpW} {n : Nat} (a c : Nat) (M : EzM) (ha : a ≤ 200) (hc : c ≤ 200) (hn : n ≤ 10) (hS : WFS n S) (hT : WFS n T) (hA : KP 57 (23 * a) S M) (hB : KP 57 (23 * c) T M) : ∀ (z : Nat) (t : Nat) (b : Nat), 23 - t = z → t ≤ 23 → b < 2 → (b = 1 ∧ ∀ j, j < t → M.1 57 0 (23 * a + j) = M.1 57 0 (23 * c + j)) ∨ (b = 0 ∧ ∃ j, j < 23 ∧ ¬ M.1 57 0 (23 * a + j) = M.1 57 0 (23 * c + j)) → Ez (true, g) mX12_areAlike d 5 [(4, eI (nI t)), (3, eI (nI b)), (0, eR 12 0), (1, eI (nI a)), (2, eI (nI c))] [] M (fun r M' => r = some (eI (nI (if er_al S T = true then 1 else 0))) ∧ M' = M) := by
  intro z
  induction z using Nat.strongRecOn with
  | ind z ih =>
    intro t b hz ht hb hx
    refine ez_iload 7 dX12_areAlike_5 rfl rfl ?_
    refine ez_bipush 9 dX12_areAlike_7 rfl (nI 23) (by decide) ?_
    refine ez_ncmp_ge 12 55 dX12_areAlike_9 rfl (by decide) (by omega) (by omega) (fun h9 => ?_) (fun h9 => ?_)
    · refine ez_iload_n 56 dX12_areAlike_55 rfl rfl ?_
      refine ez_iret .boolean dX12_areAlike_56 rfl (er_nz hb) ?_
      refine ⟨?_, rfl⟩
      have k9 := KP_al hn hS hT hA hB
      rcases hx with ⟨x1, x2⟩ | ⟨x1, x3, x4, x5⟩
      · rw [if_pos (k9.mpr (fun j hj => x2 j (by omega))), x1]
      · rw [if_neg (fun z => x5 (k9.mp z x3 x4)), x1]
    · refine ez_iload_n 13 dX12_areAlike_12 rfl rfl ?_
      refine ez_nif_eq 16 55 dX12_areAlike_13 rfl (by decide) (by omega) (fun h13 => ?_) (fun h13 => ?_)
      · refine ez_iload_n 56 dX12_areAlike_55 rfl rfl ?_
        refine ez_iret .boolean dX12_areAlike_56 rfl (er_nz hb) ?_
        refine ⟨?_, rfl⟩
        have k9 := KP_al hn hS hT hA hB
        rcases hx with ⟨x1, x2⟩ | ⟨x1, x3, x4, x5⟩
        · rw [if_pos (k9.mpr (fun j hj => x2 j (by omega))), x1]
        · rw [if_neg (fun z => x5 (k9.mp z x3 x4)), x1]
      · refine ez_aload_n 17 dX12_areAlike_16 rfl rfl ?_
        refine ez_getf 20 (eR 57 0) dX12_areAlike_17 rfl fl_X12_59 (by show 0 < 1; omega) rfl ?_
        refine ez_bipush 22 dX12_areAlike_20 rfl (nI 23) (by decide) ?_
        refine ez_iload_n 23 dX12_areAlike_22 rfl rfl ?_
        refine ez_imul 24 dX12_areAlike_23 rfl ?_
        refine ez_top (nI (23 * a)) (pk_mul _ _) ?_
        refine ez_iload 26 dX12_areAlike_24 rfl rfl ?_
        refine ez_iadd 27 dX12_areAlike_26 rfl ?_
        refine ez_top (nI (23 * a + t)) (nI_add _ _) ?_
        refine ez_ialdN (23 * a + t) 28 dX12_areAlike_27 rfl (by decide) (by show 0 < 1; omega) (by show 23 * a + t < 4623; omega) ?_
        refine ez_aload_n 29 dX12_areAlike_28 rfl rfl ?_
        refine ez_getf 32 (eR 57 0) dX12_areAlike_29 rfl fl_X12_59 (by show 0 < 1; omega) rfl ?_
        refine ez_bipush 34 dX12_areAlike_32 rfl (nI 23) (by decide) ?_
        refine ez_iload_n 35 dX12_areAlike_34 rfl rfl ?_
        refine ez_imul 36 dX12_areAlike_35 rfl ?_
        refine ez_top (nI (23 * c)) (pk_mul _ _) ?_
        refine ez_iload 38 dX12_areAlike_36 rfl rfl ?_
        refine ez_iadd 39 dX12_areAlike_38 rfl ?_
        refine ez_top (nI (23 * c + t)) (nI_add _ _) ?_
        refine ez_ialdN (23 * c + t) 40 dX12_areAlike_39 rfl (by decide) (by show 0 < 1; omega) (by show 23 * c + t < 4623; omega) ?_
        refine ez_icmp_ne 43 47 dX12_areAlike_40 rfl (by decide) (fun h40 => ?_) (fun h40 => ?_)
        · refine ez_iconst 48 dX12_areAlike_47 rfl (nI 0) (by decide) ?_
          refine ez_istore_n 49 [(3, eI (nI 0)), (4, eI (nI t)), (0, eR 12 0), (1, eI (nI a)), (2, eI (nI c))] dX12_areAlike_48 rfl (by decide) rfl ?_
          refine ez_iinc 52 (nI (t + 1)) [(4, eI (nI (t + 1))), (3, eI (nI 0)), (0, eR 12 0), (1, eI (nI a)), (2, eI (nI c))] dX12_areAlike_49 rfl rfl (nI_add t 1) (by decide) rfl ?_
          refine ez_goto 5 dX12_areAlike_52 (by decide) ?_
          exact ih (23 - (t + 1)) (by omega) (t + 1) 0 rfl (by omega) (by omega) (Or.inr ⟨rfl, t, by omega, h40⟩)
        · refine ez_iconst 44 dX12_areAlike_43 rfl (nI 1) (by decide) ?_
          refine ez_goto 48 dX12_areAlike_44 (by decide) ?_
          refine ez_istore_n 49 [(3, eI (nI 1)), (4, eI (nI t)), (0, eR 12 0), (1, eI (nI a)), (2, eI (nI c))] dX12_areAlike_48 rfl (by decide) rfl ?_
          refine ez_iinc 52 (nI (t + 1)) [(4, eI (nI (t + 1))), (3, eI (nI 1)), (0, eR 12 0), (1, eI (nI a)), (2, eI (nI c))] dX12_areAlike_49 rfl rfl (nI_add t 1) (by decide) rfl ?_
          refine ez_goto 5 dX12_areAlike_52 (by decide) ?_
          rcases hx with ⟨x1, x2⟩ | ⟨x1, x2⟩
          · exact ih (23 - (t + 1)) (by omega) (t + 1) 1 rfl (by omega) (by omega) (Or.inl ⟨rfl, fun j hj => by
              by_cases e : j = t
              · rw [e]; exact h40
              · exact x2 j (by omega)⟩)
          · omega
set_option maxRecDepth 20000 in
theorem c_X12_areAlike (g : EzH) (d : Nat) {S T : EpW} {n : Nat} (a c : Nat) (M : EzM) (ha : a ≤ 200) (hc : c ≤ 200) (hn : n ≤ 10) (hS : WFS n S) (hT : WFS n T) (hA : KP 57 (23 * a) S M) (hB : KP 57 (23 * c) T M) : Ezc (true, g) mX12_areAlike d [eR 12 0, eI (nI a), eI (nI c)] M (fun r M' => r = some (eI (nI (if er_al S T = true then 1 else 0))) ∧ M' = M) := by
  refine Ezc.of (by decide +kernel) (Nat.le_of_ble_eq_true rfl) ?_
  show Ez (true, g) mX12_areAlike d 0 [(0, eR 12 0), (1, eI (nI a)), (2, eI (nI c))] [] M _
  refine ez_iconst 1 dX12_areAlike_0 rfl (nI 1) (by decide) ?_
  refine ez_istore_n 2 [(3, eI (nI 1)), (0, eR 12 0), (1, eI (nI a)), (2, eI (nI c))] dX12_areAlike_1 rfl (by decide) rfl ?_
  refine ez_iconst 3 dX12_areAlike_2 rfl (nI 0) (by decide) ?_
  refine ez_istore 5 [(4, eI (nI 0)), (3, eI (nI 1)), (0, eR 12 0), (1, eI (nI a)), (2, eI (nI c))] dX12_areAlike_3 rfl (by decide) rfl ?_
  exact lp_areAlike g d a c M ha hc hn hS hT hA hB _ 0 1 rfl (by omega) (by omega) (Or.inl ⟨rfl, fun j hj => by omega⟩)
set_option maxRecDepth 20000 in
theorem ring_149 (g : EzH) (d : Nat) {q : EpS} {S : EpW} (w c : Nat) (fv lv : Int32) (M M1 : EzM) (hd : 67 ≤ d) (hW : WF q) (hC : RM q M) (hw : w < q.2.1.1) (hc : c < 2 ^ 31) (hR : RMW (q.2.1.2.1 w 0) (q.2.1.2.1 w 1) (q.2.1.2.1 w 4) S w M1) (hK : KP 57 0 (s_get q.1 q.2.1 w) M1) (hF : FX (CHT w w (q.2.1.2.1 w 1)) M M1) : Ez (true, g) mX12_ring d 149 [(4, eI fv), (5, eI lv), (3, eI ((s_get q.1 q.2.1 w).2.2.2.1)), (0, eR 12 0), (1, eI (nI w)), (2, eI (nI c))] [] M1 (fun r M' => r = some (eI (if fv = -1 ∨ c = 0 then fv else lv)) ∧ RM q M' ∧ FX CM M M') := by
  have q8 := hW.2.1.1
  have q4 := hW.1.1
  have qx := hW.2.2.2.2.1
  obtain ⟨k0, k1, k2, k3, k4, k5⟩ := hW.2.1.2 w hw
  have gz := g_WFz hW.1 k1
  have gS := g_WFS hW hw
  have gZ := g_RMz hC.1 k1
  have gR := g_RMW hC.1 hC.2.1 hw k1
  have gX := hC.2.2.2.2.1
  have n10 := gz.2.1
  have hc9 : c < 2 ^ 31 := hc
  refine ez_aload_n 150 dX12_ring_149 rfl rfl ?_
  refine ez_iconst 151 dX12_ring_150 rfl (nI 0) (by decide) ?_
  refine ez_putf 154 .boolean dX12_ring_151 rfl fp_X12_217 (by show 0 < 1; omega) rfl (by decide) (by decide) (by decide) ?_
  have F151 : FX (fun k i s => k = 12 ∧ s = 20) M1 (ez_st M1 12 0 20 (nI 0)) := FX.rf.st (by omega)
  refine ez_aload_n 155 dX12_ring_154 rfl rfl ?_
  refine ez_iload_n 156 dX12_ring_155 rfl rfl ?_
  refine ez_aload_n 157 dX12_ring_156 rfl rfl ?_
  refine ez_getf 160 (eR 57 0) dX12_ring_157 rfl fl_X12_59 (by show 0 < 1; omega) rfl ?_
  refine ez_iconst 161 dX12_ring_160 rfl (nI 0) (by decide) ?_
  refine ez_iload_n 162 dX12_ring_161 rfl rfl ?_
  refine ez_callV 165 [eI (nI w), eR 57 0, eI (nI 0), eI ((s_get q.1 q.2.1 w).2.2.2.1)] [] dX12_ring_162 rfl rfl ok_X12_lays in_X12_lays (by decide) (by show 0 < 1; omega) ln_X12_369 (by omega) (Nat.le_of_ble_eq_true rfl) (c_lays_57 g (d - 1) (T := (s_get q.1 q.2.1 w)) (n := 10) w 0 (s_get q.1 q.2.1 w).2.2.2.1 (ez_st M1 12 0 20 (nI 0)) (by omega) (by omega) (by omega) (hR.fx F151 ⟨by omega, by omega, by omega, by omega, by omega, by omega, by omega, fun r hr => by omega⟩) (hK.fx F151 (fun s _ _ => by omega)) (by omega)) (fun r162 M162 q162 => ?_)
  obtain ⟨rfl, R162, f162⟩ := q162
  show Ez (true, g) mX12_ring d 165 [(4, eI fv), (5, eI lv), (3, eI ((s_get q.1 q.2.1 w).2.2.2.1)), (0, eR 12 0), (1, eI (nI w)), (2, eI (nI c))] [] M162 _
  refine ez_iload 167 dX12_ring_165 rfl rfl ?_
  refine ez_iconst 168 dX12_ring_167 rfl (-1) (by decide) ?_
  refine ez_icmp_eq 171 175 dX12_ring_168 rfl (by decide) (fun h168 => ?_) (fun h168 => ?_)
  · refine ez_iload 177 dX12_ring_175 rfl rfl ?_
    refine ez_goto 182 dX12_ring_177 (by decide) ?_
    refine ez_iret .int dX12_ring_182 rfl rfl ?_
    have F9 : FX (CHT w w (q.2.1.2.1 w 1)) M M162 := (hF.tr (F151.up (fun k i s z => by unfold CHT SM; omega))).tr (f162.up (fun k i s z => by unfold LF at z; unfold CHT SM; omega))
    exact ⟨by rw [if_pos (Or.inl h168)], RM_back hC rfl R162 R162 (by rw [f162 _ _ _ (by unfold LF; omega)]; simp [ez_rd]) F9, F9.cht⟩
  · refine ez_iload_n 172 dX12_ring_171 rfl rfl ?_
    refine ez_nif_ne 175 180 dX12_ring_172 rfl (by decide) (by omega) (fun h172 => ?_) (fun h172 => ?_)
    · refine ez_iload 182 dX12_ring_180 rfl rfl ?_
      refine ez_iret .int dX12_ring_182 rfl rfl ?_
      have F9 : FX (CHT w w (q.2.1.2.1 w 1)) M M162 := (hF.tr (F151.up (fun k i s z => by unfold CHT SM; omega))).tr (f162.up (fun k i s z => by unfold LF at z; unfold CHT SM; omega))
      exact ⟨by rw [if_neg (fun z => z.elim h168 (by omega))], RM_back hC rfl R162 R162 (by rw [f162 _ _ _ (by unfold LF; omega)]; simp [ez_rd]) F9, F9.cht⟩
    · refine ez_iload 177 dX12_ring_175 rfl rfl ?_
      refine ez_goto 182 dX12_ring_177 (by decide) ?_
      refine ez_iret .int dX12_ring_182 rfl rfl ?_
      have F9 : FX (CHT w w (q.2.1.2.1 w 1)) M M162 := (hF.tr (F151.up (fun k i s z => by unfold CHT SM; omega))).tr (f162.up (fun k i s z => by unfold LF at z; unfold CHT SM; omega))
      exact ⟨by rw [if_pos (Or.inr h172)], RM_back hC rfl R162 R162 (by rw [f162 _ _ _ (by unfold LF; omega)]; simp [ez_rd]) F9, F9.cht⟩
set_option maxRecDepth 20000 in
theorem ring_88f (g : EzH) (d : Nat) {q : EpS} {S : EpW} (w c t e : Nat) (M M1 : EzM) (hd : 67 ≤ d) (hW : WF q) (hC : RM q M) (hw : w < q.2.1.1) (hc : c < 2) (he : e < t + 1) (ht : t < 200) (hR : RMW (q.2.1.2.1 w 0) (q.2.1.2.1 w 1) (q.2.1.2.1 w 4) S w M1) (hK : KP 57 0 (s_get q.1 q.2.1 w) M1) (hF : FX (CHT w w (q.2.1.2.1 w 1)) M M1) : Ez (true, g) mX12_ring d 88 [(7, eI (nI (e + 1))), (4, eI (nI e)), (6, eI (nI (t + 1))), (5, eI (nI 0)), (3, eI ((s_get q.1 q.2.1 w).2.2.2.1)), (0, eR 12 0), (1, eI (nI w)), (2, eI (nI c))] [] M1 (fun r M' => r = some (eI ((if c = 0 then nI e else nI (t + 1 - e)))) ∧ RM q M' ∧ FX CM M M') := by
  have q8 := hW.2.1.1
  refine ez_iload 90 dX12_ring_88 rfl rfl ?_
  refine ez_iload 92 dX12_ring_90 rfl rfl ?_
  refine ez_ncmp_ge 95 126 dX12_ring_92 rfl (by decide) (by omega) (by omega) (fun h92 => ?_) (fun h92 => ?_)
  · refine ez_iload 128 dX12_ring_126 rfl rfl ?_
    refine ez_iconst 129 dX12_ring_128 rfl (-1) (by decide) ?_
    refine ez_icmp_ne 132 136 dX12_ring_129 rfl (by decide) (fun h129 => ?_) (fun h129 => ?_)
    · refine ez_iload 138 dX12_ring_136 rfl rfl ?_
      refine ez_iload 140 dX12_ring_138 rfl rfl ?_
      refine ez_isub 141 dX12_ring_140 rfl ?_
      refine ez_top (nI (t + 1 - e)) (pk_sub (by omega)) ?_
      refine ez_istore 143 [(5, eI (nI (t + 1 - e))), (7, eI (nI (e + 1))), (4, eI (nI e)), (6, eI (nI (t + 1))), (3, eI ((s_get q.1 q.2.1 w).2.2.2.1)), (0, eR 12 0), (1, eI (nI w)), (2, eI (nI c))] dX12_ring_141 rfl (by decide) rfl ?_
      refine ez_iinc 146 (nI (t + 1 + 1)) [(6, eI (nI (t + 1 + 1))), (5, eI (nI (t + 1 - e))), (7, eI (nI (e + 1))), (4, eI (nI e)), (3, eI ((s_get q.1 q.2.1 w).2.2.2.1)), (0, eR 12 0), (1, eI (nI w)), (2, eI (nI c))] dX12_ring_143 rfl rfl (nI_add (t + 1) 1) (by decide) rfl ?_
      refine ez_goto 52 dX12_ring_146 (by decide) ?_
      refine ez_iload 54 dX12_ring_52 rfl rfl ?_
      refine ez_sipush 57 dX12_ring_54 rfl (nI 200) (by decide) ?_
      refine ez_ncmp_gt 60 149 dX12_ring_57 rfl (by decide) (by omega) (by omega) (fun h57 => ?_) (fun h57 => ?_)
      · refine ez_drop [(4, eI (nI e)), (5, eI (nI (t + 1 - e))), (3, eI (s_get q.1 q.2.1 w).2.2.2.1), (0, eR 12 0), (1, eI (nI w)), (2, eI (nI c))] (by simp) ?_
        refine ez_wk ?_ (ring_149 g d w c (nI e) (nI (t + 1 - e)) M M1 hd hW hC hw (by omega) hR hK hF)
        exact fun r M' z9 => ⟨by rw [z9.1, er_if2 (ep_m1 (by omega))], z9.2⟩
      · refine ez_iload 62 dX12_ring_60 rfl rfl ?_
        refine ez_iconst 63 dX12_ring_62 rfl (-1) (by decide) ?_
        refine ez_icmp_ne 66 149 dX12_ring_63 rfl (by decide) (fun h63 => ?_) (fun h63 => ?_)
        · refine ez_drop [(4, eI (nI e)), (5, eI (nI (t + 1 - e))), (3, eI (s_get q.1 q.2.1 w).2.2.2.1), (0, eR 12 0), (1, eI (nI w)), (2, eI (nI c))] (by simp) ?_
          refine ez_wk ?_ (ring_149 g d w c (nI e) (nI (t + 1 - e)) M M1 hd hW hC hw (by omega) hR hK hF)
          exact fun r M' z9 => ⟨by rw [z9.1, er_if2 (ep_m1 (by omega))], z9.2⟩
        · exact absurd h63 (ep_m1 (by omega))
    · exact absurd h129 (ep_m1 (by omega))
  · refine ez_iload 97 dX12_ring_95 rfl rfl ?_
    refine ez_iconst 98 dX12_ring_97 rfl (-1) (by decide) ?_
    refine ez_icmp_ne 101 126 dX12_ring_98 rfl (by decide) (fun h98 => ?_) (fun h98 => ?_)
    · refine ez_iload 128 dX12_ring_126 rfl rfl ?_
      refine ez_iconst 129 dX12_ring_128 rfl (-1) (by decide) ?_
      refine ez_icmp_ne 132 136 dX12_ring_129 rfl (by decide) (fun h129 => ?_) (fun h129 => ?_)
      · refine ez_iload 138 dX12_ring_136 rfl rfl ?_
        refine ez_iload 140 dX12_ring_138 rfl rfl ?_
        refine ez_isub 141 dX12_ring_140 rfl ?_
        refine ez_top (nI (t + 1 - e)) (pk_sub (by omega)) ?_
        refine ez_istore 143 [(5, eI (nI (t + 1 - e))), (7, eI (nI (e + 1))), (4, eI (nI e)), (6, eI (nI (t + 1))), (3, eI ((s_get q.1 q.2.1 w).2.2.2.1)), (0, eR 12 0), (1, eI (nI w)), (2, eI (nI c))] dX12_ring_141 rfl (by decide) rfl ?_
        refine ez_iinc 146 (nI (t + 1 + 1)) [(6, eI (nI (t + 1 + 1))), (5, eI (nI (t + 1 - e))), (7, eI (nI (e + 1))), (4, eI (nI e)), (3, eI ((s_get q.1 q.2.1 w).2.2.2.1)), (0, eR 12 0), (1, eI (nI w)), (2, eI (nI c))] dX12_ring_143 rfl rfl (nI_add (t + 1) 1) (by decide) rfl ?_
        refine ez_goto 52 dX12_ring_146 (by decide) ?_
        refine ez_iload 54 dX12_ring_52 rfl rfl ?_
        refine ez_sipush 57 dX12_ring_54 rfl (nI 200) (by decide) ?_
        refine ez_ncmp_gt 60 149 dX12_ring_57 rfl (by decide) (by omega) (by omega) (fun h57 => ?_) (fun h57 => ?_)
        · refine ez_drop [(4, eI (nI e)), (5, eI (nI (t + 1 - e))), (3, eI (s_get q.1 q.2.1 w).2.2.2.1), (0, eR 12 0), (1, eI (nI w)), (2, eI (nI c))] (by simp) ?_
          refine ez_wk ?_ (ring_149 g d w c (nI e) (nI (t + 1 - e)) M M1 hd hW hC hw (by omega) hR hK hF)
          exact fun r M' z9 => ⟨by rw [z9.1, er_if2 (ep_m1 (by omega))], z9.2⟩
        · refine ez_iload 62 dX12_ring_60 rfl rfl ?_
          refine ez_iconst 63 dX12_ring_62 rfl (-1) (by decide) ?_
          refine ez_icmp_ne 66 149 dX12_ring_63 rfl (by decide) (fun h63 => ?_) (fun h63 => ?_)
          · refine ez_drop [(4, eI (nI e)), (5, eI (nI (t + 1 - e))), (3, eI (s_get q.1 q.2.1 w).2.2.2.1), (0, eR 12 0), (1, eI (nI w)), (2, eI (nI c))] (by simp) ?_
            refine ez_wk ?_ (ring_149 g d w c (nI e) (nI (t + 1 - e)) M M1 hd hW hC hw (by omega) hR hK hF)
            exact fun r M' z9 => ⟨by rw [z9.1, er_if2 (ep_m1 (by omega))], z9.2⟩
          · exact absurd h63 (ep_m1 (by omega))
      · exact absurd h129 (ep_m1 (by omega))
    · exact absurd h98 (ep_m1 (by omega))
set_option maxRecDepth 20000 in
theorem ring_126 (g : EzH) (d : Nat) {q : EpS} (w c t : Nat) (M1 : EzM) (P : Option EzV → EzM → Prop) (ht : t < 200) (K : Ez (true, g) mX12_ring d 52 [(6, eI (nI (t + 1 + 1))), (5, eI (nI 0)), (4, eI (-1)), (3, eI ((s_get q.1 q.2.1 w).2.2.2.1)), (0, eR 12 0), (1, eI (nI w)), (2, eI (nI c))] [] M1 P) : Ez (true, g) mX12_ring d 126 [(4, eI (-1)), (6, eI (nI (t + 1))), (5, eI (nI 0)), (3, eI ((s_get q.1 q.2.1 w).2.2.2.1)), (0, eR 12 0), (1, eI (nI w)), (2, eI (nI c))] [] M1 (P) := by
  refine ez_iload 128 dX12_ring_126 rfl rfl ?_
  refine ez_iconst 129 dX12_ring_128 rfl (-1) (by decide) ?_
  refine ez_icmp_ne 132 136 dX12_ring_129 rfl (by decide) (fun h129 => ?_) (fun h129 => ?_)
  · exact absurd rfl h129
  · refine ez_iconst 133 dX12_ring_132 rfl (nI 0) (by decide) ?_
    refine ez_goto 141 dX12_ring_133 (by decide) ?_
    refine ez_istore 143 [(5, eI (nI 0)), (4, eI (-1)), (6, eI (nI (t + 1))), (3, eI ((s_get q.1 q.2.1 w).2.2.2.1)), (0, eR 12 0), (1, eI (nI w)), (2, eI (nI c))] dX12_ring_141 rfl (by decide) rfl ?_
    refine ez_iinc 146 (nI (t + 1 + 1)) [(6, eI (nI (t + 1 + 1))), (5, eI (nI 0)), (4, eI (-1)), (3, eI ((s_get q.1 q.2.1 w).2.2.2.1)), (0, eR 12 0), (1, eI (nI w)), (2, eI (nI c))] dX12_ring_143 rfl rfl (nI_add (t + 1) 1) (by decide) rfl ?_
    refine ez_goto 52 dX12_ring_146 (by decide) ?_
    refine ez_drop [(6, eI (nI (t + 1 + 1))), (5, eI (nI 0)), (4, eI (-1)), (3, eI ((s_get q.1 q.2.1 w).2.2.2.1)), (0, eR 12 0), (1, eI (nI w)), (2, eI (nI c))] (by simp) ?_
    exact K
set_option maxRecDepth 20000 in
theorem lp_ring88 (g : EzH) (d : Nat) {q : EpS} {S : EpW} (w c t : Nat) (M1 : EzM) (P : Option EzV → EzM → Prop) (M : EzM) (hd : 67 ≤ d) (hW : WF q) (hC : RM q M) (hw : w < q.2.1.1) (hc : c < 2) (ht : t < 200) (hR : RMW (q.2.1.2.1 w 0) (q.2.1.2.1 w 1) (q.2.1.2.1 w 4) S w M1) (hK : KP 57 0 (s_get q.1 q.2.1 w) M1) (hF : FX (CHT w w (q.2.1.2.1 w 1)) M M1) (hKs : ∀ i, i ≤ t + 1 → KP 57 (23 * i) (s_sq q w i) M1) (hfound : ∀ e, s_el q w (t + 1) = some e → Ez (true, g) mX12_ring d 88 [(7, eI (nI (e + 1))), (4, eI (nI e)), (6, eI (nI (t + 1))), (5, eI (nI 0)), (3, eI ((s_get q.1 q.2.1 w).2.2.2.1)), (0, eR 12 0), (1, eI (nI w)), (2, eI (nI c))] [] M1 P) (K : s_el q w (t + 1) = none → Ez (true, g) mX12_ring d 126 [(4, eI (-1)), (6, eI (nI (t + 1))), (5, eI (nI 0)), (3, eI ((s_get q.1 q.2.1 w).2.2.2.1)), (0, eR 12 0), (1, eI (nI w)), (2, eI (nI c))] [] M1 P) : ∀ (z : Nat) (i : Nat), t + 1 - i = z → i ≤ t + 1 → (∀ j, j < i → er_al (s_sq q w j) (s_sq q w (t + 1)) = false) → Ez (true, g) mX12_ring d 88 [(7, eI (nI i)), (4, eI (-1)), (6, eI (nI (t + 1))), (5, eI (nI 0)), (3, eI ((s_get q.1 q.2.1 w).2.2.2.1)), (0, eR 12 0), (1, eI (nI w)), (2, eI (nI c))] [] M1 (P) := by
  intro z
  induction z using Nat.strongRecOn with
  | ind z ih =>
    intro i hz hi hj0
    have q8 := hW.2.1.1
    have q4 := hW.1.1
    have qx := hW.2.2.2.2.1
    obtain ⟨k0, k1, k2, k3, k4, k5⟩ := hW.2.1.2 w hw
    have gz := g_WFz hW.1 k1
    have gS := g_WFS hW hw
    have gZ := g_RMz hC.1 k1
    have gR := g_RMW hC.1 hC.2.1 hw k1
    have gX := hC.2.2.2.2.1
    have n10 := gz.2.1
    refine ez_iload 90 dX12_ring_88 rfl rfl ?_
    refine ez_iload 92 dX12_ring_90 rfl rfl ?_
    refine ez_ncmp_ge 95 126 dX12_ring_92 rfl (by decide) (by omega) (by omega) (fun h92 => ?_) (fun h92 => ?_)
    · refine ez_drop [(4, eI (-1)), (6, eI (nI (t + 1))), (5, eI (nI 0)), (3, eI ((s_get q.1 q.2.1 w).2.2.2.1)), (0, eR 12 0), (1, eI (nI w)), (2, eI (nI c))] (by simp) ?_
      exact K (er_fst_none (fun j hj => hj0 j (by omega)))
    · refine ez_iload 97 dX12_ring_95 rfl rfl ?_
      refine ez_iconst 98 dX12_ring_97 rfl (-1) (by decide) ?_
      refine ez_icmp_ne 101 126 dX12_ring_98 rfl (by decide) (fun h98 => ?_) (fun h98 => ?_)
      · exact absurd rfl h98
      · refine ez_aload_n 102 dX12_ring_101 rfl rfl ?_
        refine ez_iload 104 dX12_ring_102 rfl rfl ?_
        refine ez_iload 106 dX12_ring_104 rfl rfl ?_
        refine ez_callV 109 [eI (nI i), eI (nI (t + 1))] [] dX12_ring_106 rfl rfl ok_X12_areAlike in_X12_areAlike (by decide) (by show 0 < 1; omega) ln_X12_373 (by omega) (Nat.le_of_ble_eq_true rfl) (c_X12_areAlike g (d - 1) (n := q.1.2.1 (q.2.1.2.1 w 1)) i (t + 1) M1 (by omega) (by omega) n10 (WFS_nth gz i _ gS) (WFS_nth gz (t + 1) _ gS) (hKs i (by omega)) (hKs (t + 1) (by omega))) (fun r106 M106 q106 => ?_)
        obtain ⟨rfl, e106⟩ := q106
        rw [e106]
        show Ez (true, g) mX12_ring d 109 [(7, eI (nI i)), (4, eI (-1)), (6, eI (nI (t + 1))), (5, eI (nI 0)), (3, eI ((s_get q.1 q.2.1 w).2.2.2.1)), (0, eR 12 0), (1, eI (nI w)), (2, eI (nI c))] [eI (nI (if er_al (s_sq q w i) (s_sq q w (t + 1)) = true then 1 else 0))] M1 _
        cases hal : er_al (s_sq q w i) (s_sq q w (t + 1)) with
        | true =>
          show Ez (true, g) mX12_ring d 109 _ [eI (nI 1)] M1 _
          refine ez_nif_eq 112 117 dX12_ring_109 rfl (by decide) (by omega) (fun h109 => ?_) (fun h109 => ?_)
          · exact absurd h109 (by decide)
          · refine ez_iload 114 dX12_ring_112 rfl rfl ?_
            refine ez_goto 118 dX12_ring_114 (by decide) ?_
            refine ez_istore 120 [(4, eI (nI i)), (7, eI (nI i)), (6, eI (nI (t + 1))), (5, eI (nI 0)), (3, eI ((s_get q.1 q.2.1 w).2.2.2.1)), (0, eR 12 0), (1, eI (nI w)), (2, eI (nI c))] dX12_ring_118 rfl (by decide) rfl ?_
            refine ez_iinc 123 (nI (i + 1)) [(7, eI (nI (i + 1))), (4, eI (nI i)), (6, eI (nI (t + 1))), (5, eI (nI 0)), (3, eI ((s_get q.1 q.2.1 w).2.2.2.1)), (0, eR 12 0), (1, eI (nI w)), (2, eI (nI c))] dX12_ring_120 rfl rfl (nI_add i 1) (by decide) rfl ?_
            refine ez_goto 88 dX12_ring_123 (by decide) ?_
            exact hfound i (er_fst_some (p := fun i => er_al (s_sq q w i) (s_sq q w (t + 1))) hal hj0 (by omega))
        | false =>
          show Ez (true, g) mX12_ring d 109 _ [eI (nI 0)] M1 _
          refine ez_nif_eq 112 117 dX12_ring_109 rfl (by decide) (by omega) (fun h109 => ?_) (fun h109 => ?_)
          · refine ez_iconst 118 dX12_ring_117 rfl (-1) (by decide) ?_
            refine ez_istore 120 [(4, eI (-1)), (7, eI (nI i)), (6, eI (nI (t + 1))), (5, eI (nI 0)), (3, eI ((s_get q.1 q.2.1 w).2.2.2.1)), (0, eR 12 0), (1, eI (nI w)), (2, eI (nI c))] dX12_ring_118 rfl (by decide) rfl ?_
            refine ez_iinc 123 (nI (i + 1)) [(7, eI (nI (i + 1))), (4, eI (-1)), (6, eI (nI (t + 1))), (5, eI (nI 0)), (3, eI ((s_get q.1 q.2.1 w).2.2.2.1)), (0, eR 12 0), (1, eI (nI w)), (2, eI (nI c))] dX12_ring_120 rfl rfl (nI_add i 1) (by decide) rfl ?_
            refine ez_goto 88 dX12_ring_123 (by decide) ?_
            exact ih (t + 1 - (i + 1)) (by omega) (i + 1) rfl (by omega) (fun j hj => by
              by_cases e : j = i
              · rw [e]; exact hal
              · exact hj0 j (by omega))
          · exact absurd h109 (by decide)
set_option maxRecDepth 20000 in
theorem lp_ring (g : EzH) (d : Nat) {q : EpS} (w c : Nat) (M : EzM) (hd : 67 ≤ d) (hW : WF q) (hC : RM q M) (hw : w < q.2.1.1) (hc : c < 2) : ∀ (z : Nat) (t : Nat) (M1 : EzM), 200 - t = z → t ≤ 200 → RMW (q.2.1.2.1 w 0) (q.2.1.2.1 w 1) (q.2.1.2.1 w 4) (s_sq q w t) w M1 → (∀ i, i ≤ t → KP 57 (23 * i) (s_sq q w i) M1) → (∀ j, j < t → (s_el q w (j + 1)).isSome = false) → M1.1 12 0 20 = nI 1 → FX (CHT w w (q.2.1.2.1 w 1)) M M1 → Ez (true, g) mX12_ring d 52 [(6, eI (nI (t + 1))), (5, eI (nI 0)), (4, eI (-1)), (3, eI ((s_get q.1 q.2.1 w).2.2.2.1)), (0, eR 12 0), (1, eI (nI w)), (2, eI (nI c))] [] M1 (fun r M' => r = some (eI ((match s_lp q w with | none => -1 | some t => match s_el q w (t + 1) with | none => -1 | some e => if c = 0 then nI e else nI (t + 1 - e)))) ∧ RM q M' ∧ FX CM M M') := by
  intro z
  induction z using Nat.strongRecOn with
  | ind z ih =>
    intro t M1 hz ht hR hKs hj h20 hF
    have q8 := hW.2.1.1
    have q4 := hW.1.1
    have qx := hW.2.2.2.2.1
    obtain ⟨k0, k1, k2, k3, k4, k5⟩ := hW.2.1.2 w hw
    have gz := g_WFz hW.1 k1
    have gS := g_WFS hW hw
    have gZ := g_RMz hC.1 k1
    have gR := g_RMW hC.1 hC.2.1 hw k1
    have gX := hC.2.2.2.2.1
    have n10 := gz.2.1
    refine ez_iload 54 dX12_ring_52 rfl rfl ?_
    refine ez_sipush 57 dX12_ring_54 rfl (nI 200) (by decide) ?_
    refine ez_ncmp_gt 60 149 dX12_ring_57 rfl (by decide) (by omega) (by omega) (fun h57 => ?_) (fun h57 => ?_)
    · have e1 : s_lp q w = none := er_fst_none (fun j hj9 => hj j (by omega))
      refine ez_drop [(4, eI (-1)), (5, eI (nI 0)), (3, eI (s_get q.1 q.2.1 w).2.2.2.1), (0, eR 12 0), (1, eI (nI w)), (2, eI (nI c))] (by simp) ?_
      refine ez_wk ?_ (ring_149 g d w c (-1) (nI 0) M M1 hd hW hC hw (by omega) hR (hKs 0 (by omega)) hF)
      exact fun r M' z9 => ⟨by rw [z9.1, e1, if_pos (Or.inl rfl)], z9.2⟩
    · refine ez_iload 62 dX12_ring_60 rfl rfl ?_
      refine ez_iconst 63 dX12_ring_62 rfl (-1) (by decide) ?_
      refine ez_icmp_ne 66 149 dX12_ring_63 rfl (by decide) (fun h63 => ?_) (fun h63 => ?_)
      · exact absurd rfl h63
      · refine ez_aload_n 67 dX12_ring_66 rfl rfl ?_
        refine ez_iload_n 68 dX12_ring_67 rfl rfl ?_
        refine ez_callV 71 [eI (nI w)] [] dX12_ring_68 rfl rfl ok_X12_steps1 in_X12_steps1 (by decide) (by show 0 < 1; omega) ln_X12_244 (by omega) (Nat.le_of_ble_eq_true rfl) (c_X12_steps1 g (d - 1) (S := s_sq q w t) (lt := (s_lt q w)) (bl := 1) (tf := q.2.2.2.2.1.2.2) w M1 (by omega) k0 k4 (by omega) (by omega) gz (WFS_nth gz t _ gS) hR (gZ.fx hF ⟨by unfold CHT SM; omega, fun x => by unfold CHT SM; omega⟩) qx (by omega) (gX.fx hF ⟨by unfold CHT SM; omega, by unfold CHT SM; omega, fun x hx => ⟨by unfold CHT SM; omega, fun i hi => by unfold CHT SM; omega⟩⟩) h20) (fun r68 M68 q68 => ?_)
        obtain ⟨rfl, R68, f68⟩ := q68
        have h68_20 : M68.1 12 0 20 = nI 1 := by rw [f68 _ _ _ (by omega)]; exact h20
        have F68 := hF.tr (f68.up (fun k i s z => by unfold CHT SM; omega))
        show Ez (true, g) mX12_ring d 71 [(6, eI (nI (t + 1))), (5, eI (nI 0)), (4, eI (-1)), (3, eI ((s_get q.1 q.2.1 w).2.2.2.1)), (0, eR 12 0), (1, eI (nI w)), (2, eI (nI c))] [] M68 _
        refine ez_aload_n 72 dX12_ring_71 rfl rfl ?_
        refine ez_iload_n 73 dX12_ring_72 rfl rfl ?_
        refine ez_aload_n 74 dX12_ring_73 rfl rfl ?_
        refine ez_getf 77 (eR 57 0) dX12_ring_74 rfl fl_X12_59 (by show 0 < 1; omega) rfl ?_
        refine ez_bipush 79 dX12_ring_77 rfl (nI 23) (by decide) ?_
        refine ez_iload 81 dX12_ring_79 rfl rfl ?_
        refine ez_imul 82 dX12_ring_81 rfl ?_
        refine ez_top (nI (23 * (t + 1))) (pk_mul _ _) ?_
        refine ez_callV 85 [eI (nI w), eR 57 0, eI (nI (23 * (t + 1)))] [] dX12_ring_82 rfl rfl ok_X12_keeps in_X12_keeps (by decide) (by show 0 < 1; omega) ln_X12_365 (by omega) (Nat.le_of_ble_eq_true rfl) (c_keeps_57 g (d - 1) (S := s_sq q w (t + 1)) w (23 * (t + 1)) M68 (by omega) (by omega) n10 (WFS_nth gz (t + 1) _ gS) R68 (by omega)) (fun r82 M82 q82 => ?_)
        obtain ⟨rfl, K82, f82⟩ := q82
        show Ez (true, g) mX12_ring d 85 [(6, eI (nI (t + 1))), (5, eI (nI 0)), (4, eI (-1)), (3, eI ((s_get q.1 q.2.1 w).2.2.2.1)), (0, eR 12 0), (1, eI (nI w)), (2, eI (nI c))] [] M82 _
        refine ez_iconst 86 dX12_ring_85 rfl (nI 0) (by decide) ?_
        refine ez_istore 88 [(7, eI (nI 0)), (6, eI (nI (t + 1))), (5, eI (nI 0)), (4, eI (-1)), (3, eI ((s_get q.1 q.2.1 w).2.2.2.1)), (0, eR 12 0), (1, eI (nI w)), (2, eI (nI c))] dX12_ring_86 rfl (by decide) rfl ?_
        have R82 : RMW (q.2.1.2.1 w 0) (q.2.1.2.1 w 1) (q.2.1.2.1 w 4) (s_sq q w (t + 1)) w M82 := RMW.fx R68 f82 ⟨by unfold KF; omega, by unfold KF; omega, by unfold KF; omega, by unfold KF; omega, by unfold KF; omega, by unfold KF; omega, by unfold KF; omega, fun r hr => by unfold KF; omega⟩
        have F82 := F68.tr (f82.up (fun k i s z => by unfold KF at z; unfold CHT SM; omega))
        have Ks : ∀ i, i ≤ t + 1 → KP 57 (23 * i) (s_sq q w i) M82 := fun i hi => by
          by_cases e : i = t + 1
          · rw [e]; exact K82
          · exact ((hKs i (by omega)).fx f68 (fun s _ _ => by omega)).fx f82 (fun s _ _ => by unfold KF; omega)
        refine ez_drop [(7, eI (nI 0)), (4, eI (-1)), (6, eI (nI (t + 1))), (5, eI (nI 0)), (3, eI ((s_get q.1 q.2.1 w).2.2.2.1)), (0, eR 12 0), (1, eI (nI w)), (2, eI (nI c))] (by simp) ?_
        refine lp_ring88 g d w c t M82 _ M hd hW hC hw hc (by omega) R82 (Ks 0 (by omega)) F82 Ks (fun e he => ?_) (fun he => ?_) _ 0 rfl (by omega) (fun j hj => by omega)
        · have e1 : s_lp q w = some t := er_fst_some (p := fun t => (s_el q w (t + 1)).isSome) (by show (s_el q w (t + 1)).isSome = true; rw [he]; rfl) hj (by omega)
          refine ez_wk ?_ (ring_88f g d w c t e M M82 hd hW hC hw hc (s_el_lt he) (by omega) R82 (Ks 0 (by omega)) F82)
          exact fun r M' z9 => ⟨by rw [z9.1, e1]; simp only []; rw [he], z9.2⟩
        · refine ring_126 g d (q := q) w c t M82 _ (by omega) ?_
          exact ih (200 - (t + 1)) (by omega) (t + 1) _ rfl (by omega) R82 Ks (fun j hj9 => by
            by_cases e : j = t
            · rw [e, he]; rfl
            · exact hj j (by omega)) (by rw [f82 _ _ _ (by unfold KF; omega)]; exact h68_20) F82
set_option maxRecDepth 20000 in
theorem c_X12_ring (g : EzH) (d : Nat) {q : EpS} (x y : Int32) (M : EzM) (hd : 67 ≤ d) (hW : WF q) (hC : RM q M) : Ezc (true, g) mX12_ring d [eR 12 0, eI x, eI y] M (fun r M' => r = some (eI (S_ring q x y)) ∧ RM q M' ∧ FX CM M M') := by
  refine Ezc.of (by decide +kernel) (Nat.le_of_ble_eq_true rfl) ?_
  have q8 := hW.2.1.1
  have q4 := hW.1.1
  have qx := hW.2.2.2.2.1
  show Ez (true, g) mX12_ring d 0 [(0, eR 12 0), (1, eI x), (2, eI y)] [] M _
  refine ez_aload_n 1 dX12_ring_0 rfl rfl ?_
  refine ez_iload_n 2 dX12_ring_1 rfl rfl ?_
  refine ez_callV 5 [eI x] [] dX12_ring_2 rfl rfl ok_X12_isWalker in_X12_isWalker (by decide) (by show 0 < 1; omega) ln_X12_236 (by omega) (Nat.le_of_ble_eq_true rfl) (c_X12_isWalker g (d - 1) x q.2.1.1 M (by omega) hC.2.1.1 (by omega)) (fun r2 M2 q2 => ?_)
  obtain ⟨e2, ⟨rfl, i2⟩ | ⟨j2, b2, rfl, rfl⟩⟩ := q2
  · rw [e2]
    show Ez (true, g) mX12_ring d 5 [(0, eR 12 0), (1, eI x), (2, eI y)] [eI (nI 0)] M _
    refine ez_nif_eq 8 18 dX12_ring_5 rfl (by decide) (by omega) (fun h5 => ?_) (fun h5 => ?_)
    · refine ez_bipush 20 dX12_ring_18 rfl (-2) (by decide) ?_
      refine ez_iret .int dX12_ring_20 rfl rfl ?_
      exact ⟨by simp [S_ring, i2], hC, FX.rf⟩
    · exact absurd h5 (by decide)
  · rw [e2]
    have i2 : ep_ix (nI j2) q.2.1.1 = some j2 := ep_ix_nI b2 (by omega)
    obtain ⟨k0, k1, k2, k3, k4, k5⟩ := hW.2.1.2 j2 b2
    have gz := g_WFz hW.1 k1
    have gS := g_WFS hW b2
    have gZ := g_RMz hC.1 k1
    have gR := g_RMW hC.1 hC.2.1 b2 k1
    have n10 := gz.2.1
    have gX := hC.2.2.2.2.1
    show Ez (true, g) mX12_ring d 5 [(0, eR 12 0), (1, eI (nI j2)), (2, eI y)] [eI (nI 1)] M _
    refine ez_nif_eq 8 18 dX12_ring_5 rfl (by decide) (by omega) (fun h5 => ?_) (fun h5 => ?_)
    · exact absurd h5 (by decide)
    · refine ez_iload_n 9 dX12_ring_8 rfl rfl ?_
      refine ez_i2l 10 dX12_ring_9 rfl ?_
      refine ez_lconst 11 dX12_ring_10 rfl (nI 0).toInt64 (by decide) ?_
      refine ez_lconst 12 dX12_ring_11 rfl (nI 1).toInt64 (by decide) ?_
      refine ez_callS 15 [eL y.toInt64, eL ((nI 0).toInt64), eL ((nI 1).toInt64)] [] dX12_ring_12 rfl rfl ok_X12_in st_X12_in ln_X12_133 (by omega) (Nat.le_of_ble_eq_true rfl) (c_in_k g (d - 1) y 1 M (by decide)) (fun r12 M12 q12 => ?_)
      obtain ⟨e12, ⟨rfl, i12⟩ | ⟨j12, b12, rfl, rfl⟩⟩ := q12
      · rw [e12]
        show Ez (true, g) mX12_ring d 15 [(0, eR 12 0), (1, eI (nI j2)), (2, eI y)] [eI (nI 0)] M _
        refine ez_nif_ne 18 21 dX12_ring_15 rfl (by decide) (by omega) (fun h15 => ?_) (fun h15 => ?_)
        · exact absurd h15 (by decide)
        · refine ez_bipush 20 dX12_ring_18 rfl (-2) (by decide) ?_
          refine ez_iret .int dX12_ring_20 rfl rfl ?_
          exact ⟨by simp [S_ring, i2, i12], hC, FX.rf⟩
      · rw [e12]
        have i12 : ep_ix (nI j12) 2 = some j12 := ep_ix_nI b12 (by omega)
        show Ez (true, g) mX12_ring d 15 [(0, eR 12 0), (1, eI (nI j2)), (2, eI (nI j12))] [eI (nI 1)] M _
        refine ez_nif_ne 18 21 dX12_ring_15 rfl (by decide) (by omega) (fun h15 => ?_) (fun h15 => ?_)
        · refine ez_aload_n 22 dX12_ring_21 rfl rfl ?_
          refine ez_getf 25 (eR 54 0) dX12_ring_22 rfl fl_X12_50 (by show 0 < 1; omega) rfl ?_
          refine ez_iload_n 26 dX12_ring_25 rfl rfl ?_
          refine ez_ialdN j2 27 dX12_ring_26 rfl (by decide) (by show 0 < 1; omega) (by show j2 < 8; omega) ?_
          refine ez_top ((s_get q.1 q.2.1 j2).2.2.2.1) gR.2.2.2.2.2.2.1 ?_
          refine ez_istore_n 28 [(3, eI ((s_get q.1 q.2.1 j2).2.2.2.1)), (0, eR 12 0), (1, eI (nI j2)), (2, eI (nI j12))] dX12_ring_27 rfl (by decide) rfl ?_
          refine ez_aload_n 29 dX12_ring_28 rfl rfl ?_
          refine ez_iconst 30 dX12_ring_29 rfl (nI 1) (by decide) ?_
          refine ez_putf 33 .boolean dX12_ring_30 rfl fp_X12_217 (by show 0 < 1; omega) rfl (by decide) (by decide) (by decide) ?_
          have F30 : FX (fun k i s => k = 12 ∧ s = 20) M (ez_st M 12 0 20 (nI 1)) := FX.rf.st (by omega)
          refine ez_aload_n 34 dX12_ring_33 rfl rfl ?_
          refine ez_iload_n 35 dX12_ring_34 rfl rfl ?_
          refine ez_aload_n 36 dX12_ring_35 rfl rfl ?_
          refine ez_getf 39 (eR 57 0) dX12_ring_36 rfl fl_X12_59 (by show 0 < 1; omega) rfl ?_
          refine ez_iconst 40 dX12_ring_39 rfl (nI 0) (by decide) ?_
          refine ez_callV 43 [eI (nI j2), eR 57 0, eI (nI 0)] [] dX12_ring_40 rfl rfl ok_X12_keeps in_X12_keeps (by decide) (by show 0 < 1; omega) ln_X12_365 (by omega) (Nat.le_of_ble_eq_true rfl) (c_keeps_57 g (d - 1) j2 0 (ez_st M 12 0 20 (nI 1)) (by omega) (by omega) n10 gS (gR.fx F30 ⟨by omega, by omega, by omega, by omega, by omega, by omega, by omega, fun r hr => by omega⟩) (by omega)) (fun r40 M40 q40 => ?_)
          obtain ⟨rfl, K40, f40⟩ := q40
          show Ez (true, g) mX12_ring d 43 [(3, eI ((s_get q.1 q.2.1 j2).2.2.2.1)), (0, eR 12 0), (1, eI (nI j2)), (2, eI (nI j12))] [] M40 _
          refine ez_iconst 44 dX12_ring_43 rfl (-1) (by decide) ?_
          refine ez_istore 46 [(4, eI (-1)), (3, eI ((s_get q.1 q.2.1 j2).2.2.2.1)), (0, eR 12 0), (1, eI (nI j2)), (2, eI (nI j12))] dX12_ring_44 rfl (by decide) rfl ?_
          refine ez_iconst 47 dX12_ring_46 rfl (nI 0) (by decide) ?_
          refine ez_istore 49 [(5, eI (nI 0)), (4, eI (-1)), (3, eI ((s_get q.1 q.2.1 j2).2.2.2.1)), (0, eR 12 0), (1, eI (nI j2)), (2, eI (nI j12))] dX12_ring_47 rfl (by decide) rfl ?_
          refine ez_iconst 50 dX12_ring_49 rfl (nI 1) (by decide) ?_
          refine ez_istore 52 [(6, eI (nI 1)), (5, eI (nI 0)), (4, eI (-1)), (3, eI ((s_get q.1 q.2.1 j2).2.2.2.1)), (0, eR 12 0), (1, eI (nI j2)), (2, eI (nI j12))] dX12_ring_50 rfl (by decide) rfl ?_
          have F40 : FX (CHT j2 j2 (q.2.1.2.1 j2 1)) M M40 := (F30.up (fun k i s z => by unfold CHT SM; omega)).tr (f40.up (fun k i s z => by unfold KF at z; unfold CHT SM; omega))
          have R40 : RMW (q.2.1.2.1 j2 0) (q.2.1.2.1 j2 1) (q.2.1.2.1 j2 4) (s_sq q j2 0) j2 M40 := (gR.fx F30 ⟨by omega, by omega, by omega, by omega, by omega, by omega, by omega, fun r hr => by omega⟩).fx f40 ⟨by unfold KF; omega, by unfold KF; omega, by unfold KF; omega, by unfold KF; omega, by unfold KF; omega, by unfold KF; omega, by unfold KF; omega, fun r hr => by unfold KF; omega⟩
          refine ez_drop [(6, eI (nI (0 + 1))), (5, eI (nI 0)), (4, eI (-1)), (3, eI ((s_get q.1 q.2.1 j2).2.2.2.1)), (0, eR 12 0), (1, eI (nI j2)), (2, eI (nI j12))] (by simp) ?_
          refine ez_wk ?_ (lp_ring g d j2 j12 M hd hW hC b2 b12 _ 0 M40 rfl (by omega) R40 (fun i hi => by rw [show i = 0 by omega]; exact K40) (fun j hj => by omega) (by rw [f40 _ _ _ (by unfold KF; omega)]; simp [ez_rd]) F40)
          exact fun r M' z9 => ⟨by rw [z9.1]; simp only [S_ring, i2, i12]; rfl, z9.2⟩
        · exact absurd h15 (by decide)
