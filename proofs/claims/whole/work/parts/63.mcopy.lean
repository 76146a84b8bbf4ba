/-! copy of the model -/
theorem er_cpm {sz : Nat} {i n : Int32} (hz : sz ≤ 40) (h1 : ¬ n < 0) (h2 : ¬ i < 0) (h3 : i ≤ nI sz - n) : ∃ a c, i = nI a ∧ n = nI c ∧ a + c ≤ sz := by
  have e0 : (0 : Int32).toInt = 0 := by decide
  have u1 : n.toInt < 2 ^ 31 := n.toInt_lt
  have es : (nI sz - n).toInt = sz - n.toInt := by
    rw [Int32.toInt_sub, nI_toInt (by omega)]
    rw [Int32.lt_iff_toInt_lt, e0] at h1
    simp only [Int.bmod_def]
    omega
  rw [Int32.lt_iff_toInt_lt, e0] at h1 h2
  rw [Int32.le_iff_toInt_le, es] at h3
  have k1 : i = nI i.toInt.toNat := Int32.toInt_inj.mp (by rw [nI_toInt (by omega)]; omega)
  have k2 : n = nI n.toInt.toNat := Int32.toInt_inj.mp (by rw [nI_toInt (by omega)]; omega)
  exact ⟨_, _, k1, k2, by omega⟩
theorem er_cpn {sz : Nat} {i n : Int32} (hz : sz ≤ 40) (h : n < 0 ∨ i < 0 ∨ ¬ i ≤ nI sz - n) : ∀ a c, ep_ix i 41 = some a → ep_ix n 41 = some c → ¬ a + c ≤ sz := by
  intro a c ha hc hle
  have a1 := ep_ix_in ha
  have c1 := ep_ix_in hc
  have ex := ep_ix_some (by decide) ha
  have ey := ep_ix_some (by decide) hc
  subst ex ey
  rcases h with z | z | z
  · exact nI_pos (by omega) z
  · exact nI_pos (by omega) z
  · apply z
    rw [pk_sub (by omega), Int32.le_iff_toInt_le, nI_toInt (by omega), nI_toInt (by omega)]
    omega
set_option maxRecDepth 20000 in
theorem lp_mcopy (g : EzH) (d : Nat) {q : EpS} (s a t b c up : Nat) (M : EzM) (hd : 3 ≤ d) (hW : WF q) (hC : RM q M) (hs : s < 4) (htt : t < 4) (h0 : 0 < q.2.2.2.1.1 s) (h0t : 0 < q.2.2.2.1.1 t) (la : a + c ≤ q.2.2.2.1.2.1 s) (lb : b + c ≤ q.2.2.2.1.2.1 t) (hu : (up = 1 ∧ s = t ∧ a < b) ∨ (up = 0 ∧ (¬ s = t ∨ b ≤ a))) : ∀ (z : Nat) (k : Nat) (M1 : EzM), c - k = z → k ≤ c → (∀ x, x < 4 → 0 < q.2.2.2.1.1 x → ∀ i, i < q.2.2.2.1.2.1 x → M1.1 73 0 (40 * x + i) = if x = t ∧ b ≤ i ∧ i < b + c ∧ ((up = 1 ∧ c ≤ i - b + k) ∨ (up = 0 ∧ i - b < k)) then q.2.2.2.1.2.2 s (a + (i - b)) else q.2.2.2.1.2.2 x i) → FX (fun k i s => k = 73) M M1 → Ez (true, g) mX12_copy d 121 [(7, eI (nI k)), (6, eI (nI up)), (5, eI (nI c)), (4, eI (nI b)), (3, eI (nI t)), (2, eI (nI a)), (1, eI (nI s)), (0, eR 12 0)] [] M1 (fun r M' => r = some (eI (nI c)) ∧ RM (q.1, q.2.1, q.2.2.1, (q.2.2.2.1.1, q.2.2.2.1.2.1, s_cp (q.2.2.2.1.2.2) s a t b c), q.2.2.2.2) M' ∧ FX CM M M') := by
  intro z
  induction z using Nat.strongRecOn with
  | ind z ih =>
    intro k M1 hz hk hv hF
    have z1 := (hW.2.2.2.1 s hs).2 h0
    have z2 := (hW.2.2.2.1 t htt).2 h0t
    refine ez_iload 123 dX12_copy_121 rfl rfl ?_
    refine ez_iload 125 dX12_copy_123 rfl rfl ?_
    refine ez_ncmp_ge 128 182 dX12_copy_125 rfl (by decide) (by omega) (by omega) (fun h125 => ?_) (fun h125 => ?_)
    · refine ez_iload 184 dX12_copy_182 rfl rfl ?_
      refine ez_iret .int dX12_copy_184 rfl rfl ?_
      have e9 : k = c := by omega
      subst e9
      refine ⟨rfl, ?_, hF.up (fun k i s z => by unfold CM; omega)⟩
      have hsM : RMs q.2.2.2.1.1 q.2.2.2.1.2.1 (s_cp (q.2.2.2.1.2.2) s a t b k) M1 := fun x hx => by
        obtain ⟨g1, g2⟩ := hC.2.2.2.1 x hx
        refine ⟨by rw [hF _ _ _ (by omega)]; exact g1, fun g0 => ?_⟩
        obtain ⟨g3, g4, g5⟩ := g2 g0
        refine ⟨by rw [hF _ _ _ (by omega)]; exact g3, by rw [hF _ _ _ (by omega)]; exact g4, fun i hi => ?_⟩
        rw [hv x hx g0 i hi]
        unfold s_cp
        by_cases z9 : x = t ∧ b ≤ i ∧ i < b + k
        · rw [if_pos z9, if_pos (by omega)]
        · rw [if_neg z9, if_neg (by omega)]
      obtain ⟨a1, a2, a3, a4, a5, a6, a7⟩ := hC
      exact ⟨RMm.fx a1 hF ⟨by omega, fun x => ⟨by omega, by omega, by omega⟩⟩, RMw.fx a2 hF ⟨by omega, fun x => ⟨by omega, by omega, by omega, by omega, by omega, by omega, by omega, by omega⟩⟩, RMt.fx a3 hF ⟨by omega, fun i => by omega⟩, hsM, RMx.fx a5 hF ⟨by omega, by omega, fun x hx => ⟨by omega, fun i hi => by omega⟩⟩, RMi.fx a6 hF ⟨fun s _ _ => by omega, fun s => ⟨by omega, by omega, by omega⟩⟩, by rw [hF _ _ _ (by omega)]; exact a7⟩
    · refine ez_iload 130 dX12_copy_128 rfl rfl ?_
      refine ez_nif_eq 133 143 dX12_copy_130 rfl (by decide) (by omega) (fun h130 => ?_) (fun h130 => ?_)
      · refine ez_iload 145 dX12_copy_143 rfl rfl ?_
        obtain ⟨qv, eqv⟩ : ∃ v, v = k := ⟨_, rfl⟩
        refine ez_top (nI qv) (by rw [eqv]) ?_
        refine ez_istore 147 [(8, eI (nI qv)), (7, eI (nI k)), (6, eI (nI up)), (5, eI (nI c)), (4, eI (nI b)), (3, eI (nI t)), (2, eI (nI a)), (1, eI (nI s)), (0, eR 12 0)] dX12_copy_145 rfl (by decide) rfl ?_
        refine ez_aload_n 148 dX12_copy_147 rfl rfl ?_
        refine ez_getf 151 (eR 73 0) dX12_copy_148 rfl fl_X12_108 (by show 0 < 1; omega) rfl ?_
        refine ez_bipush 153 dX12_copy_151 rfl (nI 40) (by decide) ?_
        refine ez_iload_n 154 dX12_copy_153 rfl rfl ?_
        refine ez_imul 155 dX12_copy_154 rfl ?_
        refine ez_top (nI (40 * t)) (pk_mul _ _) ?_
        refine ez_iload 157 dX12_copy_155 rfl rfl ?_
        refine ez_iadd 158 dX12_copy_157 rfl ?_
        refine ez_top (nI (40 * t + b)) (nI_add _ _) ?_
        refine ez_iload 160 dX12_copy_158 rfl rfl ?_
        refine ez_iadd 161 dX12_copy_160 rfl ?_
        refine ez_top (nI (40 * t + b + qv)) (nI_add _ _) ?_
        refine ez_aload_n 162 dX12_copy_161 rfl rfl ?_
        refine ez_getf 165 (eR 73 0) dX12_copy_162 rfl fl_X12_108 (by show 0 < 1; omega) rfl ?_
        refine ez_bipush 167 dX12_copy_165 rfl (nI 40) (by decide) ?_
        refine ez_iload_n 168 dX12_copy_167 rfl rfl ?_
        refine ez_imul 169 dX12_copy_168 rfl ?_
        refine ez_top (nI (40 * s)) (pk_mul _ _) ?_
        refine ez_iload_n 170 dX12_copy_169 rfl rfl ?_
        refine ez_iadd 171 dX12_copy_170 rfl ?_
        refine ez_top (nI (40 * s + a)) (nI_add _ _) ?_
        refine ez_iload 173 dX12_copy_171 rfl rfl ?_
        refine ez_iadd 174 dX12_copy_173 rfl ?_
        refine ez_top (nI (40 * s + a + qv)) (nI_add _ _) ?_
        refine ez_ialdN (40 * s + a + qv) 175 dX12_copy_174 rfl (by decide) (by show 0 < 1; omega) (by show 40 * s + a + qv < 160; omega) ?_
        refine ez_top (q.2.2.2.1.2.2 s (a + qv)) (by have z9 := hv s hs h0 (a + qv) (by omega); rw [show 40 * s + (a + qv) = 40 * s + a + qv by omega, if_neg (by omega)] at z9; exact z9) ?_
        refine ez_iastN (40 * t + b + qv) 176 dX12_copy_175 rfl (by decide) (by show 0 < 1; omega) (by show 40 * t + b + qv < 160; omega) ?_
        refine ez_iinc 179 (nI (k + 1)) [(7, eI (nI (k + 1))), (8, eI (nI qv)), (6, eI (nI up)), (5, eI (nI c)), (4, eI (nI b)), (3, eI (nI t)), (2, eI (nI a)), (1, eI (nI s)), (0, eR 12 0)] dX12_copy_176 rfl rfl (nI_add k 1) (by decide) rfl ?_
        refine ez_goto 121 dX12_copy_179 (by decide) ?_
        refine ez_drop [(7, eI (nI (k + 1))), (6, eI (nI up)), (5, eI (nI c)), (4, eI (nI b)), (3, eI (nI t)), (2, eI (nI a)), (1, eI (nI s)), (0, eR 12 0)] (by simp) ?_
        exact ih (c - (k + 1)) (by omega) (k + 1) _ rfl (by omega) (fun x hx hx0 i hi => by
          have i40 := (hW.2.2.2.1 x hx).2 hx0
          rw [ez_rd]
          by_cases e : x = t ∧ i = b + qv
          · rw [if_pos (show 73 = 73 ∧ 0 = 0 ∧ 40 * x + i = 40 * t + b + qv from ⟨rfl, rfl, by omega⟩), if_pos (by omega), show i - b = qv by omega]
          · rw [if_neg (by omega), hv x hx hx0 i hi]
            by_cases z9 : x = t ∧ b ≤ i ∧ i < b + c ∧ ((up = 1 ∧ c ≤ i - b + k) ∨ (up = 0 ∧ i - b < k))
            · rw [if_pos z9, if_pos (by omega)]
            · rw [if_neg z9, if_neg (by omega)]) (hF.st (by omega))
      · refine ez_iload 135 dX12_copy_133 rfl rfl ?_
        refine ez_iconst 136 dX12_copy_135 rfl (nI 1) (by decide) ?_
        refine ez_isub 137 dX12_copy_136 rfl ?_
        refine ez_top (nI (c - 1)) (pk_sub (by omega)) ?_
        refine ez_iload 139 dX12_copy_137 rfl rfl ?_
        refine ez_isub 140 dX12_copy_139 rfl ?_
        refine ez_top (nI (c - 1 - k)) (pk_sub (by omega)) ?_
        refine ez_goto 145 dX12_copy_140 (by decide) ?_
        obtain ⟨qv, eqv⟩ : ∃ v, v = c - 1 - k := ⟨_, rfl⟩
        refine ez_top (nI qv) (by rw [eqv]) ?_
        refine ez_istore 147 [(8, eI (nI qv)), (7, eI (nI k)), (6, eI (nI up)), (5, eI (nI c)), (4, eI (nI b)), (3, eI (nI t)), (2, eI (nI a)), (1, eI (nI s)), (0, eR 12 0)] dX12_copy_145 rfl (by decide) rfl ?_
        refine ez_aload_n 148 dX12_copy_147 rfl rfl ?_
        refine ez_getf 151 (eR 73 0) dX12_copy_148 rfl fl_X12_108 (by show 0 < 1; omega) rfl ?_
        refine ez_bipush 153 dX12_copy_151 rfl (nI 40) (by decide) ?_
        refine ez_iload_n 154 dX12_copy_153 rfl rfl ?_
        refine ez_imul 155 dX12_copy_154 rfl ?_
        refine ez_top (nI (40 * t)) (pk_mul _ _) ?_
        refine ez_iload 157 dX12_copy_155 rfl rfl ?_
        refine ez_iadd 158 dX12_copy_157 rfl ?_
        refine ez_top (nI (40 * t + b)) (nI_add _ _) ?_
        refine ez_iload 160 dX12_copy_158 rfl rfl ?_
        refine ez_iadd 161 dX12_copy_160 rfl ?_
        refine ez_top (nI (40 * t + b + qv)) (nI_add _ _) ?_
        refine ez_aload_n 162 dX12_copy_161 rfl rfl ?_
        refine ez_getf 165 (eR 73 0) dX12_copy_162 rfl fl_X12_108 (by show 0 < 1; omega) rfl ?_
        refine ez_bipush 167 dX12_copy_165 rfl (nI 40) (by decide) ?_
        refine ez_iload_n 168 dX12_copy_167 rfl rfl ?_
        refine ez_imul 169 dX12_copy_168 rfl ?_
        refine ez_top (nI (40 * s)) (pk_mul _ _) ?_
        refine ez_iload_n 170 dX12_copy_169 rfl rfl ?_
        refine ez_iadd 171 dX12_copy_170 rfl ?_
        refine ez_top (nI (40 * s + a)) (nI_add _ _) ?_
        refine ez_iload 173 dX12_copy_171 rfl rfl ?_
        refine ez_iadd 174 dX12_copy_173 rfl ?_
        refine ez_top (nI (40 * s + a + qv)) (nI_add _ _) ?_
        refine ez_ialdN (40 * s + a + qv) 175 dX12_copy_174 rfl (by decide) (by show 0 < 1; omega) (by show 40 * s + a + qv < 160; omega) ?_
        refine ez_top (q.2.2.2.1.2.2 s (a + qv)) (by have z9 := hv s hs h0 (a + qv) (by omega); rw [show 40 * s + (a + qv) = 40 * s + a + qv by omega, if_neg (by omega)] at z9; exact z9) ?_
        refine ez_iastN (40 * t + b + qv) 176 dX12_copy_175 rfl (by decide) (by show 0 < 1; omega) (by show 40 * t + b + qv < 160; omega) ?_
        refine ez_iinc 179 (nI (k + 1)) [(7, eI (nI (k + 1))), (8, eI (nI qv)), (6, eI (nI up)), (5, eI (nI c)), (4, eI (nI b)), (3, eI (nI t)), (2, eI (nI a)), (1, eI (nI s)), (0, eR 12 0)] dX12_copy_176 rfl rfl (nI_add k 1) (by decide) rfl ?_
        refine ez_goto 121 dX12_copy_179 (by decide) ?_
        refine ez_drop [(7, eI (nI (k + 1))), (6, eI (nI up)), (5, eI (nI c)), (4, eI (nI b)), (3, eI (nI t)), (2, eI (nI a)), (1, eI (nI s)), (0, eR 12 0)] (by simp) ?_
        exact ih (c - (k + 1)) (by omega) (k + 1) _ rfl (by omega) (fun x hx hx0 i hi => by
          have i40 := (hW.2.2.2.1 x hx).2 hx0
          rw [ez_rd]
          by_cases e : x = t ∧ i = b + qv
          · rw [if_pos (show 73 = 73 ∧ 0 = 0 ∧ 40 * x + i = 40 * t + b + qv from ⟨rfl, rfl, by omega⟩), if_pos (by omega), show i - b = qv by omega]
          · rw [if_neg (by omega), hv x hx hx0 i hi]
            by_cases z9 : x = t ∧ b ≤ i ∧ i < b + c ∧ ((up = 1 ∧ c ≤ i - b + k) ∨ (up = 0 ∧ i - b < k))
            · rw [if_pos z9, if_pos (by omega)]
            · rw [if_neg z9, if_neg (by omega)]) (hF.st (by omega))
set_option maxRecDepth 20000 in
theorem c_X12_copy (g : EzH) (d : Nat) {q : EpS} (x i y j n : Int32) (M : EzM) (hd : 3 ≤ d) (hW : WF q) (hC : RM q M) : Ezc (true, g) mX12_copy d [eR 12 0, eI x, eI i, eI y, eI j, eI n] M (fun r M' => r = some (eI (S_copy q x i y j n).1) ∧ RM (S_copy q x i y j n).2 M' ∧ FX CM M M') := by
  refine Ezc.of (by decide +kernel) (Nat.le_of_ble_eq_true rfl) ?_
  have q8 := hW.2.1.1
  have q4 := hW.1.1
  have qx := hW.2.2.2.2.1
  show Ez (true, g) mX12_copy d 0 [(0, eR 12 0), (1, eI x), (2, eI i), (3, eI y), (4, eI j), (5, eI n)] [] M _
  refine ez_iload_n 1 dX12_copy_0 rfl rfl ?_
  refine ez_callS 4 [eI x] [] dX12_copy_1 rfl rfl ok_X12_isSheet st_X12_isSheet ln_X12_384 (by omega) (Nat.le_of_ble_eq_true rfl) (c_X12_isSheet g (d - 1) x M (by omega)) (fun r1 M1 q1 => ?_)
  obtain ⟨e1, ⟨rfl, i1⟩ | ⟨j1, b1, rfl, rfl⟩⟩ := q1
  · rw [e1]
    show Ez (true, g) mX12_copy d 4 [(0, eR 12 0), (1, eI x), (2, eI i), (3, eI y), (4, eI j), (5, eI n)] [eI (nI 0)] M _
    refine ez_nif_eq 7 14 dX12_copy_4 rfl (by decide) (by omega) (fun h4 => ?_) (fun h4 => ?_)
    · refine ez_bipush 16 dX12_copy_14 rfl (-2) (by decide) ?_
      refine ez_iret .int dX12_copy_16 rfl rfl ?_
      have eS : S_copy q x i y j n = (-2, q) := by simp [S_copy, i1]
      exact ⟨by rw [eS], by rw [eS]; exact hC, FX.rf⟩
    · exact absurd h4 (by decide)
  · rw [e1]
    have i1 : ep_ix (nI j1) 4 = some j1 := ep_ix_nI b1 (by omega)
    show Ez (true, g) mX12_copy d 4 [(0, eR 12 0), (1, eI (nI j1)), (2, eI i), (3, eI y), (4, eI j), (5, eI n)] [eI (nI 1)] M _
    refine ez_nif_eq 7 14 dX12_copy_4 rfl (by decide) (by omega) (fun h4 => ?_) (fun h4 => ?_)
    · exact absurd h4 (by decide)
    · refine ez_iload_n 8 dX12_copy_7 rfl rfl ?_
      refine ez_callS 11 [eI y] [] dX12_copy_8 rfl rfl ok_X12_isSheet st_X12_isSheet ln_X12_384 (by omega) (Nat.le_of_ble_eq_true rfl) (c_X12_isSheet g (d - 1) y M (by omega)) (fun r8 M8 q8 => ?_)
      obtain ⟨e8, ⟨rfl, i8⟩ | ⟨j8, b8, rfl, rfl⟩⟩ := q8
      · rw [e8]
        show Ez (true, g) mX12_copy d 11 [(0, eR 12 0), (1, eI (nI j1)), (2, eI i), (3, eI y), (4, eI j), (5, eI n)] [eI (nI 0)] M _
        refine ez_nif_ne 14 17 dX12_copy_11 rfl (by decide) (by omega) (fun h11 => ?_) (fun h11 => ?_)
        · exact absurd h11 (by decide)
        · refine ez_bipush 16 dX12_copy_14 rfl (-2) (by decide) ?_
          refine ez_iret .int dX12_copy_16 rfl rfl ?_
          have eS : S_copy q (nI j1) i y j n = (-2, q) := by simp [S_copy, i1, i8]
          exact ⟨by rw [eS], by rw [eS]; exact hC, FX.rf⟩
      · rw [e8]
        have i8 : ep_ix (nI j8) 4 = some j8 := ep_ix_nI b8 (by omega)
        show Ez (true, g) mX12_copy d 11 [(0, eR 12 0), (1, eI (nI j1)), (2, eI i), (3, eI (nI j8)), (4, eI j), (5, eI n)] [eI (nI 1)] M _
        refine ez_nif_ne 14 17 dX12_copy_11 rfl (by decide) (by omega) (fun h11 => ?_) (fun h11 => ?_)
        · by_cases hth : q.2.2.2.1.1 j1 = 0
          · skip
            refine ez_aload_n 18 dX12_copy_17 rfl rfl ?_
            refine ez_getf 21 (eR 70 0) dX12_copy_18 rfl fl_X12_99 (by show 0 < 1; omega) rfl ?_
            refine ez_iload_n 22 dX12_copy_21 rfl rfl ?_
            refine ez_zaldN j1 23 dX12_copy_22 rfl (by decide) (by show 0 < 1; omega) (by show j1 < 4; omega) ?_
            refine ez_top (nI 0) (by rw [(hC.2.2.2.1 j1 (by omega)).1, if_pos hth]) ?_
            refine ez_nif_eq 26 35 dX12_copy_23 rfl (by decide) (by omega) (fun h23 => ?_) (fun h23 => ?_)
            · refine ez_bipush 37 dX12_copy_35 rfl (-11) (by decide) ?_
              refine ez_iret .int dX12_copy_37 rfl rfl ?_
              have eS : S_copy q (nI j1) i (nI j8) j n = (-11, q) := by simp only [S_copy, i1, i8]; rw [if_pos (Or.inl hth)]
              exact ⟨by rw [eS], by rw [eS]; exact hC, FX.rf⟩
            · exact absurd h23 (by decide)
          · have p1 := Nat.pos_of_ne_zero hth
            have z1 := (hW.2.2.2.1 j1 (by omega)).2 p1
            have o1 := (hW.2.2.2.1 j1 (by omega)).1
            refine ez_aload_n 18 dX12_copy_17 rfl rfl ?_
            refine ez_getf 21 (eR 70 0) dX12_copy_18 rfl fl_X12_99 (by show 0 < 1; omega) rfl ?_
            refine ez_iload_n 22 dX12_copy_21 rfl rfl ?_
            refine ez_zaldN j1 23 dX12_copy_22 rfl (by decide) (by show 0 < 1; omega) (by show j1 < 4; omega) ?_
            refine ez_top (nI 1) (by rw [(hC.2.2.2.1 j1 (by omega)).1, if_neg hth]) ?_
            refine ez_nif_eq 26 35 dX12_copy_23 rfl (by decide) (by omega) (fun h23 => ?_) (fun h23 => ?_)
            · exact absurd h23 (by decide)
            · by_cases hth2 : q.2.2.2.1.1 j8 = 0
              · skip
                refine ez_aload_n 27 dX12_copy_26 rfl rfl ?_
                refine ez_getf 30 (eR 70 0) dX12_copy_27 rfl fl_X12_99 (by show 0 < 1; omega) rfl ?_
                refine ez_iload_n 31 dX12_copy_30 rfl rfl ?_
                refine ez_zaldN j8 32 dX12_copy_31 rfl (by decide) (by show 0 < 1; omega) (by show j8 < 4; omega) ?_
                refine ez_top (nI 0) (by rw [(hC.2.2.2.1 j8 (by omega)).1, if_pos hth2]) ?_
                refine ez_nif_ne 35 38 dX12_copy_32 rfl (by decide) (by omega) (fun h32 => ?_) (fun h32 => ?_)
                · exact absurd h32 (by decide)
                · refine ez_bipush 37 dX12_copy_35 rfl (-11) (by decide) ?_
                  refine ez_iret .int dX12_copy_37 rfl rfl ?_
                  have eS : S_copy q (nI j1) i (nI j8) j n = (-11, q) := by simp only [S_copy, i1, i8]; rw [if_pos (Or.inr hth2)]
                  exact ⟨by rw [eS], by rw [eS]; exact hC, FX.rf⟩
              · have p8 := Nat.pos_of_ne_zero hth2
                have z8 := (hW.2.2.2.1 j8 (by omega)).2 p8
                have o8 := (hW.2.2.2.1 j8 (by omega)).1
                refine ez_aload_n 27 dX12_copy_26 rfl rfl ?_
                refine ez_getf 30 (eR 70 0) dX12_copy_27 rfl fl_X12_99 (by show 0 < 1; omega) rfl ?_
                refine ez_iload_n 31 dX12_copy_30 rfl rfl ?_
                refine ez_zaldN j8 32 dX12_copy_31 rfl (by decide) (by show 0 < 1; omega) (by show j8 < 4; omega) ?_
                refine ez_top (nI 1) (by rw [(hC.2.2.2.1 j8 (by omega)).1, if_neg hth2]) ?_
                refine ez_nif_ne 35 38 dX12_copy_32 rfl (by decide) (by omega) (fun h32 => ?_) (fun h32 => ?_)
                · refine ez_aload_n 39 dX12_copy_38 rfl rfl ?_
                  refine ez_getf 42 (eR 71 0) dX12_copy_39 rfl fl_X12_102 (by show 0 < 1; omega) rfl ?_
                  refine ez_iload_n 43 dX12_copy_42 rfl rfl ?_
                  refine ez_ialdN j1 44 dX12_copy_43 rfl (by decide) (by show 0 < 1; omega) (by show j1 < 4; omega) ?_
                  refine ez_top (nI (q.2.2.2.1.1 j1 - 1)) (((hC.2.2.2.1 j1 (by omega)).2 (by omega)).1) ?_
                  refine ez_aload_n 45 dX12_copy_44 rfl rfl ?_
                  refine ez_getf 48 (eR 71 0) dX12_copy_45 rfl fl_X12_102 (by show 0 < 1; omega) rfl ?_
                  refine ez_iload_n 49 dX12_copy_48 rfl rfl ?_
                  refine ez_ialdN j8 50 dX12_copy_49 rfl (by decide) (by show 0 < 1; omega) (by show j8 < 4; omega) ?_
                  refine ez_top (nI (q.2.2.2.1.1 j8 - 1)) (((hC.2.2.2.1 j8 (by omega)).2 (by omega)).1) ?_
                  refine ez_ncmp_eq 53 56 dX12_copy_50 rfl (by decide) (by omega) (by omega) (fun h50 => ?_) (fun h50 => ?_)
                  · refine ez_iload 58 dX12_copy_56 rfl rfl ?_
                    refine ez_if_lt 61 97 dX12_copy_58 rfl (by decide) (fun h58 => ?_) (fun h58 => ?_)
                    · refine ez_bipush 99 dX12_copy_97 rfl (-12) (by decide) ?_
                      refine ez_iret .int dX12_copy_99 rfl rfl ?_
                      have eS : S_copy q (nI j1) i (nI j8) j n = (-12, q) := copy_bad i1 i8 (fun z => z.elim hth hth2) h50 (fun c a b e1 e2 e3 z => er_cpn z1 (Or.inl h58) a c e2 e1 z.1)
                      exact ⟨by rw [eS], by rw [eS]; exact hC, FX.rf⟩
                    · refine ez_iload_n 62 dX12_copy_61 rfl rfl ?_
                      refine ez_if_lt 65 97 dX12_copy_62 rfl (by decide) (fun h62 => ?_) (fun h62 => ?_)
                      · refine ez_bipush 99 dX12_copy_97 rfl (-12) (by decide) ?_
                        refine ez_iret .int dX12_copy_99 rfl rfl ?_
                        have eS : S_copy q (nI j1) i (nI j8) j n = (-12, q) := copy_bad i1 i8 (fun z => z.elim hth hth2) h50 (fun c a b e1 e2 e3 z => er_cpn z1 (Or.inr (Or.inl h62)) a c e2 e1 z.1)
                        exact ⟨by rw [eS], by rw [eS]; exact hC, FX.rf⟩
                      · refine ez_iload 67 dX12_copy_65 rfl rfl ?_
                        refine ez_if_lt 70 97 dX12_copy_67 rfl (by decide) (fun h67 => ?_) (fun h67 => ?_)
                        · refine ez_bipush 99 dX12_copy_97 rfl (-12) (by decide) ?_
                          refine ez_iret .int dX12_copy_99 rfl rfl ?_
                          have eS : S_copy q (nI j1) i (nI j8) j n = (-12, q) := copy_bad i1 i8 (fun z => z.elim hth hth2) h50 (fun c a b e1 e2 e3 z => er_cpn z8 (Or.inr (Or.inl h67)) b c e3 e1 z.2)
                          exact ⟨by rw [eS], by rw [eS]; exact hC, FX.rf⟩
                        · refine ez_iload_n 71 dX12_copy_70 rfl rfl ?_
                          refine ez_aload_n 72 dX12_copy_71 rfl rfl ?_
                          refine ez_getf 75 (eR 72 0) dX12_copy_72 rfl fl_X12_105 (by show 0 < 1; omega) rfl ?_
                          refine ez_iload_n 76 dX12_copy_75 rfl rfl ?_
                          refine ez_ialdN j1 77 dX12_copy_76 rfl (by decide) (by show 0 < 1; omega) (by show j1 < 4; omega) ?_
                          refine ez_top (nI (q.2.2.2.1.2.1 j1)) (((hC.2.2.2.1 j1 (by omega)).2 (by omega)).2.1) ?_
                          refine ez_iload 79 dX12_copy_77 rfl rfl ?_
                          refine ez_isub 80 dX12_copy_79 rfl ?_
                          refine ez_icmp_gt 83 97 dX12_copy_80 rfl (by decide) (fun h80 => ?_) (fun h80 => ?_)
                          · refine ez_bipush 99 dX12_copy_97 rfl (-12) (by decide) ?_
                            refine ez_iret .int dX12_copy_99 rfl rfl ?_
                            have eS : S_copy q (nI j1) i (nI j8) j n = (-12, q) := copy_bad i1 i8 (fun z => z.elim hth hth2) h50 (fun c a b e1 e2 e3 z => er_cpn z1 (Or.inr (Or.inr (fun y => Int32.not_le.mpr h80 y))) a c e2 e1 z.1)
                            exact ⟨by rw [eS], by rw [eS]; exact hC, FX.rf⟩
                          · refine ez_iload 85 dX12_copy_83 rfl rfl ?_
                            refine ez_aload_n 86 dX12_copy_85 rfl rfl ?_
                            refine ez_getf 89 (eR 72 0) dX12_copy_86 rfl fl_X12_105 (by show 0 < 1; omega) rfl ?_
                            refine ez_iload_n 90 dX12_copy_89 rfl rfl ?_
                            refine ez_ialdN j8 91 dX12_copy_90 rfl (by decide) (by show 0 < 1; omega) (by show j8 < 4; omega) ?_
                            refine ez_top (nI (q.2.2.2.1.2.1 j8)) (((hC.2.2.2.1 j8 (by omega)).2 (by omega)).2.1) ?_
                            refine ez_iload 93 dX12_copy_91 rfl rfl ?_
                            refine ez_isub 94 dX12_copy_93 rfl ?_
                            refine ez_icmp_le 97 100 dX12_copy_94 rfl (by decide) (fun h94 => ?_) (fun h94 => ?_)
                            · obtain ⟨a, c, rfl, rfl, la⟩ := er_cpm z1 h58 h62 (Int32.not_lt.mp h80)
                              obtain ⟨b, c2, rfl, ec2, lb⟩ := er_cpm z8 h58 h67 h94
                              have c9 : c = c2 := (nI_eq (by omega) (by omega)).mp ec2
                              subst c9
                              refine ez_iload_n 101 dX12_copy_100 rfl rfl ?_
                              refine ez_iload_n 102 dX12_copy_101 rfl rfl ?_
                              refine ez_ncmp_ne 105 115 dX12_copy_102 rfl (by decide) (by omega) (by omega) (fun h102 => ?_) (fun h102 => ?_)
                              · refine ez_iconst 116 dX12_copy_115 rfl (nI 0) (by decide) ?_
                                refine ez_istore 118 [(6, eI (nI 0)), (0, eR 12 0), (1, eI (nI j1)), (2, eI (nI a)), (3, eI (nI j8)), (4, eI (nI b)), (5, eI (nI c))] dX12_copy_116 rfl (by decide) rfl ?_
                                refine ez_iconst 119 dX12_copy_118 rfl (nI 0) (by decide) ?_
                                refine ez_istore 121 [(7, eI (nI 0)), (6, eI (nI 0)), (0, eR 12 0), (1, eI (nI j1)), (2, eI (nI a)), (3, eI (nI j8)), (4, eI (nI b)), (5, eI (nI c))] dX12_copy_119 rfl (by decide) rfl ?_
                                have eS : S_copy q (nI j1) (nI a) (nI j8) (nI b) (nI c) = (nI c, q.1, q.2.1, q.2.2.1, (q.2.2.2.1.1, q.2.2.2.1.2.1, s_cp (q.2.2.2.1.2.2) j1 a j8 b c), q.2.2.2.2) := by
                                  simp only [S_copy, i1, i8, ep_ix_nI (show c < 41 by omega) (by decide), ep_ix_nI (show a < 41 by omega) (by decide), ep_ix_nI (show b < 41 by omega) (by decide)]
                                  rw [if_neg (fun z => z.elim hth hth2), if_neg (fun z => z h50), if_pos ⟨la, lb⟩]
                                rw [eS]
                                refine ez_drop [(7, eI (nI 0)), (6, eI (nI 0)), (5, eI (nI c)), (4, eI (nI b)), (3, eI (nI j8)), (2, eI (nI a)), (1, eI (nI j1)), (0, eR 12 0)] (by simp) ?_
                                exact lp_mcopy g d j1 a j8 b c 0 M hd hW hC b1 b8 p1 p8 la lb (Or.inr ⟨rfl, by omega⟩) _ 0 M rfl (by omega) (fun x hx hx0 i hi => by rw [if_neg (by omega)]; exact ((hC.2.2.2.1 x hx).2 hx0).2.2 i hi) FX.rf
                              · refine ez_iload_n 106 dX12_copy_105 rfl rfl ?_
                                refine ez_iload 108 dX12_copy_106 rfl rfl ?_
                                refine ez_ncmp_ge 111 115 dX12_copy_108 rfl (by decide) (by omega) (by omega) (fun h108 => ?_) (fun h108 => ?_)
                                · refine ez_iconst 116 dX12_copy_115 rfl (nI 0) (by decide) ?_
                                  refine ez_istore 118 [(6, eI (nI 0)), (0, eR 12 0), (1, eI (nI j1)), (2, eI (nI a)), (3, eI (nI j8)), (4, eI (nI b)), (5, eI (nI c))] dX12_copy_116 rfl (by decide) rfl ?_
                                  refine ez_iconst 119 dX12_copy_118 rfl (nI 0) (by decide) ?_
                                  refine ez_istore 121 [(7, eI (nI 0)), (6, eI (nI 0)), (0, eR 12 0), (1, eI (nI j1)), (2, eI (nI a)), (3, eI (nI j8)), (4, eI (nI b)), (5, eI (nI c))] dX12_copy_119 rfl (by decide) rfl ?_
                                  have eS : S_copy q (nI j1) (nI a) (nI j8) (nI b) (nI c) = (nI c, q.1, q.2.1, q.2.2.1, (q.2.2.2.1.1, q.2.2.2.1.2.1, s_cp (q.2.2.2.1.2.2) j1 a j8 b c), q.2.2.2.2) := by
                                    simp only [S_copy, i1, i8, ep_ix_nI (show c < 41 by omega) (by decide), ep_ix_nI (show a < 41 by omega) (by decide), ep_ix_nI (show b < 41 by omega) (by decide)]
                                    rw [if_neg (fun z => z.elim hth hth2), if_neg (fun z => z h50), if_pos ⟨la, lb⟩]
                                  rw [eS]
                                  refine ez_drop [(7, eI (nI 0)), (6, eI (nI 0)), (5, eI (nI c)), (4, eI (nI b)), (3, eI (nI j8)), (2, eI (nI a)), (1, eI (nI j1)), (0, eR 12 0)] (by simp) ?_
                                  exact lp_mcopy g d j1 a j8 b c 0 M hd hW hC b1 b8 p1 p8 la lb (Or.inr ⟨rfl, by omega⟩) _ 0 M rfl (by omega) (fun x hx hx0 i hi => by rw [if_neg (by omega)]; exact ((hC.2.2.2.1 x hx).2 hx0).2.2 i hi) FX.rf
                                · refine ez_iconst 112 dX12_copy_111 rfl (nI 1) (by decide) ?_
                                  refine ez_goto 116 dX12_copy_112 (by decide) ?_
                                  refine ez_istore 118 [(6, eI (nI 1)), (0, eR 12 0), (1, eI (nI j1)), (2, eI (nI a)), (3, eI (nI j8)), (4, eI (nI b)), (5, eI (nI c))] dX12_copy_116 rfl (by decide) rfl ?_
                                  refine ez_iconst 119 dX12_copy_118 rfl (nI 0) (by decide) ?_
                                  refine ez_istore 121 [(7, eI (nI 0)), (6, eI (nI 1)), (0, eR 12 0), (1, eI (nI j1)), (2, eI (nI a)), (3, eI (nI j8)), (4, eI (nI b)), (5, eI (nI c))] dX12_copy_119 rfl (by decide) rfl ?_
                                  have eS : S_copy q (nI j1) (nI a) (nI j8) (nI b) (nI c) = (nI c, q.1, q.2.1, q.2.2.1, (q.2.2.2.1.1, q.2.2.2.1.2.1, s_cp (q.2.2.2.1.2.2) j1 a j8 b c), q.2.2.2.2) := by
                                    simp only [S_copy, i1, i8, ep_ix_nI (show c < 41 by omega) (by decide), ep_ix_nI (show a < 41 by omega) (by decide), ep_ix_nI (show b < 41 by omega) (by decide)]
                                    rw [if_neg (fun z => z.elim hth hth2), if_neg (fun z => z h50), if_pos ⟨la, lb⟩]
                                  rw [eS]
                                  refine ez_drop [(7, eI (nI 0)), (6, eI (nI 1)), (5, eI (nI c)), (4, eI (nI b)), (3, eI (nI j8)), (2, eI (nI a)), (1, eI (nI j1)), (0, eR 12 0)] (by simp) ?_
                                  exact lp_mcopy g d j1 a j8 b c 1 M hd hW hC b1 b8 p1 p8 la lb (Or.inl ⟨rfl, by omega, by omega⟩) _ 0 M rfl (by omega) (fun x hx hx0 i hi => by rw [if_neg (by omega)]; exact ((hC.2.2.2.1 x hx).2 hx0).2.2 i hi) FX.rf
                            · refine ez_bipush 99 dX12_copy_97 rfl (-12) (by decide) ?_
                              refine ez_iret .int dX12_copy_99 rfl rfl ?_
                              have eS : S_copy q (nI j1) i (nI j8) j n = (-12, q) := copy_bad i1 i8 (fun z => z.elim hth hth2) h50 (fun c a b e1 e2 e3 z => er_cpn z8 (Or.inr (Or.inr h94)) b c e3 e1 z.2)
                              exact ⟨by rw [eS], by rw [eS]; exact hC, FX.rf⟩
                  · refine ez_bipush 55 dX12_copy_53 rfl (-13) (by decide) ?_
                    refine ez_iret .int dX12_copy_55 rfl rfl ?_
                    have eS : S_copy q (nI j1) i (nI j8) j n = (-13, q) := by simp only [S_copy, i1, i8]; rw [if_neg (fun z => z.elim hth hth2), if_pos h50]
                    exact ⟨by rw [eS], by rw [eS]; exact hC, FX.rf⟩
                · exact absurd h32 (by decide)
        · exact absurd h11 (by decide)
