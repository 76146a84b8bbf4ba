/-! maze of the model -/
theorem er_mv_in {b j : Nat} (hb : b < 257) (hj : j < 2 ^ 31) (h : er_mv b = nI j) : b = j ∧ b < 256 := by
  unfold er_mv at h
  by_cases q : b < 256
  · rw [if_pos q] at h; exact ⟨(nI_eq (by omega) hj).mp h, q⟩
  · rw [if_neg q] at h; exact absurd h.symm (ep_m1 hj)
theorem er_mv_rg {b k n : Nat} (hk : 1 ≤ k) (hn : 1 ≤ n) (hkn : k + n ≤ 256) (h : ep_rg (er_mv b) k (k + n - 1) = none) : er_dx b k n = none := by
  unfold er_dx
  by_cases q : k ≤ b ∧ b < k + n
  · exfalso
    unfold er_mv at h
    rw [if_pos (by omega), ep_rg_nI (by omega) (by omega) (by omega)] at h
    cases h
  · rw [if_neg q]
theorem er_my_lt {tn i : Nat} {tb : Nat → Nat} (h : er_my tn tb i < 256) : i < tn ∧ er_my tn tb i = tb i := by
  unfold er_my at h ⊢
  by_cases q : i < tn
  · exact ⟨q, if_pos q⟩
  · rw [if_neg q] at h; omega
def er_dl (tn : Nat) (tb : Nat → Nat) (i k n : Nat) (r : Option EzV) : Prop := (r = some (eI (nI 0)) ∧ er_dx (er_my tn tb i) k n = none) ∨ ∃ a, a < n ∧ i < tn ∧ tb i = k + a ∧ er_dx (er_my tn tb i) k n = some a ∧ r = some (eI (nI 1))
theorem er_dl_of {tn i k n : Nat} {tb : Nat → Nat} {r : Option EzV} (hm : er_my tn tb i < 257) (hk : 1 ≤ k) (hn : 1 ≤ n) (hkn : k + n ≤ 256) (h : ep_rt (er_mv (er_my tn tb i)) k (k + n - 1) r) : er_dl tn tb i k n r := by
  rcases h with ⟨h1, h2⟩ | ⟨j, h1, h2, h3, h4⟩
  · exact Or.inl ⟨h1, er_mv_rg hk hn hkn h2⟩
  · obtain ⟨e1, e2⟩ := er_mv_in hm (by omega) h3
    obtain ⟨t1, t2⟩ := er_my_lt e2
    exact Or.inr ⟨j - k, by omega, t1, by omega, by unfold er_dx; rw [e1, if_pos (by omega)], h4⟩
theorem RY_st {m y : Nat} {l : Nat → Int32} {v : Int32} {M : EzM} (h : ∀ x, x < 40 → M.1 45 0 (40 * m + x) = l x) : ∀ x, x < 40 → (ez_st M 45 0 (40 * m + y) v).1 45 0 (40 * m + x) = er_u1 l y v x := fun x hx => by
  rw [ez_rd]
  show _ = if x = y then v else l x
  by_cases e : x = y
  · rw [if_pos (by omega), if_pos e]
  · rw [if_neg (by omega), if_neg e]; exact h x hx
set_option maxRecDepth 20000 in
theorem c_X12_tapeAt (g : EzH) (d : Nat) (tn i : Nat) (tb : Nat → Nat) (M : EzM) (ht : tn ≤ 160) (hs : M.1 12 0 6 = nI tn) (hb : ∀ i, i < tn → M.1 44 0 i = nI (tb i)) (hx6 : ∀ i, i < tn → tb i < 256) (hi : i ≤ 200) : Ezc (true, g) mX12_tapeAt d [eR 12 0, eI (nI i)] M (fun r M' => r = some (eI (er_mv (er_my tn tb i))) ∧ M' = M) := by
  refine Ezc.of (by decide +kernel) (Nat.le_of_ble_eq_true rfl) ?_
  show Ez (true, g) mX12_tapeAt d 0 [(0, eR 12 0), (1, eI (nI i))] [] M _
  refine ez_iload_n 1 dX12_tapeAt_0 rfl rfl ?_
  refine ez_aload_n 2 dX12_tapeAt_1 rfl rfl ?_
  refine ez_getf 5 (eI (M.1 12 0 6)) dX12_tapeAt_2 rfl fl_X12_141 (by show 0 < 1; omega) rfl ?_
  refine ez_top (nI tn) hs ?_
  refine ez_ncmp_ge 8 17 dX12_tapeAt_5 rfl (by decide) (by omega) (by omega) (fun h5 => ?_) (fun h5 => ?_)
  · refine ez_iconst 18 dX12_tapeAt_17 rfl (-1) (by decide) ?_
    refine ez_iret .int dX12_tapeAt_18 rfl rfl ?_
    have e9 : er_my tn tb i = 256 := by unfold er_my; rw [if_neg (by omega)]
    exact ⟨by rw [e9]; rfl, rfl⟩
  · refine ez_aload_n 9 dX12_tapeAt_8 rfl rfl ?_
    refine ez_getf 12 (eR 44 0) dX12_tapeAt_9 rfl fl_X12_20 (by show 0 < 1; omega) rfl ?_
    refine ez_iload_n 13 dX12_tapeAt_12 rfl rfl ?_
    refine ez_ialdN i 14 dX12_tapeAt_13 rfl (by decide) (by show 0 < 1; omega) (by show i < 160; omega) ?_
    refine ez_goto 18 dX12_tapeAt_14 (by decide) ?_
    refine ez_iret .int dX12_tapeAt_18 rfl rfl ?_
    have e9 := hb i (by omega)
    have e8 := hx6 i (by omega)
    exact ⟨by unfold er_my er_mv; rw [if_pos (show i < tn by omega), if_pos e8, e9], rfl⟩
set_option maxRecDepth 20000 in
theorem c_X12_isLetter (g : EzH) (d : Nat) (tn i n : Nat) (tb : Nat → Nat) (M : EzM) (hd : 1 ≤ d) (ht : tn ≤ 160) (hs : M.1 12 0 6 = nI tn) (hb : ∀ i, i < tn → M.1 44 0 i = nI (tb i)) (hx6 : ∀ i, i < tn → tb i < 256) (hi : i ≤ 200) (hn1 : 1 ≤ n) (hn : n ≤ 10) : Ezc (true, g) mX12_isLetter d [eR 12 0, eI (nI i), eI (nI n)] M (fun r M' => er_dl tn tb i 97 n r ∧ M' = M) := by
  refine Ezc.of (by decide +kernel) (Nat.le_of_ble_eq_true rfl) ?_
  have hmt : ∀ i, er_my tn tb i < 257 := fun i => by unfold er_my; split; exact Nat.lt_succ_of_lt (hx6 i (by assumption)); omega
  show Ez (true, g) mX12_isLetter d 0 [(0, eR 12 0), (1, eI (nI i)), (2, eI (nI n))] [] M _
  refine ez_aload_n 1 dX12_isLetter_0 rfl rfl ?_
  refine ez_iload_n 2 dX12_isLetter_1 rfl rfl ?_
  refine ez_callV 5 [eI (nI i)] [] dX12_isLetter_2 rfl rfl ok_X12_tapeAt in_X12_tapeAt (by decide) (by show 0 < 1; omega) ln_X12_144 (by omega) (Nat.le_of_ble_eq_true rfl) (c_X12_tapeAt g (d - 1) tn i tb M ht hs hb hx6 (by omega)) (fun r2 M2 q2 => ?_)
  obtain ⟨rfl, e2⟩ := q2
  rw [e2]
  show Ez (true, g) mX12_isLetter d 5 [(0, eR 12 0), (1, eI (nI i)), (2, eI (nI n))] [eI (er_mv (er_my tn tb i))] M _
  refine ez_i2l 6 dX12_isLetter_5 rfl ?_
  refine ez_ldc2 9 dX12_isLetter_6 rfl 97 cn_X12_148 ?_
  refine ez_topL (nI 97).toInt64 (by decide) ?_
  refine ez_bipush 11 dX12_isLetter_9 rfl (nI 97) (by decide) ?_
  refine ez_iload_n 12 dX12_isLetter_11 rfl rfl ?_
  refine ez_iadd 13 dX12_isLetter_12 rfl ?_
  refine ez_top (nI (97 + n)) (nI_add _ _) ?_
  refine ez_iconst 14 dX12_isLetter_13 rfl (nI 1) (by decide) ?_
  refine ez_isub 15 dX12_isLetter_14 rfl ?_
  refine ez_top (nI (97 + n - 1)) (pk_sub (by omega)) ?_
  refine ez_i2l 16 dX12_isLetter_15 rfl ?_
  refine ez_callS 19 [eL ((er_mv (er_my tn tb i)).toInt64), eL ((nI 97).toInt64), eL ((nI (97 + n - 1)).toInt64)] [] dX12_isLetter_16 rfl rfl ok_X12_in st_X12_in ln_X12_133 (by omega) (Nat.le_of_ble_eq_true rfl) (c_in_r g (d - 1) (er_mv (er_my tn tb i)) 97 (97 + n - 1) M (by omega) (by omega)) (fun r16 M16 q16 => ?_)
  obtain ⟨e16, z16⟩ := q16
  have y16 := er_dl_of (hmt i) (by omega) (by omega) (by omega) z16
  rcases y16 with ⟨rfl, i16⟩ | ⟨j16, b16, t16, v16, i16, rfl⟩
  · rw [e16]
    show Ez (true, g) mX12_isLetter d 19 [(0, eR 12 0), (1, eI (nI i)), (2, eI (nI n))] [eI (nI 0)] M _
    refine ez_iret .boolean dX12_isLetter_19 rfl (by decide) ?_
    exact ⟨Or.inl ⟨rfl, i16⟩, rfl⟩
  · rw [e16]
    show Ez (true, g) mX12_isLetter d 19 [(0, eR 12 0), (1, eI (nI i)), (2, eI (nI n))] [eI (nI 1)] M _
    refine ez_iret .boolean dX12_isLetter_19 rfl (by decide) ?_
    exact ⟨Or.inr ⟨j16, b16, t16, v16, i16, rfl⟩, rfl⟩
set_option maxRecDepth 20000 in
theorem c_X12_isDigit (g : EzH) (d : Nat) (tn i : Nat) (tb : Nat → Nat) (M : EzM) (hd : 1 ≤ d) (ht : tn ≤ 160) (hs : M.1 12 0 6 = nI tn) (hb : ∀ i, i < tn → M.1 44 0 i = nI (tb i)) (hx6 : ∀ i, i < tn → tb i < 256) (hi : i ≤ 200) : Ezc (true, g) mX12_isDigit d [eR 12 0, eI (nI i)] M (fun r M' => er_dl tn tb i 48 4 r ∧ M' = M) := by
  refine Ezc.of (by decide +kernel) (Nat.le_of_ble_eq_true rfl) ?_
  have hmt : ∀ i, er_my tn tb i < 257 := fun i => by unfold er_my; split; exact Nat.lt_succ_of_lt (hx6 i (by assumption)); omega
  show Ez (true, g) mX12_isDigit d 0 [(0, eR 12 0), (1, eI (nI i))] [] M _
  refine ez_aload_n 1 dX12_isDigit_0 rfl rfl ?_
  refine ez_iload_n 2 dX12_isDigit_1 rfl rfl ?_
  refine ez_callV 5 [eI (nI i)] [] dX12_isDigit_2 rfl rfl ok_X12_tapeAt in_X12_tapeAt (by decide) (by show 0 < 1; omega) ln_X12_144 (by omega) (Nat.le_of_ble_eq_true rfl) (c_X12_tapeAt g (d - 1) tn i tb M ht hs hb hx6 (by omega)) (fun r2 M2 q2 => ?_)
  obtain ⟨rfl, e2⟩ := q2
  rw [e2]
  show Ez (true, g) mX12_isDigit d 5 [(0, eR 12 0), (1, eI (nI i))] [eI (er_mv (er_my tn tb i))] M _
  refine ez_i2l 6 dX12_isDigit_5 rfl ?_
  refine ez_ldc2 9 dX12_isDigit_6 rfl 48 cn_X12_150 ?_
  refine ez_topL (nI 48).toInt64 (by decide) ?_
  refine ez_ldc2 12 dX12_isDigit_9 rfl 51 cn_X12_152 ?_
  refine ez_topL (nI 51).toInt64 (by decide) ?_
  refine ez_callS 15 [eL ((er_mv (er_my tn tb i)).toInt64), eL ((nI 48).toInt64), eL ((nI 51).toInt64)] [] dX12_isDigit_12 rfl rfl ok_X12_in st_X12_in ln_X12_133 (by omega) (Nat.le_of_ble_eq_true rfl) (c_in_r g (d - 1) (er_mv (er_my tn tb i)) 48 (48 + 4 - 1) M (by omega) (by omega)) (fun r12 M12 q12 => ?_)
  obtain ⟨e12, z12⟩ := q12
  have y12 := er_dl_of (hmt i) (by omega) (by omega) (by omega) z12
  rcases y12 with ⟨rfl, i12⟩ | ⟨j12, b12, t12, v12, i12, rfl⟩
  · rw [e12]
    show Ez (true, g) mX12_isDigit d 15 [(0, eR 12 0), (1, eI (nI i))] [eI (nI 0)] M _
    refine ez_iret .boolean dX12_isDigit_15 rfl (by decide) ?_
    exact ⟨Or.inl ⟨rfl, i12⟩, rfl⟩
  · rw [e12]
    show Ez (true, g) mX12_isDigit d 15 [(0, eR 12 0), (1, eI (nI i))] [eI (nI 1)] M _
    refine ez_iret .boolean dX12_isDigit_15 rfl (by decide) ?_
    exact ⟨Or.inr ⟨j12, b12, t12, v12, i12, rfl⟩, rfl⟩
set_option maxRecDepth 20000 in
theorem lp_reads (g : EzH) (d : Nat) {q : EpS} (n : Nat) (T : EpPr) (M : EzM) (hd : 3 ≤ d) (hW : WF q) (hC : RM q M) (h4 : q.1.1 < 4) (hn1 : 1 ≤ n) (hn : n ≤ 10) : ∀ (z : Nat) (k : Nat) (p : Nat) (l : Nat → Int32) (M1 : EzM), k = z → q.2.2.1.1 ≤ p + 6 * k → p ≤ 166 → FX (fun k i s => (k = 46 ∧ s = q.1.1) ∨ (k = 45 ∧ 40 * q.1.1 ≤ s)) M M1 → M1.1 46 0 q.1.1 = nI n → (∀ x, x < 40 → M1.1 45 0 (40 * q.1.1 + x) = l x) → er_parts (er_my q.2.2.1.1 q.2.2.1.2) q.2.2.1.1 n k p l = T → Ez (true, g) mX12_reads d 67 [(3, eI (nI p)), (2, eI (nI (40 * q.1.1))), (1, eI (nI n)), (0, eR 12 0)] [] M1 (fun r M' => FX (fun k i s => (k = 46 ∧ s = q.1.1) ∨ (k = 45 ∧ 40 * q.1.1 ≤ s)) M M' ∧ ((∃ e, e ≤ 170 ∧ T = .inl e ∧ r = some (eI (nI e))) ∨ ∃ l2, T = .inr l2 ∧ r = some (eI (-1)) ∧ M'.1 46 0 q.1.1 = nI n ∧ ∀ x, x < 40 → M'.1 45 0 (40 * q.1.1 + x) = l2 x)) := by
  intro z
  induction z using Nat.strongRecOn with
  | ind z ih =>
    intro k p l M1 hz hk hp hF hn46 hl hE
    have t160 := hW.2.2.1.1
    have hmt : ∀ i, er_my q.2.2.1.1 q.2.2.1.2 i < 257 := fun i => by unfold er_my; split; exact Nat.lt_succ_of_lt (hW.2.2.1.2 i (by assumption)); omega
    refine ez_iload_n 68 dX12_reads_67 rfl rfl ?_
    refine ez_aload_n 69 dX12_reads_68 rfl rfl ?_
    refine ez_getf 72 (eI (M1.1 12 0 6)) dX12_reads_69 rfl fl_X12_141 (by show 0 < 1; omega) rfl ?_
    refine ez_top (nI q.2.2.1.1) (by rw [hF _ _ _ (by omega)]; exact hC.2.2.1.1) ?_
    refine ez_ncmp_ge 75 330 dX12_reads_72 rfl (by decide) (by omega) (by omega) (fun h72 => ?_) (fun h72 => ?_)
    · refine ez_iconst 331 dX12_reads_330 rfl (-1) (by decide) ?_
      refine ez_iret .int dX12_reads_331 rfl rfl ?_
      have eT : T = .inr l := by
        rw [← hE]
        cases k with
        | zero => rfl
        | succ k => unfold er_parts; rw [if_neg (by omega)]
      exact ⟨hF, Or.inr ⟨l, eT, rfl, hn46, hl⟩⟩
    · refine ez_aload_n 76 dX12_reads_75 rfl rfl ?_
      refine ez_iload_n 77 dX12_reads_76 rfl rfl ?_
      refine ez_callV 80 [eI (nI p)] [] dX12_reads_77 rfl rfl ok_X12_tapeAt in_X12_tapeAt (by decide) (by show 0 < 1; omega) ln_X12_144 (by omega) (Nat.le_of_ble_eq_true rfl) (c_X12_tapeAt g (d - 1) q.2.2.1.1 p q.2.2.1.2 M1 hW.2.2.1.1 (by rw [hF _ _ _ (by omega)]; exact hC.2.2.1.1) (fun i hi => by rw [hF _ _ _ (by omega)]; exact hC.2.2.1.2 i hi) hW.2.2.1.2 (by omega)) (fun r77 M77 q77 => ?_)
      obtain ⟨rfl, e77⟩ := q77
      rw [e77]
      show Ez (true, g) mX12_reads d 80 [(3, eI (nI p)), (2, eI (nI (40 * q.1.1))), (1, eI (nI n)), (0, eR 12 0)] [eI (er_mv (er_my q.2.2.1.1 q.2.2.1.2 p))] M1 _
      refine ez_bipush 82 dX12_reads_80 rfl (nI 59) (by decide) ?_
      refine ez_icmp_eq 85 87 dX12_reads_82 rfl (by decide) (fun h82 => ?_) (fun h82 => ?_)
      · refine ez_aload_n 88 dX12_reads_87 rfl rfl ?_
        refine ez_iload_n 89 dX12_reads_88 rfl rfl ?_
        refine ez_iconst 90 dX12_reads_89 rfl (nI 1) (by decide) ?_
        refine ez_iadd 91 dX12_reads_90 rfl ?_
        refine ez_top (nI (p + 1)) (nI_add _ _) ?_
        refine ez_iload_n 92 dX12_reads_91 rfl rfl ?_
        refine ez_callV 95 [eI (nI (p + 1)), eI (nI n)] [] dX12_reads_92 rfl rfl ok_X12_isLetter in_X12_isLetter (by decide) (by show 0 < 1; omega) ln_X12_158 (by omega) (Nat.le_of_ble_eq_true rfl) (c_X12_isLetter g (d - 1) q.2.2.1.1 (p + 1) n q.2.2.1.2 M1 (by omega) hW.2.2.1.1 (by rw [hF _ _ _ (by omega)]; exact hC.2.2.1.1) (fun i hi => by rw [hF _ _ _ (by omega)]; exact hC.2.2.1.2 i hi) hW.2.2.1.2 (by omega) (by omega) (by omega)) (fun r92 M92 q92 => ?_)
        obtain ⟨⟨rfl, i92⟩ | ⟨j92, b92, t92, v92, i92, rfl⟩, e92⟩ := q92
        · rw [e92]
          show Ez (true, g) mX12_reads d 95 [(3, eI (nI p)), (2, eI (nI (40 * q.1.1))), (1, eI (nI n)), (0, eR 12 0)] [eI (nI 0)] M1 _
          refine ez_nif_ne 98 102 dX12_reads_95 rfl (by decide) (by omega) (fun h95 => ?_) (fun h95 => ?_)
          · exact absurd h95 (by decide)
          · refine ez_iload_n 99 dX12_reads_98 rfl rfl ?_
            refine ez_iconst 100 dX12_reads_99 rfl (nI 1) (by decide) ?_
            refine ez_iadd 101 dX12_reads_100 rfl ?_
            refine ez_top (nI (p + 1)) (nI_add _ _) ?_
            refine ez_iret .int dX12_reads_101 rfl rfl ?_
            have x9 : er_part (er_my q.2.2.1.1 q.2.2.1.2) n l p = .inl (p + 1) := by
              unfold er_part
              rw [if_neg (fun z => z ((er_mv_eq _ (hmt (p))).1.mp h82)), i92]
            obtain ⟨k2, rfl⟩ : ∃ k2, k = k2 + 1 := ⟨k - 1, by omega⟩
            have eP := hE
            unfold er_parts at eP
            rw [if_pos (by omega), x9] at eP
            exact ⟨hF, Or.inl ⟨(p + 1), by omega, eP.symm, rfl⟩⟩
        · rw [e92]
          show Ez (true, g) mX12_reads d 95 [(3, eI (nI p)), (2, eI (nI (40 * q.1.1))), (1, eI (nI n)), (0, eR 12 0)] [eI (nI 1)] M1 _
          refine ez_nif_ne 98 102 dX12_reads_95 rfl (by decide) (by omega) (fun h95 => ?_) (fun h95 => ?_)
          · refine ez_aload_n 103 dX12_reads_102 rfl rfl ?_
            refine ez_iload_n 104 dX12_reads_103 rfl rfl ?_
            refine ez_iconst 105 dX12_reads_104 rfl (nI 2) (by decide) ?_
            refine ez_iadd 106 dX12_reads_105 rfl ?_
            refine ez_top (nI (p + 2)) (nI_add _ _) ?_
            refine ez_callV 109 [eI (nI (p + 2))] [] dX12_reads_106 rfl rfl ok_X12_isDigit in_X12_isDigit (by decide) (by show 0 < 1; omega) ln_X12_162 (by omega) (Nat.le_of_ble_eq_true rfl) (c_X12_isDigit g (d - 1) q.2.2.1.1 (p + 2) q.2.2.1.2 M1 (by omega) hW.2.2.1.1 (by rw [hF _ _ _ (by omega)]; exact hC.2.2.1.1) (fun i hi => by rw [hF _ _ _ (by omega)]; exact hC.2.2.1.2 i hi) hW.2.2.1.2 (by omega)) (fun r106 M106 q106 => ?_)
            obtain ⟨⟨rfl, i106⟩ | ⟨j106, b106, t106, v106, i106, rfl⟩, e106⟩ := q106
            · rw [e106]
              show Ez (true, g) mX12_reads d 109 [(3, eI (nI p)), (2, eI (nI (40 * q.1.1))), (1, eI (nI n)), (0, eR 12 0)] [eI (nI 0)] M1 _
              refine ez_nif_ne 112 116 dX12_reads_109 rfl (by decide) (by omega) (fun h109 => ?_) (fun h109 => ?_)
              · exact absurd h109 (by decide)
              · refine ez_iload_n 113 dX12_reads_112 rfl rfl ?_
                refine ez_iconst 114 dX12_reads_113 rfl (nI 2) (by decide) ?_
                refine ez_iadd 115 dX12_reads_114 rfl ?_
                refine ez_top (nI (p + 2)) (nI_add _ _) ?_
                refine ez_iret .int dX12_reads_115 rfl rfl ?_
                have x9 : er_part (er_my q.2.2.1.1 q.2.2.1.2) n l p = .inl (p + 2) := by
                  unfold er_part
                  rw [if_neg (fun z => z ((er_mv_eq _ (hmt (p))).1.mp h82)), i92, i106]
                obtain ⟨k2, rfl⟩ : ∃ k2, k = k2 + 1 := ⟨k - 1, by omega⟩
                have eP := hE
                unfold er_parts at eP
                rw [if_pos (by omega), x9] at eP
                exact ⟨hF, Or.inl ⟨(p + 2), by omega, eP.symm, rfl⟩⟩
            · rw [e106]
              show Ez (true, g) mX12_reads d 109 [(3, eI (nI p)), (2, eI (nI (40 * q.1.1))), (1, eI (nI n)), (0, eR 12 0)] [eI (nI 1)] M1 _
              refine ez_nif_ne 112 116 dX12_reads_109 rfl (by decide) (by omega) (fun h109 => ?_) (fun h109 => ?_)
              · refine ez_bipush 118 dX12_reads_116 rfl (nI 10) (by decide) ?_
                refine ez_aload_n 119 dX12_reads_118 rfl rfl ?_
                refine ez_getf 122 (eR 44 0) dX12_reads_119 rfl fl_X12_20 (by show 0 < 1; omega) rfl ?_
                refine ez_iload_n 123 dX12_reads_122 rfl rfl ?_
                refine ez_iconst 124 dX12_reads_123 rfl (nI 1) (by decide) ?_
                refine ez_iadd 125 dX12_reads_124 rfl ?_
                refine ez_top (nI (p + 1)) (nI_add _ _) ?_
                refine ez_ialdN (p + 1) 126 dX12_reads_125 rfl (by decide) (by show 0 < 1; omega) (by show p + 1 < 160; omega) ?_
                refine ez_top (nI (97 + j92)) (by rw [hF _ _ _ (by omega), hC.2.2.1.2 (p + 1) t92, v92]) ?_
                refine ez_bipush 128 dX12_reads_126 rfl (nI 97) (by decide) ?_
                refine ez_isub 129 dX12_reads_128 rfl ?_
                refine ez_top (nI ((97 + j92) - 97)) (pk_sub (by omega)) ?_
                refine ez_imul 130 dX12_reads_129 rfl ?_
                refine ez_top (nI (10 * ((97 + j92) - 97))) (pk_mul _ _) ?_
                refine ez_aload_n 131 dX12_reads_130 rfl rfl ?_
                refine ez_getf 134 (eR 44 0) dX12_reads_131 rfl fl_X12_20 (by show 0 < 1; omega) rfl ?_
                refine ez_iload_n 135 dX12_reads_134 rfl rfl ?_
                refine ez_iconst 136 dX12_reads_135 rfl (nI 2) (by decide) ?_
                refine ez_iadd 137 dX12_reads_136 rfl ?_
                refine ez_top (nI (p + 2)) (nI_add _ _) ?_
                refine ez_ialdN (p + 2) 138 dX12_reads_137 rfl (by decide) (by show 0 < 1; omega) (by show p + 2 < 160; omega) ?_
                refine ez_top (nI (48 + j106)) (by rw [hF _ _ _ (by omega), hC.2.2.1.2 (p + 2) t106, v106]) ?_
                refine ez_iadd 139 dX12_reads_138 rfl ?_
                refine ez_top (nI (10 * ((97 + j92) - 97) + (48 + j106))) (nI_add _ _) ?_
                refine ez_bipush 141 dX12_reads_139 rfl (nI 48) (by decide) ?_
                refine ez_isub 142 dX12_reads_141 rfl ?_
                refine ez_top (nI (10 * j92 + j106)) (by rw [pk_sub (by omega)]; congr 1; omega) ?_
                refine ez_istore 144 [(4, eI (nI (10 * j92 + j106))), (3, eI (nI p)), (2, eI (nI (40 * q.1.1))), (1, eI (nI n)), (0, eR 12 0)] dX12_reads_142 rfl (by decide) rfl ?_
                refine ez_iload_n 145 dX12_reads_144 rfl rfl ?_
                refine ez_iconst 146 dX12_reads_145 rfl (nI 4) (by decide) ?_
                refine ez_iload 148 dX12_reads_146 rfl rfl ?_
                refine ez_bipush 150 dX12_reads_148 rfl (nI 10) (by decide) ?_
                refine ez_idiv 151 dX12_reads_150 rfl (by decide) ?_
                refine ez_top (nI ((10 * j92 + j106) / 10)) (pk_div (by omega) (by omega) (by omega)) ?_
                refine ez_imul 152 dX12_reads_151 rfl ?_
                refine ez_top (nI (4 * ((10 * j92 + j106) / 10))) (pk_mul _ _) ?_
                refine ez_iadd 153 dX12_reads_152 rfl ?_
                refine ez_top (nI (40 * q.1.1 + 4 * ((10 * j92 + j106) / 10))) (nI_add _ _) ?_
                refine ez_iload 155 dX12_reads_153 rfl rfl ?_
                refine ez_bipush 157 dX12_reads_155 rfl (nI 10) (by decide) ?_
                refine ez_irem 158 dX12_reads_157 rfl (by decide) ?_
                refine ez_top (nI ((10 * j92 + j106) % 10)) (pk_rem (by omega) (by omega) (by omega)) ?_
                refine ez_iadd 159 dX12_reads_158 rfl ?_
                refine ez_top (nI (40 * q.1.1 + (4 * j92 + j106))) (by rw [nI_add]; congr 1; omega) ?_
                refine ez_istore 161 [(5, eI (nI (40 * q.1.1 + (4 * j92 + j106)))), (4, eI (nI (10 * j92 + j106))), (3, eI (nI p)), (2, eI (nI (40 * q.1.1))), (1, eI (nI n)), (0, eR 12 0)] dX12_reads_159 rfl (by decide) rfl ?_
                refine ez_aload_n 162 dX12_reads_161 rfl rfl ?_
                refine ez_getf 165 (eR 45 0) dX12_reads_162 rfl fl_X12_23 (by show 0 < 1; omega) rfl ?_
                refine ez_iload 167 dX12_reads_165 rfl rfl ?_
                refine ez_ialdN (40 * q.1.1 + (4 * j92 + j106)) 168 dX12_reads_167 rfl (by decide) (by show 0 < 1; omega) (by show 40 * q.1.1 + (4 * j92 + j106) < 160; omega) ?_
                refine ez_top (l (4 * j92 + j106)) (hl (4 * j92 + j106) (by omega)) ?_
                refine ez_iconst 169 dX12_reads_168 rfl (-1) (by decide) ?_
                refine ez_icmp_eq 172 176 dX12_reads_169 rfl (by decide) (fun h169 => ?_) (fun h169 => ?_)
                · refine ez_aload_n 177 dX12_reads_176 rfl rfl ?_
                  refine ez_iload_n 178 dX12_reads_177 rfl rfl ?_
                  refine ez_iconst 179 dX12_reads_178 rfl (nI 3) (by decide) ?_
                  refine ez_iadd 180 dX12_reads_179 rfl ?_
                  refine ez_top (nI (p + 3)) (nI_add _ _) ?_
                  refine ez_callV 183 [eI (nI (p + 3))] [] dX12_reads_180 rfl rfl ok_X12_tapeAt in_X12_tapeAt (by decide) (by show 0 < 1; omega) ln_X12_144 (by omega) (Nat.le_of_ble_eq_true rfl) (c_X12_tapeAt g (d - 1) q.2.2.1.1 (p + 3) q.2.2.1.2 M1 hW.2.2.1.1 (by rw [hF _ _ _ (by omega)]; exact hC.2.2.1.1) (fun i hi => by rw [hF _ _ _ (by omega)]; exact hC.2.2.1.2 i hi) hW.2.2.1.2 (by omega)) (fun r180 M180 q180 => ?_)
                  obtain ⟨rfl, e180⟩ := q180
                  rw [e180]
                  show Ez (true, g) mX12_reads d 183 [(5, eI (nI (40 * q.1.1 + (4 * j92 + j106)))), (4, eI (nI (10 * j92 + j106))), (3, eI (nI p)), (2, eI (nI (40 * q.1.1))), (1, eI (nI n)), (0, eR 12 0)] [eI (er_mv (er_my q.2.2.1.1 q.2.2.1.2 (p + 3)))] M1 _
                  refine ez_istore 185 [(6, eI (er_mv (er_my q.2.2.1.1 q.2.2.1.2 (p + 3)))), (5, eI (nI (40 * q.1.1 + (4 * j92 + j106)))), (4, eI (nI (10 * j92 + j106))), (3, eI (nI p)), (2, eI (nI (40 * q.1.1))), (1, eI (nI n)), (0, eR 12 0)] dX12_reads_183 rfl (by decide) rfl ?_
                  refine ez_iload 187 dX12_reads_185 rfl rfl ?_
                  refine ez_bipush 189 dX12_reads_187 rfl (nI 45) (by decide) ?_
                  refine ez_icmp_eq 192 203 dX12_reads_189 rfl (by decide) (fun h189 => ?_) (fun h189 => ?_)
                  · refine ez_aload_n 204 dX12_reads_203 rfl rfl ?_
                    refine ez_iload_n 205 dX12_reads_204 rfl rfl ?_
                    refine ez_iconst 206 dX12_reads_205 rfl (nI 4) (by decide) ?_
                    refine ez_iadd 207 dX12_reads_206 rfl ?_
                    refine ez_top (nI (p + 4)) (nI_add _ _) ?_
                    refine ez_iload_n 208 dX12_reads_207 rfl rfl ?_
                    refine ez_callV 211 [eI (nI (p + 4)), eI (nI n)] [] dX12_reads_208 rfl rfl ok_X12_isLetter in_X12_isLetter (by decide) (by show 0 < 1; omega) ln_X12_158 (by omega) (Nat.le_of_ble_eq_true rfl) (c_X12_isLetter g (d - 1) q.2.2.1.1 (p + 4) n q.2.2.1.2 M1 (by omega) hW.2.2.1.1 (by rw [hF _ _ _ (by omega)]; exact hC.2.2.1.1) (fun i hi => by rw [hF _ _ _ (by omega)]; exact hC.2.2.1.2 i hi) hW.2.2.1.2 (by omega) (by omega) (by omega)) (fun r208 M208 q208 => ?_)
                    obtain ⟨⟨rfl, i208⟩ | ⟨j208, b208, t208, v208, i208, rfl⟩, e208⟩ := q208
                    · rw [e208]
                      show Ez (true, g) mX12_reads d 211 [(6, eI (er_mv (er_my q.2.2.1.1 q.2.2.1.2 (p + 3)))), (5, eI (nI (40 * q.1.1 + (4 * j92 + j106)))), (4, eI (nI (10 * j92 + j106))), (3, eI (nI p)), (2, eI (nI (40 * q.1.1))), (1, eI (nI n)), (0, eR 12 0)] [eI (nI 0)] M1 _
                      refine ez_nif_ne 214 218 dX12_reads_211 rfl (by decide) (by omega) (fun h211 => ?_) (fun h211 => ?_)
                      · exact absurd h211 (by decide)
                      · refine ez_iload_n 215 dX12_reads_214 rfl rfl ?_
                        refine ez_iconst 216 dX12_reads_215 rfl (nI 4) (by decide) ?_
                        refine ez_iadd 217 dX12_reads_216 rfl ?_
                        refine ez_top (nI (p + 4)) (nI_add _ _) ?_
                        refine ez_iret .int dX12_reads_217 rfl rfl ?_
                        have x9 : er_part (er_my q.2.2.1.1 q.2.2.1.2) n l p = .inl (p + 4) := by
                          unfold er_part
                          rw [if_neg (fun z => z ((er_mv_eq _ (hmt (p))).1.mp h82)), i92, i106]
                          simp only []
                          rw [if_neg (fun z => z h169), if_neg (fun z => z.1 ((er_mv_eq _ (hmt (p + 3))).2.1.mp h189))]
                          rw [i208]
                        obtain ⟨k2, rfl⟩ : ∃ k2, k = k2 + 1 := ⟨k - 1, by omega⟩
                        have eP := hE
                        unfold er_parts at eP
                        rw [if_pos (by omega), x9] at eP
                        exact ⟨hF, Or.inl ⟨(p + 4), by omega, eP.symm, rfl⟩⟩
                    · rw [e208]
                      show Ez (true, g) mX12_reads d 211 [(6, eI (er_mv (er_my q.2.2.1.1 q.2.2.1.2 (p + 3)))), (5, eI (nI (40 * q.1.1 + (4 * j92 + j106)))), (4, eI (nI (10 * j92 + j106))), (3, eI (nI p)), (2, eI (nI (40 * q.1.1))), (1, eI (nI n)), (0, eR 12 0)] [eI (nI 1)] M1 _
                      refine ez_nif_ne 214 218 dX12_reads_211 rfl (by decide) (by omega) (fun h211 => ?_) (fun h211 => ?_)
                      · refine ez_aload_n 219 dX12_reads_218 rfl rfl ?_
                        refine ez_iload_n 220 dX12_reads_219 rfl rfl ?_
                        refine ez_iconst 221 dX12_reads_220 rfl (nI 5) (by decide) ?_
                        refine ez_iadd 222 dX12_reads_221 rfl ?_
                        refine ez_top (nI (p + 5)) (nI_add _ _) ?_
                        refine ez_callV 225 [eI (nI (p + 5))] [] dX12_reads_222 rfl rfl ok_X12_isDigit in_X12_isDigit (by decide) (by show 0 < 1; omega) ln_X12_162 (by omega) (Nat.le_of_ble_eq_true rfl) (c_X12_isDigit g (d - 1) q.2.2.1.1 (p + 5) q.2.2.1.2 M1 (by omega) hW.2.2.1.1 (by rw [hF _ _ _ (by omega)]; exact hC.2.2.1.1) (fun i hi => by rw [hF _ _ _ (by omega)]; exact hC.2.2.1.2 i hi) hW.2.2.1.2 (by omega)) (fun r222 M222 q222 => ?_)
                        obtain ⟨⟨rfl, i222⟩ | ⟨j222, b222, t222, v222, i222, rfl⟩, e222⟩ := q222
                        · rw [e222]
                          show Ez (true, g) mX12_reads d 225 [(6, eI (er_mv (er_my q.2.2.1.1 q.2.2.1.2 (p + 3)))), (5, eI (nI (40 * q.1.1 + (4 * j92 + j106)))), (4, eI (nI (10 * j92 + j106))), (3, eI (nI p)), (2, eI (nI (40 * q.1.1))), (1, eI (nI n)), (0, eR 12 0)] [eI (nI 0)] M1 _
                          refine ez_nif_ne 228 232 dX12_reads_225 rfl (by decide) (by omega) (fun h225 => ?_) (fun h225 => ?_)
                          · exact absurd h225 (by decide)
                          · refine ez_iload_n 229 dX12_reads_228 rfl rfl ?_
                            refine ez_iconst 230 dX12_reads_229 rfl (nI 5) (by decide) ?_
                            refine ez_iadd 231 dX12_reads_230 rfl ?_
                            refine ez_top (nI (p + 5)) (nI_add _ _) ?_
                            refine ez_iret .int dX12_reads_231 rfl rfl ?_
                            have x9 : er_part (er_my q.2.2.1.1 q.2.2.1.2) n l p = .inl (p + 5) := by
                              unfold er_part
                              rw [if_neg (fun z => z ((er_mv_eq _ (hmt (p))).1.mp h82)), i92, i106]
                              simp only []
                              rw [if_neg (fun z => z h169), if_neg (fun z => z.1 ((er_mv_eq _ (hmt (p + 3))).2.1.mp h189))]
                              rw [i208, i222]
                            obtain ⟨k2, rfl⟩ : ∃ k2, k = k2 + 1 := ⟨k - 1, by omega⟩
                            have eP := hE
                            unfold er_parts at eP
                            rw [if_pos (by omega), x9] at eP
                            exact ⟨hF, Or.inl ⟨(p + 5), by omega, eP.symm, rfl⟩⟩
                        · rw [e222]
                          show Ez (true, g) mX12_reads d 225 [(6, eI (er_mv (er_my q.2.2.1.1 q.2.2.1.2 (p + 3)))), (5, eI (nI (40 * q.1.1 + (4 * j92 + j106)))), (4, eI (nI (10 * j92 + j106))), (3, eI (nI p)), (2, eI (nI (40 * q.1.1))), (1, eI (nI n)), (0, eR 12 0)] [eI (nI 1)] M1 _
                          refine ez_nif_ne 228 232 dX12_reads_225 rfl (by decide) (by omega) (fun h225 => ?_) (fun h225 => ?_)
                          · refine ez_bipush 234 dX12_reads_232 rfl (nI 10) (by decide) ?_
                            refine ez_aload_n 235 dX12_reads_234 rfl rfl ?_
                            refine ez_getf 238 (eR 44 0) dX12_reads_235 rfl fl_X12_20 (by show 0 < 1; omega) rfl ?_
                            refine ez_iload_n 239 dX12_reads_238 rfl rfl ?_
                            refine ez_iconst 240 dX12_reads_239 rfl (nI 4) (by decide) ?_
                            refine ez_iadd 241 dX12_reads_240 rfl ?_
                            refine ez_top (nI (p + 4)) (nI_add _ _) ?_
                            refine ez_ialdN (p + 4) 242 dX12_reads_241 rfl (by decide) (by show 0 < 1; omega) (by show p + 4 < 160; omega) ?_
                            refine ez_top (nI (97 + j208)) (by rw [hF _ _ _ (by omega), hC.2.2.1.2 (p + 4) t208, v208]) ?_
                            refine ez_bipush 244 dX12_reads_242 rfl (nI 97) (by decide) ?_
                            refine ez_isub 245 dX12_reads_244 rfl ?_
                            refine ez_top (nI ((97 + j208) - 97)) (pk_sub (by omega)) ?_
                            refine ez_imul 246 dX12_reads_245 rfl ?_
                            refine ez_top (nI (10 * ((97 + j208) - 97))) (pk_mul _ _) ?_
                            refine ez_aload_n 247 dX12_reads_246 rfl rfl ?_
                            refine ez_getf 250 (eR 44 0) dX12_reads_247 rfl fl_X12_20 (by show 0 < 1; omega) rfl ?_
                            refine ez_iload_n 251 dX12_reads_250 rfl rfl ?_
                            refine ez_iconst 252 dX12_reads_251 rfl (nI 5) (by decide) ?_
                            refine ez_iadd 253 dX12_reads_252 rfl ?_
                            refine ez_top (nI (p + 5)) (nI_add _ _) ?_
                            refine ez_ialdN (p + 5) 254 dX12_reads_253 rfl (by decide) (by show 0 < 1; omega) (by show p + 5 < 160; omega) ?_
                            refine ez_top (nI (48 + j222)) (by rw [hF _ _ _ (by omega), hC.2.2.1.2 (p + 5) t222, v222]) ?_
                            refine ez_iadd 255 dX12_reads_254 rfl ?_
                            refine ez_top (nI (10 * ((97 + j208) - 97) + (48 + j222))) (nI_add _ _) ?_
                            refine ez_bipush 257 dX12_reads_255 rfl (nI 48) (by decide) ?_
                            refine ez_isub 258 dX12_reads_257 rfl ?_
                            refine ez_top (nI (10 * j208 + j222)) (by rw [pk_sub (by omega)]; congr 1; omega) ?_
                            refine ez_istore 260 [(7, eI (nI (10 * j208 + j222))), (6, eI (er_mv (er_my q.2.2.1.1 q.2.2.1.2 (p + 3)))), (5, eI (nI (40 * q.1.1 + (4 * j92 + j106)))), (4, eI (nI (10 * j92 + j106))), (3, eI (nI p)), (2, eI (nI (40 * q.1.1))), (1, eI (nI n)), (0, eR 12 0)] dX12_reads_258 rfl (by decide) rfl ?_
                            refine ez_iload_n 261 dX12_reads_260 rfl rfl ?_
                            refine ez_iconst 262 dX12_reads_261 rfl (nI 4) (by decide) ?_
                            refine ez_iload 264 dX12_reads_262 rfl rfl ?_
                            refine ez_bipush 266 dX12_reads_264 rfl (nI 10) (by decide) ?_
                            refine ez_idiv 267 dX12_reads_266 rfl (by decide) ?_
                            refine ez_top (nI ((10 * j208 + j222) / 10)) (pk_div (by omega) (by omega) (by omega)) ?_
                            refine ez_imul 268 dX12_reads_267 rfl ?_
                            refine ez_top (nI (4 * ((10 * j208 + j222) / 10))) (pk_mul _ _) ?_
                            refine ez_iadd 269 dX12_reads_268 rfl ?_
                            refine ez_top (nI (40 * q.1.1 + 4 * ((10 * j208 + j222) / 10))) (nI_add _ _) ?_
                            refine ez_iload 271 dX12_reads_269 rfl rfl ?_
                            refine ez_bipush 273 dX12_reads_271 rfl (nI 10) (by decide) ?_
                            refine ez_irem 274 dX12_reads_273 rfl (by decide) ?_
                            refine ez_top (nI ((10 * j208 + j222) % 10)) (pk_rem (by omega) (by omega) (by omega)) ?_
                            refine ez_iadd 275 dX12_reads_274 rfl ?_
                            refine ez_top (nI (40 * q.1.1 + (4 * j208 + j222))) (by rw [nI_add]; congr 1; omega) ?_
                            refine ez_istore 277 [(8, eI (nI (40 * q.1.1 + (4 * j208 + j222)))), (7, eI (nI (10 * j208 + j222))), (6, eI (er_mv (er_my q.2.2.1.1 q.2.2.1.2 (p + 3)))), (5, eI (nI (40 * q.1.1 + (4 * j92 + j106)))), (4, eI (nI (10 * j92 + j106))), (3, eI (nI p)), (2, eI (nI (40 * q.1.1))), (1, eI (nI n)), (0, eR 12 0)] dX12_reads_275 rfl (by decide) rfl ?_
                            refine ez_iload 279 dX12_reads_277 rfl rfl ?_
                            refine ez_bipush 281 dX12_reads_279 rfl (nI 45) (by decide) ?_
                            refine ez_icmp_ne 284 299 dX12_reads_281 rfl (by decide) (fun h281 => ?_) (fun h281 => ?_)
                            · refine ez_aload_n 300 dX12_reads_299 rfl rfl ?_
                              refine ez_getf 303 (eR 45 0) dX12_reads_300 rfl fl_X12_23 (by show 0 < 1; omega) rfl ?_
                              refine ez_iload 305 dX12_reads_303 rfl rfl ?_
                              refine ez_iload 307 dX12_reads_305 rfl rfl ?_
                              refine ez_iastN (40 * q.1.1 + (4 * j92 + j106)) 308 dX12_reads_307 rfl (by decide) (by show 0 < 1; omega) (by show 40 * q.1.1 + (4 * j92 + j106) < 160; omega) ?_
                              refine ez_iload 310 dX12_reads_308 rfl rfl ?_
                              refine ez_bipush 312 dX12_reads_310 rfl (nI 45) (by decide) ?_
                              refine ez_icmp_ne 315 324 dX12_reads_312 rfl (by decide) (fun h312 => ?_) (fun h312 => ?_)
                              · refine ez_iinc 327 (nI (p + 6)) [(3, eI (nI (p + 6))), (8, eI (nI (40 * q.1.1 + (4 * j208 + j222)))), (7, eI (nI (10 * j208 + j222))), (6, eI (er_mv (er_my q.2.2.1.1 q.2.2.1.2 (p + 3)))), (5, eI (nI (40 * q.1.1 + (4 * j92 + j106)))), (4, eI (nI (10 * j92 + j106))), (2, eI (nI (40 * q.1.1))), (1, eI (nI n)), (0, eR 12 0)] dX12_reads_324 rfl rfl (nI_add p 6) (by decide) rfl ?_
                                refine ez_goto 67 dX12_reads_327 (by decide) ?_
                                have x9 : er_part (er_my q.2.2.1.1 q.2.2.1.2) n l p = .inr (er_u1 l (4 * j92 + j106) (nI (10 * j208 + j222))) := by
                                  unfold er_part
                                  rw [if_neg (fun z => z ((er_mv_eq _ (hmt (p))).1.mp h82)), i92, i106]
                                  simp only []
                                  rw [if_neg (fun z => z h169), if_neg (fun z => z.1 ((er_mv_eq _ (hmt (p + 3))).2.1.mp h189))]
                                  rw [i208, i222]
                                  simp only []
                                  rw [if_neg (fun z => h281 ((er_mv_eq _ (hmt (p + 3))).2.1.mpr z.1)), if_neg (fun z => h281 ((er_mv_eq _ (hmt (p + 3))).2.1.mpr z))]
                                obtain ⟨k2, rfl⟩ : ∃ k2, k = k2 + 1 := ⟨k - 1, by omega⟩
                                have eP := hE
                                unfold er_parts at eP
                                rw [if_pos (by omega), x9] at eP
                                refine ez_drop [(3, eI (nI (p + 6))), (2, eI (nI (40 * q.1.1))), (1, eI (nI n)), (0, eR 12 0)] (by simp) ?_
                                exact ih k2 (by omega) k2 (p + 6) _ _ rfl (by omega) (by omega) (hF.st (by omega)) (by rw [ez_rd, if_neg (by omega)]; exact hn46) (RY_st hl) eP
                              · refine ez_aload_n 316 dX12_reads_315 rfl rfl ?_
                                refine ez_getf 319 (eR 45 0) dX12_reads_316 rfl fl_X12_23 (by show 0 < 1; omega) rfl ?_
                                refine ez_iload 321 dX12_reads_319 rfl rfl ?_
                                refine ez_iload 323 dX12_reads_321 rfl rfl ?_
                                refine ez_iastN (40 * q.1.1 + (4 * j208 + j222)) 324 dX12_reads_323 rfl (by decide) (by show 0 < 1; omega) (by show 40 * q.1.1 + (4 * j208 + j222) < 160; omega) ?_
                                refine ez_iinc 327 (nI (p + 6)) [(3, eI (nI (p + 6))), (8, eI (nI (40 * q.1.1 + (4 * j208 + j222)))), (7, eI (nI (10 * j208 + j222))), (6, eI (er_mv (er_my q.2.2.1.1 q.2.2.1.2 (p + 3)))), (5, eI (nI (40 * q.1.1 + (4 * j92 + j106)))), (4, eI (nI (10 * j92 + j106))), (2, eI (nI (40 * q.1.1))), (1, eI (nI n)), (0, eR 12 0)] dX12_reads_324 rfl rfl (nI_add p 6) (by decide) rfl ?_
                                refine ez_goto 67 dX12_reads_327 (by decide) ?_
                                exact absurd h312 h281
                            · refine ez_aload_n 285 dX12_reads_284 rfl rfl ?_
                              refine ez_getf 288 (eR 45 0) dX12_reads_285 rfl fl_X12_23 (by show 0 < 1; omega) rfl ?_
                              refine ez_iload 290 dX12_reads_288 rfl rfl ?_
                              refine ez_ialdN (40 * q.1.1 + (4 * j208 + j222)) 291 dX12_reads_290 rfl (by decide) (by show 0 < 1; omega) (by show 40 * q.1.1 + (4 * j208 + j222) < 160; omega) ?_
                              refine ez_top (l (4 * j208 + j222)) (hl (4 * j208 + j222) (by omega)) ?_
                              refine ez_iconst 292 dX12_reads_291 rfl (-1) (by decide) ?_
                              refine ez_icmp_eq 295 299 dX12_reads_292 rfl (by decide) (fun h292 => ?_) (fun h292 => ?_)
                              · refine ez_aload_n 300 dX12_reads_299 rfl rfl ?_
                                refine ez_getf 303 (eR 45 0) dX12_reads_300 rfl fl_X12_23 (by show 0 < 1; omega) rfl ?_
                                refine ez_iload 305 dX12_reads_303 rfl rfl ?_
                                refine ez_iload 307 dX12_reads_305 rfl rfl ?_
                                refine ez_iastN (40 * q.1.1 + (4 * j92 + j106)) 308 dX12_reads_307 rfl (by decide) (by show 0 < 1; omega) (by show 40 * q.1.1 + (4 * j92 + j106) < 160; omega) ?_
                                refine ez_iload 310 dX12_reads_308 rfl rfl ?_
                                refine ez_bipush 312 dX12_reads_310 rfl (nI 45) (by decide) ?_
                                refine ez_icmp_ne 315 324 dX12_reads_312 rfl (by decide) (fun h312 => ?_) (fun h312 => ?_)
                                · refine ez_iinc 327 (nI (p + 6)) [(3, eI (nI (p + 6))), (8, eI (nI (40 * q.1.1 + (4 * j208 + j222)))), (7, eI (nI (10 * j208 + j222))), (6, eI (er_mv (er_my q.2.2.1.1 q.2.2.1.2 (p + 3)))), (5, eI (nI (40 * q.1.1 + (4 * j92 + j106)))), (4, eI (nI (10 * j92 + j106))), (2, eI (nI (40 * q.1.1))), (1, eI (nI n)), (0, eR 12 0)] dX12_reads_324 rfl rfl (nI_add p 6) (by decide) rfl ?_
                                  refine ez_goto 67 dX12_reads_327 (by decide) ?_
                                  exact absurd h281 h312
                                · refine ez_aload_n 316 dX12_reads_315 rfl rfl ?_
                                  refine ez_getf 319 (eR 45 0) dX12_reads_316 rfl fl_X12_23 (by show 0 < 1; omega) rfl ?_
                                  refine ez_iload 321 dX12_reads_319 rfl rfl ?_
                                  refine ez_iload 323 dX12_reads_321 rfl rfl ?_
                                  refine ez_iastN (40 * q.1.1 + (4 * j208 + j222)) 324 dX12_reads_323 rfl (by decide) (by show 0 < 1; omega) (by show 40 * q.1.1 + (4 * j208 + j222) < 160; omega) ?_
                                  refine ez_iinc 327 (nI (p + 6)) [(3, eI (nI (p + 6))), (8, eI (nI (40 * q.1.1 + (4 * j208 + j222)))), (7, eI (nI (10 * j208 + j222))), (6, eI (er_mv (er_my q.2.2.1.1 q.2.2.1.2 (p + 3)))), (5, eI (nI (40 * q.1.1 + (4 * j92 + j106)))), (4, eI (nI (10 * j92 + j106))), (2, eI (nI (40 * q.1.1))), (1, eI (nI n)), (0, eR 12 0)] dX12_reads_324 rfl rfl (nI_add p 6) (by decide) rfl ?_
                                  refine ez_goto 67 dX12_reads_327 (by decide) ?_
                                  have x9 : er_part (er_my q.2.2.1.1 q.2.2.1.2) n l p = .inr (er_u1 (er_u1 l (4 * j92 + j106) (nI (10 * j208 + j222))) (4 * j208 + j222) (nI (10 * j92 + j106))) := by
                                    unfold er_part
                                    rw [if_neg (fun z => z ((er_mv_eq _ (hmt (p))).1.mp h82)), i92, i106]
                                    simp only []
                                    rw [if_neg (fun z => z h169), if_neg (fun z => z.1 ((er_mv_eq _ (hmt (p + 3))).2.1.mp h189))]
                                    rw [i208, i222]
                                    simp only []
                                    rw [if_neg (fun z => z.2 h292), if_pos ((er_mv_eq _ (hmt (p + 3))).2.1.mp h281)]
                                  obtain ⟨k2, rfl⟩ : ∃ k2, k = k2 + 1 := ⟨k - 1, by omega⟩
                                  have eP := hE
                                  unfold er_parts at eP
                                  rw [if_pos (by omega), x9] at eP
                                  refine ez_drop [(3, eI (nI (p + 6))), (2, eI (nI (40 * q.1.1))), (1, eI (nI n)), (0, eR 12 0)] (by simp) ?_
                                  exact ih k2 (by omega) k2 (p + 6) _ _ rfl (by omega) (by omega) ((hF.st (by omega)).st (by omega)) (by rw [ez_rd, if_neg (by omega), ez_rd, if_neg (by omega)]; exact hn46) (RY_st (RY_st hl)) eP
                              · refine ez_iload_n 296 dX12_reads_295 rfl rfl ?_
                                refine ez_iconst 297 dX12_reads_296 rfl (nI 5) (by decide) ?_
                                refine ez_iadd 298 dX12_reads_297 rfl ?_
                                refine ez_top (nI (p + 5)) (nI_add _ _) ?_
                                refine ez_iret .int dX12_reads_298 rfl rfl ?_
                                have x9 : er_part (er_my q.2.2.1.1 q.2.2.1.2) n l p = .inl (p + 5) := by
                                  unfold er_part
                                  rw [if_neg (fun z => z ((er_mv_eq _ (hmt (p))).1.mp h82)), i92, i106]
                                  simp only []
                                  rw [if_neg (fun z => z h169), if_neg (fun z => z.1 ((er_mv_eq _ (hmt (p + 3))).2.1.mp h189))]
                                  rw [i208, i222]
                                  simp only []
                                  rw [if_pos ⟨(er_mv_eq _ (hmt (p + 3))).2.1.mp h281, h292⟩]
                                obtain ⟨k2, rfl⟩ : ∃ k2, k = k2 + 1 := ⟨k - 1, by omega⟩
                                have eP := hE
                                unfold er_parts at eP
                                rw [if_pos (by omega), x9] at eP
                                exact ⟨hF, Or.inl ⟨(p + 5), by omega, eP.symm, rfl⟩⟩
                          · exact absurd h225 (by decide)
                      · exact absurd h211 (by decide)
                  · refine ez_iload 194 dX12_reads_192 rfl rfl ?_
                    refine ez_bipush 196 dX12_reads_194 rfl (nI 62) (by decide) ?_
                    refine ez_icmp_eq 199 203 dX12_reads_196 rfl (by decide) (fun h196 => ?_) (fun h196 => ?_)
                    · refine ez_aload_n 204 dX12_reads_203 rfl rfl ?_
                      refine ez_iload_n 205 dX12_reads_204 rfl rfl ?_
                      refine ez_iconst 206 dX12_reads_205 rfl (nI 4) (by decide) ?_
                      refine ez_iadd 207 dX12_reads_206 rfl ?_
                      refine ez_top (nI (p + 4)) (nI_add _ _) ?_
                      refine ez_iload_n 208 dX12_reads_207 rfl rfl ?_
                      refine ez_callV 211 [eI (nI (p + 4)), eI (nI n)] [] dX12_reads_208 rfl rfl ok_X12_isLetter in_X12_isLetter (by decide) (by show 0 < 1; omega) ln_X12_158 (by omega) (Nat.le_of_ble_eq_true rfl) (c_X12_isLetter g (d - 1) q.2.2.1.1 (p + 4) n q.2.2.1.2 M1 (by omega) hW.2.2.1.1 (by rw [hF _ _ _ (by omega)]; exact hC.2.2.1.1) (fun i hi => by rw [hF _ _ _ (by omega)]; exact hC.2.2.1.2 i hi) hW.2.2.1.2 (by omega) (by omega) (by omega)) (fun r208 M208 q208 => ?_)
                      obtain ⟨⟨rfl, i208⟩ | ⟨j208, b208, t208, v208, i208, rfl⟩, e208⟩ := q208
                      · rw [e208]
                        show Ez (true, g) mX12_reads d 211 [(6, eI (er_mv (er_my q.2.2.1.1 q.2.2.1.2 (p + 3)))), (5, eI (nI (40 * q.1.1 + (4 * j92 + j106)))), (4, eI (nI (10 * j92 + j106))), (3, eI (nI p)), (2, eI (nI (40 * q.1.1))), (1, eI (nI n)), (0, eR 12 0)] [eI (nI 0)] M1 _
                        refine ez_nif_ne 214 218 dX12_reads_211 rfl (by decide) (by omega) (fun h211 => ?_) (fun h211 => ?_)
                        · exact absurd h211 (by decide)
                        · refine ez_iload_n 215 dX12_reads_214 rfl rfl ?_
                          refine ez_iconst 216 dX12_reads_215 rfl (nI 4) (by decide) ?_
                          refine ez_iadd 217 dX12_reads_216 rfl ?_
                          refine ez_top (nI (p + 4)) (nI_add _ _) ?_
                          refine ez_iret .int dX12_reads_217 rfl rfl ?_
                          have x9 : er_part (er_my q.2.2.1.1 q.2.2.1.2) n l p = .inl (p + 4) := by
                            unfold er_part
                            rw [if_neg (fun z => z ((er_mv_eq _ (hmt (p))).1.mp h82)), i92, i106]
                            simp only []
                            rw [if_neg (fun z => z h169), if_neg (fun z => z.2 ((er_mv_eq _ (hmt (p + 3))).2.2.mp h196))]
                            rw [i208]
                          obtain ⟨k2, rfl⟩ : ∃ k2, k = k2 + 1 := ⟨k - 1, by omega⟩
                          have eP := hE
                          unfold er_parts at eP
                          rw [if_pos (by omega), x9] at eP
                          exact ⟨hF, Or.inl ⟨(p + 4), by omega, eP.symm, rfl⟩⟩
                      · rw [e208]
                        show Ez (true, g) mX12_reads d 211 [(6, eI (er_mv (er_my q.2.2.1.1 q.2.2.1.2 (p + 3)))), (5, eI (nI (40 * q.1.1 + (4 * j92 + j106)))), (4, eI (nI (10 * j92 + j106))), (3, eI (nI p)), (2, eI (nI (40 * q.1.1))), (1, eI (nI n)), (0, eR 12 0)] [eI (nI 1)] M1 _
                        refine ez_nif_ne 214 218 dX12_reads_211 rfl (by decide) (by omega) (fun h211 => ?_) (fun h211 => ?_)
                        · refine ez_aload_n 219 dX12_reads_218 rfl rfl ?_
                          refine ez_iload_n 220 dX12_reads_219 rfl rfl ?_
                          refine ez_iconst 221 dX12_reads_220 rfl (nI 5) (by decide) ?_
                          refine ez_iadd 222 dX12_reads_221 rfl ?_
                          refine ez_top (nI (p + 5)) (nI_add _ _) ?_
                          refine ez_callV 225 [eI (nI (p + 5))] [] dX12_reads_222 rfl rfl ok_X12_isDigit in_X12_isDigit (by decide) (by show 0 < 1; omega) ln_X12_162 (by omega) (Nat.le_of_ble_eq_true rfl) (c_X12_isDigit g (d - 1) q.2.2.1.1 (p + 5) q.2.2.1.2 M1 (by omega) hW.2.2.1.1 (by rw [hF _ _ _ (by omega)]; exact hC.2.2.1.1) (fun i hi => by rw [hF _ _ _ (by omega)]; exact hC.2.2.1.2 i hi) hW.2.2.1.2 (by omega)) (fun r222 M222 q222 => ?_)
                          obtain ⟨⟨rfl, i222⟩ | ⟨j222, b222, t222, v222, i222, rfl⟩, e222⟩ := q222
                          · rw [e222]
                            show Ez (true, g) mX12_reads d 225 [(6, eI (er_mv (er_my q.2.2.1.1 q.2.2.1.2 (p + 3)))), (5, eI (nI (40 * q.1.1 + (4 * j92 + j106)))), (4, eI (nI (10 * j92 + j106))), (3, eI (nI p)), (2, eI (nI (40 * q.1.1))), (1, eI (nI n)), (0, eR 12 0)] [eI (nI 0)] M1 _
                            refine ez_nif_ne 228 232 dX12_reads_225 rfl (by decide) (by omega) (fun h225 => ?_) (fun h225 => ?_)
                            · exact absurd h225 (by decide)
                            · refine ez_iload_n 229 dX12_reads_228 rfl rfl ?_
                              refine ez_iconst 230 dX12_reads_229 rfl (nI 5) (by decide) ?_
                              refine ez_iadd 231 dX12_reads_230 rfl ?_
                              refine ez_top (nI (p + 5)) (nI_add _ _) ?_
                              refine ez_iret .int dX12_reads_231 rfl rfl ?_
                              have x9 : er_part (er_my q.2.2.1.1 q.2.2.1.2) n l p = .inl (p + 5) := by
                                unfold er_part
                                rw [if_neg (fun z => z ((er_mv_eq _ (hmt (p))).1.mp h82)), i92, i106]
                                simp only []
                                rw [if_neg (fun z => z h169), if_neg (fun z => z.2 ((er_mv_eq _ (hmt (p + 3))).2.2.mp h196))]
                                rw [i208, i222]
                              obtain ⟨k2, rfl⟩ : ∃ k2, k = k2 + 1 := ⟨k - 1, by omega⟩
                              have eP := hE
                              unfold er_parts at eP
                              rw [if_pos (by omega), x9] at eP
                              exact ⟨hF, Or.inl ⟨(p + 5), by omega, eP.symm, rfl⟩⟩
                          · rw [e222]
                            show Ez (true, g) mX12_reads d 225 [(6, eI (er_mv (er_my q.2.2.1.1 q.2.2.1.2 (p + 3)))), (5, eI (nI (40 * q.1.1 + (4 * j92 + j106)))), (4, eI (nI (10 * j92 + j106))), (3, eI (nI p)), (2, eI (nI (40 * q.1.1))), (1, eI (nI n)), (0, eR 12 0)] [eI (nI 1)] M1 _
                            refine ez_nif_ne 228 232 dX12_reads_225 rfl (by decide) (by omega) (fun h225 => ?_) (fun h225 => ?_)
                            · refine ez_bipush 234 dX12_reads_232 rfl (nI 10) (by decide) ?_
                              refine ez_aload_n 235 dX12_reads_234 rfl rfl ?_
                              refine ez_getf 238 (eR 44 0) dX12_reads_235 rfl fl_X12_20 (by show 0 < 1; omega) rfl ?_
                              refine ez_iload_n 239 dX12_reads_238 rfl rfl ?_
                              refine ez_iconst 240 dX12_reads_239 rfl (nI 4) (by decide) ?_
                              refine ez_iadd 241 dX12_reads_240 rfl ?_
                              refine ez_top (nI (p + 4)) (nI_add _ _) ?_
                              refine ez_ialdN (p + 4) 242 dX12_reads_241 rfl (by decide) (by show 0 < 1; omega) (by show p + 4 < 160; omega) ?_
                              refine ez_top (nI (97 + j208)) (by rw [hF _ _ _ (by omega), hC.2.2.1.2 (p + 4) t208, v208]) ?_
                              refine ez_bipush 244 dX12_reads_242 rfl (nI 97) (by decide) ?_
                              refine ez_isub 245 dX12_reads_244 rfl ?_
                              refine ez_top (nI ((97 + j208) - 97)) (pk_sub (by omega)) ?_
                              refine ez_imul 246 dX12_reads_245 rfl ?_
                              refine ez_top (nI (10 * ((97 + j208) - 97))) (pk_mul _ _) ?_
                              refine ez_aload_n 247 dX12_reads_246 rfl rfl ?_
                              refine ez_getf 250 (eR 44 0) dX12_reads_247 rfl fl_X12_20 (by show 0 < 1; omega) rfl ?_
                              refine ez_iload_n 251 dX12_reads_250 rfl rfl ?_
                              refine ez_iconst 252 dX12_reads_251 rfl (nI 5) (by decide) ?_
                              refine ez_iadd 253 dX12_reads_252 rfl ?_
                              refine ez_top (nI (p + 5)) (nI_add _ _) ?_
                              refine ez_ialdN (p + 5) 254 dX12_reads_253 rfl (by decide) (by show 0 < 1; omega) (by show p + 5 < 160; omega) ?_
                              refine ez_top (nI (48 + j222)) (by rw [hF _ _ _ (by omega), hC.2.2.1.2 (p + 5) t222, v222]) ?_
                              refine ez_iadd 255 dX12_reads_254 rfl ?_
                              refine ez_top (nI (10 * ((97 + j208) - 97) + (48 + j222))) (nI_add _ _) ?_
                              refine ez_bipush 257 dX12_reads_255 rfl (nI 48) (by decide) ?_
                              refine ez_isub 258 dX12_reads_257 rfl ?_
                              refine ez_top (nI (10 * j208 + j222)) (by rw [pk_sub (by omega)]; congr 1; omega) ?_
                              refine ez_istore 260 [(7, eI (nI (10 * j208 + j222))), (6, eI (er_mv (er_my q.2.2.1.1 q.2.2.1.2 (p + 3)))), (5, eI (nI (40 * q.1.1 + (4 * j92 + j106)))), (4, eI (nI (10 * j92 + j106))), (3, eI (nI p)), (2, eI (nI (40 * q.1.1))), (1, eI (nI n)), (0, eR 12 0)] dX12_reads_258 rfl (by decide) rfl ?_
                              refine ez_iload_n 261 dX12_reads_260 rfl rfl ?_
                              refine ez_iconst 262 dX12_reads_261 rfl (nI 4) (by decide) ?_
                              refine ez_iload 264 dX12_reads_262 rfl rfl ?_
                              refine ez_bipush 266 dX12_reads_264 rfl (nI 10) (by decide) ?_
                              refine ez_idiv 267 dX12_reads_266 rfl (by decide) ?_
                              refine ez_top (nI ((10 * j208 + j222) / 10)) (pk_div (by omega) (by omega) (by omega)) ?_
                              refine ez_imul 268 dX12_reads_267 rfl ?_
                              refine ez_top (nI (4 * ((10 * j208 + j222) / 10))) (pk_mul _ _) ?_
                              refine ez_iadd 269 dX12_reads_268 rfl ?_
                              refine ez_top (nI (40 * q.1.1 + 4 * ((10 * j208 + j222) / 10))) (nI_add _ _) ?_
                              refine ez_iload 271 dX12_reads_269 rfl rfl ?_
                              refine ez_bipush 273 dX12_reads_271 rfl (nI 10) (by decide) ?_
                              refine ez_irem 274 dX12_reads_273 rfl (by decide) ?_
                              refine ez_top (nI ((10 * j208 + j222) % 10)) (pk_rem (by omega) (by omega) (by omega)) ?_
                              refine ez_iadd 275 dX12_reads_274 rfl ?_
                              refine ez_top (nI (40 * q.1.1 + (4 * j208 + j222))) (by rw [nI_add]; congr 1; omega) ?_
                              refine ez_istore 277 [(8, eI (nI (40 * q.1.1 + (4 * j208 + j222)))), (7, eI (nI (10 * j208 + j222))), (6, eI (er_mv (er_my q.2.2.1.1 q.2.2.1.2 (p + 3)))), (5, eI (nI (40 * q.1.1 + (4 * j92 + j106)))), (4, eI (nI (10 * j92 + j106))), (3, eI (nI p)), (2, eI (nI (40 * q.1.1))), (1, eI (nI n)), (0, eR 12 0)] dX12_reads_275 rfl (by decide) rfl ?_
                              refine ez_iload 279 dX12_reads_277 rfl rfl ?_
                              refine ez_bipush 281 dX12_reads_279 rfl (nI 45) (by decide) ?_
                              refine ez_icmp_ne 284 299 dX12_reads_281 rfl (by decide) (fun h281 => ?_) (fun h281 => ?_)
                              · refine ez_aload_n 300 dX12_reads_299 rfl rfl ?_
                                refine ez_getf 303 (eR 45 0) dX12_reads_300 rfl fl_X12_23 (by show 0 < 1; omega) rfl ?_
                                refine ez_iload 305 dX12_reads_303 rfl rfl ?_
                                refine ez_iload 307 dX12_reads_305 rfl rfl ?_
                                refine ez_iastN (40 * q.1.1 + (4 * j92 + j106)) 308 dX12_reads_307 rfl (by decide) (by show 0 < 1; omega) (by show 40 * q.1.1 + (4 * j92 + j106) < 160; omega) ?_
                                refine ez_iload 310 dX12_reads_308 rfl rfl ?_
                                refine ez_bipush 312 dX12_reads_310 rfl (nI 45) (by decide) ?_
                                refine ez_icmp_ne 315 324 dX12_reads_312 rfl (by decide) (fun h312 => ?_) (fun h312 => ?_)
                                · refine ez_iinc 327 (nI (p + 6)) [(3, eI (nI (p + 6))), (8, eI (nI (40 * q.1.1 + (4 * j208 + j222)))), (7, eI (nI (10 * j208 + j222))), (6, eI (er_mv (er_my q.2.2.1.1 q.2.2.1.2 (p + 3)))), (5, eI (nI (40 * q.1.1 + (4 * j92 + j106)))), (4, eI (nI (10 * j92 + j106))), (2, eI (nI (40 * q.1.1))), (1, eI (nI n)), (0, eR 12 0)] dX12_reads_324 rfl rfl (nI_add p 6) (by decide) rfl ?_
                                  refine ez_goto 67 dX12_reads_327 (by decide) ?_
                                  have x9 : er_part (er_my q.2.2.1.1 q.2.2.1.2) n l p = .inr (er_u1 l (4 * j92 + j106) (nI (10 * j208 + j222))) := by
                                    unfold er_part
                                    rw [if_neg (fun z => z ((er_mv_eq _ (hmt (p))).1.mp h82)), i92, i106]
                                    simp only []
                                    rw [if_neg (fun z => z h169), if_neg (fun z => z.2 ((er_mv_eq _ (hmt (p + 3))).2.2.mp h196))]
                                    rw [i208, i222]
                                    simp only []
                                    rw [if_neg (fun z => h281 ((er_mv_eq _ (hmt (p + 3))).2.1.mpr z.1)), if_neg (fun z => h281 ((er_mv_eq _ (hmt (p + 3))).2.1.mpr z))]
                                  obtain ⟨k2, rfl⟩ : ∃ k2, k = k2 + 1 := ⟨k - 1, by omega⟩
                                  have eP := hE
                                  unfold er_parts at eP
                                  rw [if_pos (by omega), x9] at eP
                                  refine ez_drop [(3, eI (nI (p + 6))), (2, eI (nI (40 * q.1.1))), (1, eI (nI n)), (0, eR 12 0)] (by simp) ?_
                                  exact ih k2 (by omega) k2 (p + 6) _ _ rfl (by omega) (by omega) (hF.st (by omega)) (by rw [ez_rd, if_neg (by omega)]; exact hn46) (RY_st hl) eP
                                · refine ez_aload_n 316 dX12_reads_315 rfl rfl ?_
                                  refine ez_getf 319 (eR 45 0) dX12_reads_316 rfl fl_X12_23 (by show 0 < 1; omega) rfl ?_
                                  refine ez_iload 321 dX12_reads_319 rfl rfl ?_
                                  refine ez_iload 323 dX12_reads_321 rfl rfl ?_
                                  refine ez_iastN (40 * q.1.1 + (4 * j208 + j222)) 324 dX12_reads_323 rfl (by decide) (by show 0 < 1; omega) (by show 40 * q.1.1 + (4 * j208 + j222) < 160; omega) ?_
                                  refine ez_iinc 327 (nI (p + 6)) [(3, eI (nI (p + 6))), (8, eI (nI (40 * q.1.1 + (4 * j208 + j222)))), (7, eI (nI (10 * j208 + j222))), (6, eI (er_mv (er_my q.2.2.1.1 q.2.2.1.2 (p + 3)))), (5, eI (nI (40 * q.1.1 + (4 * j92 + j106)))), (4, eI (nI (10 * j92 + j106))), (2, eI (nI (40 * q.1.1))), (1, eI (nI n)), (0, eR 12 0)] dX12_reads_324 rfl rfl (nI_add p 6) (by decide) rfl ?_
                                  refine ez_goto 67 dX12_reads_327 (by decide) ?_
                                  exact absurd h312 h281
                              · refine ez_aload_n 285 dX12_reads_284 rfl rfl ?_
                                refine ez_getf 288 (eR 45 0) dX12_reads_285 rfl fl_X12_23 (by show 0 < 1; omega) rfl ?_
                                refine ez_iload 290 dX12_reads_288 rfl rfl ?_
                                refine ez_ialdN (40 * q.1.1 + (4 * j208 + j222)) 291 dX12_reads_290 rfl (by decide) (by show 0 < 1; omega) (by show 40 * q.1.1 + (4 * j208 + j222) < 160; omega) ?_
                                refine ez_top (l (4 * j208 + j222)) (hl (4 * j208 + j222) (by omega)) ?_
                                refine ez_iconst 292 dX12_reads_291 rfl (-1) (by decide) ?_
                                refine ez_icmp_eq 295 299 dX12_reads_292 rfl (by decide) (fun h292 => ?_) (fun h292 => ?_)
                                · refine ez_aload_n 300 dX12_reads_299 rfl rfl ?_
                                  refine ez_getf 303 (eR 45 0) dX12_reads_300 rfl fl_X12_23 (by show 0 < 1; omega) rfl ?_
                                  refine ez_iload 305 dX12_reads_303 rfl rfl ?_
                                  refine ez_iload 307 dX12_reads_305 rfl rfl ?_
                                  refine ez_iastN (40 * q.1.1 + (4 * j92 + j106)) 308 dX12_reads_307 rfl (by decide) (by show 0 < 1; omega) (by show 40 * q.1.1 + (4 * j92 + j106) < 160; omega) ?_
                                  refine ez_iload 310 dX12_reads_308 rfl rfl ?_
                                  refine ez_bipush 312 dX12_reads_310 rfl (nI 45) (by decide) ?_
                                  refine ez_icmp_ne 315 324 dX12_reads_312 rfl (by decide) (fun h312 => ?_) (fun h312 => ?_)
                                  · refine ez_iinc 327 (nI (p + 6)) [(3, eI (nI (p + 6))), (8, eI (nI (40 * q.1.1 + (4 * j208 + j222)))), (7, eI (nI (10 * j208 + j222))), (6, eI (er_mv (er_my q.2.2.1.1 q.2.2.1.2 (p + 3)))), (5, eI (nI (40 * q.1.1 + (4 * j92 + j106)))), (4, eI (nI (10 * j92 + j106))), (2, eI (nI (40 * q.1.1))), (1, eI (nI n)), (0, eR 12 0)] dX12_reads_324 rfl rfl (nI_add p 6) (by decide) rfl ?_
                                    refine ez_goto 67 dX12_reads_327 (by decide) ?_
                                    exact absurd h281 h312
                                  · refine ez_aload_n 316 dX12_reads_315 rfl rfl ?_
                                    refine ez_getf 319 (eR 45 0) dX12_reads_316 rfl fl_X12_23 (by show 0 < 1; omega) rfl ?_
                                    refine ez_iload 321 dX12_reads_319 rfl rfl ?_
                                    refine ez_iload 323 dX12_reads_321 rfl rfl ?_
                                    refine ez_iastN (40 * q.1.1 + (4 * j208 + j222)) 324 dX12_reads_323 rfl (by decide) (by show 0 < 1; omega) (by show 40 * q.1.1 + (4 * j208 + j222) < 160; omega) ?_
                                    refine ez_iinc 327 (nI (p + 6)) [(3, eI (nI (p + 6))), (8, eI (nI (40 * q.1.1 + (4 * j208 + j222)))), (7, eI (nI (10 * j208 + j222))), (6, eI (er_mv (er_my q.2.2.1.1 q.2.2.1.2 (p + 3)))), (5, eI (nI (40 * q.1.1 + (4 * j92 + j106)))), (4, eI (nI (10 * j92 + j106))), (2, eI (nI (40 * q.1.1))), (1, eI (nI n)), (0, eR 12 0)] dX12_reads_324 rfl rfl (nI_add p 6) (by decide) rfl ?_
                                    refine ez_goto 67 dX12_reads_327 (by decide) ?_
                                    have x9 : er_part (er_my q.2.2.1.1 q.2.2.1.2) n l p = .inr (er_u1 (er_u1 l (4 * j92 + j106) (nI (10 * j208 + j222))) (4 * j208 + j222) (nI (10 * j92 + j106))) := by
                                      unfold er_part
                                      rw [if_neg (fun z => z ((er_mv_eq _ (hmt (p))).1.mp h82)), i92, i106]
                                      simp only []
                                      rw [if_neg (fun z => z h169), if_neg (fun z => z.2 ((er_mv_eq _ (hmt (p + 3))).2.2.mp h196))]
                                      rw [i208, i222]
                                      simp only []
                                      rw [if_neg (fun z => z.2 h292), if_pos ((er_mv_eq _ (hmt (p + 3))).2.1.mp h281)]
                                    obtain ⟨k2, rfl⟩ : ∃ k2, k = k2 + 1 := ⟨k - 1, by omega⟩
                                    have eP := hE
                                    unfold er_parts at eP
                                    rw [if_pos (by omega), x9] at eP
                                    refine ez_drop [(3, eI (nI (p + 6))), (2, eI (nI (40 * q.1.1))), (1, eI (nI n)), (0, eR 12 0)] (by simp) ?_
                                    exact ih k2 (by omega) k2 (p + 6) _ _ rfl (by omega) (by omega) ((hF.st (by omega)).st (by omega)) (by rw [ez_rd, if_neg (by omega), ez_rd, if_neg (by omega)]; exact hn46) (RY_st (RY_st hl)) eP
                                · refine ez_iload_n 296 dX12_reads_295 rfl rfl ?_
                                  refine ez_iconst 297 dX12_reads_296 rfl (nI 5) (by decide) ?_
                                  refine ez_iadd 298 dX12_reads_297 rfl ?_
                                  refine ez_top (nI (p + 5)) (nI_add _ _) ?_
                                  refine ez_iret .int dX12_reads_298 rfl rfl ?_
                                  have x9 : er_part (er_my q.2.2.1.1 q.2.2.1.2) n l p = .inl (p + 5) := by
                                    unfold er_part
                                    rw [if_neg (fun z => z ((er_mv_eq _ (hmt (p))).1.mp h82)), i92, i106]
                                    simp only []
                                    rw [if_neg (fun z => z h169), if_neg (fun z => z.2 ((er_mv_eq _ (hmt (p + 3))).2.2.mp h196))]
                                    rw [i208, i222]
                                    simp only []
                                    rw [if_pos ⟨(er_mv_eq _ (hmt (p + 3))).2.1.mp h281, h292⟩]
                                  obtain ⟨k2, rfl⟩ : ∃ k2, k = k2 + 1 := ⟨k - 1, by omega⟩
                                  have eP := hE
                                  unfold er_parts at eP
                                  rw [if_pos (by omega), x9] at eP
                                  exact ⟨hF, Or.inl ⟨(p + 5), by omega, eP.symm, rfl⟩⟩
                            · exact absurd h225 (by decide)
                        · exact absurd h211 (by decide)
                    · refine ez_iload_n 200 dX12_reads_199 rfl rfl ?_
                      refine ez_iconst 201 dX12_reads_200 rfl (nI 3) (by decide) ?_
                      refine ez_iadd 202 dX12_reads_201 rfl ?_
                      refine ez_top (nI (p + 3)) (nI_add _ _) ?_
                      refine ez_iret .int dX12_reads_202 rfl rfl ?_
                      have x9 : er_part (er_my q.2.2.1.1 q.2.2.1.2) n l p = .inl (p + 3) := by
                        unfold er_part
                        rw [if_neg (fun z => z ((er_mv_eq _ (hmt (p))).1.mp h82)), i92, i106]
                        simp only []
                        rw [if_neg (fun z => z h169), if_pos ⟨fun z => h189 ((er_mv_eq _ (hmt (p + 3))).2.1.mpr z), fun z => h196 ((er_mv_eq _ (hmt (p + 3))).2.2.mpr z)⟩]
                      obtain ⟨k2, rfl⟩ : ∃ k2, k = k2 + 1 := ⟨k - 1, by omega⟩
                      have eP := hE
                      unfold er_parts at eP
                      rw [if_pos (by omega), x9] at eP
                      exact ⟨hF, Or.inl ⟨(p + 3), by omega, eP.symm, rfl⟩⟩
                · refine ez_iload_n 173 dX12_reads_172 rfl rfl ?_
                  refine ez_iconst 174 dX12_reads_173 rfl (nI 2) (by decide) ?_
                  refine ez_iadd 175 dX12_reads_174 rfl ?_
                  refine ez_top (nI (p + 2)) (nI_add _ _) ?_
                  refine ez_iret .int dX12_reads_175 rfl rfl ?_
                  have x9 : er_part (er_my q.2.2.1.1 q.2.2.1.2) n l p = .inl (p + 2) := by
                    unfold er_part
                    rw [if_neg (fun z => z ((er_mv_eq _ (hmt (p))).1.mp h82)), i92, i106]
                    simp only []
                    rw [if_pos h169]
                  obtain ⟨k2, rfl⟩ : ∃ k2, k = k2 + 1 := ⟨k - 1, by omega⟩
                  have eP := hE
                  unfold er_parts at eP
                  rw [if_pos (by omega), x9] at eP
                  exact ⟨hF, Or.inl ⟨(p + 2), by omega, eP.symm, rfl⟩⟩
              · exact absurd h109 (by decide)
          · exact absurd h95 (by decide)
      · refine ez_iload_n 86 dX12_reads_85 rfl rfl ?_
        refine ez_iret .int dX12_reads_86 rfl rfl ?_
        have x9 : er_part (er_my q.2.2.1.1 q.2.2.1.2) n l p = .inl p := by
          unfold er_part
          rw [if_pos (fun z => h82 ((er_mv_eq _ (hmt (p))).1.mpr z))]
        obtain ⟨k2, rfl⟩ : ∃ k2, k = k2 + 1 := ⟨k - 1, by omega⟩
        have eP := hE
        unfold er_parts at eP
        rw [if_pos (by omega), x9] at eP
        exact ⟨hF, Or.inl ⟨p, by omega, eP.symm, rfl⟩⟩
set_option maxRecDepth 20000 in
theorem lp_reads0 (g : EzH) (d : Nat) {q : EpS} (n : Nat) (T : EpPr) (M : EzM) (hd : 3 ≤ d) (hW : WF q) (hC : RM q M) (h4 : q.1.1 < 4) (hn1 : 1 ≤ n) (hn : n ≤ 10) (hE : er_parts (er_my q.2.2.1.1 q.2.2.1.2) q.2.2.1.1 n 160 1 (fun _ => -1) = T) : ∀ (z : Nat) (i : Nat) (M1 : EzM), 40 - i = z → i ≤ 40 → FX (fun k i s => (k = 46 ∧ s = q.1.1) ∨ (k = 45 ∧ 40 * q.1.1 ≤ s)) M M1 → M1.1 46 0 q.1.1 = nI n → (∀ x, x < i → M1.1 45 0 (40 * q.1.1 + x) = -1) → Ez (true, g) mX12_reads d 44 [(3, eI (nI i)), (2, eI (nI (40 * q.1.1))), (1, eI (nI n)), (0, eR 12 0)] [] M1 (fun r M' => FX (fun k i s => (k = 46 ∧ s = q.1.1) ∨ (k = 45 ∧ 40 * q.1.1 ≤ s)) M M' ∧ ((∃ e, e ≤ 170 ∧ T = .inl e ∧ r = some (eI (nI e))) ∨ ∃ l2, T = .inr l2 ∧ r = some (eI (-1)) ∧ M'.1 46 0 q.1.1 = nI n ∧ ∀ x, x < 40 → M'.1 45 0 (40 * q.1.1 + x) = l2 x)) := by
  intro z
  induction z using Nat.strongRecOn with
  | ind z ih =>
    intro i M1 hz hi hF hn46 hl
    have t160 := hW.2.2.1.1
    refine ez_iload_n 45 dX12_reads_44 rfl rfl ?_
    refine ez_bipush 47 dX12_reads_45 rfl (nI 40) (by decide) ?_
    refine ez_ncmp_ge 50 65 dX12_reads_47 rfl (by decide) (by omega) (by omega) (fun h47 => ?_) (fun h47 => ?_)
    · refine ez_iconst 66 dX12_reads_65 rfl (nI 1) (by decide) ?_
      refine ez_istore_n 67 [(3, eI (nI 1)), (2, eI (nI (40 * q.1.1))), (1, eI (nI n)), (0, eR 12 0)] dX12_reads_66 rfl (by decide) rfl ?_
      exact lp_reads g d n T M hd hW hC h4 hn1 hn 160 160 1 (fun _ => -1) M1 rfl (by omega) (by omega) hF hn46 (fun x hx => hl x (by omega)) hE
    · refine ez_aload_n 51 dX12_reads_50 rfl rfl ?_
      refine ez_getf 54 (eR 45 0) dX12_reads_51 rfl fl_X12_23 (by show 0 < 1; omega) rfl ?_
      refine ez_iload_n 55 dX12_reads_54 rfl rfl ?_
      refine ez_iload_n 56 dX12_reads_55 rfl rfl ?_
      refine ez_iadd 57 dX12_reads_56 rfl ?_
      refine ez_top (nI (40 * q.1.1 + i)) (nI_add _ _) ?_
      refine ez_iconst 58 dX12_reads_57 rfl (-1) (by decide) ?_
      refine ez_iastN (40 * q.1.1 + i) 59 dX12_reads_58 rfl (by decide) (by show 0 < 1; omega) (by show 40 * q.1.1 + i < 160; omega) ?_
      refine ez_iinc 62 (nI (i + 1)) [(3, eI (nI (i + 1))), (2, eI (nI (40 * q.1.1))), (1, eI (nI n)), (0, eR 12 0)] dX12_reads_59 rfl rfl (nI_add i 1) (by decide) rfl ?_
      refine ez_goto 44 dX12_reads_62 (by decide) ?_
      exact ih (40 - (i + 1)) (by omega) (i + 1) _ rfl (by omega) (hF.st (by omega)) (by rw [ez_rd, if_neg (by omega)]; exact hn46) (fun x hx => by
        rw [ez_rd]
        by_cases e : x = i
        · rw [if_pos (by omega)]
        · rw [if_neg (by omega)]; exact hl x (by omega))
set_option maxRecDepth 20000 in
theorem c_X12_reads (g : EzH) (d : Nat) {q : EpS} (M : EzM) (hd : 3 ≤ d) (hW : WF q) (hC : RM q M) (h4 : q.1.1 < 4) : Ezc (true, g) mX12_reads d [eR 12 0] M (fun r M' => FX (fun k i s => (k = 46 ∧ s = q.1.1) ∨ (k = 45 ∧ 40 * q.1.1 ≤ s)) M M' ∧ ((∃ e, e ≤ 170 ∧ er_read q.2.2.1.1 q.2.2.1.2 = .inl e ∧ r = some (eI (nI e))) ∨ ∃ n l2, er_read q.2.2.1.1 q.2.2.1.2 = .inr (n, l2) ∧ r = some (eI (-1)) ∧ M'.1 46 0 q.1.1 = nI n ∧ ∀ x, x < 40 → M'.1 45 0 (40 * q.1.1 + x) = l2 x)) := by
  refine Ezc.of (by decide +kernel) (Nat.le_of_ble_eq_true rfl) ?_
  have t160 := hW.2.2.1.1
  show Ez (true, g) mX12_reads d 0 [(0, eR 12 0)] [] M _
  refine ez_aload_n 1 dX12_reads_0 rfl rfl ?_
  refine ez_iconst 2 dX12_reads_1 rfl (nI 0) (by decide) ?_
  refine ez_bipush 4 dX12_reads_2 rfl (nI 10) (by decide) ?_
  refine ez_callV 7 [eI (nI 0), eI (nI 10)] [] dX12_reads_4 rfl rfl ok_X12_isLetter in_X12_isLetter (by decide) (by show 0 < 1; omega) ln_X12_158 (by omega) (Nat.le_of_ble_eq_true rfl) (c_X12_isLetter g (d - 1) q.2.2.1.1 0 10 q.2.2.1.2 M (by omega) hW.2.2.1.1 hC.2.2.1.1 hC.2.2.1.2 hW.2.2.1.2 (by omega) (by omega) (by omega)) (fun r4 M4 q4 => ?_)
  obtain ⟨⟨rfl, i4⟩ | ⟨j4, b4, t4, v4, i4, rfl⟩, e4⟩ := q4
  · rw [e4]
    show Ez (true, g) mX12_reads d 7 [(0, eR 12 0)] [eI (nI 0)] M _
    refine ez_nif_ne 10 12 dX12_reads_7 rfl (by decide) (by omega) (fun h7 => ?_) (fun h7 => ?_)
    · exact absurd h7 (by decide)
    · refine ez_iconst 11 dX12_reads_10 rfl (nI 0) (by decide) ?_
      refine ez_iret .int dX12_reads_11 rfl rfl ?_
      exact ⟨FX.rf, Or.inl ⟨0, by omega, by unfold er_read; rw [i4], rfl⟩⟩
  · rw [e4]
    show Ez (true, g) mX12_reads d 7 [(0, eR 12 0)] [eI (nI 1)] M _
    refine ez_nif_ne 10 12 dX12_reads_7 rfl (by decide) (by omega) (fun h7 => ?_) (fun h7 => ?_)
    · refine ez_aload_n 13 dX12_reads_12 rfl rfl ?_
      refine ez_getf 16 (eR 44 0) dX12_reads_13 rfl fl_X12_20 (by show 0 < 1; omega) rfl ?_
      refine ez_iconst 17 dX12_reads_16 rfl (nI 0) (by decide) ?_
      refine ez_ialdN 0 18 dX12_reads_17 rfl (by decide) (by show 0 < 1; omega) (by show 0 < 160; omega) ?_
      refine ez_top (nI (97 + j4)) (by rw [hC.2.2.1.2 0 t4, v4]) ?_
      refine ez_bipush 20 dX12_reads_18 rfl (nI 97) (by decide) ?_
      refine ez_isub 21 dX12_reads_20 rfl ?_
      refine ez_top (nI (97 + j4 - 97)) (pk_sub (by omega)) ?_
      refine ez_iconst 22 dX12_reads_21 rfl (nI 1) (by decide) ?_
      refine ez_iadd 23 dX12_reads_22 rfl ?_
      refine ez_top (nI (j4 + 1)) (by rw [nI_add]; congr 1; omega) ?_
      refine ez_istore_n 24 [(1, eI (nI (j4 + 1))), (0, eR 12 0)] dX12_reads_23 rfl (by decide) rfl ?_
      refine ez_aload_n 25 dX12_reads_24 rfl rfl ?_
      refine ez_getf 28 (eR 46 0) dX12_reads_25 rfl fl_X12_26 (by show 0 < 1; omega) rfl ?_
      refine ez_aload_n 29 dX12_reads_28 rfl rfl ?_
      refine ez_getf 32 (eI (M.1 12 0 10)) dX12_reads_29 rfl fl_X12_130 (by show 0 < 1; omega) rfl ?_
      refine ez_top (nI q.1.1) hC.1.1 ?_
      refine ez_iload_n 33 dX12_reads_32 rfl rfl ?_
      refine ez_iastN q.1.1 34 dX12_reads_33 rfl (by decide) (by show 0 < 1; omega) (by show q.1.1 < 4; omega) ?_
      refine ez_bipush 36 dX12_reads_34 rfl (nI 40) (by decide) ?_
      refine ez_aload_n 37 dX12_reads_36 rfl rfl ?_
      refine ez_getf 40 (eI (M.1 12 0 10)) dX12_reads_37 rfl fl_X12_130 (by show 0 < 1; omega) rfl ?_
      refine ez_top (nI q.1.1) hC.1.1 ?_
      refine ez_imul 41 dX12_reads_40 rfl ?_
      refine ez_top (nI (40 * q.1.1)) (pk_mul _ _) ?_
      refine ez_istore_n 42 [(2, eI (nI (40 * q.1.1))), (1, eI (nI (j4 + 1))), (0, eR 12 0)] dX12_reads_41 rfl (by decide) rfl ?_
      refine ez_iconst 43 dX12_reads_42 rfl (nI 0) (by decide) ?_
      refine ez_istore_n 44 [(3, eI (nI 0)), (2, eI (nI (40 * q.1.1))), (1, eI (nI (j4 + 1))), (0, eR 12 0)] dX12_reads_43 rfl (by decide) rfl ?_
      refine ez_drop [(3, eI (nI 0)), (2, eI (nI (40 * q.1.1))), (1, eI (nI (j4 + 1))), (0, eR 12 0)] (by simp) ?_
      refine ez_wk (fun r M' hr => ?_) (lp_reads0 g d (j4 + 1) _ M (by omega) hW hC h4 (by omega) (by omega) rfl 40 0 _ rfl (by omega) (FX.rf.st (by omega)) (by rw [ez_rd, if_pos ⟨rfl, rfl, rfl⟩]) (fun x hx => absurd hx (Nat.not_lt_zero x)))
      obtain ⟨g1, ⟨e, g2, g3, g4⟩ | ⟨l2, g3, g4, g5, g6⟩⟩ := hr
      · exact ⟨g1, Or.inl ⟨e, g2, by unfold er_read; rw [i4]; simp only []; rw [g3], g4⟩⟩
      · exact ⟨g1, Or.inr ⟨j4 + 1, l2, by unfold er_read; rw [i4]; simp only []; rw [g3], g4, g5, g6⟩⟩
    · exact absurd h7 (by decide)
theorem RM_mzb {q : EpS} {M M' : EzM} (hC : RM q M) (hF : FX (fun k i s => (k = 46 ∧ s = q.1.1) ∨ (k = 45 ∧ 40 * q.1.1 ≤ s) ∨ (k = 12 ∧ i = 0 ∧ s = 6)) M M') (h7 : M'.1 12 0 6 = nI 0) : RM (q.1, q.2.1, (0, q.2.2.1.2), q.2.2.2) M' ∧ FX CM M M' := by
  obtain ⟨a1, a2, a3, a4, a5, a6, a7⟩ := hC
  refine ⟨⟨?_, RMw.fx a2 hF ⟨by omega, fun x => ⟨by omega, by omega, by omega, by omega, by omega, by omega, by omega, by omega⟩⟩, ⟨h7, fun i hi => absurd hi (Nat.not_lt_zero i)⟩, RMs.fx a4 hF (fun s => ⟨by omega, by omega, by omega, by omega⟩), RMx.fx a5 hF ⟨by omega, by omega, fun x hx => ⟨by omega, fun i hi => by omega⟩⟩, RMi.fx a6 hF ⟨fun s _ _ => by omega, fun s => ⟨by omega, by omega, by omega⟩⟩, by rw [hF _ _ _ (by omega)]; exact a7⟩, hF.up (fun k i s z => by unfold CM; omega)⟩
  refine ⟨by rw [hF _ _ _ (by omega)]; exact a1.1, fun m hm => ?_⟩
  have hm' : m < q.1.1 := hm
  obtain ⟨b1, b2, b3⟩ := a1.2 m hm
  exact ⟨by rw [hF _ _ _ (by omega)]; exact b1, fun x hx => by rw [hF _ _ _ (by omega)]; exact b2 x hx, fun x hx => by rw [hF _ _ _ (by omega)]; exact b3 x hx⟩
theorem RM_mzg {q : EpS} {M M' : EzM} {n : Nat} {l : Nat → Int32} (hC : RM q M) (hF : FX (fun k i s => (k = 46 ∧ s = q.1.1) ∨ (k = 45 ∧ 40 * q.1.1 ≤ s) ∨ (k = 12 ∧ i = 0 ∧ s = 6) ∨ (k = 12 ∧ i = 0 ∧ s = 10) ∨ (k = 47 ∧ 10 * q.1.1 ≤ s)) M M') (h7 : M'.1 12 0 6 = nI 0) (h11 : M'.1 12 0 10 = nI (q.1.1 + 1)) (hn : M'.1 46 0 q.1.1 = nI n) (hl : ∀ x, x < 40 → M'.1 45 0 (40 * q.1.1 + x) = l x) (hp : ∀ x, x < 10 → M'.1 47 0 (10 * q.1.1 + x) = nI 0) : RM ((q.1.1 + 1, er_u1 q.1.2.1 q.1.1 n, er_u1 q.1.2.2.1 q.1.1 l, er_u1 q.1.2.2.2 q.1.1 (fun _ => 0)), q.2.1, (0, q.2.2.1.2), q.2.2.2) M' ∧ FX CM M M' := by
  obtain ⟨a1, a2, a3, a4, a5, a6, a7⟩ := hC
  refine ⟨⟨?_, RMw.fx a2 hF ⟨by omega, fun x => ⟨by omega, by omega, by omega, by omega, by omega, by omega, by omega, by omega⟩⟩, ⟨h7, fun i hi => absurd hi (Nat.not_lt_zero i)⟩, RMs.fx a4 hF (fun s => ⟨by omega, by omega, by omega, by omega⟩), RMx.fx a5 hF ⟨by omega, by omega, fun x hx => ⟨by omega, fun i hi => by omega⟩⟩, RMi.fx a6 hF ⟨fun s _ _ => by omega, fun s => ⟨by omega, by omega, by omega⟩⟩, by rw [hF _ _ _ (by omega)]; exact a7⟩, hF.up (fun k i s z => by unfold CM; omega)⟩
  refine ⟨h11, fun m hm => ?_⟩
  have hm' : m < q.1.1 + 1 := hm
  by_cases e : m = q.1.1
  · subst e
    show _ = nI (if q.1.1 = q.1.1 then n else _) ∧ (∀ x, x < 40 → _ = (if q.1.1 = q.1.1 then l else _) x) ∧ (∀ r, r < 10 → _ = nI ((if q.1.1 = q.1.1 then (fun _ => 0) else _) r))
    simp only [if_pos]
    exact ⟨hn, hl, hp⟩
  · show _ = nI (if m = q.1.1 then n else _) ∧ (∀ x, x < 40 → _ = (if m = q.1.1 then l else _) x) ∧ (∀ r, r < 10 → _ = nI ((if m = q.1.1 then (fun _ => 0) else _) r))
    simp only [if_neg e]
    obtain ⟨b1, b2, b3⟩ := a1.2 m (by omega)
    exact ⟨by rw [hF _ _ _ (by omega)]; exact b1, fun x hx => by rw [hF _ _ _ (by omega)]; exact b2 x hx, fun x hx => by rw [hF _ _ _ (by omega)]; exact b3 x hx⟩
set_option maxRecDepth 20000 in
theorem lp_mmaze (g : EzH) (d : Nat) {q : EpS} (n : Nat) (l : Nat → Int32) (M : EzM) (hd : 4 ≤ d) (hW : WF q) (hC : RM q M) (h4 : q.1.1 < 4) (x9 : er_read q.2.2.1.1 q.2.2.1.2 = .inr (n, l)) : ∀ (z : Nat) (i : Nat) (M1 : EzM), 10 - i = z → i ≤ 10 → FX (fun k i s => (k = 46 ∧ s = q.1.1) ∨ (k = 45 ∧ 40 * q.1.1 ≤ s) ∨ (k = 12 ∧ i = 0 ∧ s = 6) ∨ (k = 47 ∧ 10 * q.1.1 ≤ s)) M M1 → M1.1 12 0 6 = nI 0 → M1.1 46 0 q.1.1 = nI n → (∀ x, x < 40 → M1.1 45 0 (40 * q.1.1 + x) = l x) → (∀ x, x < i → M1.1 47 0 (10 * q.1.1 + x) = nI 0) → Ez (true, g) mX12_maze d 33 [(2, eI (nI i)), (1, eI (-1)), (0, eR 12 0)] [] M1 (fun r M' => r = some (eI (S_maze q).1) ∧ RM (S_maze q).2 M' ∧ FX CM M M') := by
  intro z
  induction z using Nat.strongRecOn with
  | ind z ih =>
    intro i M1 hz hi hF h7 hn hl hp
    refine ez_iload_n 34 dX12_maze_33 rfl rfl ?_
    refine ez_bipush 36 dX12_maze_34 rfl (nI 10) (by decide) ?_
    refine ez_ncmp_ge 39 60 dX12_maze_36 rfl (by decide) (by omega) (by omega) (fun h36 => ?_) (fun h36 => ?_)
    · refine ez_aload_n 61 dX12_maze_60 rfl rfl ?_
      refine ez_dup 62 dX12_maze_61 rfl rfl ?_
      refine ez_getf 65 (eI (M1.1 12 0 10)) dX12_maze_62 rfl fl_X12_130 (by show 0 < 1; omega) rfl ?_
      refine ez_top (nI q.1.1) (by rw [hF _ _ _ (by omega)]; exact hC.1.1) ?_
      refine ez_iconst 66 dX12_maze_65 rfl (nI 1) (by decide) ?_
      refine ez_iadd 67 dX12_maze_66 rfl ?_
      refine ez_top (nI (q.1.1 + 1)) (nI_add _ _) ?_
      refine ez_putf 70 .int dX12_maze_67 rfl fp_X12_130 (by show 0 < 1; omega) rfl (by decide) rfl rfl ?_
      refine ez_aload_n 71 dX12_maze_70 rfl rfl ?_
      refine ez_getf 74 (eI (nI (q.1.1 + 1))) dX12_maze_71 rfl fl_X12_130 (by show 0 < 1; omega) rfl ?_
      refine ez_iconst 75 dX12_maze_74 rfl (nI 1) (by decide) ?_
      refine ez_isub 76 dX12_maze_75 rfl ?_
      refine ez_top (nI (q.1.1 + 1 - 1)) (pk_sub (by omega)) ?_
      refine ez_iret .int dX12_maze_76 rfl rfl ?_
      have eS : S_maze q = (nI q.1.1, ((q.1.1 + 1, er_u1 q.1.2.1 q.1.1 n, er_u1 q.1.2.2.1 q.1.1 l, er_u1 q.1.2.2.2 q.1.1 (fun _ => 0)), q.2.1, (0, q.2.2.1.2), q.2.2.2)) := by unfold S_maze; rw [if_pos (by omega), x9]
      have k9 := RM_mzg (n := n) (l := l) hC (FX.st (k := 12) (i := 0) (s := 10) (v := nI (q.1.1 + 1)) (FX.up hF (fun k i s z => by omega)) (by omega)) (by rw [ez_rd, if_neg (by omega)]; exact h7) (by rw [ez_rd, if_pos ⟨rfl, rfl, rfl⟩]) (by rw [ez_rd, if_neg (by omega)]; exact hn) (fun x hx => by rw [ez_rd, if_neg (by omega)]; exact hl x hx) (fun x hx => by rw [ez_rd, if_neg (by omega)]; exact hp x (by omega))
      exact ⟨by rw [eS]; rfl, by rw [eS]; exact k9.1, k9.2⟩
    · refine ez_aload_n 40 dX12_maze_39 rfl rfl ?_
      refine ez_getf 43 (eR 47 0) dX12_maze_40 rfl fl_X12_29 (by show 0 < 1; omega) rfl ?_
      refine ez_bipush 45 dX12_maze_43 rfl (nI 10) (by decide) ?_
      refine ez_aload_n 46 dX12_maze_45 rfl rfl ?_
      refine ez_getf 49 (eI (M1.1 12 0 10)) dX12_maze_46 rfl fl_X12_130 (by show 0 < 1; omega) rfl ?_
      refine ez_top (nI q.1.1) (by rw [hF _ _ _ (by omega)]; exact hC.1.1) ?_
      refine ez_imul 50 dX12_maze_49 rfl ?_
      refine ez_top (nI (10 * q.1.1)) (pk_mul _ _) ?_
      refine ez_iload_n 51 dX12_maze_50 rfl rfl ?_
      refine ez_iadd 52 dX12_maze_51 rfl ?_
      refine ez_top (nI (10 * q.1.1 + i)) (nI_add _ _) ?_
      refine ez_iconst 53 dX12_maze_52 rfl (nI 0) (by decide) ?_
      refine ez_iastN (10 * q.1.1 + i) 54 dX12_maze_53 rfl (by decide) (by show 0 < 1; omega) (by show 10 * q.1.1 + i < 40; omega) ?_
      refine ez_iinc 57 (nI (i + 1)) [(2, eI (nI (i + 1))), (1, eI (-1)), (0, eR 12 0)] dX12_maze_54 rfl rfl (nI_add i 1) (by decide) rfl ?_
      refine ez_goto 33 dX12_maze_57 (by decide) ?_
      exact ih (10 - (i + 1)) (by omega) (i + 1) _ rfl (by omega) (hF.st (by omega)) (by rw [ez_rd, if_neg (by omega)]; exact h7) (by rw [ez_rd, if_neg (by omega)]; exact hn) (fun x hx => by rw [ez_rd, if_neg (by omega)]; exact hl x hx) (fun x hx => by
        rw [ez_rd]
        by_cases e : x = i
        · rw [if_pos (by omega)]
        · rw [if_neg (by omega)]; exact hp x (by omega))
set_option maxRecDepth 20000 in
theorem c_X12_maze (g : EzH) (d : Nat) {q : EpS} (M : EzM) (hd : 4 ≤ d) (hW : WF q) (hC : RM q M) : Ezc (true, g) mX12_maze d [eR 12 0] M (fun r M' => r = some (eI (S_maze q).1) ∧ RM (S_maze q).2 M' ∧ FX CM M M') := by
  refine Ezc.of (by decide +kernel) (Nat.le_of_ble_eq_true rfl) ?_
  have q8 := hW.2.1.1
  have q4 := hW.1.1
  have qx := hW.2.2.2.2.1
  show Ez (true, g) mX12_maze d 0 [(0, eR 12 0)] [] M _
  refine ez_aload_n 1 dX12_maze_0 rfl rfl ?_
  refine ez_getf 4 (eI (M.1 12 0 10)) dX12_maze_1 rfl fl_X12_130 (by show 0 < 1; omega) rfl ?_
  refine ez_top (nI q.1.1) hC.1.1 ?_
  refine ez_iconst 5 dX12_maze_4 rfl (nI 4) (by decide) ?_
  refine ez_ncmp_ne 8 11 dX12_maze_5 rfl (by decide) (by omega) (by omega) (fun h5 => ?_) (fun h5 => ?_)
  · refine ez_aload_n 12 dX12_maze_11 rfl rfl ?_
    refine ez_callV 15 [] [] dX12_maze_12 rfl rfl ok_X12_reads in_X12_reads (by decide) (by show 0 < 1; omega) ln_X12_154 (by omega) (Nat.le_of_ble_eq_true rfl) (c_X12_reads g (d - 1) M (by omega) hW hC (by omega)) (fun r12 M12 q12 => ?_)
    obtain ⟨f12, ⟨e9, y9, x9, rfl⟩ | ⟨n9, l9, x9, rfl, n12, g12⟩⟩ := q12
    · skip
      show Ez (true, g) mX12_maze d 15 [(0, eR 12 0)] [eI (nI e9)] M12 _
      refine ez_istore_n 16 [(1, eI (nI e9)), (0, eR 12 0)] dX12_maze_15 rfl (by decide) rfl ?_
      refine ez_aload_n 17 dX12_maze_16 rfl rfl ?_
      refine ez_iconst 18 dX12_maze_17 rfl (nI 0) (by decide) ?_
      refine ez_putf 21 .int dX12_maze_18 rfl fp_X12_141 (by show 0 < 1; omega) rfl (by decide) rfl rfl ?_
      refine ez_iload_n 22 dX12_maze_21 rfl rfl ?_
      refine ez_iconst 23 dX12_maze_22 rfl (-1) (by decide) ?_
      refine ez_icmp_eq 26 31 dX12_maze_23 rfl (by decide) (fun h23 => ?_) (fun h23 => ?_)
      · refine ez_iconst 32 dX12_maze_31 rfl (nI 0) (by decide) ?_
        refine ez_istore_n 33 [(2, eI (nI 0)), (1, eI (nI e9)), (0, eR 12 0)] dX12_maze_32 rfl (by decide) rfl ?_
        exact absurd h23 (ep_m1 (by omega))
      · refine ez_bipush 28 dX12_maze_26 rfl (-100) (by decide) ?_
        refine ez_iload_n 29 dX12_maze_28 rfl rfl ?_
        refine ez_isub 30 dX12_maze_29 rfl ?_
        refine ez_iret .int dX12_maze_30 rfl rfl ?_
        have eS : S_maze q = (-100 - nI e9, q.1, q.2.1, (0, q.2.2.1.2), q.2.2.2) := by unfold S_maze; rw [if_pos (by omega), x9]
        have k9 := RM_mzb hC (FX.st (k := 12) (i := 0) (s := 6) (v := nI 0) (FX.up f12 (fun k i s z => by omega)) (by omega)) (by rw [ez_rd, if_pos ⟨rfl, rfl, rfl⟩])
        exact ⟨by rw [eS], by rw [eS]; exact k9.1, k9.2⟩
    · skip
      show Ez (true, g) mX12_maze d 15 [(0, eR 12 0)] [eI (-1)] M12 _
      refine ez_istore_n 16 [(1, eI (-1)), (0, eR 12 0)] dX12_maze_15 rfl (by decide) rfl ?_
      refine ez_aload_n 17 dX12_maze_16 rfl rfl ?_
      refine ez_iconst 18 dX12_maze_17 rfl (nI 0) (by decide) ?_
      refine ez_putf 21 .int dX12_maze_18 rfl fp_X12_141 (by show 0 < 1; omega) rfl (by decide) rfl rfl ?_
      refine ez_iload_n 22 dX12_maze_21 rfl rfl ?_
      refine ez_iconst 23 dX12_maze_22 rfl (-1) (by decide) ?_
      refine ez_icmp_eq 26 31 dX12_maze_23 rfl (by decide) (fun h23 => ?_) (fun h23 => ?_)
      · refine ez_iconst 32 dX12_maze_31 rfl (nI 0) (by decide) ?_
        refine ez_istore_n 33 [(2, eI (nI 0)), (1, eI (-1)), (0, eR 12 0)] dX12_maze_32 rfl (by decide) rfl ?_
        refine ez_drop [(2, eI (nI 0)), (1, eI (-1)), (0, eR 12 0)] (by simp) ?_
        exact lp_mmaze g d n9 l9 M hd hW hC (by omega) x9 10 0 _ rfl (by omega) (FX.st (FX.up f12 (fun k i s z => by omega)) (by omega)) (by rw [ez_rd, if_pos ⟨rfl, rfl, rfl⟩]) (by rw [ez_rd, if_neg (by omega)]; exact n12) (fun x hx => by rw [ez_rd, if_neg (by omega)]; exact g12 x hx) (fun x hx => absurd hx (Nat.not_lt_zero x))
      · refine ez_bipush 28 dX12_maze_26 rfl (-100) (by decide) ?_
        refine ez_iload_n 29 dX12_maze_28 rfl rfl ?_
        refine ez_isub 30 dX12_maze_29 rfl ?_
        refine ez_iret .int dX12_maze_30 rfl rfl ?_
        exact absurd rfl h23
  · refine ez_bipush 10 dX12_maze_8 rfl (-4) (by decide) ?_
    refine ez_iret .int dX12_maze_10 rfl rfl ?_
    have eS : S_maze q = (-4, q) := by unfold S_maze; rw [if_neg (by omega)]
    exact ⟨by rw [eS], by rw [eS]; exact hC, FX.rf⟩
