/-! the model's next token -/
theorem c_in_y (g : EzH) (d : Nat) (x a c : Nat) (M : EzM) (h : a ≤ x ∧ x ≤ c) (hc : c < 2 ^ 31) : Ezc (true, g) mX12_in d [eL (nI x).toInt64, eL (nI a).toInt64, eL (nI c).toInt64] M (fun r M' => r = some (eI (nI 1)) ∧ M' = M) :=
  (c_in_3 g d (nI x) (nI a) (nI c) M).wk (fun r M' q => ⟨by rw [q.1, ep_i3, if_neg (by rintro (z | z); exact absurd ((nI_ltI (by omega) (by omega)).mp z) (by omega); exact absurd ((nI_ltI (by omega) (by omega)).mp z) (by omega))], q.2⟩)
theorem c_in_x (g : EzH) (d : Nat) (x a c : Nat) (M : EzM) (h : x < a ∨ c < x) (hx : x < 2 ^ 31) (ha : a < 2 ^ 31) (hc : c < 2 ^ 31) : Ezc (true, g) mX12_in d [eL (nI x).toInt64, eL (nI a).toInt64, eL (nI c).toInt64] M (fun r M' => r = some (eI (nI 0)) ∧ M' = M) :=
  (c_in_3 g d (nI x) (nI a) (nI c) M).wk (fun r M' q => ⟨by rw [q.1, ep_i3, if_pos (by rcases h with z | z; exact Or.inl ((nI_ltI hx ha).mpr z); exact Or.inr ((nI_ltI hc hx).mpr z))], q.2⟩)
theorem c_in_m1 (g : EzH) (d : Nat) (a c : Nat) (M : EzM) (ha : a < 2 ^ 31) : Ezc (true, g) mX12_in d [eL (-1 : Int32).toInt64, eL (nI a).toInt64, eL (nI c).toInt64] M (fun r M' => r = some (eI (nI 0)) ∧ M' = M) :=
  (c_in_3 g d (-1) (nI a) (nI c) M).wk (fun r M' q => ⟨by rw [q.1, ep_i3, if_pos (Or.inl (Int32.lt_of_lt_of_le (show (-1 : Int32) < 0 by decide) (nI_pos' ha)))], q.2⟩)
set_option maxRecDepth 20000 in
theorem c_byt_i (g : EzH) (d : Nat) {fr n : Nat} {b : Nat → Nat} {nm : Nat → Int32} (i : Nat) (M : EzM) (hX : MX fr n b nm M) (hf : fr ≤ 800) (hn : n ≤ 160) (hi : i < n) : Ezc (true, g) mX12_byteAt d [eR 12 0, eI (nI i)] M (fun r M' => r = some (eI (nI (b i))) ∧ M' = M) := by
  refine Ezc.of (by decide +kernel) (Nat.le_of_ble_eq_true rfl) ?_
  show Ez (true, g) mX12_byteAt d 0 [(0, eR 12 0), (1, eI (nI i))] [] M _
  refine ez_iload_n 1 dX12_byteAt_0 rfl rfl ?_
  refine ez_aload_n 2 dX12_byteAt_1 rfl rfl ?_
  refine ez_getf 5 (eI (M.1 12 0 22)) dX12_byteAt_2 rfl fl_X12_250 (by show 0 < 1; omega) rfl ?_
  refine ez_top (nI n) hX.2.1 ?_
  refine ez_ncmp_ge 8 22 dX12_byteAt_5 rfl (by decide) (by omega) (by omega) (fun h5 => ?_) (fun h5 => ?_)
  · exfalso; omega
  · refine ez_aload_n 9 dX12_byteAt_8 rfl rfl ?_
    refine ez_getf 12 (eR 42 0) dX12_byteAt_9 rfl fl_X12_13 (by show 0 < 1; omega) rfl ?_
    refine ez_aload_n 13 dX12_byteAt_12 rfl rfl ?_
    refine ez_getf 16 (eI (M.1 12 0 21)) dX12_byteAt_13 rfl fl_X12_253 (by show 0 < 1; omega) rfl ?_
    refine ez_top (nI fr) hX.1 ?_
    refine ez_iload_n 17 dX12_byteAt_16 rfl rfl ?_
    refine ez_iadd 18 dX12_byteAt_17 rfl ?_
    refine ez_top (nI (fr + i)) (nI_add _ _) ?_
    refine ez_ialdN (fr + i) 19 dX12_byteAt_18 rfl (by decide) (by show 0 < 1; omega) (by show fr + i < 960; omega) ?_
    refine ez_top (nI (b i)) (hX.2.2.1 i hi) ?_
    refine ez_goto 23 dX12_byteAt_19 (by decide) ?_
    refine ez_iret .int dX12_byteAt_23 rfl rfl ?_
    exact ⟨rfl, rfl⟩
set_option maxRecDepth 20000 in
theorem c_byt_o (g : EzH) (d : Nat) {fr n : Nat} {b : Nat → Nat} {nm : Nat → Int32} (i : Nat) (M : EzM) (hX : MX fr n b nm M) (hf : fr ≤ 800) (hn : n ≤ 160) (hi : n ≤ i) (hi2 : i < 2 ^ 31) : Ezc (true, g) mX12_byteAt d [eR 12 0, eI (nI i)] M (fun r M' => r = some (eI (-1)) ∧ M' = M) := by
  refine Ezc.of (by decide +kernel) (Nat.le_of_ble_eq_true rfl) ?_
  show Ez (true, g) mX12_byteAt d 0 [(0, eR 12 0), (1, eI (nI i))] [] M _
  refine ez_iload_n 1 dX12_byteAt_0 rfl rfl ?_
  refine ez_aload_n 2 dX12_byteAt_1 rfl rfl ?_
  refine ez_getf 5 (eI (M.1 12 0 22)) dX12_byteAt_2 rfl fl_X12_250 (by show 0 < 1; omega) rfl ?_
  refine ez_top (nI n) hX.2.1 ?_
  refine ez_ncmp_ge 8 22 dX12_byteAt_5 rfl (by decide) (by omega) (by omega) (fun h5 => ?_) (fun h5 => ?_)
  · refine ez_iconst 23 dX12_byteAt_22 rfl (-1) (by decide) ?_
    refine ez_iret .int dX12_byteAt_23 rfl rfl ?_
    exact ⟨rfl, rfl⟩
  · exfalso; omega
def ep_ww (b : Nat → Nat) (q t : Nat) : Int64 := if t ≤ 8 then lN (ep_wv b q t) else (-1 : Int32).toInt64
theorem ep_ww_s {b : Nat → Nat} {q t : Nat} (h : t < 8) (h1 : 96 ≤ b (q + t)) (h2 : b (q + t) < 256) : (nI 27).toInt64 * ep_ww b q t + (nI (b (q + t))).toInt64 - (nI 96).toInt64 = ep_ww b q (t + 1) := by
  unfold ep_ww
  rw [if_pos (by omega), if_pos (by omega), nI_l (by decide), nI_l (by omega), nI_l (by decide), lN_mul, lN_add, lN_sub (by omega)]
  congr 1
  show _ = 27 * ep_wv b q t + (b (q + t) - 96)
  omega
theorem ep_ww_t {b : Nat → Nat} {q t : Nat} (h : 8 ≤ t) : (-1 : Int32).toInt64 = ep_ww b q (t + 1) := by
  unfold ep_ww
  rw [if_neg (by omega)]
theorem ep_wv_lt (b : Nat → Nat) (q : Nat) : ∀ t, (∀ i, i < t → b (q + i) ≤ 122) → ep_wv b q t < 27 ^ t
  | 0, _ => by show 0 < 27 ^ 0; decide
  | t + 1, h => by
    have h1 := ep_wv_lt b q t (fun i hi => h i (by omega))
    have h2 := h t (by omega)
    show 27 * ep_wv b q t + (b (q + t) - 96) < 27 ^ (t + 1)
    rw [Nat.pow_succ]
    omega
/-- a word's token -/
theorem ep_MTk_w {b : Nat → Nat} {n q : Nat} {M : EzM} (h0 : q < n) (hl : ep_le (b q) = true) (h1 : M.1 12 0 23 = nI 1) (h2 : M.2 12 0 25 = ep_ww b q (ep_lE b n q - q)) : MTk (ep_tok b n q) M := by
  have ha := ep_run_in (fun i => ep_le (b i)) (show q ≤ n by omega)
  have e : ep_tok b n q = (if 8 < ep_lE b n q - q then 1 else ep_fc (ep_wv b q (ep_lE b n q - q))) := by
    unfold ep_tok
    rw [if_neg (by omega), if_pos hl]
  rw [e]
  by_cases h8 : 8 < ep_lE b n q - q
  · rw [if_pos h8]
    refine Or.inr (Or.inl ⟨rfl, Or.inr ⟨h1, fun c hc hc2 => ?_⟩⟩)
    rw [h2, ep_ww, if_neg (by omega)]
    exact (show ∀ c, c < 22 → 10 ≤ c → ¬ (-1 : Int32).toInt64 = ep_wd c by decide +kernel) c hc2 hc
  · rw [if_neg h8]
    have hv : ep_wv b q (ep_lE b n q - q) < 2 ^ 40 := by
      have h3 := ep_wv_lt b q (ep_lE b n q - q) (fun i hi => by
        have := ha.2.2.1 (q + i) (by omega) (by show q + i < ep_lE b n q; omega)
        simp only [ep_le, Bool.and_eq_true, decide_eq_true_eq] at this
        exact this.2)
      have h4 : 27 ^ (ep_lE b n q - q) ≤ 27 ^ 8 := Nat.pow_le_pow_right (by decide) (by omega)
      have h5 : 27 ^ 8 < 2 ^ 40 := by decide
      omega
    have hw : M.2 12 0 25 = lN (ep_wv b q (ep_lE b n q - q)) := by rw [h2, ep_ww, if_pos (by omega)]
    rcases ep_fc_in (ep_wv b q (ep_lE b n q - q)) with h | ⟨a1, a2, a3⟩
    · rw [h]
      refine Or.inr (Or.inl ⟨rfl, Or.inr ⟨h1, fun c hc hc2 => ?_⟩⟩)
      rw [hw, (ep_wdn c hc2 hc).1]
      intro q9
      have h9 := (pk_lEQ (by omega) (by have := (ep_wdn c hc2 hc).2; omega)).mp q9
      rw [h9, ep_fc_c c hc2 hc] at h
      omega
    · exact Or.inr (Or.inr (Or.inl ⟨a1, a2, h1, by rw [hw, (ep_wdn _ a2 a1).1, a3]⟩))
theorem ep_le_in {x : Nat} : ep_le x = true ↔ 97 ≤ x ∧ x ≤ 122 := by simp [ep_le]
theorem ep_di_in {x : Nat} : ep_di x = true ↔ 48 ≤ x ∧ x ≤ 57 := by simp [ep_di]
theorem ep_ww_s' {b : Nat → Nat} {p q : Nat} (h : p - q < 8) (h0 : q ≤ p) (h1 : 96 ≤ b p) (h2 : b p < 256) : (nI 27).toInt64 * ep_ww b q (p - q) + (nI (b p)).toInt64 - (nI 96).toInt64 = ep_ww b q (p - q + 1) := by
  have e9 : b p = b (q + (p - q)) := by rw [show q + (p - q) = p by omega]
  rw [e9]
  exact ep_ww_s h (by rw [← e9]; exact h1) (by rw [← e9]; exact h2)
set_option maxRecDepth 20000 in
theorem nx_let (g : EzH) (d : Nat) {fr n o : Nat} {b : Nat → Nat} {nm : Nat → Int32} (q : Nat) (M : EzM) (hd : 2 ≤ d) (hf : fr ≤ 800) (hn : n ≤ 160) (hb : ∀ i, i < n → b i < 256) (hq : q < n) (hl : ep_le (b q) = true) : ∀ (z p : Nat) (y : Int32) (M1 : EzM), ep_lE b n q - p = z → MF M M1 → MX fr n b nm M1 → M1.1 12 0 27 = nI o → M1.1 12 0 28 = nI 0 → q ≤ p → p ≤ ep_lE b n q → M1.1 12 0 26 = nI p → M1.1 12 0 23 = nI 1 → M1.1 12 0 24 = nI q → M1.2 12 0 25 = ep_ww b q (p - q) → Ez (true, g) mX12_next d 107 [(2, eI (nI (p - q))), (0, eR 12 0), (1, eI y)] [] M1 (fun r M' => r = none ∧ MF M M' ∧ MTk (ep_tok b n q) M' ∧ M'.1 12 0 24 = nI (q) ∧ M'.1 12 0 26 = nI (ep_en b n q) ∧ M'.1 12 0 27 = nI o ∧ M'.1 12 0 28 = nI 0) := by
  intro z
  induction z using Nat.strongRecOn with
  | ind z ih =>
    intro p y M1 hz hF hX ho hbad hp hp2 hh hT hA hw
    have ha := ep_run_in (fun i => ep_le (b i)) (show q ≤ n by omega)
    have hE : ep_lE b n q ≤ n := ha.2.1
    by_cases ep : p = ep_lE b n q
    · by_cases en : p < n
      · have hz2 := ha.2.2.2 (by show ep_lE b n q < n; omega)
        have hnl : ¬ (97 ≤ b p ∧ b p ≤ 122) := by rw [ep, ← ep_le_in]; intro z9; rw [show ep_le (b (ep_lE b n q)) = false from hz2] at z9; cases z9
        have hb2 := hb p en
        refine ez_aload_n 108 dX12_next_107 rfl rfl ?_
        refine ez_aload_n 109 dX12_next_108 rfl rfl ?_
        refine ez_getf 112 (eI (M1.1 12 0 26)) dX12_next_109 rfl fl_X12_256 (by show 0 < 1; omega) rfl ?_
        refine ez_top (nI p) hh ?_
        refine ez_callV 115 [eI (nI p)] [] dX12_next_112 rfl rfl ok_X12_byteAt in_X12_byteAt (by decide) (by show 0 < 1; omega) ln_X12_259 (by omega) (Nat.le_of_ble_eq_true rfl) (c_byt_i g (d - 1) p M1 hX hf hn (by omega)) (fun r112 M112 q112 => ?_)
        obtain ⟨rfl, e112⟩ := q112
        rw [e112]
        show Ez (true, g) mX12_next d 115 [(2, eI (nI (p - q))), (0, eR 12 0), (1, eI y)] [eI (nI (b p))] M1 _
        refine ez_i2l 116 dX12_next_115 rfl ?_
        refine ez_ldc2 119 dX12_next_116 rfl 97 cn_X12_148 ?_
        refine ez_topL (nI 97).toInt64 (by decide) ?_
        refine ez_ldc2 122 dX12_next_119 rfl 122 cn_X12_268 ?_
        refine ez_topL (nI 122).toInt64 (by decide) ?_
        refine ez_callS 125 [eL ((nI (b p)).toInt64), eL ((nI 97).toInt64), eL ((nI 122).toInt64)] [] dX12_next_122 rfl rfl ok_X12_in st_X12_in ln_X12_133 (by omega) (Nat.le_of_ble_eq_true rfl) (c_in_x g (d - 1) (b p) 97 122 M1 (by omega) (by omega) (by omega) (by omega)) (fun r122 M122 q122 => ?_)
        obtain ⟨rfl, e122⟩ := q122
        rw [e122]
        show Ez (true, g) mX12_next d 125 [(2, eI (nI (p - q))), (0, eR 12 0), (1, eI y)] [eI (nI 0)] M1 _
        refine ez_nif_eq 128 182 dX12_next_125 rfl (by decide) (by omega) (fun h125 => ?_) (fun h125 => ?_)
        · refine ez_goto 372 dX12_next_182 (by decide) ?_
          refine ez_vret dX12_next_372 rfl ?_
          exact ⟨rfl, hF, ep_MTk_w hq hl hT (by rw [hw, ep]), hA, by rw [hh, ep, show ep_en b n q = ep_lE b n q by unfold ep_en; rw [if_neg (by omega), if_pos hl]], ho, hbad⟩
        · exact absurd h125 (by decide)
      · refine ez_aload_n 108 dX12_next_107 rfl rfl ?_
        refine ez_aload_n 109 dX12_next_108 rfl rfl ?_
        refine ez_getf 112 (eI (M1.1 12 0 26)) dX12_next_109 rfl fl_X12_256 (by show 0 < 1; omega) rfl ?_
        refine ez_top (nI p) hh ?_
        refine ez_callV 115 [eI (nI p)] [] dX12_next_112 rfl rfl ok_X12_byteAt in_X12_byteAt (by decide) (by show 0 < 1; omega) ln_X12_259 (by omega) (Nat.le_of_ble_eq_true rfl) (c_byt_o g (d - 1) p M1 hX hf hn (by omega) (by omega)) (fun r112 M112 q112 => ?_)
        obtain ⟨rfl, e112⟩ := q112
        rw [e112]
        show Ez (true, g) mX12_next d 115 [(2, eI (nI (p - q))), (0, eR 12 0), (1, eI y)] [eI (-1)] M1 _
        refine ez_i2l 116 dX12_next_115 rfl ?_
        refine ez_ldc2 119 dX12_next_116 rfl 97 cn_X12_148 ?_
        refine ez_topL (nI 97).toInt64 (by decide) ?_
        refine ez_ldc2 122 dX12_next_119 rfl 122 cn_X12_268 ?_
        refine ez_topL (nI 122).toInt64 (by decide) ?_
        refine ez_callS 125 [eL ((-1).toInt64), eL ((nI 97).toInt64), eL ((nI 122).toInt64)] [] dX12_next_122 rfl rfl ok_X12_in st_X12_in ln_X12_133 (by omega) (Nat.le_of_ble_eq_true rfl) (c_in_m1 g (d - 1) 97 122 M1 (by omega)) (fun r122 M122 q122 => ?_)
        obtain ⟨rfl, e122⟩ := q122
        rw [e122]
        show Ez (true, g) mX12_next d 125 [(2, eI (nI (p - q))), (0, eR 12 0), (1, eI y)] [eI (nI 0)] M1 _
        refine ez_nif_eq 128 182 dX12_next_125 rfl (by decide) (by omega) (fun h125 => ?_) (fun h125 => ?_)
        · refine ez_goto 372 dX12_next_182 (by decide) ?_
          refine ez_vret dX12_next_372 rfl ?_
          exact ⟨rfl, hF, ep_MTk_w hq hl hT (by rw [hw, ep]), hA, by rw [hh, ep, show ep_en b n q = ep_lE b n q by unfold ep_en; rw [if_neg (by omega), if_pos hl]], ho, hbad⟩
        · exact absurd h125 (by decide)
    · have hlt : p < ep_lE b n q := by omega
      have hlp := ep_le_in.mp (ha.2.2.1 p hp hlt)
      have hb2 := hb p (by omega)
      refine ez_aload_n 108 dX12_next_107 rfl rfl ?_
      refine ez_aload_n 109 dX12_next_108 rfl rfl ?_
      refine ez_getf 112 (eI (M1.1 12 0 26)) dX12_next_109 rfl fl_X12_256 (by show 0 < 1; omega) rfl ?_
      refine ez_top (nI p) hh ?_
      refine ez_callV 115 [eI (nI p)] [] dX12_next_112 rfl rfl ok_X12_byteAt in_X12_byteAt (by decide) (by show 0 < 1; omega) ln_X12_259 (by omega) (Nat.le_of_ble_eq_true rfl) (c_byt_i g (d - 1) p M1 hX hf hn (by omega)) (fun r112 M112 q112 => ?_)
      obtain ⟨rfl, e112⟩ := q112
      rw [e112]
      show Ez (true, g) mX12_next d 115 [(2, eI (nI (p - q))), (0, eR 12 0), (1, eI y)] [eI (nI (b p))] M1 _
      refine ez_i2l 116 dX12_next_115 rfl ?_
      refine ez_ldc2 119 dX12_next_116 rfl 97 cn_X12_148 ?_
      refine ez_topL (nI 97).toInt64 (by decide) ?_
      refine ez_ldc2 122 dX12_next_119 rfl 122 cn_X12_268 ?_
      refine ez_topL (nI 122).toInt64 (by decide) ?_
      refine ez_callS 125 [eL ((nI (b p)).toInt64), eL ((nI 97).toInt64), eL ((nI 122).toInt64)] [] dX12_next_122 rfl rfl ok_X12_in st_X12_in ln_X12_133 (by omega) (Nat.le_of_ble_eq_true rfl) (c_in_y g (d - 1) (b p) 97 122 M1 (by omega) (by omega)) (fun r122 M122 q122 => ?_)
      obtain ⟨rfl, e122⟩ := q122
      rw [e122]
      show Ez (true, g) mX12_next d 125 [(2, eI (nI (p - q))), (0, eR 12 0), (1, eI y)] [eI (nI 1)] M1 _
      refine ez_nif_eq 128 182 dX12_next_125 rfl (by decide) (by omega) (fun h125 => ?_) (fun h125 => ?_)
      · exact absurd h125 (by decide)
      · refine ez_aload_n 129 dX12_next_128 rfl rfl ?_
        refine ez_iload_n 130 dX12_next_129 rfl rfl ?_
        refine ez_bipush 132 dX12_next_130 rfl (nI 8) (by decide) ?_
        refine ez_ncmp_ge 135 160 dX12_next_132 rfl (by decide) (by omega) (by omega) (fun h132 => ?_) (fun h132 => ?_)
        · refine ez_ldc2 163 dX12_next_160 rfl (-1) cn_X12_278 ?_
          refine ez_topL ((-1 : Int32)).toInt64 (by decide) ?_
          refine ez_topL (ep_ww b q (p - q + 1)) (ep_ww_t (by omega)) ?_
          refine ez_putL 166 dX12_next_163 rfl fp_X12_270 (by show 0 < 1; omega) ?_
          refine ez_iinc 169 (nI (p + 1 - q)) [(2, eI (nI (p + 1 - q))), (0, eR 12 0), (1, eI y)] dX12_next_166 rfl rfl (by rw [show p + 1 - q = p - q + 1 by omega]; exact nI_add (p - q) 1) (by decide) rfl ?_
          refine ez_aload_n 170 dX12_next_169 rfl rfl ?_
          refine ez_dup 171 dX12_next_170 rfl rfl ?_
          refine ez_getf 174 (eI (M1.1 12 0 26)) dX12_next_171 rfl fl_X12_256 (by show 0 < 1; omega) rfl ?_
          refine ez_top (nI p) hh ?_
          refine ez_iconst 175 dX12_next_174 rfl (nI 1) (by decide) ?_
          refine ez_iadd 176 dX12_next_175 rfl ?_
          refine ez_top (nI (p + 1)) (nI_add _ _) ?_
          refine ez_putf 179 .int dX12_next_176 rfl fp_X12_256 (by show 0 < 1; omega) rfl (by decide) rfl rfl ?_
          refine ez_goto 107 dX12_next_179 (by decide) ?_
          exact ih (ep_lE b n q - (p + 1)) (by omega) (p + 1) y _ rfl (hF.tr ((MF.rf.tr MF.sL).tr (MF.s (by decide)))) (hX.mf ((MF.rf.tr MF.sL).tr (MF.s (by decide)))) (by simp [ez_rd, ho, ez_rdL1]) (by simp [ez_rd, hbad, ez_rdL1]) (by omega) (by omega) (by simp [ez_rd]) (by simp [ez_rd, hT, ez_rdL1]) (by simp [ez_rd, hA, ez_rdL1]) (by simp only [ez_rd2]; rw [ez_rdL, if_pos ⟨rfl, rfl, rfl⟩, show p + 1 - q = p - q + 1 by omega])
        · refine ez_ldc2 138 dX12_next_135 rfl 27 cn_X12_274 ?_
          refine ez_topL (nI 27).toInt64 (by decide) ?_
          refine ez_aload_n 139 dX12_next_138 rfl rfl ?_
          refine ez_getf 142 (eL (M1.2 12 0 25)) dX12_next_139 rfl fl_X12_270 (by show 0 < 1; omega) rfl ?_
          refine ez_topL (ep_ww b q (p - q)) hw ?_
          refine ez_lmul 143 dX12_next_142 rfl ?_
          refine ez_aload_n 144 dX12_next_143 rfl rfl ?_
          refine ez_aload_n 145 dX12_next_144 rfl rfl ?_
          refine ez_getf 148 (eI (M1.1 12 0 26)) dX12_next_145 rfl fl_X12_256 (by show 0 < 1; omega) rfl ?_
          refine ez_top (nI p) hh ?_
          refine ez_callV 151 [eI (nI p)] [eL (((nI 27).toInt64) * (ep_ww b q (p - q))), eR 12 0] dX12_next_148 rfl rfl ok_X12_byteAt in_X12_byteAt (by decide) (by show 0 < 1; omega) ln_X12_259 (by omega) (Nat.le_of_ble_eq_true rfl) (c_byt_i g (d - 1) p M1 hX hf hn (by omega)) (fun r148 M148 q148 => ?_)
          obtain ⟨rfl, e148⟩ := q148
          rw [e148]
          show Ez (true, g) mX12_next d 151 [(2, eI (nI (p - q))), (0, eR 12 0), (1, eI y)] [eI (nI (b p)), eL (((nI 27).toInt64) * (ep_ww b q (p - q))), eR 12 0] M1 _
          refine ez_i2l 152 dX12_next_151 rfl ?_
          refine ez_ladd 153 dX12_next_152 rfl ?_
          refine ez_ldc2 156 dX12_next_153 rfl 96 cn_X12_276 ?_
          refine ez_topL (nI 96).toInt64 (by decide) ?_
          refine ez_lsub 157 dX12_next_156 rfl ?_
          refine ez_topL (ep_ww b q (p - q + 1)) (ep_ww_s' (by omega) (by omega) (by omega) (by omega)) ?_
          refine ez_goto 163 dX12_next_157 (by decide) ?_
          refine ez_putL 166 dX12_next_163 rfl fp_X12_270 (by show 0 < 1; omega) ?_
          refine ez_iinc 169 (nI (p + 1 - q)) [(2, eI (nI (p + 1 - q))), (0, eR 12 0), (1, eI y)] dX12_next_166 rfl rfl (by rw [show p + 1 - q = p - q + 1 by omega]; exact nI_add (p - q) 1) (by decide) rfl ?_
          refine ez_aload_n 170 dX12_next_169 rfl rfl ?_
          refine ez_dup 171 dX12_next_170 rfl rfl ?_
          refine ez_getf 174 (eI (M1.1 12 0 26)) dX12_next_171 rfl fl_X12_256 (by show 0 < 1; omega) rfl ?_
          refine ez_top (nI p) hh ?_
          refine ez_iconst 175 dX12_next_174 rfl (nI 1) (by decide) ?_
          refine ez_iadd 176 dX12_next_175 rfl ?_
          refine ez_top (nI (p + 1)) (nI_add _ _) ?_
          refine ez_putf 179 .int dX12_next_176 rfl fp_X12_256 (by show 0 < 1; omega) rfl (by decide) rfl rfl ?_
          refine ez_goto 107 dX12_next_179 (by decide) ?_
          exact ih (ep_lE b n q - (p + 1)) (by omega) (p + 1) y _ rfl (hF.tr ((MF.rf.tr MF.sL).tr (MF.s (by decide)))) (hX.mf ((MF.rf.tr MF.sL).tr (MF.s (by decide)))) (by simp [ez_rd, ho, ez_rdL1]) (by simp [ez_rd, hbad, ez_rdL1]) (by omega) (by omega) (by simp [ez_rd]) (by simp [ez_rd, hT, ez_rdL1]) (by simp [ez_rd, hA, ez_rdL1]) (by simp only [ez_rd2]; rw [ez_rdL, if_pos ⟨rfl, rfl, rfl⟩, show p + 1 - q = p - q + 1 by omega])
theorem ep_dw_s {b : Nat → Nat} {p q : Nat} (h : p - q < 4) (h0 : q ≤ p) (h1 : 48 ≤ b p) (h2 : b p < 256) : (nI 10).toInt64 * lN (ep_dv b q (min (p - q) 4)) + (nI (b p)).toInt64 - (nI 48).toInt64 = lN (ep_dv b q (min (p + 1 - q) 4)) := by
  rw [nI_l (by decide), nI_l (by omega), nI_l (by decide), lN_mul, lN_add, lN_sub (by omega)]
  congr 1
  rw [show min (p + 1 - q) 4 = (p - q) + 1 by omega, show min (p - q) 4 = p - q by omega]
  show _ = 10 * ep_dv b q (p - q) + (b (q + (p - q)) - 48)
  rw [show q + (p - q) = p by omega]
  omega
theorem ep_MTk_d {b : Nat → Nat} {n q t : Nat} {M : EzM} (h0 : q < n) (hl : ep_di (b q) = true) (ht : t = ep_dE b n q - q) (h1 : M.1 12 0 23 = nI (if 4 < t then 4 else 2)) (h2 : M.2 12 0 25 = lN (ep_dv b q (min t 4))) : MTk (ep_tok b n q) M := by
  have hn : ¬ ep_le (b q) = true := by
    rw [ep_le_in]
    have := ep_di_in.mp hl
    omega
  have hlt := ep_tok_lt (b := b) (show q ≤ n by omega)
  have e : ep_tok b n q = (if 4 < ep_dE b n q - q then 1 else 1000 + ep_dv b q (ep_dE b n q - q)) := by
    unfold ep_tok
    rw [if_neg (by omega), if_neg hn, if_pos hl]
  rw [e] at hlt ⊢
  subst ht
  by_cases h4 : 4 < ep_dE b n q - q
  · rw [if_pos h4] at h1 ⊢
    exact Or.inr (Or.inl ⟨rfl, Or.inl h1⟩)
  · rw [if_neg h4] at h1 hlt ⊢
    rw [show min (ep_dE b n q - q) 4 = ep_dE b n q - q by omega] at h2
    refine Or.inr (Or.inr (Or.inr (Or.inr ⟨by omega, hlt, h1, ?_⟩)))
    rw [h2, Nat.add_sub_cancel_left, nI_l (by omega)]
set_option maxRecDepth 20000 in
theorem nx_dig (g : EzH) (d : Nat) {fr n o : Nat} {b : Nat → Nat} {nm : Nat → Int32} (q : Nat) (M : EzM) (hd : 2 ≤ d) (hf : fr ≤ 800) (hn : n ≤ 160) (hb : ∀ i, i < n → b i < 256) (hq : q < n) (hl : ep_di (b q) = true) : ∀ (z p : Nat) (y : Int32) (M1 : EzM), ep_dE b n q - p = z → MF M M1 → MX fr n b nm M1 → M1.1 12 0 27 = nI o → M1.1 12 0 28 = nI 0 → q ≤ p → p ≤ ep_dE b n q → M1.1 12 0 26 = nI p → M1.1 12 0 24 = nI q → M1.2 12 0 25 = lN (ep_dv b q (min (p - q) 4)) → Ez (true, g) mX12_next d 211 [(2, eI (nI (p - q))), (0, eR 12 0), (1, eI y)] [] M1 (fun r M' => r = none ∧ MF M M' ∧ MTk (ep_tok b n q) M' ∧ M'.1 12 0 24 = nI (q) ∧ M'.1 12 0 26 = nI (ep_en b n q) ∧ M'.1 12 0 27 = nI o ∧ M'.1 12 0 28 = nI 0) := by
  intro z
  induction z using Nat.strongRecOn with
  | ind z ih =>
    intro p y M1 hz hF hX ho hbad hp hp2 hh hA hw
    have ha := ep_run_in (fun i => ep_di (b i)) (show q ≤ n by omega)
    have hE : ep_dE b n q ≤ n := ha.2.1
    by_cases ep : p = ep_dE b n q
    · by_cases en : p < n
      · have hz2 := ha.2.2.2 (by show ep_dE b n q < n; omega)
        have hnl : ¬ (48 ≤ b p ∧ b p ≤ 57) := by rw [ep, ← ep_di_in]; intro z9; rw [show ep_di (b (ep_dE b n q)) = false from hz2] at z9; cases z9
        have hb2 := hb p en
        refine ez_aload_n 212 dX12_next_211 rfl rfl ?_
        refine ez_aload_n 213 dX12_next_212 rfl rfl ?_
        refine ez_getf 216 (eI (M1.1 12 0 26)) dX12_next_213 rfl fl_X12_256 (by show 0 < 1; omega) rfl ?_
        refine ez_top (nI p) hh ?_
        refine ez_callV 219 [eI (nI p)] [] dX12_next_216 rfl rfl ok_X12_byteAt in_X12_byteAt (by decide) (by show 0 < 1; omega) ln_X12_259 (by omega) (Nat.le_of_ble_eq_true rfl) (c_byt_i g (d - 1) p M1 hX hf hn (by omega)) (fun r216 M216 q216 => ?_)
        obtain ⟨rfl, e216⟩ := q216
        rw [e216]
        show Ez (true, g) mX12_next d 219 [(2, eI (nI (p - q))), (0, eR 12 0), (1, eI y)] [eI (nI (b p))] M1 _
        refine ez_i2l 220 dX12_next_219 rfl ?_
        refine ez_ldc2 223 dX12_next_220 rfl 48 cn_X12_150 ?_
        refine ez_topL (nI 48).toInt64 (by decide) ?_
        refine ez_ldc2 226 dX12_next_223 rfl 57 cn_X12_280 ?_
        refine ez_topL (nI 57).toInt64 (by decide) ?_
        refine ez_callS 229 [eL ((nI (b p)).toInt64), eL ((nI 48).toInt64), eL ((nI 57).toInt64)] [] dX12_next_226 rfl rfl ok_X12_in st_X12_in ln_X12_133 (by omega) (Nat.le_of_ble_eq_true rfl) (c_in_x g (d - 1) (b p) 48 57 M1 (by omega) (by omega) (by omega) (by omega)) (fun r226 M226 q226 => ?_)
        obtain ⟨rfl, e226⟩ := q226
        rw [e226]
        show Ez (true, g) mX12_next d 229 [(2, eI (nI (p - q))), (0, eR 12 0), (1, eI y)] [eI (nI 0)] M1 _
        refine ez_nif_eq 232 286 dX12_next_229 rfl (by decide) (by omega) (fun h229 => ?_) (fun h229 => ?_)
        · refine ez_aload_n 287 dX12_next_286 rfl rfl ?_
          refine ez_iload_n 288 dX12_next_287 rfl rfl ?_
          refine ez_iconst 289 dX12_next_288 rfl (nI 4) (by decide) ?_
          refine ez_ncmp_le 292 296 dX12_next_289 rfl (by decide) (by omega) (by omega) (fun h289 => ?_) (fun h289 => ?_)
          · refine ez_iconst 297 dX12_next_296 rfl (nI 2) (by decide) ?_
            refine ez_putf 300 .int dX12_next_297 rfl fp_X12_265 (by show 0 < 1; omega) rfl (by decide) rfl rfl ?_
            refine ez_goto 372 dX12_next_300 (by decide) ?_
            refine ez_vret dX12_next_372 rfl ?_
            exact ⟨rfl, hF.tr (MF.rf.tr (MF.s (by decide))), ep_MTk_d (t := p - q) hq hl (by omega) (by simp only [ez_rd, true_and, if_true]; rw [if_neg (by omega)]) hw, by simp [ez_rd, hA], by rw [show ep_en b n q = ep_dE b n q by unfold ep_en; rw [if_neg (by omega), if_neg (by rw [ep_le_in]; have := ep_di_in.mp hl; omega), if_pos hl], ← ep]; simp [ez_rd, hh], by simp [ez_rd, ho], by simp [ez_rd, hbad]⟩
          · refine ez_iconst 293 dX12_next_292 rfl (nI 4) (by decide) ?_
            refine ez_goto 297 dX12_next_293 (by decide) ?_
            refine ez_putf 300 .int dX12_next_297 rfl fp_X12_265 (by show 0 < 1; omega) rfl (by decide) rfl rfl ?_
            refine ez_goto 372 dX12_next_300 (by decide) ?_
            refine ez_vret dX12_next_372 rfl ?_
            exact ⟨rfl, hF.tr (MF.rf.tr (MF.s (by decide))), ep_MTk_d (t := p - q) hq hl (by omega) (by simp only [ez_rd, true_and, if_true]; rw [if_pos (by omega)]) hw, by simp [ez_rd, hA], by rw [show ep_en b n q = ep_dE b n q by unfold ep_en; rw [if_neg (by omega), if_neg (by rw [ep_le_in]; have := ep_di_in.mp hl; omega), if_pos hl], ← ep]; simp [ez_rd, hh], by simp [ez_rd, ho], by simp [ez_rd, hbad]⟩
        · exact absurd h229 (by decide)
      · refine ez_aload_n 212 dX12_next_211 rfl rfl ?_
        refine ez_aload_n 213 dX12_next_212 rfl rfl ?_
        refine ez_getf 216 (eI (M1.1 12 0 26)) dX12_next_213 rfl fl_X12_256 (by show 0 < 1; omega) rfl ?_
        refine ez_top (nI p) hh ?_
        refine ez_callV 219 [eI (nI p)] [] dX12_next_216 rfl rfl ok_X12_byteAt in_X12_byteAt (by decide) (by show 0 < 1; omega) ln_X12_259 (by omega) (Nat.le_of_ble_eq_true rfl) (c_byt_o g (d - 1) p M1 hX hf hn (by omega) (by omega)) (fun r216 M216 q216 => ?_)
        obtain ⟨rfl, e216⟩ := q216
        rw [e216]
        show Ez (true, g) mX12_next d 219 [(2, eI (nI (p - q))), (0, eR 12 0), (1, eI y)] [eI (-1)] M1 _
        refine ez_i2l 220 dX12_next_219 rfl ?_
        refine ez_ldc2 223 dX12_next_220 rfl 48 cn_X12_150 ?_
        refine ez_topL (nI 48).toInt64 (by decide) ?_
        refine ez_ldc2 226 dX12_next_223 rfl 57 cn_X12_280 ?_
        refine ez_topL (nI 57).toInt64 (by decide) ?_
        refine ez_callS 229 [eL ((-1).toInt64), eL ((nI 48).toInt64), eL ((nI 57).toInt64)] [] dX12_next_226 rfl rfl ok_X12_in st_X12_in ln_X12_133 (by omega) (Nat.le_of_ble_eq_true rfl) (c_in_m1 g (d - 1) 48 57 M1 (by omega)) (fun r226 M226 q226 => ?_)
        obtain ⟨rfl, e226⟩ := q226
        rw [e226]
        show Ez (true, g) mX12_next d 229 [(2, eI (nI (p - q))), (0, eR 12 0), (1, eI y)] [eI (nI 0)] M1 _
        refine ez_nif_eq 232 286 dX12_next_229 rfl (by decide) (by omega) (fun h229 => ?_) (fun h229 => ?_)
        · refine ez_aload_n 287 dX12_next_286 rfl rfl ?_
          refine ez_iload_n 288 dX12_next_287 rfl rfl ?_
          refine ez_iconst 289 dX12_next_288 rfl (nI 4) (by decide) ?_
          refine ez_ncmp_le 292 296 dX12_next_289 rfl (by decide) (by omega) (by omega) (fun h289 => ?_) (fun h289 => ?_)
          · refine ez_iconst 297 dX12_next_296 rfl (nI 2) (by decide) ?_
            refine ez_putf 300 .int dX12_next_297 rfl fp_X12_265 (by show 0 < 1; omega) rfl (by decide) rfl rfl ?_
            refine ez_goto 372 dX12_next_300 (by decide) ?_
            refine ez_vret dX12_next_372 rfl ?_
            exact ⟨rfl, hF.tr (MF.rf.tr (MF.s (by decide))), ep_MTk_d (t := p - q) hq hl (by omega) (by simp only [ez_rd, true_and, if_true]; rw [if_neg (by omega)]) hw, by simp [ez_rd, hA], by rw [show ep_en b n q = ep_dE b n q by unfold ep_en; rw [if_neg (by omega), if_neg (by rw [ep_le_in]; have := ep_di_in.mp hl; omega), if_pos hl], ← ep]; simp [ez_rd, hh], by simp [ez_rd, ho], by simp [ez_rd, hbad]⟩
          · refine ez_iconst 293 dX12_next_292 rfl (nI 4) (by decide) ?_
            refine ez_goto 297 dX12_next_293 (by decide) ?_
            refine ez_putf 300 .int dX12_next_297 rfl fp_X12_265 (by show 0 < 1; omega) rfl (by decide) rfl rfl ?_
            refine ez_goto 372 dX12_next_300 (by decide) ?_
            refine ez_vret dX12_next_372 rfl ?_
            exact ⟨rfl, hF.tr (MF.rf.tr (MF.s (by decide))), ep_MTk_d (t := p - q) hq hl (by omega) (by simp only [ez_rd, true_and, if_true]; rw [if_pos (by omega)]) hw, by simp [ez_rd, hA], by rw [show ep_en b n q = ep_dE b n q by unfold ep_en; rw [if_neg (by omega), if_neg (by rw [ep_le_in]; have := ep_di_in.mp hl; omega), if_pos hl], ← ep]; simp [ez_rd, hh], by simp [ez_rd, ho], by simp [ez_rd, hbad]⟩
        · exact absurd h229 (by decide)
    · have hlt : p < ep_dE b n q := by omega
      have hlp := ep_di_in.mp (ha.2.2.1 p hp hlt)
      have hb2 := hb p (by omega)
      refine ez_aload_n 212 dX12_next_211 rfl rfl ?_
      refine ez_aload_n 213 dX12_next_212 rfl rfl ?_
      refine ez_getf 216 (eI (M1.1 12 0 26)) dX12_next_213 rfl fl_X12_256 (by show 0 < 1; omega) rfl ?_
      refine ez_top (nI p) hh ?_
      refine ez_callV 219 [eI (nI p)] [] dX12_next_216 rfl rfl ok_X12_byteAt in_X12_byteAt (by decide) (by show 0 < 1; omega) ln_X12_259 (by omega) (Nat.le_of_ble_eq_true rfl) (c_byt_i g (d - 1) p M1 hX hf hn (by omega)) (fun r216 M216 q216 => ?_)
      obtain ⟨rfl, e216⟩ := q216
      rw [e216]
      show Ez (true, g) mX12_next d 219 [(2, eI (nI (p - q))), (0, eR 12 0), (1, eI y)] [eI (nI (b p))] M1 _
      refine ez_i2l 220 dX12_next_219 rfl ?_
      refine ez_ldc2 223 dX12_next_220 rfl 48 cn_X12_150 ?_
      refine ez_topL (nI 48).toInt64 (by decide) ?_
      refine ez_ldc2 226 dX12_next_223 rfl 57 cn_X12_280 ?_
      refine ez_topL (nI 57).toInt64 (by decide) ?_
      refine ez_callS 229 [eL ((nI (b p)).toInt64), eL ((nI 48).toInt64), eL ((nI 57).toInt64)] [] dX12_next_226 rfl rfl ok_X12_in st_X12_in ln_X12_133 (by omega) (Nat.le_of_ble_eq_true rfl) (c_in_y g (d - 1) (b p) 48 57 M1 (by omega) (by omega)) (fun r226 M226 q226 => ?_)
      obtain ⟨rfl, e226⟩ := q226
      rw [e226]
      show Ez (true, g) mX12_next d 229 [(2, eI (nI (p - q))), (0, eR 12 0), (1, eI y)] [eI (nI 1)] M1 _
      refine ez_nif_eq 232 286 dX12_next_229 rfl (by decide) (by omega) (fun h229 => ?_) (fun h229 => ?_)
      · exact absurd h229 (by decide)
      · refine ez_aload_n 233 dX12_next_232 rfl rfl ?_
        refine ez_iload_n 234 dX12_next_233 rfl rfl ?_
        refine ez_iconst 235 dX12_next_234 rfl (nI 4) (by decide) ?_
        refine ez_ncmp_ge 238 263 dX12_next_235 rfl (by decide) (by omega) (by omega) (fun h235 => ?_) (fun h235 => ?_)
        · refine ez_aload_n 264 dX12_next_263 rfl rfl ?_
          refine ez_getf 267 (eL (M1.2 12 0 25)) dX12_next_264 rfl fl_X12_270 (by show 0 < 1; omega) rfl ?_
          refine ez_topL (lN (ep_dv b q (min (p - q) 4))) hw ?_
          refine ez_topL (lN (ep_dv b q (min (p + 1 - q) 4))) (by rw [show min (p + 1 - q) 4 = min (p - q) 4 by omega]) ?_
          refine ez_putL 270 dX12_next_267 rfl fp_X12_270 (by show 0 < 1; omega) ?_
          refine ez_iinc 273 (nI (p + 1 - q)) [(2, eI (nI (p + 1 - q))), (0, eR 12 0), (1, eI y)] dX12_next_270 rfl rfl (by rw [show p + 1 - q = p - q + 1 by omega]; exact nI_add (p - q) 1) (by decide) rfl ?_
          refine ez_aload_n 274 dX12_next_273 rfl rfl ?_
          refine ez_dup 275 dX12_next_274 rfl rfl ?_
          refine ez_getf 278 (eI (M1.1 12 0 26)) dX12_next_275 rfl fl_X12_256 (by show 0 < 1; omega) rfl ?_
          refine ez_top (nI p) hh ?_
          refine ez_iconst 279 dX12_next_278 rfl (nI 1) (by decide) ?_
          refine ez_iadd 280 dX12_next_279 rfl ?_
          refine ez_top (nI (p + 1)) (nI_add _ _) ?_
          refine ez_putf 283 .int dX12_next_280 rfl fp_X12_256 (by show 0 < 1; omega) rfl (by decide) rfl rfl ?_
          refine ez_goto 211 dX12_next_283 (by decide) ?_
          exact ih (ep_dE b n q - (p + 1)) (by omega) (p + 1) y _ rfl (hF.tr ((MF.rf.tr MF.sL).tr (MF.s (by decide)))) (hX.mf ((MF.rf.tr MF.sL).tr (MF.s (by decide)))) (by simp [ez_rd, ho, ez_rdL1]) (by simp [ez_rd, hbad, ez_rdL1]) (by omega) (by omega) (by simp [ez_rd]) (by simp [ez_rd, hA, ez_rdL1]) (by simp only [ez_rd2]; rw [ez_rdL, if_pos ⟨rfl, rfl, rfl⟩])
        · refine ez_ldc2 241 dX12_next_238 rfl 10 cn_X12_282 ?_
          refine ez_topL (nI 10).toInt64 (by decide) ?_
          refine ez_aload_n 242 dX12_next_241 rfl rfl ?_
          refine ez_getf 245 (eL (M1.2 12 0 25)) dX12_next_242 rfl fl_X12_270 (by show 0 < 1; omega) rfl ?_
          refine ez_topL (lN (ep_dv b q (min (p - q) 4))) hw ?_
          refine ez_lmul 246 dX12_next_245 rfl ?_
          refine ez_aload_n 247 dX12_next_246 rfl rfl ?_
          refine ez_aload_n 248 dX12_next_247 rfl rfl ?_
          refine ez_getf 251 (eI (M1.1 12 0 26)) dX12_next_248 rfl fl_X12_256 (by show 0 < 1; omega) rfl ?_
          refine ez_top (nI p) hh ?_
          refine ez_callV 254 [eI (nI p)] [eL (((nI 10).toInt64) * (lN (ep_dv b q (min (p - q) 4)))), eR 12 0] dX12_next_251 rfl rfl ok_X12_byteAt in_X12_byteAt (by decide) (by show 0 < 1; omega) ln_X12_259 (by omega) (Nat.le_of_ble_eq_true rfl) (c_byt_i g (d - 1) p M1 hX hf hn (by omega)) (fun r251 M251 q251 => ?_)
          obtain ⟨rfl, e251⟩ := q251
          rw [e251]
          show Ez (true, g) mX12_next d 254 [(2, eI (nI (p - q))), (0, eR 12 0), (1, eI y)] [eI (nI (b p)), eL (((nI 10).toInt64) * (lN (ep_dv b q (min (p - q) 4)))), eR 12 0] M1 _
          refine ez_i2l 255 dX12_next_254 rfl ?_
          refine ez_ladd 256 dX12_next_255 rfl ?_
          refine ez_ldc2 259 dX12_next_256 rfl 48 cn_X12_150 ?_
          refine ez_topL (nI 48).toInt64 (by decide) ?_
          refine ez_lsub 260 dX12_next_259 rfl ?_
          refine ez_topL (lN (ep_dv b q (min (p + 1 - q) 4))) (ep_dw_s (by omega) (by omega) (by omega) (by omega)) ?_
          refine ez_goto 267 dX12_next_260 (by decide) ?_
          refine ez_putL 270 dX12_next_267 rfl fp_X12_270 (by show 0 < 1; omega) ?_
          refine ez_iinc 273 (nI (p + 1 - q)) [(2, eI (nI (p + 1 - q))), (0, eR 12 0), (1, eI y)] dX12_next_270 rfl rfl (by rw [show p + 1 - q = p - q + 1 by omega]; exact nI_add (p - q) 1) (by decide) rfl ?_
          refine ez_aload_n 274 dX12_next_273 rfl rfl ?_
          refine ez_dup 275 dX12_next_274 rfl rfl ?_
          refine ez_getf 278 (eI (M1.1 12 0 26)) dX12_next_275 rfl fl_X12_256 (by show 0 < 1; omega) rfl ?_
          refine ez_top (nI p) hh ?_
          refine ez_iconst 279 dX12_next_278 rfl (nI 1) (by decide) ?_
          refine ez_iadd 280 dX12_next_279 rfl ?_
          refine ez_top (nI (p + 1)) (nI_add _ _) ?_
          refine ez_putf 283 .int dX12_next_280 rfl fp_X12_256 (by show 0 < 1; omega) rfl (by decide) rfl rfl ?_
          refine ez_goto 211 dX12_next_283 (by decide) ?_
          exact ih (ep_dE b n q - (p + 1)) (by omega) (p + 1) y _ rfl (hF.tr ((MF.rf.tr MF.sL).tr (MF.s (by decide)))) (hX.mf ((MF.rf.tr MF.sL).tr (MF.s (by decide)))) (by simp [ez_rd, ho, ez_rdL1]) (by simp [ez_rd, hbad, ez_rdL1]) (by omega) (by omega) (by simp [ez_rd]) (by simp [ez_rd, hA, ez_rdL1]) (by simp only [ez_rd2]; rw [ez_rdL, if_pos ⟨rfl, rfl, rfl⟩])
theorem ep_MTk_s {b : Nat → Nat} {n q : Nat} {M : EzM} (h0 : q < n) (h3 : ep_sg (b q) = true) (h1 : M.1 12 0 23 = nI 3) (h2 : M.2 12 0 25 = (nI (b q)).toInt64) : MTk (ep_tok b n q) M ∧ ep_en b n q = q + 1 := by
  have hn := ep_sg_in h3
  have a1 : ¬ ep_le (b q) = true := by rw [ep_le_in]; omega
  have a2 : ¬ ep_di (b q) = true := by rw [ep_di_in]; omega
  have e : ep_tok b n q = b q := by unfold ep_tok; rw [if_neg (by omega), if_neg a1, if_neg a2, if_pos h3]
  refine ⟨?_, by unfold ep_en; rw [if_neg (by omega), if_neg a1, if_neg a2, if_pos h3]⟩
  rw [e]
  exact Or.inr (Or.inr (Or.inr (Or.inl ⟨by omega, by omega, h1, h2⟩)))
theorem ep_MTk_x {b : Nat → Nat} {n q : Nat} {M : EzM} (h0 : q < n) (a1 : ¬ ep_le (b q) = true) (a2 : ¬ ep_di (b q) = true) (h3 : ¬ ep_sg (b q) = true) (h1 : M.1 12 0 23 = nI 4) : MTk (ep_tok b n q) M ∧ ep_en b n q = q := by
  have e : ep_tok b n q = 1 := by unfold ep_tok; rw [if_neg (by omega), if_neg a1, if_neg a2, if_neg h3]
  refine ⟨?_, by unfold ep_en; rw [if_neg (by omega), if_neg a1, if_neg a2, if_neg h3]⟩
  rw [e]
  exact Or.inr (Or.inl ⟨rfl, Or.inl h1⟩)
theorem ep_MTk_e {b : Nat → Nat} {n q : Nat} {M : EzM} (h0 : n ≤ q) (h1 : M.1 12 0 23 = nI 0) : MTk (ep_tok b n q) M ∧ ep_en b n q = q := by
  have e : ep_tok b n q = 0 := by unfold ep_tok; rw [if_pos h0]
  refine ⟨?_, by unfold ep_en; rw [if_pos h0]⟩
  rw [e]
  exact Or.inl ⟨rfl, h1⟩
set_option maxRecDepth 20000 in
theorem nx_39 (g : EzH) (d : Nat) {fr n o : Nat} {b : Nat → Nat} {nm : Nat → Int32} (q : Nat) (M M1 : EzM) (hd : 2 ≤ d) (hf : fr ≤ 800) (hn : n ≤ 160) (hb : ∀ i, i < n → b i < 256) (hq : q ≤ n) (hF : MF M M1) (hX : MX fr n b nm M1) (ho : M1.1 12 0 27 = nI o) (hbad : M1.1 12 0 28 = nI 0) (hh : M1.1 12 0 26 = nI q) : Ez (true, g) mX12_next d 39 [(0, eR 12 0)] [] M1 (fun r M' => r = none ∧ MF M M' ∧ MTk (ep_tok b n q) M' ∧ M'.1 12 0 24 = nI (q) ∧ M'.1 12 0 26 = nI (ep_en b n q) ∧ M'.1 12 0 27 = nI o ∧ M'.1 12 0 28 = nI 0) := by
  by_cases hqn : q < n
  · have hb2 := hb q hqn
    by_cases hl : ep_le (b q) = true
    · have hl2 := ep_le_in.mp hl
      refine ez_aload_n 40 dX12_next_39 rfl rfl ?_
      refine ez_aload_n 41 dX12_next_40 rfl rfl ?_
      refine ez_getf 44 (eI (M1.1 12 0 26)) dX12_next_41 rfl fl_X12_256 (by show 0 < 1; omega) rfl ?_
      refine ez_top (nI q) hh ?_
      refine ez_putf 47 .int dX12_next_44 rfl fp_X12_262 (by show 0 < 1; omega) rfl (by decide) rfl rfl ?_
      refine ez_aload_n 48 dX12_next_47 rfl rfl ?_
      refine ez_aload_n 49 dX12_next_48 rfl rfl ?_
      refine ez_getf 52 (eI (M1.1 12 0 26)) dX12_next_49 rfl fl_X12_256 (by show 0 < 1; omega) rfl ?_
      refine ez_top (nI q) hh ?_
      refine ez_callV 55 [eI (nI q)] [] dX12_next_52 rfl rfl ok_X12_byteAt in_X12_byteAt (by decide) (by show 0 < 1; omega) ln_X12_259 (by omega) (Nat.le_of_ble_eq_true rfl) (c_byt_i g (d - 1) q (ez_st M1 12 0 24 (nI q)) (hX.mf (MF.rf.tr (MF.s (by decide)))) hf hn (by omega)) (fun r52 M52 q52 => ?_)
      obtain ⟨rfl, e52⟩ := q52
      rw [e52]
      show Ez (true, g) mX12_next d 55 [(0, eR 12 0)] [eI (nI (b q))] (ez_st M1 12 0 24 (nI q)) _
      refine ez_istore_n 56 [(1, eI (nI (b q))), (0, eR 12 0)] dX12_next_55 rfl (by decide) rfl ?_
      refine ez_aload_n 57 dX12_next_56 rfl rfl ?_
      refine ez_iconst 58 dX12_next_57 rfl (nI 4) (by decide) ?_
      refine ez_putf 61 .int dX12_next_58 rfl fp_X12_265 (by show 0 < 1; omega) rfl (by decide) rfl rfl ?_
      refine ez_iload_n 62 dX12_next_61 rfl rfl ?_
      refine ez_nif_ge 81 dX12_next_62 (by decide) (by omega) ?_
      refine ez_iload_n 82 dX12_next_81 rfl rfl ?_
      refine ez_i2l 83 dX12_next_82 rfl ?_
      refine ez_ldc2 86 dX12_next_83 rfl 97 cn_X12_148 ?_
      refine ez_topL (nI 97).toInt64 (by decide) ?_
      refine ez_ldc2 89 dX12_next_86 rfl 122 cn_X12_268 ?_
      refine ez_topL (nI 122).toInt64 (by decide) ?_
      refine ez_callS 92 [eL ((nI (b q)).toInt64), eL ((nI 97).toInt64), eL ((nI 122).toInt64)] [] dX12_next_89 rfl rfl ok_X12_in st_X12_in ln_X12_133 (by omega) (Nat.le_of_ble_eq_true rfl) (c_in_y g (d - 1) (b q) 97 122 (ez_st (ez_st M1 12 0 24 (nI q)) 12 0 23 (nI 4)) (by omega) (by omega)) (fun r89 M89 q89 => ?_)
      obtain ⟨rfl, e89⟩ := q89
      rw [e89]
      show Ez (true, g) mX12_next d 92 [(1, eI (nI (b q))), (0, eR 12 0)] [eI (nI 1)] (ez_st (ez_st M1 12 0 24 (nI q)) 12 0 23 (nI 4)) _
      refine ez_nif_eq 95 185 dX12_next_92 rfl (by decide) (by omega) (fun h92 => ?_) (fun h92 => ?_)
      · exact absurd h92 (by decide)
      · refine ez_aload_n 96 dX12_next_95 rfl rfl ?_
        refine ez_iconst 97 dX12_next_96 rfl (nI 1) (by decide) ?_
        refine ez_putf 100 .int dX12_next_97 rfl fp_X12_265 (by show 0 < 1; omega) rfl (by decide) rfl rfl ?_
        refine ez_aload_n 101 dX12_next_100 rfl rfl ?_
        refine ez_lconst 102 dX12_next_101 rfl (nI 0).toInt64 (by decide) ?_
        refine ez_putL 105 dX12_next_102 rfl fp_X12_270 (by show 0 < 1; omega) ?_
        refine ez_iconst 106 dX12_next_105 rfl (nI 0) (by decide) ?_
        refine ez_istore_n 107 [(2, eI (nI 0)), (1, eI (nI (b q))), (0, eR 12 0)] dX12_next_106 rfl (by decide) rfl ?_
        refine ez_drop [(2, eI (nI (q - q))), (0, eR 12 0), (1, eI (nI (b q)))] (by simp) ?_
        exact nx_let g d q M hd hf hn hb hqn hl (ep_lE b n q - q) q _ _ rfl (hF.tr ((((MF.rf.tr (MF.s (by decide))).tr (MF.s (by decide))).tr (MF.s (by decide))).tr MF.sL)) (hX.mf ((((MF.rf.tr (MF.s (by decide))).tr (MF.s (by decide))).tr (MF.s (by decide))).tr MF.sL)) (by simp [ez_rd, ez_rdL1, ez_rd2, ho]) (by simp [ez_rd, ez_rdL1, ez_rd2, hbad]) (Nat.le_refl _) (ep_run_in _ hq).1 (by simp [ez_rd, ez_rdL1, ez_rd2, hh]) (by simp [ez_rd, ez_rdL1, ez_rd2]) (by simp [ez_rd, ez_rdL1, ez_rd2]) (by simp [ez_rdL, Nat.sub_self, ep_ww, ep_wv]; decide)
    · by_cases hdg : ep_di (b q) = true
      · have hl2 := ep_di_in.mp hdg
        refine ez_aload_n 40 dX12_next_39 rfl rfl ?_
        refine ez_aload_n 41 dX12_next_40 rfl rfl ?_
        refine ez_getf 44 (eI (M1.1 12 0 26)) dX12_next_41 rfl fl_X12_256 (by show 0 < 1; omega) rfl ?_
        refine ez_top (nI q) hh ?_
        refine ez_putf 47 .int dX12_next_44 rfl fp_X12_262 (by show 0 < 1; omega) rfl (by decide) rfl rfl ?_
        refine ez_aload_n 48 dX12_next_47 rfl rfl ?_
        refine ez_aload_n 49 dX12_next_48 rfl rfl ?_
        refine ez_getf 52 (eI (M1.1 12 0 26)) dX12_next_49 rfl fl_X12_256 (by show 0 < 1; omega) rfl ?_
        refine ez_top (nI q) hh ?_
        refine ez_callV 55 [eI (nI q)] [] dX12_next_52 rfl rfl ok_X12_byteAt in_X12_byteAt (by decide) (by show 0 < 1; omega) ln_X12_259 (by omega) (Nat.le_of_ble_eq_true rfl) (c_byt_i g (d - 1) q (ez_st M1 12 0 24 (nI q)) (hX.mf (MF.rf.tr (MF.s (by decide)))) hf hn (by omega)) (fun r52 M52 q52 => ?_)
        obtain ⟨rfl, e52⟩ := q52
        rw [e52]
        show Ez (true, g) mX12_next d 55 [(0, eR 12 0)] [eI (nI (b q))] (ez_st M1 12 0 24 (nI q)) _
        refine ez_istore_n 56 [(1, eI (nI (b q))), (0, eR 12 0)] dX12_next_55 rfl (by decide) rfl ?_
        refine ez_aload_n 57 dX12_next_56 rfl rfl ?_
        refine ez_iconst 58 dX12_next_57 rfl (nI 4) (by decide) ?_
        refine ez_putf 61 .int dX12_next_58 rfl fp_X12_265 (by show 0 < 1; omega) rfl (by decide) rfl rfl ?_
        refine ez_iload_n 62 dX12_next_61 rfl rfl ?_
        refine ez_nif_ge 81 dX12_next_62 (by decide) (by omega) ?_
        refine ez_iload_n 82 dX12_next_81 rfl rfl ?_
        refine ez_i2l 83 dX12_next_82 rfl ?_
        refine ez_ldc2 86 dX12_next_83 rfl 97 cn_X12_148 ?_
        refine ez_topL (nI 97).toInt64 (by decide) ?_
        refine ez_ldc2 89 dX12_next_86 rfl 122 cn_X12_268 ?_
        refine ez_topL (nI 122).toInt64 (by decide) ?_
        refine ez_callS 92 [eL ((nI (b q)).toInt64), eL ((nI 97).toInt64), eL ((nI 122).toInt64)] [] dX12_next_89 rfl rfl ok_X12_in st_X12_in ln_X12_133 (by omega) (Nat.le_of_ble_eq_true rfl) (c_in_x g (d - 1) (b q) 97 122 (ez_st (ez_st M1 12 0 24 (nI q)) 12 0 23 (nI 4)) (by omega) (by omega) (by omega) (by omega)) (fun r89 M89 q89 => ?_)
        obtain ⟨rfl, e89⟩ := q89
        rw [e89]
        show Ez (true, g) mX12_next d 92 [(1, eI (nI (b q))), (0, eR 12 0)] [eI (nI 0)] (ez_st (ez_st M1 12 0 24 (nI q)) 12 0 23 (nI 4)) _
        refine ez_nif_eq 95 185 dX12_next_92 rfl (by decide) (by omega) (fun h92 => ?_) (fun h92 => ?_)
        · refine ez_iload_n 186 dX12_next_185 rfl rfl ?_
          refine ez_i2l 187 dX12_next_186 rfl ?_
          refine ez_ldc2 190 dX12_next_187 rfl 48 cn_X12_150 ?_
          refine ez_topL (nI 48).toInt64 (by decide) ?_
          refine ez_ldc2 193 dX12_next_190 rfl 57 cn_X12_280 ?_
          refine ez_topL (nI 57).toInt64 (by decide) ?_
          refine ez_callS 196 [eL ((nI (b q)).toInt64), eL ((nI 48).toInt64), eL ((nI 57).toInt64)] [] dX12_next_193 rfl rfl ok_X12_in st_X12_in ln_X12_133 (by omega) (Nat.le_of_ble_eq_true rfl) (c_in_y g (d - 1) (b q) 48 57 (ez_st (ez_st M1 12 0 24 (nI q)) 12 0 23 (nI 4)) (by omega) (by omega)) (fun r193 M193 q193 => ?_)
          obtain ⟨rfl, e193⟩ := q193
          rw [e193]
          show Ez (true, g) mX12_next d 196 [(1, eI (nI (b q))), (0, eR 12 0)] [eI (nI 1)] (ez_st (ez_st M1 12 0 24 (nI q)) 12 0 23 (nI 4)) _
          refine ez_nif_eq 199 303 dX12_next_196 rfl (by decide) (by omega) (fun h196 => ?_) (fun h196 => ?_)
          · exact absurd h196 (by decide)
          · refine ez_aload_n 200 dX12_next_199 rfl rfl ?_
            refine ez_iconst 201 dX12_next_200 rfl (nI 2) (by decide) ?_
            refine ez_putf 204 .int dX12_next_201 rfl fp_X12_265 (by show 0 < 1; omega) rfl (by decide) rfl rfl ?_
            refine ez_aload_n 205 dX12_next_204 rfl rfl ?_
            refine ez_lconst 206 dX12_next_205 rfl (nI 0).toInt64 (by decide) ?_
            refine ez_putL 209 dX12_next_206 rfl fp_X12_270 (by show 0 < 1; omega) ?_
            refine ez_iconst 210 dX12_next_209 rfl (nI 0) (by decide) ?_
            refine ez_istore_n 211 [(2, eI (nI 0)), (1, eI (nI (b q))), (0, eR 12 0)] dX12_next_210 rfl (by decide) rfl ?_
            refine ez_drop [(2, eI (nI (q - q))), (0, eR 12 0), (1, eI (nI (b q)))] (by simp) ?_
            exact nx_dig g d q M hd hf hn hb hqn hdg (ep_dE b n q - q) q _ _ rfl (hF.tr ((((MF.rf.tr (MF.s (by decide))).tr (MF.s (by decide))).tr (MF.s (by decide))).tr MF.sL)) (hX.mf ((((MF.rf.tr (MF.s (by decide))).tr (MF.s (by decide))).tr (MF.s (by decide))).tr MF.sL)) (by simp [ez_rd, ez_rdL1, ez_rd2, ho]) (by simp [ez_rd, ez_rdL1, ez_rd2, hbad]) (Nat.le_refl _) (ep_run_in _ hq).1 (by simp [ez_rd, ez_rdL1, ez_rd2, hh]) (by simp [ez_rd, ez_rdL1, ez_rd2]) (by simp [ez_rdL, Nat.sub_self, ep_dv]; decide)
        · exact absurd h92 (by decide)
      · have n1 : ¬ (97 ≤ b q ∧ b q ≤ 122) := fun z => hl (ep_le_in.mpr z)
        have n2 : ¬ (48 ≤ b q ∧ b q ≤ 57) := fun z => hdg (ep_di_in.mpr z)
        by_cases hs : ep_sg (b q) = true
        · have hs2 := ep_sg_in hs
          refine ez_aload_n 40 dX12_next_39 rfl rfl ?_
          refine ez_aload_n 41 dX12_next_40 rfl rfl ?_
          refine ez_getf 44 (eI (M1.1 12 0 26)) dX12_next_41 rfl fl_X12_256 (by show 0 < 1; omega) rfl ?_
          refine ez_top (nI q) hh ?_
          refine ez_putf 47 .int dX12_next_44 rfl fp_X12_262 (by show 0 < 1; omega) rfl (by decide) rfl rfl ?_
          refine ez_aload_n 48 dX12_next_47 rfl rfl ?_
          refine ez_aload_n 49 dX12_next_48 rfl rfl ?_
          refine ez_getf 52 (eI (M1.1 12 0 26)) dX12_next_49 rfl fl_X12_256 (by show 0 < 1; omega) rfl ?_
          refine ez_top (nI q) hh ?_
          refine ez_callV 55 [eI (nI q)] [] dX12_next_52 rfl rfl ok_X12_byteAt in_X12_byteAt (by decide) (by show 0 < 1; omega) ln_X12_259 (by omega) (Nat.le_of_ble_eq_true rfl) (c_byt_i g (d - 1) q (ez_st M1 12 0 24 (nI q)) (hX.mf (MF.rf.tr (MF.s (by decide)))) hf hn (by omega)) (fun r52 M52 q52 => ?_)
          obtain ⟨rfl, e52⟩ := q52
          rw [e52]
          show Ez (true, g) mX12_next d 55 [(0, eR 12 0)] [eI (nI (b q))] (ez_st M1 12 0 24 (nI q)) _
          refine ez_istore_n 56 [(1, eI (nI (b q))), (0, eR 12 0)] dX12_next_55 rfl (by decide) rfl ?_
          refine ez_aload_n 57 dX12_next_56 rfl rfl ?_
          refine ez_iconst 58 dX12_next_57 rfl (nI 4) (by decide) ?_
          refine ez_putf 61 .int dX12_next_58 rfl fp_X12_265 (by show 0 < 1; omega) rfl (by decide) rfl rfl ?_
          refine ez_iload_n 62 dX12_next_61 rfl rfl ?_
          refine ez_nif_ge 81 dX12_next_62 (by decide) (by omega) ?_
          refine ez_iload_n 82 dX12_next_81 rfl rfl ?_
          refine ez_i2l 83 dX12_next_82 rfl ?_
          refine ez_ldc2 86 dX12_next_83 rfl 97 cn_X12_148 ?_
          refine ez_topL (nI 97).toInt64 (by decide) ?_
          refine ez_ldc2 89 dX12_next_86 rfl 122 cn_X12_268 ?_
          refine ez_topL (nI 122).toInt64 (by decide) ?_
          refine ez_callS 92 [eL ((nI (b q)).toInt64), eL ((nI 97).toInt64), eL ((nI 122).toInt64)] [] dX12_next_89 rfl rfl ok_X12_in st_X12_in ln_X12_133 (by omega) (Nat.le_of_ble_eq_true rfl) (c_in_x g (d - 1) (b q) 97 122 (ez_st (ez_st M1 12 0 24 (nI q)) 12 0 23 (nI 4)) (by omega) (by omega) (by omega) (by omega)) (fun r89 M89 q89 => ?_)
          obtain ⟨rfl, e89⟩ := q89
          rw [e89]
          show Ez (true, g) mX12_next d 92 [(1, eI (nI (b q))), (0, eR 12 0)] [eI (nI 0)] (ez_st (ez_st M1 12 0 24 (nI q)) 12 0 23 (nI 4)) _
          refine ez_nif_eq 95 185 dX12_next_92 rfl (by decide) (by omega) (fun h92 => ?_) (fun h92 => ?_)
          · refine ez_iload_n 186 dX12_next_185 rfl rfl ?_
            refine ez_i2l 187 dX12_next_186 rfl ?_
            refine ez_ldc2 190 dX12_next_187 rfl 48 cn_X12_150 ?_
            refine ez_topL (nI 48).toInt64 (by decide) ?_
            refine ez_ldc2 193 dX12_next_190 rfl 57 cn_X12_280 ?_
            refine ez_topL (nI 57).toInt64 (by decide) ?_
            refine ez_callS 196 [eL ((nI (b q)).toInt64), eL ((nI 48).toInt64), eL ((nI 57).toInt64)] [] dX12_next_193 rfl rfl ok_X12_in st_X12_in ln_X12_133 (by omega) (Nat.le_of_ble_eq_true rfl) (c_in_x g (d - 1) (b q) 48 57 (ez_st (ez_st M1 12 0 24 (nI q)) 12 0 23 (nI 4)) (by omega) (by omega) (by omega) (by omega)) (fun r193 M193 q193 => ?_)
            obtain ⟨rfl, e193⟩ := q193
            rw [e193]
            show Ez (true, g) mX12_next d 196 [(1, eI (nI (b q))), (0, eR 12 0)] [eI (nI 0)] (ez_st (ez_st M1 12 0 24 (nI q)) 12 0 23 (nI 4)) _
            refine ez_nif_eq 199 303 dX12_next_196 rfl (by decide) (by omega) (fun h196 => ?_) (fun h196 => ?_)
            · refine ez_iload_n 304 dX12_next_303 rfl rfl ?_
              refine ez_bipush 306 dX12_next_304 rfl (nI 40) (by decide) ?_
              refine ez_ncmp_eq 309 351 dX12_next_306 rfl (by decide) (by omega) (by omega) (fun h306 => ?_) (fun h306 => ?_)
              · refine ez_aload_n 352 dX12_next_351 rfl rfl ?_
                refine ez_iconst 353 dX12_next_352 rfl (nI 3) (by decide) ?_
                refine ez_putf 356 .int dX12_next_353 rfl fp_X12_265 (by show 0 < 1; omega) rfl (by decide) rfl rfl ?_
                refine ez_aload_n 357 dX12_next_356 rfl rfl ?_
                refine ez_iload_n 358 dX12_next_357 rfl rfl ?_
                refine ez_i2l 359 dX12_next_358 rfl ?_
                refine ez_putL 362 dX12_next_359 rfl fp_X12_270 (by show 0 < 1; omega) ?_
                refine ez_aload_n 363 dX12_next_362 rfl rfl ?_
                refine ez_dup 364 dX12_next_363 rfl rfl ?_
                refine ez_getf 367 (eI (M1.1 12 0 26)) dX12_next_364 rfl fl_X12_256 (by show 0 < 1; omega) rfl ?_
                refine ez_top (nI q) hh ?_
                refine ez_iconst 368 dX12_next_367 rfl (nI 1) (by decide) ?_
                refine ez_iadd 369 dX12_next_368 rfl ?_
                refine ez_top (nI (q + 1)) (nI_add _ _) ?_
                refine ez_putf 372 .int dX12_next_369 rfl fp_X12_256 (by show 0 < 1; omega) rfl (by decide) rfl rfl ?_
                refine ez_vret dX12_next_372 rfl ?_
                have eS := ep_MTk_s (M := (ez_st (ez_stL (ez_st (ez_st (ez_st M1 12 0 24 (nI q)) 12 0 23 (nI 4)) 12 0 23 (nI 3)) 12 0 25 ((nI (b q)).toInt64)) 12 0 26 (nI (q + 1)))) hqn hs (by simp [ez_rd, ez_rdL1, ez_rd2]) (by simp [ez_rdL, ez_rd2])
                exact ⟨rfl, hF.tr (((((MF.rf.tr (MF.s (by decide))).tr (MF.s (by decide))).tr (MF.s (by decide))).tr MF.sL).tr (MF.s (by decide))), eS.1, by simp [ez_rd, ez_rdL1, ez_rd2], by rw [eS.2]; simp [ez_rd, ez_rdL1, ez_rd2], by simp [ez_rd, ez_rdL1, ez_rd2, ho], by simp [ez_rd, ez_rdL1, ez_rd2, hbad]⟩
              · refine ez_iload_n 310 dX12_next_309 rfl rfl ?_
                refine ez_bipush 312 dX12_next_310 rfl (nI 41) (by decide) ?_
                refine ez_ncmp_eq 315 351 dX12_next_312 rfl (by decide) (by omega) (by omega) (fun h312 => ?_) (fun h312 => ?_)
                · refine ez_aload_n 352 dX12_next_351 rfl rfl ?_
                  refine ez_iconst 353 dX12_next_352 rfl (nI 3) (by decide) ?_
                  refine ez_putf 356 .int dX12_next_353 rfl fp_X12_265 (by show 0 < 1; omega) rfl (by decide) rfl rfl ?_
                  refine ez_aload_n 357 dX12_next_356 rfl rfl ?_
                  refine ez_iload_n 358 dX12_next_357 rfl rfl ?_
                  refine ez_i2l 359 dX12_next_358 rfl ?_
                  refine ez_putL 362 dX12_next_359 rfl fp_X12_270 (by show 0 < 1; omega) ?_
                  refine ez_aload_n 363 dX12_next_362 rfl rfl ?_
                  refine ez_dup 364 dX12_next_363 rfl rfl ?_
                  refine ez_getf 367 (eI (M1.1 12 0 26)) dX12_next_364 rfl fl_X12_256 (by show 0 < 1; omega) rfl ?_
                  refine ez_top (nI q) hh ?_
                  refine ez_iconst 368 dX12_next_367 rfl (nI 1) (by decide) ?_
                  refine ez_iadd 369 dX12_next_368 rfl ?_
                  refine ez_top (nI (q + 1)) (nI_add _ _) ?_
                  refine ez_putf 372 .int dX12_next_369 rfl fp_X12_256 (by show 0 < 1; omega) rfl (by decide) rfl rfl ?_
                  refine ez_vret dX12_next_372 rfl ?_
                  have eS := ep_MTk_s (M := (ez_st (ez_stL (ez_st (ez_st (ez_st M1 12 0 24 (nI q)) 12 0 23 (nI 4)) 12 0 23 (nI 3)) 12 0 25 ((nI (b q)).toInt64)) 12 0 26 (nI (q + 1)))) hqn hs (by simp [ez_rd, ez_rdL1, ez_rd2]) (by simp [ez_rdL, ez_rd2])
                  exact ⟨rfl, hF.tr (((((MF.rf.tr (MF.s (by decide))).tr (MF.s (by decide))).tr (MF.s (by decide))).tr MF.sL).tr (MF.s (by decide))), eS.1, by simp [ez_rd, ez_rdL1, ez_rd2], by rw [eS.2]; simp [ez_rd, ez_rdL1, ez_rd2], by simp [ez_rd, ez_rdL1, ez_rd2, ho], by simp [ez_rd, ez_rdL1, ez_rd2, hbad]⟩
                · refine ez_iload_n 316 dX12_next_315 rfl rfl ?_
                  refine ez_bipush 318 dX12_next_316 rfl (nI 59) (by decide) ?_
                  refine ez_ncmp_eq 321 351 dX12_next_318 rfl (by decide) (by omega) (by omega) (fun h318 => ?_) (fun h318 => ?_)
                  · refine ez_aload_n 352 dX12_next_351 rfl rfl ?_
                    refine ez_iconst 353 dX12_next_352 rfl (nI 3) (by decide) ?_
                    refine ez_putf 356 .int dX12_next_353 rfl fp_X12_265 (by show 0 < 1; omega) rfl (by decide) rfl rfl ?_
                    refine ez_aload_n 357 dX12_next_356 rfl rfl ?_
                    refine ez_iload_n 358 dX12_next_357 rfl rfl ?_
                    refine ez_i2l 359 dX12_next_358 rfl ?_
                    refine ez_putL 362 dX12_next_359 rfl fp_X12_270 (by show 0 < 1; omega) ?_
                    refine ez_aload_n 363 dX12_next_362 rfl rfl ?_
                    refine ez_dup 364 dX12_next_363 rfl rfl ?_
                    refine ez_getf 367 (eI (M1.1 12 0 26)) dX12_next_364 rfl fl_X12_256 (by show 0 < 1; omega) rfl ?_
                    refine ez_top (nI q) hh ?_
                    refine ez_iconst 368 dX12_next_367 rfl (nI 1) (by decide) ?_
                    refine ez_iadd 369 dX12_next_368 rfl ?_
                    refine ez_top (nI (q + 1)) (nI_add _ _) ?_
                    refine ez_putf 372 .int dX12_next_369 rfl fp_X12_256 (by show 0 < 1; omega) rfl (by decide) rfl rfl ?_
                    refine ez_vret dX12_next_372 rfl ?_
                    have eS := ep_MTk_s (M := (ez_st (ez_stL (ez_st (ez_st (ez_st M1 12 0 24 (nI q)) 12 0 23 (nI 4)) 12 0 23 (nI 3)) 12 0 25 ((nI (b q)).toInt64)) 12 0 26 (nI (q + 1)))) hqn hs (by simp [ez_rd, ez_rdL1, ez_rd2]) (by simp [ez_rdL, ez_rd2])
                    exact ⟨rfl, hF.tr (((((MF.rf.tr (MF.s (by decide))).tr (MF.s (by decide))).tr (MF.s (by decide))).tr MF.sL).tr (MF.s (by decide))), eS.1, by simp [ez_rd, ez_rdL1, ez_rd2], by rw [eS.2]; simp [ez_rd, ez_rdL1, ez_rd2], by simp [ez_rd, ez_rdL1, ez_rd2, ho], by simp [ez_rd, ez_rdL1, ez_rd2, hbad]⟩
                  · refine ez_iload_n 322 dX12_next_321 rfl rfl ?_
                    refine ez_bipush 324 dX12_next_322 rfl (nI 43) (by decide) ?_
                    refine ez_ncmp_eq 327 351 dX12_next_324 rfl (by decide) (by omega) (by omega) (fun h324 => ?_) (fun h324 => ?_)
                    · refine ez_aload_n 352 dX12_next_351 rfl rfl ?_
                      refine ez_iconst 353 dX12_next_352 rfl (nI 3) (by decide) ?_
                      refine ez_putf 356 .int dX12_next_353 rfl fp_X12_265 (by show 0 < 1; omega) rfl (by decide) rfl rfl ?_
                      refine ez_aload_n 357 dX12_next_356 rfl rfl ?_
                      refine ez_iload_n 358 dX12_next_357 rfl rfl ?_
                      refine ez_i2l 359 dX12_next_358 rfl ?_
                      refine ez_putL 362 dX12_next_359 rfl fp_X12_270 (by show 0 < 1; omega) ?_
                      refine ez_aload_n 363 dX12_next_362 rfl rfl ?_
                      refine ez_dup 364 dX12_next_363 rfl rfl ?_
                      refine ez_getf 367 (eI (M1.1 12 0 26)) dX12_next_364 rfl fl_X12_256 (by show 0 < 1; omega) rfl ?_
                      refine ez_top (nI q) hh ?_
                      refine ez_iconst 368 dX12_next_367 rfl (nI 1) (by decide) ?_
                      refine ez_iadd 369 dX12_next_368 rfl ?_
                      refine ez_top (nI (q + 1)) (nI_add _ _) ?_
                      refine ez_putf 372 .int dX12_next_369 rfl fp_X12_256 (by show 0 < 1; omega) rfl (by decide) rfl rfl ?_
                      refine ez_vret dX12_next_372 rfl ?_
                      have eS := ep_MTk_s (M := (ez_st (ez_stL (ez_st (ez_st (ez_st M1 12 0 24 (nI q)) 12 0 23 (nI 4)) 12 0 23 (nI 3)) 12 0 25 ((nI (b q)).toInt64)) 12 0 26 (nI (q + 1)))) hqn hs (by simp [ez_rd, ez_rdL1, ez_rd2]) (by simp [ez_rdL, ez_rd2])
                      exact ⟨rfl, hF.tr (((((MF.rf.tr (MF.s (by decide))).tr (MF.s (by decide))).tr (MF.s (by decide))).tr MF.sL).tr (MF.s (by decide))), eS.1, by simp [ez_rd, ez_rdL1, ez_rd2], by rw [eS.2]; simp [ez_rd, ez_rdL1, ez_rd2], by simp [ez_rd, ez_rdL1, ez_rd2, ho], by simp [ez_rd, ez_rdL1, ez_rd2, hbad]⟩
                    · refine ez_iload_n 328 dX12_next_327 rfl rfl ?_
                      refine ez_bipush 330 dX12_next_328 rfl (nI 45) (by decide) ?_
                      refine ez_ncmp_eq 333 351 dX12_next_330 rfl (by decide) (by omega) (by omega) (fun h330 => ?_) (fun h330 => ?_)
                      · refine ez_aload_n 352 dX12_next_351 rfl rfl ?_
                        refine ez_iconst 353 dX12_next_352 rfl (nI 3) (by decide) ?_
                        refine ez_putf 356 .int dX12_next_353 rfl fp_X12_265 (by show 0 < 1; omega) rfl (by decide) rfl rfl ?_
                        refine ez_aload_n 357 dX12_next_356 rfl rfl ?_
                        refine ez_iload_n 358 dX12_next_357 rfl rfl ?_
                        refine ez_i2l 359 dX12_next_358 rfl ?_
                        refine ez_putL 362 dX12_next_359 rfl fp_X12_270 (by show 0 < 1; omega) ?_
                        refine ez_aload_n 363 dX12_next_362 rfl rfl ?_
                        refine ez_dup 364 dX12_next_363 rfl rfl ?_
                        refine ez_getf 367 (eI (M1.1 12 0 26)) dX12_next_364 rfl fl_X12_256 (by show 0 < 1; omega) rfl ?_
                        refine ez_top (nI q) hh ?_
                        refine ez_iconst 368 dX12_next_367 rfl (nI 1) (by decide) ?_
                        refine ez_iadd 369 dX12_next_368 rfl ?_
                        refine ez_top (nI (q + 1)) (nI_add _ _) ?_
                        refine ez_putf 372 .int dX12_next_369 rfl fp_X12_256 (by show 0 < 1; omega) rfl (by decide) rfl rfl ?_
                        refine ez_vret dX12_next_372 rfl ?_
                        have eS := ep_MTk_s (M := (ez_st (ez_stL (ez_st (ez_st (ez_st M1 12 0 24 (nI q)) 12 0 23 (nI 4)) 12 0 23 (nI 3)) 12 0 25 ((nI (b q)).toInt64)) 12 0 26 (nI (q + 1)))) hqn hs (by simp [ez_rd, ez_rdL1, ez_rd2]) (by simp [ez_rdL, ez_rd2])
                        exact ⟨rfl, hF.tr (((((MF.rf.tr (MF.s (by decide))).tr (MF.s (by decide))).tr (MF.s (by decide))).tr MF.sL).tr (MF.s (by decide))), eS.1, by simp [ez_rd, ez_rdL1, ez_rd2], by rw [eS.2]; simp [ez_rd, ez_rdL1, ez_rd2], by simp [ez_rd, ez_rdL1, ez_rd2, ho], by simp [ez_rd, ez_rdL1, ez_rd2, hbad]⟩
                      · refine ez_iload_n 334 dX12_next_333 rfl rfl ?_
                        refine ez_bipush 336 dX12_next_334 rfl (nI 42) (by decide) ?_
                        refine ez_ncmp_eq 339 351 dX12_next_336 rfl (by decide) (by omega) (by omega) (fun h336 => ?_) (fun h336 => ?_)
                        · refine ez_aload_n 352 dX12_next_351 rfl rfl ?_
                          refine ez_iconst 353 dX12_next_352 rfl (nI 3) (by decide) ?_
                          refine ez_putf 356 .int dX12_next_353 rfl fp_X12_265 (by show 0 < 1; omega) rfl (by decide) rfl rfl ?_
                          refine ez_aload_n 357 dX12_next_356 rfl rfl ?_
                          refine ez_iload_n 358 dX12_next_357 rfl rfl ?_
                          refine ez_i2l 359 dX12_next_358 rfl ?_
                          refine ez_putL 362 dX12_next_359 rfl fp_X12_270 (by show 0 < 1; omega) ?_
                          refine ez_aload_n 363 dX12_next_362 rfl rfl ?_
                          refine ez_dup 364 dX12_next_363 rfl rfl ?_
                          refine ez_getf 367 (eI (M1.1 12 0 26)) dX12_next_364 rfl fl_X12_256 (by show 0 < 1; omega) rfl ?_
                          refine ez_top (nI q) hh ?_
                          refine ez_iconst 368 dX12_next_367 rfl (nI 1) (by decide) ?_
                          refine ez_iadd 369 dX12_next_368 rfl ?_
                          refine ez_top (nI (q + 1)) (nI_add _ _) ?_
                          refine ez_putf 372 .int dX12_next_369 rfl fp_X12_256 (by show 0 < 1; omega) rfl (by decide) rfl rfl ?_
                          refine ez_vret dX12_next_372 rfl ?_
                          have eS := ep_MTk_s (M := (ez_st (ez_stL (ez_st (ez_st (ez_st M1 12 0 24 (nI q)) 12 0 23 (nI 4)) 12 0 23 (nI 3)) 12 0 25 ((nI (b q)).toInt64)) 12 0 26 (nI (q + 1)))) hqn hs (by simp [ez_rd, ez_rdL1, ez_rd2]) (by simp [ez_rdL, ez_rd2])
                          exact ⟨rfl, hF.tr (((((MF.rf.tr (MF.s (by decide))).tr (MF.s (by decide))).tr (MF.s (by decide))).tr MF.sL).tr (MF.s (by decide))), eS.1, by simp [ez_rd, ez_rdL1, ez_rd2], by rw [eS.2]; simp [ez_rd, ez_rdL1, ez_rd2], by simp [ez_rd, ez_rdL1, ez_rd2, ho], by simp [ez_rd, ez_rdL1, ez_rd2, hbad]⟩
                        · refine ez_iload_n 340 dX12_next_339 rfl rfl ?_
                          refine ez_bipush 342 dX12_next_340 rfl (nI 60) (by decide) ?_
                          refine ez_ncmp_eq 345 351 dX12_next_342 rfl (by decide) (by omega) (by omega) (fun h342 => ?_) (fun h342 => ?_)
                          · refine ez_aload_n 352 dX12_next_351 rfl rfl ?_
                            refine ez_iconst 353 dX12_next_352 rfl (nI 3) (by decide) ?_
                            refine ez_putf 356 .int dX12_next_353 rfl fp_X12_265 (by show 0 < 1; omega) rfl (by decide) rfl rfl ?_
                            refine ez_aload_n 357 dX12_next_356 rfl rfl ?_
                            refine ez_iload_n 358 dX12_next_357 rfl rfl ?_
                            refine ez_i2l 359 dX12_next_358 rfl ?_
                            refine ez_putL 362 dX12_next_359 rfl fp_X12_270 (by show 0 < 1; omega) ?_
                            refine ez_aload_n 363 dX12_next_362 rfl rfl ?_
                            refine ez_dup 364 dX12_next_363 rfl rfl ?_
                            refine ez_getf 367 (eI (M1.1 12 0 26)) dX12_next_364 rfl fl_X12_256 (by show 0 < 1; omega) rfl ?_
                            refine ez_top (nI q) hh ?_
                            refine ez_iconst 368 dX12_next_367 rfl (nI 1) (by decide) ?_
                            refine ez_iadd 369 dX12_next_368 rfl ?_
                            refine ez_top (nI (q + 1)) (nI_add _ _) ?_
                            refine ez_putf 372 .int dX12_next_369 rfl fp_X12_256 (by show 0 < 1; omega) rfl (by decide) rfl rfl ?_
                            refine ez_vret dX12_next_372 rfl ?_
                            have eS := ep_MTk_s (M := (ez_st (ez_stL (ez_st (ez_st (ez_st M1 12 0 24 (nI q)) 12 0 23 (nI 4)) 12 0 23 (nI 3)) 12 0 25 ((nI (b q)).toInt64)) 12 0 26 (nI (q + 1)))) hqn hs (by simp [ez_rd, ez_rdL1, ez_rd2]) (by simp [ez_rdL, ez_rd2])
                            exact ⟨rfl, hF.tr (((((MF.rf.tr (MF.s (by decide))).tr (MF.s (by decide))).tr (MF.s (by decide))).tr MF.sL).tr (MF.s (by decide))), eS.1, by simp [ez_rd, ez_rdL1, ez_rd2], by rw [eS.2]; simp [ez_rd, ez_rdL1, ez_rd2], by simp [ez_rd, ez_rdL1, ez_rd2, ho], by simp [ez_rd, ez_rdL1, ez_rd2, hbad]⟩
                          · refine ez_iload_n 346 dX12_next_345 rfl rfl ?_
                            refine ez_bipush 348 dX12_next_346 rfl (nI 61) (by decide) ?_
                            refine ez_ncmp_ne 351 372 dX12_next_348 rfl (by decide) (by omega) (by omega) (fun h348 => ?_) (fun h348 => ?_)
                            · exfalso; omega
                            · refine ez_aload_n 352 dX12_next_351 rfl rfl ?_
                              refine ez_iconst 353 dX12_next_352 rfl (nI 3) (by decide) ?_
                              refine ez_putf 356 .int dX12_next_353 rfl fp_X12_265 (by show 0 < 1; omega) rfl (by decide) rfl rfl ?_
                              refine ez_aload_n 357 dX12_next_356 rfl rfl ?_
                              refine ez_iload_n 358 dX12_next_357 rfl rfl ?_
                              refine ez_i2l 359 dX12_next_358 rfl ?_
                              refine ez_putL 362 dX12_next_359 rfl fp_X12_270 (by show 0 < 1; omega) ?_
                              refine ez_aload_n 363 dX12_next_362 rfl rfl ?_
                              refine ez_dup 364 dX12_next_363 rfl rfl ?_
                              refine ez_getf 367 (eI (M1.1 12 0 26)) dX12_next_364 rfl fl_X12_256 (by show 0 < 1; omega) rfl ?_
                              refine ez_top (nI q) hh ?_
                              refine ez_iconst 368 dX12_next_367 rfl (nI 1) (by decide) ?_
                              refine ez_iadd 369 dX12_next_368 rfl ?_
                              refine ez_top (nI (q + 1)) (nI_add _ _) ?_
                              refine ez_putf 372 .int dX12_next_369 rfl fp_X12_256 (by show 0 < 1; omega) rfl (by decide) rfl rfl ?_
                              refine ez_vret dX12_next_372 rfl ?_
                              have eS := ep_MTk_s (M := (ez_st (ez_stL (ez_st (ez_st (ez_st M1 12 0 24 (nI q)) 12 0 23 (nI 4)) 12 0 23 (nI 3)) 12 0 25 ((nI (b q)).toInt64)) 12 0 26 (nI (q + 1)))) hqn hs (by simp [ez_rd, ez_rdL1, ez_rd2]) (by simp [ez_rdL, ez_rd2])
                              exact ⟨rfl, hF.tr (((((MF.rf.tr (MF.s (by decide))).tr (MF.s (by decide))).tr (MF.s (by decide))).tr MF.sL).tr (MF.s (by decide))), eS.1, by simp [ez_rd, ez_rdL1, ez_rd2], by rw [eS.2]; simp [ez_rd, ez_rdL1, ez_rd2], by simp [ez_rd, ez_rdL1, ez_rd2, ho], by simp [ez_rd, ez_rdL1, ez_rd2, hbad]⟩
            · exact absurd h196 (by decide)
          · exact absurd h92 (by decide)
        · refine ez_aload_n 40 dX12_next_39 rfl rfl ?_
          refine ez_aload_n 41 dX12_next_40 rfl rfl ?_
          refine ez_getf 44 (eI (M1.1 12 0 26)) dX12_next_41 rfl fl_X12_256 (by show 0 < 1; omega) rfl ?_
          refine ez_top (nI q) hh ?_
          refine ez_putf 47 .int dX12_next_44 rfl fp_X12_262 (by show 0 < 1; omega) rfl (by decide) rfl rfl ?_
          refine ez_aload_n 48 dX12_next_47 rfl rfl ?_
          refine ez_aload_n 49 dX12_next_48 rfl rfl ?_
          refine ez_getf 52 (eI (M1.1 12 0 26)) dX12_next_49 rfl fl_X12_256 (by show 0 < 1; omega) rfl ?_
          refine ez_top (nI q) hh ?_
          refine ez_callV 55 [eI (nI q)] [] dX12_next_52 rfl rfl ok_X12_byteAt in_X12_byteAt (by decide) (by show 0 < 1; omega) ln_X12_259 (by omega) (Nat.le_of_ble_eq_true rfl) (c_byt_i g (d - 1) q (ez_st M1 12 0 24 (nI q)) (hX.mf (MF.rf.tr (MF.s (by decide)))) hf hn (by omega)) (fun r52 M52 q52 => ?_)
          obtain ⟨rfl, e52⟩ := q52
          rw [e52]
          show Ez (true, g) mX12_next d 55 [(0, eR 12 0)] [eI (nI (b q))] (ez_st M1 12 0 24 (nI q)) _
          refine ez_istore_n 56 [(1, eI (nI (b q))), (0, eR 12 0)] dX12_next_55 rfl (by decide) rfl ?_
          refine ez_aload_n 57 dX12_next_56 rfl rfl ?_
          refine ez_iconst 58 dX12_next_57 rfl (nI 4) (by decide) ?_
          refine ez_putf 61 .int dX12_next_58 rfl fp_X12_265 (by show 0 < 1; omega) rfl (by decide) rfl rfl ?_
          refine ez_iload_n 62 dX12_next_61 rfl rfl ?_
          refine ez_nif_ge 81 dX12_next_62 (by decide) (by omega) ?_
          refine ez_iload_n 82 dX12_next_81 rfl rfl ?_
          refine ez_i2l 83 dX12_next_82 rfl ?_
          refine ez_ldc2 86 dX12_next_83 rfl 97 cn_X12_148 ?_
          refine ez_topL (nI 97).toInt64 (by decide) ?_
          refine ez_ldc2 89 dX12_next_86 rfl 122 cn_X12_268 ?_
          refine ez_topL (nI 122).toInt64 (by decide) ?_
          refine ez_callS 92 [eL ((nI (b q)).toInt64), eL ((nI 97).toInt64), eL ((nI 122).toInt64)] [] dX12_next_89 rfl rfl ok_X12_in st_X12_in ln_X12_133 (by omega) (Nat.le_of_ble_eq_true rfl) (c_in_x g (d - 1) (b q) 97 122 (ez_st (ez_st M1 12 0 24 (nI q)) 12 0 23 (nI 4)) (by omega) (by omega) (by omega) (by omega)) (fun r89 M89 q89 => ?_)
          obtain ⟨rfl, e89⟩ := q89
          rw [e89]
          show Ez (true, g) mX12_next d 92 [(1, eI (nI (b q))), (0, eR 12 0)] [eI (nI 0)] (ez_st (ez_st M1 12 0 24 (nI q)) 12 0 23 (nI 4)) _
          refine ez_nif_eq 95 185 dX12_next_92 rfl (by decide) (by omega) (fun h92 => ?_) (fun h92 => ?_)
          · refine ez_iload_n 186 dX12_next_185 rfl rfl ?_
            refine ez_i2l 187 dX12_next_186 rfl ?_
            refine ez_ldc2 190 dX12_next_187 rfl 48 cn_X12_150 ?_
            refine ez_topL (nI 48).toInt64 (by decide) ?_
            refine ez_ldc2 193 dX12_next_190 rfl 57 cn_X12_280 ?_
            refine ez_topL (nI 57).toInt64 (by decide) ?_
            refine ez_callS 196 [eL ((nI (b q)).toInt64), eL ((nI 48).toInt64), eL ((nI 57).toInt64)] [] dX12_next_193 rfl rfl ok_X12_in st_X12_in ln_X12_133 (by omega) (Nat.le_of_ble_eq_true rfl) (c_in_x g (d - 1) (b q) 48 57 (ez_st (ez_st M1 12 0 24 (nI q)) 12 0 23 (nI 4)) (by omega) (by omega) (by omega) (by omega)) (fun r193 M193 q193 => ?_)
            obtain ⟨rfl, e193⟩ := q193
            rw [e193]
            show Ez (true, g) mX12_next d 196 [(1, eI (nI (b q))), (0, eR 12 0)] [eI (nI 0)] (ez_st (ez_st M1 12 0 24 (nI q)) 12 0 23 (nI 4)) _
            refine ez_nif_eq 199 303 dX12_next_196 rfl (by decide) (by omega) (fun h196 => ?_) (fun h196 => ?_)
            · refine ez_iload_n 304 dX12_next_303 rfl rfl ?_
              refine ez_bipush 306 dX12_next_304 rfl (nI 40) (by decide) ?_
              refine ez_ncmp_eq 309 351 dX12_next_306 rfl (by decide) (by omega) (by omega) (fun h306 => ?_) (fun h306 => ?_)
              · exact absurd (by simp [ep_sg, h306]) hs
              · refine ez_iload_n 310 dX12_next_309 rfl rfl ?_
                refine ez_bipush 312 dX12_next_310 rfl (nI 41) (by decide) ?_
                refine ez_ncmp_eq 315 351 dX12_next_312 rfl (by decide) (by omega) (by omega) (fun h312 => ?_) (fun h312 => ?_)
                · exact absurd (by simp [ep_sg, h312]) hs
                · refine ez_iload_n 316 dX12_next_315 rfl rfl ?_
                  refine ez_bipush 318 dX12_next_316 rfl (nI 59) (by decide) ?_
                  refine ez_ncmp_eq 321 351 dX12_next_318 rfl (by decide) (by omega) (by omega) (fun h318 => ?_) (fun h318 => ?_)
                  · exact absurd (by simp [ep_sg, h318]) hs
                  · refine ez_iload_n 322 dX12_next_321 rfl rfl ?_
                    refine ez_bipush 324 dX12_next_322 rfl (nI 43) (by decide) ?_
                    refine ez_ncmp_eq 327 351 dX12_next_324 rfl (by decide) (by omega) (by omega) (fun h324 => ?_) (fun h324 => ?_)
                    · exact absurd (by simp [ep_sg, h324]) hs
                    · refine ez_iload_n 328 dX12_next_327 rfl rfl ?_
                      refine ez_bipush 330 dX12_next_328 rfl (nI 45) (by decide) ?_
                      refine ez_ncmp_eq 333 351 dX12_next_330 rfl (by decide) (by omega) (by omega) (fun h330 => ?_) (fun h330 => ?_)
                      · exact absurd (by simp [ep_sg, h330]) hs
                      · refine ez_iload_n 334 dX12_next_333 rfl rfl ?_
                        refine ez_bipush 336 dX12_next_334 rfl (nI 42) (by decide) ?_
                        refine ez_ncmp_eq 339 351 dX12_next_336 rfl (by decide) (by omega) (by omega) (fun h336 => ?_) (fun h336 => ?_)
                        · exact absurd (by simp [ep_sg, h336]) hs
                        · refine ez_iload_n 340 dX12_next_339 rfl rfl ?_
                          refine ez_bipush 342 dX12_next_340 rfl (nI 60) (by decide) ?_
                          refine ez_ncmp_eq 345 351 dX12_next_342 rfl (by decide) (by omega) (by omega) (fun h342 => ?_) (fun h342 => ?_)
                          · exact absurd (by simp [ep_sg, h342]) hs
                          · refine ez_iload_n 346 dX12_next_345 rfl rfl ?_
                            refine ez_bipush 348 dX12_next_346 rfl (nI 61) (by decide) ?_
                            refine ez_ncmp_ne 351 372 dX12_next_348 rfl (by decide) (by omega) (by omega) (fun h348 => ?_) (fun h348 => ?_)
                            · refine ez_vret dX12_next_372 rfl ?_
                              have eS := ep_MTk_x (M := (ez_st (ez_st M1 12 0 24 (nI q)) 12 0 23 (nI 4))) hqn hl hdg hs (by simp [ez_rd, ez_rdL1, ez_rd2])
                              exact ⟨rfl, hF.tr ((MF.rf.tr (MF.s (by decide))).tr (MF.s (by decide))), eS.1, by simp [ez_rd, ez_rdL1, ez_rd2], by rw [eS.2]; simp [ez_rd, ez_rdL1, ez_rd2, hh], by simp [ez_rd, ez_rdL1, ez_rd2, ho], by simp [ez_rd, ez_rdL1, ez_rd2, hbad]⟩
                            · exact absurd (by simp [ep_sg, h348]) hs
            · exact absurd h196 (by decide)
          · exact absurd h92 (by decide)
  · have eqn : q = n := by omega
    refine ez_aload_n 40 dX12_next_39 rfl rfl ?_
    refine ez_aload_n 41 dX12_next_40 rfl rfl ?_
    refine ez_getf 44 (eI (M1.1 12 0 26)) dX12_next_41 rfl fl_X12_256 (by show 0 < 1; omega) rfl ?_
    refine ez_top (nI q) hh ?_
    refine ez_putf 47 .int dX12_next_44 rfl fp_X12_262 (by show 0 < 1; omega) rfl (by decide) rfl rfl ?_
    refine ez_aload_n 48 dX12_next_47 rfl rfl ?_
    refine ez_aload_n 49 dX12_next_48 rfl rfl ?_
    refine ez_getf 52 (eI (M1.1 12 0 26)) dX12_next_49 rfl fl_X12_256 (by show 0 < 1; omega) rfl ?_
    refine ez_top (nI q) hh ?_
    refine ez_callV 55 [eI (nI q)] [] dX12_next_52 rfl rfl ok_X12_byteAt in_X12_byteAt (by decide) (by show 0 < 1; omega) ln_X12_259 (by omega) (Nat.le_of_ble_eq_true rfl) (c_byt_o g (d - 1) q (ez_st M1 12 0 24 (nI q)) (hX.mf (MF.rf.tr (MF.s (by decide)))) hf hn (by omega) (by omega)) (fun r52 M52 q52 => ?_)
    obtain ⟨rfl, e52⟩ := q52
    rw [e52]
    show Ez (true, g) mX12_next d 55 [(0, eR 12 0)] [eI (-1)] (ez_st M1 12 0 24 (nI q)) _
    refine ez_istore_n 56 [(1, eI (-1)), (0, eR 12 0)] dX12_next_55 rfl (by decide) rfl ?_
    refine ez_aload_n 57 dX12_next_56 rfl rfl ?_
    refine ez_iconst 58 dX12_next_57 rfl (nI 4) (by decide) ?_
    refine ez_putf 61 .int dX12_next_58 rfl fp_X12_265 (by show 0 < 1; omega) rfl (by decide) rfl rfl ?_
    refine ez_iload_n 62 dX12_next_61 rfl rfl ?_
    refine ez_if_ge 65 81 dX12_next_62 rfl (by decide) (fun h62 => ?_) (fun h62 => ?_)
    · exact absurd h62 (by decide)
    · refine ez_aload_n 66 dX12_next_65 rfl rfl ?_
      refine ez_iconst 67 dX12_next_66 rfl (nI 0) (by decide) ?_
      refine ez_putf 70 .int dX12_next_67 rfl fp_X12_265 (by show 0 < 1; omega) rfl (by decide) rfl rfl ?_
      refine ez_aload_n 71 dX12_next_70 rfl rfl ?_
      refine ez_aload_n 72 dX12_next_71 rfl rfl ?_
      refine ez_getf 75 (eI (M1.1 12 0 22)) dX12_next_72 rfl fl_X12_250 (by show 0 < 1; omega) rfl ?_
      refine ez_top (nI n) hX.2.1 ?_
      refine ez_putf 78 .int dX12_next_75 rfl fp_X12_262 (by show 0 < 1; omega) rfl (by decide) rfl rfl ?_
      refine ez_goto 372 dX12_next_78 (by decide) ?_
      refine ez_vret dX12_next_372 rfl ?_
      have eS := ep_MTk_e (b := b) (M := (ez_st (ez_st (ez_st (ez_st M1 12 0 24 (nI q)) 12 0 23 (nI 4)) 12 0 23 (nI 0)) 12 0 24 (nI n))) (Nat.le_of_eq eqn.symm) (by simp [ez_rd, ez_rdL1, ez_rd2])
      exact ⟨rfl, hF.tr ((((MF.rf.tr (MF.s (by decide))).tr (MF.s (by decide))).tr (MF.s (by decide))).tr (MF.s (by decide))), eS.1, by simp [ez_rd, ez_rdL1, ez_rd2, eqn], by rw [eS.2]; simp [ez_rd, ez_rdL1, ez_rd2, hh], by simp [ez_rd, ez_rdL1, ez_rd2, ho], by simp [ez_rd, ez_rdL1, ez_rd2, hbad]⟩
set_option maxRecDepth 20000 in
theorem nx_bl (g : EzH) (d : Nat) {fr n o : Nat} {b : Nat → Nat} {nm : Nat → Int32} (q : Nat) (M : EzM) (hd : 2 ≤ d) (hf : fr ≤ 800) (hn : n ≤ 160) (hb : ∀ i, i < n → b i < 256) : ∀ (z p : Nat) (M1 : EzM), n - p = z → MF M M1 → MX fr n b nm M1 → M1.1 12 0 27 = nI o → M1.1 12 0 28 = nI 0 → p ≤ n → ep_sk b n p = ep_sk b n q → M1.1 12 0 26 = nI p → Ez (true, g) mX12_next d 0 [(0, eR 12 0)] [] M1 (fun r M' => r = none ∧ MF M M' ∧ MTk (ep_tok b n (ep_sk b n q)) M' ∧ M'.1 12 0 24 = nI ((ep_sk b n q)) ∧ M'.1 12 0 26 = nI (ep_en b n (ep_sk b n q)) ∧ M'.1 12 0 27 = nI o ∧ M'.1 12 0 28 = nI 0) := by
  intro z
  induction z using Nat.strongRecOn with
  | ind z ih =>
    intro p M1 hz hF hX ho hbad hp hs hh
    by_cases hpn : p < n
    · have hb2 := hb p hpn
      refine ez_aload_n 1 dX12_next_0 rfl rfl ?_
      refine ez_aload_n 2 dX12_next_1 rfl rfl ?_
      refine ez_getf 5 (eI (M1.1 12 0 26)) dX12_next_2 rfl fl_X12_256 (by show 0 < 1; omega) rfl ?_
      refine ez_top (nI p) hh ?_
      refine ez_callV 8 [eI (nI p)] [] dX12_next_5 rfl rfl ok_X12_byteAt in_X12_byteAt (by decide) (by show 0 < 1; omega) ln_X12_259 (by omega) (Nat.le_of_ble_eq_true rfl) (c_byt_i g (d - 1) p M1 hX hf hn (by omega)) (fun r5 M5 q5 => ?_)
      obtain ⟨rfl, e5⟩ := q5
      rw [e5]
      show Ez (true, g) mX12_next d 8 [(0, eR 12 0)] [eI (nI (b p))] M1 _
      refine ez_bipush 10 dX12_next_8 rfl (nI 32) (by decide) ?_
      refine ez_ncmp_eq 13 26 dX12_next_10 rfl (by decide) (by omega) (by omega) (fun h10 => ?_) (fun h10 => ?_)
      · refine ez_aload_n 27 dX12_next_26 rfl rfl ?_
        refine ez_dup 28 dX12_next_27 rfl rfl ?_
        refine ez_getf 31 (eI (M1.1 12 0 26)) dX12_next_28 rfl fl_X12_256 (by show 0 < 1; omega) rfl ?_
        refine ez_top (nI p) hh ?_
        refine ez_iconst 32 dX12_next_31 rfl (nI 1) (by decide) ?_
        refine ez_iadd 33 dX12_next_32 rfl ?_
        refine ez_top (nI (p + 1)) (nI_add _ _) ?_
        refine ez_putf 36 .int dX12_next_33 rfl fp_X12_256 (by show 0 < 1; omega) rfl (by decide) rfl rfl ?_
        refine ez_goto 0 dX12_next_36 (by decide) ?_
        exact ih (n - (p + 1)) (by omega) (p + 1) _ rfl (hF.tr (MF.rf.tr (MF.s (by decide)))) (hX.mf (MF.rf.tr (MF.s (by decide)))) (by simp [ez_rd, ho]) (by simp [ez_rd, hbad]) (by omega) (by rw [← hs]; exact (ep_run_go hpn (show ep_bl (b p) = true by simp [ep_bl, h10])).symm) (by simp [ez_rd])
      · refine ez_aload_n 14 dX12_next_13 rfl rfl ?_
        refine ez_aload_n 15 dX12_next_14 rfl rfl ?_
        refine ez_getf 18 (eI (M1.1 12 0 26)) dX12_next_15 rfl fl_X12_256 (by show 0 < 1; omega) rfl ?_
        refine ez_top (nI p) hh ?_
        refine ez_callV 21 [eI (nI p)] [] dX12_next_18 rfl rfl ok_X12_byteAt in_X12_byteAt (by decide) (by show 0 < 1; omega) ln_X12_259 (by omega) (Nat.le_of_ble_eq_true rfl) (c_byt_i g (d - 1) p M1 hX hf hn (by omega)) (fun r18 M18 q18 => ?_)
        obtain ⟨rfl, e18⟩ := q18
        rw [e18]
        show Ez (true, g) mX12_next d 21 [(0, eR 12 0)] [eI (nI (b p))] M1 _
        refine ez_bipush 23 dX12_next_21 rfl (nI 10) (by decide) ?_
        refine ez_ncmp_ne 26 39 dX12_next_23 rfl (by decide) (by omega) (by omega) (fun h23 => ?_) (fun h23 => ?_)
        · rw [← hs, show ep_sk b n p = p from ep_run_st (by rintro ⟨_, z9⟩; simp [ep_bl, h10, h23] at z9)]
          exact nx_39 g d p M _ hd hf hn hb hp hF hX ho hbad hh
        · refine ez_aload_n 27 dX12_next_26 rfl rfl ?_
          refine ez_dup 28 dX12_next_27 rfl rfl ?_
          refine ez_getf 31 (eI (M1.1 12 0 26)) dX12_next_28 rfl fl_X12_256 (by show 0 < 1; omega) rfl ?_
          refine ez_top (nI p) hh ?_
          refine ez_iconst 32 dX12_next_31 rfl (nI 1) (by decide) ?_
          refine ez_iadd 33 dX12_next_32 rfl ?_
          refine ez_top (nI (p + 1)) (nI_add _ _) ?_
          refine ez_putf 36 .int dX12_next_33 rfl fp_X12_256 (by show 0 < 1; omega) rfl (by decide) rfl rfl ?_
          refine ez_goto 0 dX12_next_36 (by decide) ?_
          exact ih (n - (p + 1)) (by omega) (p + 1) _ rfl (hF.tr (MF.rf.tr (MF.s (by decide)))) (hX.mf (MF.rf.tr (MF.s (by decide)))) (by simp [ez_rd, ho]) (by simp [ez_rd, hbad]) (by omega) (by rw [← hs]; exact (ep_run_go hpn (show ep_bl (b p) = true by simp [ep_bl, h23])).symm) (by simp [ez_rd])
    · refine ez_aload_n 1 dX12_next_0 rfl rfl ?_
      refine ez_aload_n 2 dX12_next_1 rfl rfl ?_
      refine ez_getf 5 (eI (M1.1 12 0 26)) dX12_next_2 rfl fl_X12_256 (by show 0 < 1; omega) rfl ?_
      refine ez_top (nI p) hh ?_
      refine ez_callV 8 [eI (nI p)] [] dX12_next_5 rfl rfl ok_X12_byteAt in_X12_byteAt (by decide) (by show 0 < 1; omega) ln_X12_259 (by omega) (Nat.le_of_ble_eq_true rfl) (c_byt_o g (d - 1) p M1 hX hf hn (by omega) (by omega)) (fun r5 M5 q5 => ?_)
      obtain ⟨rfl, e5⟩ := q5
      rw [e5]
      show Ez (true, g) mX12_next d 8 [(0, eR 12 0)] [eI (-1)] M1 _
      refine ez_bipush 10 dX12_next_8 rfl (nI 32) (by decide) ?_
      refine ez_icmp_eq 13 26 dX12_next_10 rfl (by decide) (fun h10 => ?_) (fun h10 => ?_)
      · exact absurd h10 (by decide)
      · refine ez_aload_n 14 dX12_next_13 rfl rfl ?_
        refine ez_aload_n 15 dX12_next_14 rfl rfl ?_
        refine ez_getf 18 (eI (M1.1 12 0 26)) dX12_next_15 rfl fl_X12_256 (by show 0 < 1; omega) rfl ?_
        refine ez_top (nI p) hh ?_
        refine ez_callV 21 [eI (nI p)] [] dX12_next_18 rfl rfl ok_X12_byteAt in_X12_byteAt (by decide) (by show 0 < 1; omega) ln_X12_259 (by omega) (Nat.le_of_ble_eq_true rfl) (c_byt_o g (d - 1) p M1 hX hf hn (by omega) (by omega)) (fun r18 M18 q18 => ?_)
        obtain ⟨rfl, e18⟩ := q18
        rw [e18]
        show Ez (true, g) mX12_next d 21 [(0, eR 12 0)] [eI (-1)] M1 _
        refine ez_bipush 23 dX12_next_21 rfl (nI 10) (by decide) ?_
        refine ez_icmp_ne 26 39 dX12_next_23 rfl (by decide) (fun h23 => ?_) (fun h23 => ?_)
        · rw [← hs, show ep_sk b n p = p from ep_run_st (by omega)]
          exact nx_39 g d p M _ hd hf hn hb hp hF hX ho hbad hh
        · exact absurd h23 (by decide)
theorem c_next (g : EzH) (d : Nat) {fr n o : Nat} {b : Nat → Nat} {nm : Nat → Int32} (p : Nat) (M : EzM) (hd : 2 ≤ d) (hf : fr ≤ 800) (hn : n ≤ 160) (hb : ∀ i, i < n → b i < 256) (hX : MX fr n b nm M) (hp : p ≤ n) (hh : M.1 12 0 26 = nI p) (ho : M.1 12 0 27 = nI o) (hbad : M.1 12 0 28 = nI 0) : Ezc (true, g) mX12_next d [eR 12 0] M (fun r M' => r = none ∧ MF M M' ∧ MTk (ep_tok b n (ep_sk b n p)) M' ∧ M'.1 12 0 24 = nI (ep_sk b n p) ∧ M'.1 12 0 26 = nI (ep_en b n (ep_sk b n p)) ∧ M'.1 12 0 27 = nI o ∧ M'.1 12 0 28 = nI 0) := by
  refine Ezc.of (by decide +kernel) (Nat.le_of_ble_eq_true rfl) ?_
  exact nx_bl g d p M hd hf hn hb (n - p) p M rfl MF.rf hX ho hbad hp rfl hh
theorem c_MNx (g : EzH) {fr n N : Nat} {b : Nat → Nat} {nm : Nat → Int32} (hf : fr ≤ 800) (hn : n ≤ 160) (hb : ∀ i, i < n → b i < 256) (hH : HT (ep_tk b n) (ep_pl b n) N) : MNx g (ep_tk b n) (ep_pl b n) (fun k => ep_en b n (ep_pl b n k)) N fr n b nm := by
  intro o k M d hd hG ht
  obtain ⟨a1, a2, a3, a4, a5, a6, a7⟩ := hG
  refine (c_next g d (ep_en b n (ep_pl b n k)) M (by omega) hf hn hb a1 (ep_en_le b (ep_pl_le b n k)).2 a5 a6 a7).wk (fun r M' h => ?_)
  obtain ⟨b1, b2, b3, b4, b5, b6, b7⟩ := h
  exact ⟨b1, b2, a1.mf b2, hH.2.2 k a2 ht, b3, b4, b5, b6, b7⟩
