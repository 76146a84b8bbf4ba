/-! tokenOf, scan, rows copied, a rule's end -/
theorem ep_cpy_fl (f g : Nat → Int32) (n : Nat) : va_cpy f g 0 0 n = ep_fl f g n := by
  funext j
  simp only [va_cpy, ep_fl]
  by_cases h : j < n <;> simp [h]
theorem ep_tok01 {b : Nat → Nat} {n q : Nat} (hq : q ≤ n) (h : ep_tok b n q < 10) : ep_tok b n q = 0 ∨ ep_tok b n q = 1 := by
  unfold ep_tok at h ⊢
  by_cases h0 : n ≤ q
  · rw [if_pos h0]; exact Or.inl rfl
  rw [if_neg h0] at h ⊢
  by_cases h1 : ep_le (b q) = true
  · rw [if_pos h1] at h ⊢
    by_cases h8 : 8 < ep_lE b n q - q
    · rw [if_pos h8]; exact Or.inr rfl
    rw [if_neg h8] at h ⊢
    rcases ep_fc_in (ep_wv b q (ep_lE b n q - q)) with z | ⟨z, _⟩
    · exact Or.inr z
    · omega
  rw [if_neg h1] at h ⊢
  by_cases h2 : ep_di (b q) = true
  · rw [if_pos h2] at h ⊢
    by_cases h4 : 4 < ep_dE b n q - q
    · rw [if_pos h4]; exact Or.inr rfl
    · rw [if_neg h4] at h; omega
  rw [if_neg h2] at h ⊢
  by_cases h3 : ep_sg (b q) = true
  · rw [if_pos h3] at h
    have := ep_sg_in h3
    omega
  · rw [if_neg h3]; exact Or.inr rfl
theorem ep_ed_en {b : Nat → Nat} {n q : Nat} (h : 10 ≤ ep_tok b n q) : ep_ed b n q = ep_en b n q := by
  unfold ep_tok at h
  unfold ep_ed ep_en
  by_cases h0 : n ≤ q
  · rw [if_pos h0] at h; omega
  rw [if_neg h0] at h ⊢
  rw [if_neg h0]
  by_cases h1 : ep_le (b q) = true
  · rw [if_pos h1, if_pos h1]
  rw [if_neg h1] at h
  rw [if_neg h1, if_neg h1]
  by_cases h2 : ep_di (b q) = true
  · rw [if_pos h2, if_pos h2]
  rw [if_neg h2] at h
  rw [if_neg h2, if_neg h2]
  by_cases h3 : ep_sg (b q) = true
  · rw [if_pos h3]
  · rw [if_neg h3] at h; omega
set_option maxRecDepth 20000 in
theorem c_X7_tokenOf (G : EzG) (d : Nat) (n p e : Nat) (b : Nat → Nat) (M : EzM) (hd : 6 ≤ d) (hn : n ≤ 160) (hsz : M.1 7 0 1 = nI n) (hb : ∀ i, i < n → b i < 256 ∧ M.1 13 0 i = ep_sb (b i)) (hp : p ≤ n) (he : e = ep_ed b n p) (he2 : e < 2 ^ 31) : Ezc G mX7_tokenOf d [eR 7 0, eI (nI p), eI (nI e)] M (fun r M' => r = some (eI (nI (ep_tok b n p))) ∧ M' = M) := by
  refine Ezc.of (by decide +kernel) (Nat.le_of_ble_eq_true rfl) ?_
  have hE1 := ep_is2 (ep_by M p)
  show Ez G mX7_tokenOf d 0 [(0, eR 7 0), (1, eI (nI p)), (2, eI (nI e))] [] M _
  refine ez_aload_n 1 dX7_tokenOf_0 rfl rfl ?_
  refine ez_iload_n 2 dX7_tokenOf_1 rfl rfl ?_
  refine ez_callV 5 [eI (nI p)] [] dX7_tokenOf_2 rfl rfl ok_X7_byteAt in_X7_byteAt (by decide) (by show 0 < 1; omega) ln_X7_59 (by omega) (Nat.le_of_ble_eq_true rfl) (c_X7_byteAt G (d - 1) p M (by omega)) (fun r2 M2 q2 => ?_)
  obtain ⟨rfl, e2⟩ := q2
  rw [e2]
  show Ez G mX7_tokenOf d 5 [(0, eR 7 0), (1, eI (nI p)), (2, eI (nI e))] [eI (ep_by M p)] M _
  refine ez_istore_n 6 [(3, eI (ep_by M p)), (0, eR 7 0), (1, eI (nI p)), (2, eI (nI e))] dX7_tokenOf_5 rfl (by decide) rfl ?_
  refine ez_iload_n 7 dX7_tokenOf_6 rfl rfl ?_
  refine ez_aload_n 8 dX7_tokenOf_7 rfl rfl ?_
  refine ez_getf 11 (eI (M.1 7 0 1)) dX7_tokenOf_8 rfl fl_X7_29 (by show 0 < 1; omega) rfl ?_
  refine ez_top (nI n) hsz ?_
  refine ez_ncmp_lt 14 16 dX7_tokenOf_11 rfl (by decide) (by omega) (by omega) (fun h11 => ?_) (fun h11 => ?_)
  · have hpn : p < n := by omega
    have hx := ep_isx (b p) (hb p hpn).1
    have hy := ep_byb hb hn hpn
    refine ez_iload_n 17 dX7_tokenOf_16 rfl rfl ?_
    refine ez_callS 20 [eI (ep_by M p)] [] dX7_tokenOf_17 rfl rfl ok_X7_isLetter st_X7_isLetter ln_X7_74 (by omega) (Nat.le_of_ble_eq_true rfl) (c_X7_isLetter G (d - 1) (ep_by M p) M) (fun r17 M17 q17 => ?_)
    obtain ⟨rfl, e17⟩ := q17
    rw [e17]
    show Ez G mX7_tokenOf d 20 [(3, eI (ep_by M p)), (0, eR 7 0), (1, eI (nI p)), (2, eI (nI e))] [eI (nI (ep_isl (ep_by M p)))] M _
    refine ez_nif_eq 23 30 dX7_tokenOf_20 rfl (by decide) (by omega) (fun h20 => ?_) (fun h20 => ?_)
    · have hle : ¬ ep_le (b p) = true := by
        intro q9
        rw [hy, hx.2.1, if_pos q9] at h20
        omega
      refine ez_iload_n 31 dX7_tokenOf_30 rfl rfl ?_
      refine ez_callS 34 [eI (ep_by M p)] [] dX7_tokenOf_31 rfl rfl ok_X7_isDigit st_X7_isDigit ln_X7_77 (by omega) (Nat.le_of_ble_eq_true rfl) (c_X7_isDigit G (d - 1) (ep_by M p) M) (fun r31 M31 q31 => ?_)
      obtain ⟨rfl, e31⟩ := q31
      rw [e31]
      show Ez G mX7_tokenOf d 34 [(3, eI (ep_by M p)), (0, eR 7 0), (1, eI (nI p)), (2, eI (nI e))] [eI (nI (ep_isd (ep_by M p)))] M _
      refine ez_nif_eq 37 44 dX7_tokenOf_34 rfl (by decide) (by omega) (fun h34 => ?_) (fun h34 => ?_)
      · have hdg : ¬ ep_di (b p) = true := by
          intro q9
          rw [hy, hx.2.2.1, if_pos q9] at h34
          omega
        refine ez_iload_n 45 dX7_tokenOf_44 rfl rfl ?_
        refine ez_callS 48 [eI (ep_by M p)] [] dX7_tokenOf_45 rfl rfl ok_X7_isSign st_X7_isSign ln_X7_86 (by omega) (Nat.le_of_ble_eq_true rfl) (c_X7_isSign G (d - 1) (ep_by M p) M) (fun r45 M45 q45 => ?_)
        obtain ⟨rfl, e45⟩ := q45
        rw [e45]
        show Ez G mX7_tokenOf d 48 [(3, eI (ep_by M p)), (0, eR 7 0), (1, eI (nI p)), (2, eI (nI e))] [eI (nI (ep_iss (ep_by M p)))] M _
        refine ez_nif_eq 51 55 dX7_tokenOf_48 rfl (by decide) (by omega) (fun h48 => ?_) (fun h48 => ?_)
        · refine ez_iconst 56 dX7_tokenOf_55 rfl (nI 1) (by decide) ?_
          refine ez_iret .int dX7_tokenOf_56 rfl rfl ?_
          exact ⟨by unfold ep_tok; rw [if_neg (show ¬ n ≤ p by omega), if_neg hle, if_neg hdg, if_neg (fun q9 => by rw [hy, hx.2.2.2, if_pos q9] at h48; omega)], rfl⟩
        · refine ez_iload_n 52 dX7_tokenOf_51 rfl rfl ?_
          refine ez_goto 56 dX7_tokenOf_52 (by decide) ?_
          refine ez_iret .int dX7_tokenOf_56 rfl rfl ?_
          have hsg : ep_sg (b p) = true := by
            by_cases q9 : ep_sg (b p) = true
            · exact q9
            · rw [hy, hx.2.2.2, if_neg q9] at h48; omega
          exact ⟨by unfold ep_tok; rw [if_neg (show ¬ n ≤ p by omega), if_neg hle, if_neg hdg, if_pos hsg, hy, ep_sbx _ (by have := ep_sg_in hsg; omega)], rfl⟩
      · have hdg : ep_di (b p) = true := by
          by_cases q9 : ep_di (b p) = true
          · exact q9
          · rw [hy, hx.2.2.1, if_neg q9] at h34; omega
        have hE : e = ep_dE b n p := by rw [he]; unfold ep_ed; rw [if_neg (by omega), if_neg hle, if_pos hdg]
        have hr := ep_run_in (fun i => ep_di (b i)) hp
        have hr1 : p ≤ e := by rw [hE]; exact hr.1
        have hr2 : e ≤ n := by rw [hE]; exact hr.2.1
        have hdd : ∀ i, p ≤ i → i < e → 48 ≤ b i ∧ b i ≤ 57 := fun i h1 h2 => ep_di_in.mp (hr.2.2.1 i h1 (by rw [hE] at h2; exact h2))
        have hby : ∀ i, p ≤ i → i < e → ep_by M i = nI (b i) := fun i h1 h2 => by rw [ep_byb hb hn (by omega), ep_sbx _ (by have := (hdd i h1 h2).2; omega)]
        refine ez_aload_n 38 dX7_tokenOf_37 rfl rfl ?_
        refine ez_iload_n 39 dX7_tokenOf_38 rfl rfl ?_
        refine ez_iload_n 40 dX7_tokenOf_39 rfl rfl ?_
        refine ez_callV 43 [eI (nI p), eI (nI e)] [] dX7_tokenOf_40 rfl rfl ok_X7_numeralOf in_X7_numeralOf (by decide) (by show 0 < 1; omega) ln_X7_83 (by omega) (Nat.le_of_ble_eq_true rfl) (c_X7_numeralOf G (d - 1) n p e b M (by omega) hn (by omega) (by omega) hdd hby) (fun r40 M40 q40 => ?_)
        obtain ⟨rfl, e40⟩ := q40
        rw [e40]
        show Ez G mX7_tokenOf d 43 [(3, eI (ep_by M p)), (0, eR 7 0), (1, eI (nI p)), (2, eI (nI e))] [eI (nI (if 4 < e - p then 1 else 1000 + ep_dv b p (e - p)))] M _
        refine ez_iret .int dX7_tokenOf_43 rfl rfl ?_
        exact ⟨by unfold ep_tok; rw [if_neg (show ¬ n ≤ p by omega), if_neg hle, if_pos hdg, ← hE], rfl⟩
    · have hle : ep_le (b p) = true := by
        by_cases q9 : ep_le (b p) = true
        · exact q9
        · rw [hy, hx.2.1, if_neg q9] at h20; omega
      have hE : e = ep_lE b n p := by rw [he]; unfold ep_ed; rw [if_neg (by omega), if_pos hle]
      have hr := ep_run_in (fun i => ep_le (b i)) hp
      have hr1 : p ≤ e := by rw [hE]; exact hr.1
      have hr2 : e ≤ n := by rw [hE]; exact hr.2.1
      have hr3 : ∀ i, p ≤ i → i < e → 97 ≤ b i ∧ b i ≤ 122 := fun i h1 h2 => ep_le_in.mp (hr.2.2.1 i h1 (by rw [hE] at h2; exact h2))
      have hby : ∀ i, p ≤ i → i < e → ep_by M i = nI (b i) := fun i h1 h2 => by rw [ep_byb hb hn (by omega), ep_sbx _ (by have := (hr3 i h1 h2).2; omega)]
      have hll : ∀ i, i < e - p → 97 ≤ b (p + i) ∧ b (p + i) ≤ 122 := fun i hi => hr3 _ (by omega) (by omega)
      refine ez_aload_n 24 dX7_tokenOf_23 rfl rfl ?_
      refine ez_iload_n 25 dX7_tokenOf_24 rfl rfl ?_
      refine ez_iload_n 26 dX7_tokenOf_25 rfl rfl ?_
      refine ez_callV 29 [eI (nI p), eI (nI e)] [] dX7_tokenOf_26 rfl rfl ok_X7_wordOf in_X7_wordOf (by decide) (by show 0 < 1; omega) ln_X7_80 (by omega) (Nat.le_of_ble_eq_true rfl) (c_X7_wordOf G (d - 1) n p e b M (by omega) hn (by omega) (by omega) hby hll) (fun r26 M26 q26 => ?_)
      obtain ⟨rfl, e26⟩ := q26
      rw [e26]
      show Ez G mX7_tokenOf d 29 [(3, eI (ep_by M p)), (0, eR 7 0), (1, eI (nI p)), (2, eI (nI e))] [eI (nI (if 8 < e - p then 1 else ep_fc (ep_wv b p (e - p))))] M _
      refine ez_iret .int dX7_tokenOf_29 rfl rfl ?_
      exact ⟨by unfold ep_tok; rw [if_neg (show ¬ n ≤ p by omega), if_pos hle, ← hE], rfl⟩
  · refine ez_iconst 15 dX7_tokenOf_14 rfl (nI 0) (by decide) ?_
    refine ez_iret .int dX7_tokenOf_15 rfl rfl ?_
    exact ⟨by unfold ep_tok; rw [if_pos (by omega)], rfl⟩
set_option maxRecDepth 20000 in
theorem lp_scan1 (G : EzG) (d : Nat) (n k q0 : Nat) (b : Nat → Nat) (P : Option EzV → EzM → Prop) (M : EzM) (hd : 1 ≤ d) (hn : n ≤ 160) (hsz : M.1 7 0 1 = nI n) (hb : ∀ i, i < n → b i < 256 ∧ M.1 13 0 i = ep_sb (b i)) (K : Ez G mX7_scan d 36 [(1, eI (nI q0)), (2, eI (nI k)), (0, eR 7 0)] [] M P) : ∀ (z : Nat) (q : Nat), n - q = z → q ≤ n → ep_sk b n q = q0 → Ez G mX7_scan d 11 [(1, eI (nI q)), (2, eI (nI k)), (0, eR 7 0)] [] M (P) := by
  intro z
  induction z using Nat.strongRecOn with
  | ind z ih =>
    intro q hz hq hs
    have hE1 := ep_is2 (ep_by M q)
    refine ez_iload_n 12 dX7_scan_11 rfl rfl ?_
    refine ez_aload_n 13 dX7_scan_12 rfl rfl ?_
    refine ez_getf 16 (eI (M.1 7 0 1)) dX7_scan_13 rfl fl_X7_29 (by show 0 < 1; omega) rfl ?_
    refine ez_top (nI n) hsz ?_
    refine ez_ncmp_ge 19 36 dX7_scan_16 rfl (by decide) (by omega) (by omega) (fun h16 => ?_) (fun h16 => ?_)
    · have e9 : q = q0 := by rw [← hs]; exact (ep_run_st (by exact fun z9 => by have := z9.1; omega)).symm
      rw [e9]
      exact K
    · refine ez_aload_n 20 dX7_scan_19 rfl rfl ?_
      refine ez_iload_n 21 dX7_scan_20 rfl rfl ?_
      refine ez_callV 24 [eI (nI q)] [] dX7_scan_21 rfl rfl ok_X7_byteAt in_X7_byteAt (by decide) (by show 0 < 1; omega) ln_X7_59 (by omega) (Nat.le_of_ble_eq_true rfl) (c_X7_byteAt G (d - 1) q M (by omega)) (fun r21 M21 q21 => ?_)
      obtain ⟨rfl, e21⟩ := q21
      rw [e21]
      show Ez G mX7_scan d 24 [(1, eI (nI q)), (2, eI (nI k)), (0, eR 7 0)] [eI (ep_by M q)] M _
      have hx := ep_isx (b q) (hb q (by omega)).1
      have hy := ep_byb hb hn (show q < n by omega)
      refine ez_callS 27 [eI (ep_by M q)] [] dX7_scan_24 rfl rfl ok_X7_isBlank st_X7_isBlank ln_X7_63 (by omega) (Nat.le_of_ble_eq_true rfl) (c_X7_isBlank G (d - 1) (ep_by M q) M) (fun r24 M24 q24 => ?_)
      obtain ⟨rfl, e24⟩ := q24
      rw [e24]
      show Ez G mX7_scan d 27 [(1, eI (nI q)), (2, eI (nI k)), (0, eR 7 0)] [eI (nI (ep_isb (ep_by M q)))] M _
      refine ez_nif_eq 30 36 dX7_scan_27 rfl (by decide) (by omega) (fun h27 => ?_) (fun h27 => ?_)
      · have e9 : q = q0 := by rw [← hs]; exact (ep_run_st (by rintro ⟨_, q9⟩; rw [hy, hx.1, if_pos q9] at h27; omega)).symm
        rw [e9]
        exact K
      · refine ez_iinc 33 (nI (q + 1)) [(1, eI (nI (q + 1))), (2, eI (nI k)), (0, eR 7 0)] dX7_scan_30 rfl rfl (nI_add q 1) (by decide) rfl ?_
        refine ez_goto 11 dX7_scan_33 (by decide) ?_
        have hbl : ep_bl (b q) = true := by
          by_cases q9 : ep_bl (b q) = true
          · exact q9
          · rw [hy, hx.1, if_neg q9] at h27; omega
        exact ih (n - (q + 1)) (by omega) (q + 1) rfl (by omega) (by rw [← hs]; exact (ep_run_go (show q < n by omega) hbl).symm)
set_option maxRecDepth 20000 in
theorem lp_scan (G : EzG) (d : Nat) (n N : Nat) (b : Nat → Nat) (M : EzM) (hd : 7 ≤ d) (hn : n ≤ 160) (hsz : M.1 7 0 1 = nI n) (hb : ∀ i, i < n → b i < 256 ∧ M.1 13 0 i = ep_sb (b i)) (hN : N ≤ n) (hN2 : ep_tk b n N < 10) (hN3 : ∀ k, k < N → 10 ≤ ep_tk b n k) : ∀ (z : Nat) (k : Nat) (q : Nat) (M1 : EzM), N - k = z → k ≤ N → q ≤ n → ep_sk b n q = ep_pl b n k → ez_fm [14, 15] M M1 → (∀ j, j < k → M1.1 14 0 j = nI (ep_tk b n j) ∧ M1.1 15 0 j = nI (ep_pl b n j)) → Ez G mX7_scan d 4 [(1, eI (nI q)), (2, eI (nI k)), (0, eR 7 0)] [] M1 (fun r M' => r = none ∧ ez_fm [14, 15] M M' ∧ ∀ j, j ≤ N → M'.1 14 0 j = nI (ep_tk b n j) ∧ M'.1 15 0 j = nI (ep_pl b n j)) := by
  intro z
  induction z using Nat.strongRecOn with
  | ind z ih =>
    intro k q M1 hz hk hq hs hF hT
    refine ez_iload_n 5 dX7_scan_4 rfl rfl ?_
    refine ez_sipush 8 dX7_scan_5 rfl (nI 160) (by decide) ?_
    refine ez_ncmp_gt 11 89 dX7_scan_8 rfl (by decide) (by omega) (by omega) (fun h8 => ?_) (fun h8 => ?_)
    · refine ez_vret dX7_scan_89 rfl ?_
      exfalso; omega
    · have hpl := ep_pl_le b n k
      have hed : ep_ed b n (ep_pl b n k) ≤ 161 := by
        unfold ep_ed
        by_cases q1 : n ≤ ep_pl b n k
        · rw [if_pos q1]; omega
        rw [if_neg q1]
        by_cases q2 : ep_le (b (ep_pl b n k)) = true
        · rw [if_pos q2]; have := (ep_run_in (fun i => ep_le (b i)) hpl).2.1; show ep_run _ _ _ ≤ _; omega
        rw [if_neg q2]
        by_cases q3 : ep_di (b (ep_pl b n k)) = true
        · rw [if_pos q3]; have := (ep_run_in (fun i => ep_di (b i)) hpl).2.1; show ep_run _ _ _ ≤ _; omega
        rw [if_neg q3]; omega
      have htl := ep_tok_lt (b := b) hpl
      refine ez_drop [(1, eI (nI q)), (2, eI (nI k)), (0, eR 7 0)] (by simp) ?_
      have hz1 : M1.1 7 0 1 = nI n := by rw [(hF 7 (by decide)).1]; exact hsz
      have hb1 : ∀ i, i < n → b i < 256 ∧ M1.1 13 0 i = ep_sb (b i) := fun i hi => ⟨(hb i hi).1, by rw [(hF 13 (by decide)).1]; exact (hb i hi).2⟩
      refine lp_scan1 G d n k (ep_pl b n k) b _ M1 (by omega) hn hz1 hb1 ?_ _ q rfl hq hs
      refine ez_aload_n 37 dX7_scan_36 rfl rfl ?_
      refine ez_iload_n 38 dX7_scan_37 rfl rfl ?_
      refine ez_callV 41 [eI (nI (ep_pl b n k))] [] dX7_scan_38 rfl rfl ok_X7_endOf in_X7_endOf (by decide) (by show 0 < 1; omega) ln_X7_67 (by omega) (Nat.le_of_ble_eq_true rfl) (c_X7_endOf G (d - 1) n (ep_pl b n k) b M1 (by omega) hn hz1 hb1 hpl) (fun r38 M38 q38 => ?_)
      obtain ⟨rfl, e38⟩ := q38
      rw [e38]
      show Ez G mX7_scan d 41 [(1, eI (nI (ep_pl b n k))), (2, eI (nI k)), (0, eR 7 0)] [eI (nI (ep_ed b n (ep_pl b n k)))] M1 _
      refine ez_istore_n 42 [(3, eI (nI (ep_ed b n (ep_pl b n k)))), (1, eI (nI (ep_pl b n k))), (2, eI (nI k)), (0, eR 7 0)] dX7_scan_41 rfl (by decide) rfl ?_
      refine ez_aload_n 43 dX7_scan_42 rfl rfl ?_
      refine ez_getf 46 (eR 15 0) dX7_scan_43 rfl fl_X7_19 (by show 0 < 1; omega) rfl ?_
      refine ez_iload_n 47 dX7_scan_46 rfl rfl ?_
      refine ez_iload_n 48 dX7_scan_47 rfl rfl ?_
      refine ez_iastN k 49 dX7_scan_48 rfl (by decide) (by show 0 < 1; omega) (by show k < 161; omega) ?_
      refine ez_aload_n 50 dX7_scan_49 rfl rfl ?_
      refine ez_getf 53 (eR 14 0) dX7_scan_50 rfl fl_X7_15 (by show 0 < 1; omega) rfl ?_
      refine ez_iload_n 54 dX7_scan_53 rfl rfl ?_
      refine ez_aload_n 55 dX7_scan_54 rfl rfl ?_
      refine ez_iload_n 56 dX7_scan_55 rfl rfl ?_
      refine ez_iload_n 57 dX7_scan_56 rfl rfl ?_
      refine ez_callV 60 [eI (nI (ep_pl b n k)), eI (nI (ep_ed b n (ep_pl b n k)))] [eI (nI k), eR 14 0] dX7_scan_57 rfl rfl ok_X7_tokenOf in_X7_tokenOf (by decide) (by show 0 < 1; omega) ln_X7_70 (by omega) (Nat.le_of_ble_eq_true rfl) (c_X7_tokenOf G (d - 1) n (ep_pl b n k) _ b (ez_st M1 15 0 k (nI (ep_pl b n k))) (by omega) hn hz1 (fun i hi => by rw [ez_rd, if_neg (by simp)]; exact hb1 i hi) hpl rfl (by omega)) (fun r57 M57 q57 => ?_)
      obtain ⟨rfl, e57⟩ := q57
      rw [e57]
      show Ez G mX7_scan d 60 [(3, eI (nI (ep_ed b n (ep_pl b n k)))), (1, eI (nI (ep_pl b n k))), (2, eI (nI k)), (0, eR 7 0)] [eI (nI (ep_tok b n (ep_pl b n k))), eI (nI k), eR 14 0] (ez_st M1 15 0 k (nI (ep_pl b n k))) _
      refine ez_iastN k 61 dX7_scan_60 rfl (by decide) (by show 0 < 1; omega) (by show k < 161; omega) ?_
      refine ez_aload_n 62 dX7_scan_61 rfl rfl ?_
      refine ez_getf 65 (eR 14 0) dX7_scan_62 rfl fl_X7_15 (by show 0 < 1; omega) rfl ?_
      refine ez_iload_n 66 dX7_scan_65 rfl rfl ?_
      refine ez_ialdN k 67 dX7_scan_66 rfl (by decide) (by show 0 < 1; omega) (by show k < 161; omega) ?_
      refine ez_top (nI (ep_tok b n (ep_pl b n k))) (by simp [ez_rd]) ?_
      refine ez_nif_eq 70 80 dX7_scan_67 rfl (by decide) (by omega) (fun h67 => ?_) (fun h67 => ?_)
      · refine ez_vret dX7_scan_80 rfl ?_
        have hkN : k = N := by
          rcases Nat.lt_or_ge k N with q9 | q9
          · have := hN3 k q9
            unfold ep_tk at this
            omega
          · omega
        refine ⟨rfl, (hF.st (by decide)).st (by decide), fun j hj => ?_⟩
        by_cases ej : j = k
        · subst ej; exact ⟨by simp [ez_rd, ep_tk], by simp [ez_rd]⟩
        · obtain ⟨q1, q2⟩ := hT j (by omega)
          exact ⟨by simp [ez_rd, ej, q1], by simp [ez_rd, ej, q2]⟩
      · refine ez_aload_n 71 dX7_scan_70 rfl rfl ?_
        refine ez_getf 74 (eR 14 0) dX7_scan_71 rfl fl_X7_15 (by show 0 < 1; omega) rfl ?_
        refine ez_iload_n 75 dX7_scan_74 rfl rfl ?_
        refine ez_ialdN k 76 dX7_scan_75 rfl (by decide) (by show 0 < 1; omega) (by show k < 161; omega) ?_
        refine ez_top (nI (ep_tok b n (ep_pl b n k))) (by simp [ez_rd]) ?_
        refine ez_iconst 77 dX7_scan_76 rfl (nI 1) (by decide) ?_
        refine ez_ncmp_ne 80 81 dX7_scan_77 rfl (by decide) (by omega) (by omega) (fun h77 => ?_) (fun h77 => ?_)
        · refine ez_iload_n 82 dX7_scan_81 rfl rfl ?_
          refine ez_istore_n 83 [(1, eI (nI (ep_ed b n (ep_pl b n k)))), (3, eI (nI (ep_ed b n (ep_pl b n k)))), (2, eI (nI k)), (0, eR 7 0)] dX7_scan_82 rfl (by decide) rfl ?_
          refine ez_iinc 86 (nI (k + 1)) [(2, eI (nI (k + 1))), (1, eI (nI (ep_ed b n (ep_pl b n k)))), (3, eI (nI (ep_ed b n (ep_pl b n k)))), (0, eR 7 0)] dX7_scan_83 rfl rfl (nI_add k 1) (by decide) rfl ?_
          refine ez_goto 4 dX7_scan_86 (by decide) ?_
          have ht10 : 10 ≤ ep_tok b n (ep_pl b n k) := by
            rcases Nat.lt_or_ge (ep_tok b n (ep_pl b n k)) 10 with q9 | q9
            · rcases ep_tok01 hpl q9 with q8 | q8 <;> omega
            · exact q9
          have hkN : k < N := by
            rcases Nat.lt_or_ge k N with q9 | q9
            · exact q9
            · have e9 : k = N := by omega
              rw [← e9] at hN2
              unfold ep_tk at hN2
              omega
          refine ez_drop [(1, eI (nI (ep_ed b n (ep_pl b n k)))), (2, eI (nI (k + 1))), (0, eR 7 0)] (by simp) ?_
          refine ih (N - (k + 1)) (by omega) (k + 1) _ _ rfl (by omega) (by rw [ep_ed_en ht10]; exact (ep_en_le b hpl).2) (by rw [ep_ed_en ht10]; rfl) ((hF.st (by decide)).st (by decide)) (fun j hj => ?_)
          by_cases ej : j = k
          · subst ej; exact ⟨by simp [ez_rd, ep_tk], by simp [ez_rd]⟩
          · obtain ⟨q1, q2⟩ := hT j (by omega)
            exact ⟨by simp [ez_rd, ej, q1], by simp [ez_rd, ej, q2]⟩
        · refine ez_vret dX7_scan_80 rfl ?_
          have hkN : k = N := by
            rcases Nat.lt_or_ge k N with q9 | q9
            · have := hN3 k q9
              unfold ep_tk at this
              omega
            · omega
          refine ⟨rfl, (hF.st (by decide)).st (by decide), fun j hj => ?_⟩
          by_cases ej : j = k
          · subst ej; exact ⟨by simp [ez_rd, ep_tk], by simp [ez_rd]⟩
          · obtain ⟨q1, q2⟩ := hT j (by omega)
            exact ⟨by simp [ez_rd, ej, q1], by simp [ez_rd, ej, q2]⟩
set_option maxRecDepth 20000 in
theorem c_X7_scan (G : EzG) (d : Nat) (n N : Nat) (b : Nat → Nat) (M : EzM) (hd : 7 ≤ d) (hn : n ≤ 160) (hsz : M.1 7 0 1 = nI n) (hb : ∀ i, i < n → b i < 256 ∧ M.1 13 0 i = ep_sb (b i)) (hN : N ≤ n) (hN2 : ep_tk b n N < 10) (hN3 : ∀ k, k < N → 10 ≤ ep_tk b n k) : Ezc G mX7_scan d [eR 7 0] M (fun r M' => r = none ∧ ez_fm [14, 15] M M' ∧ ∀ j, j ≤ N → M'.1 14 0 j = nI (ep_tk b n j) ∧ M'.1 15 0 j = nI (ep_pl b n j)) := by
  refine Ezc.of (by decide +kernel) (Nat.le_of_ble_eq_true rfl) ?_
  show Ez G mX7_scan d 0 [(0, eR 7 0)] [] M _
  refine ez_iconst 1 dX7_scan_0 rfl (nI 0) (by decide) ?_
  refine ez_istore_n 2 [(1, eI (nI 0)), (0, eR 7 0)] dX7_scan_1 rfl (by decide) rfl ?_
  refine ez_iconst 3 dX7_scan_2 rfl (nI 0) (by decide) ?_
  refine ez_istore_n 4 [(2, eI (nI 0)), (1, eI (nI 0)), (0, eR 7 0)] dX7_scan_3 rfl (by decide) rfl ?_
  refine ez_drop [(1, eI (nI 0)), (2, eI (nI 0)), (0, eR 7 0)] (by simp) ?_
  exact lp_scan G d n N b M hd hn hsz hb hN hN2 hN3 _ 0 0 M rfl (by omega) (by omega) rfl ez_fm.rfl (fun j hj => by omega)
set_option maxRecDepth 20000 in
theorem c_X3_end (G : EzG) (d : Nat) (i key : Nat) (M : EzM) (hd : 1 ≤ d) (hi : i < 7) (hk : key < 3) : Ezc G mX3_end d [eR 3 i, eI (nI key)] M (fun r M' => r = none ∧ M' = ez_st M 17 i key (M.1 3 i 2)) := by
  refine Ezc.of (by decide +kernel) (Nat.le_of_ble_eq_true rfl) ?_
  show Ez G mX3_end d 0 [(0, eR 3 i), (1, eI (nI key))] [] M _
  refine ez_aload_n 1 dX3_end_0 rfl rfl ?_
  refine ez_getf 4 (eR 17 i) dX3_end_1 rfl fl_X3_15 (by show i < 7; omega) rfl ?_
  refine ez_iload_n 5 dX3_end_4 rfl rfl ?_
  refine ez_aload_n 6 dX3_end_5 rfl rfl ?_
  refine ez_getf 9 (eI (M.1 3 i 2)) dX3_end_6 rfl fl_X3_18 (by show i < 7; omega) rfl ?_
  refine ez_callSN 12 [eR 17 i, eI (nI key), eI (M.1 3 i 2)] [] dX3_end_9 rfl rfl ok_X11_setItem st_X11_setItem "ElevenPebbles" nn_X3_22 (by omega) (Nat.le_of_ble_eq_true rfl) (c_setItem_n G (d - 1) 17 i key (M.1 3 i 2) M (by decide) (by show i < 7; omega) (by show key < 3; omega)) (fun r9 M9 q9 => ?_)
  obtain ⟨rfl, e9⟩ := q9
  rw [e9]
  show Ez G mX3_end d 12 [(0, eR 3 i), (1, eI (nI key))] [] (ez_st M 17 i key (M.1 3 i 2)) _
  refine ez_vret dX3_end_12 rfl ?_
  exact ⟨rfl, rfl⟩
set_option maxRecDepth 20000 in
theorem c_copyRow_16 (G : EzG) (d : Nat) (i j : Nat) (M : EzM) (hd : 1 ≤ d) (hi : i < 7) (hj : j < 7) : Ezc G mX11_copyRow d [eR 16 i, eR 16 j] M (fun r M' => r = none ∧ M' = ez_row M 16 j (ep_fl (M.1 16 i) (M.1 16 j) 160)) := by
  refine Ezc.of (by decide +kernel) (Nat.le_of_ble_eq_true rfl) ?_
  show Ez G mX11_copyRow d 0 [(0, eR 16 i), (1, eR 16 j)] [] M _
  refine ez_aload_n 1 dX11_copyRow_0 rfl rfl ?_
  refine ez_iconst 2 dX11_copyRow_1 rfl (nI 0) (by decide) ?_
  refine ez_aload_n 3 dX11_copyRow_2 rfl rfl ?_
  refine ez_iconst 4 dX11_copyRow_3 rfl (nI 0) (by decide) ?_
  refine ez_aload_n 5 dX11_copyRow_4 rfl rfl ?_
  refine ez_alen 6 (nI 160) dX11_copyRow_5 rfl (by decide) (by show i < 7; omega) rfl ?_
  refine ez_aload_n 7 dX11_copyRow_6 rfl rfl ?_
  refine ez_alen 8 (nI 160) dX11_copyRow_7 rfl (by decide) (by show j < 7; omega) rfl ?_
  refine ez_mmin 11 dX11_copyRow_8 rfl ln_X11_232 (by omega) (Nat.le_of_ble_eq_true rfl) ?_
  refine ez_top (nI (min 160 160)) (ez_nmin (by omega) (by omega)) ?_
  refine ez_top (nI 160) (by decide) ?_
  refine ez_copy 14 dX11_copyRow_11 rfl (by decide) (by show i < 7; omega) (by decide) (by show j < 7; omega) ac_X11_320 (Nat.le_of_ble_eq_true rfl) (by omega) (by decide) (by decide) (by decide) (by decide) (by decide) (by decide) ?_
  refine ez_vret dX11_copyRow_14 rfl ?_
  refine ⟨rfl, ?_⟩
  rw [← ep_cpy_fl]
  rfl
set_option maxRecDepth 20000 in
theorem c_copyRow_17 (G : EzG) (d : Nat) (i j : Nat) (M : EzM) (hd : 1 ≤ d) (hi : i < 7) (hj : j < 7) : Ezc G mX11_copyRow d [eR 17 i, eR 17 j] M (fun r M' => r = none ∧ M' = ez_row M 17 j (ep_fl (M.1 17 i) (M.1 17 j) 3)) := by
  refine Ezc.of (by decide +kernel) (Nat.le_of_ble_eq_true rfl) ?_
  show Ez G mX11_copyRow d 0 [(0, eR 17 i), (1, eR 17 j)] [] M _
  refine ez_aload_n 1 dX11_copyRow_0 rfl rfl ?_
  refine ez_iconst 2 dX11_copyRow_1 rfl (nI 0) (by decide) ?_
  refine ez_aload_n 3 dX11_copyRow_2 rfl rfl ?_
  refine ez_iconst 4 dX11_copyRow_3 rfl (nI 0) (by decide) ?_
  refine ez_aload_n 5 dX11_copyRow_4 rfl rfl ?_
  refine ez_alen 6 (nI 3) dX11_copyRow_5 rfl (by decide) (by show i < 7; omega) rfl ?_
  refine ez_aload_n 7 dX11_copyRow_6 rfl rfl ?_
  refine ez_alen 8 (nI 3) dX11_copyRow_7 rfl (by decide) (by show j < 7; omega) rfl ?_
  refine ez_mmin 11 dX11_copyRow_8 rfl ln_X11_232 (by omega) (Nat.le_of_ble_eq_true rfl) ?_
  refine ez_top (nI (min 3 3)) (ez_nmin (by omega) (by omega)) ?_
  refine ez_top (nI 3) (by decide) ?_
  refine ez_copy 14 dX11_copyRow_11 rfl (by decide) (by show i < 7; omega) (by decide) (by show j < 7; omega) ac_X11_320 (Nat.le_of_ble_eq_true rfl) (by omega) (by decide) (by decide) (by decide) (by decide) (by decide) (by decide) ?_
  refine ez_vret dX11_copyRow_14 rfl ?_
  refine ⟨rfl, ?_⟩
  rw [← ep_cpy_fl]
  rfl
set_option maxRecDepth 20000 in
theorem c_copyRow_20 (G : EzG) (d : Nat) (i j : Nat) (M : EzM) (hd : 1 ≤ d) (hi : i < 9) (hj : j < 9) : Ezc G mX11_copyRow d [eR 20 i, eR 20 j] M (fun r M' => r = none ∧ M' = ez_row M 20 j (ep_fl (M.1 20 i) (M.1 20 j) 10)) := by
  refine Ezc.of (by decide +kernel) (Nat.le_of_ble_eq_true rfl) ?_
  show Ez G mX11_copyRow d 0 [(0, eR 20 i), (1, eR 20 j)] [] M _
  refine ez_aload_n 1 dX11_copyRow_0 rfl rfl ?_
  refine ez_iconst 2 dX11_copyRow_1 rfl (nI 0) (by decide) ?_
  refine ez_aload_n 3 dX11_copyRow_2 rfl rfl ?_
  refine ez_iconst 4 dX11_copyRow_3 rfl (nI 0) (by decide) ?_
  refine ez_aload_n 5 dX11_copyRow_4 rfl rfl ?_
  refine ez_alen 6 (nI 10) dX11_copyRow_5 rfl (by decide) (by show i < 9; omega) rfl ?_
  refine ez_aload_n 7 dX11_copyRow_6 rfl rfl ?_
  refine ez_alen 8 (nI 10) dX11_copyRow_7 rfl (by decide) (by show j < 9; omega) rfl ?_
  refine ez_mmin 11 dX11_copyRow_8 rfl ln_X11_232 (by omega) (Nat.le_of_ble_eq_true rfl) ?_
  refine ez_top (nI (min 10 10)) (ez_nmin (by omega) (by omega)) ?_
  refine ez_top (nI 10) (by decide) ?_
  refine ez_copy 14 dX11_copyRow_11 rfl (by decide) (by show i < 9; omega) (by decide) (by show j < 9; omega) ac_X11_320 (Nat.le_of_ble_eq_true rfl) (by omega) (by decide) (by decide) (by decide) (by decide) (by decide) (by decide) ?_
  refine ez_vret dX11_copyRow_14 rfl ?_
  refine ⟨rfl, ?_⟩
  rw [← ep_cpy_fl]
  rfl
set_option maxRecDepth 20000 in
theorem c_copyRow_21 (G : EzG) (d : Nat) (i j : Nat) (M : EzM) (hd : 1 ≤ d) (hi : i < 18) (hj : j < 18) : Ezc G mX11_copyRow d [eR 21 i, eR 21 j] M (fun r M' => r = none ∧ M' = ez_row M 21 j (ep_fl (M.1 21 i) (M.1 21 j) 10)) := by
  refine Ezc.of (by decide +kernel) (Nat.le_of_ble_eq_true rfl) ?_
  show Ez G mX11_copyRow d 0 [(0, eR 21 i), (1, eR 21 j)] [] M _
  refine ez_aload_n 1 dX11_copyRow_0 rfl rfl ?_
  refine ez_iconst 2 dX11_copyRow_1 rfl (nI 0) (by decide) ?_
  refine ez_aload_n 3 dX11_copyRow_2 rfl rfl ?_
  refine ez_iconst 4 dX11_copyRow_3 rfl (nI 0) (by decide) ?_
  refine ez_aload_n 5 dX11_copyRow_4 rfl rfl ?_
  refine ez_alen 6 (nI 10) dX11_copyRow_5 rfl (by decide) (by show i < 18; omega) rfl ?_
  refine ez_aload_n 7 dX11_copyRow_6 rfl rfl ?_
  refine ez_alen 8 (nI 10) dX11_copyRow_7 rfl (by decide) (by show j < 18; omega) rfl ?_
  refine ez_mmin 11 dX11_copyRow_8 rfl ln_X11_232 (by omega) (Nat.le_of_ble_eq_true rfl) ?_
  refine ez_top (nI (min 10 10)) (ez_nmin (by omega) (by omega)) ?_
  refine ez_top (nI 10) (by decide) ?_
  refine ez_copy 14 dX11_copyRow_11 rfl (by decide) (by show i < 18; omega) (by decide) (by show j < 18; omega) ac_X11_320 (Nat.le_of_ble_eq_true rfl) (by omega) (by decide) (by decide) (by decide) (by decide) (by decide) (by decide) ?_
  refine ez_vret dX11_copyRow_14 rfl ?_
  refine ⟨rfl, ?_⟩
  rw [← ep_cpy_fl]
  rfl
