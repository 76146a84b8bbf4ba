/-! maze of the class -/
def S_maze (q : EpS) : Int32 × EpS := if q.1.1 < 4 then (match er_read q.2.2.1.1 q.2.2.1.2 with
  | .inl e => (-100 - nI e, q.1, q.2.1, (0, q.2.2.1.2), q.2.2.2)
  | .inr (n, l) => (nI q.1.1, ((q.1.1 + 1, er_u1 q.1.2.1 q.1.1 n, er_u1 q.1.2.2.1 q.1.1 l, er_u1 q.1.2.2.2 q.1.1 (fun _ => 0)), q.2.1, (0, q.2.2.1.2), q.2.2.2))) else (-4, q)
theorem RC_mzb {q : EpS} {M M' : EzM} (hW : WF q) (hC : RC q M) (hF : FX (fun k i s => (((k = 1 ∧ s = 0) ∨ k = 18 ∨ k = 19) ∧ i = q.1.1) ∨ (k = 7 ∧ i = 0 ∧ s = 1)) M M') (h7 : M'.1 7 0 1 = nI 0) : RC (q.1, q.2.1, (0, q.2.2.1.2), q.2.2.2) M' ∧ FX CC M M' := by
  obtain ⟨a1, a2, a3, a4, a5, a6, a7⟩ := hC
  obtain ⟨w1, w2, w3, w4, w5, w6⟩ := hW
  have h4 := w1.1
  have h8 := w2.1
  refine ⟨⟨?_, RCw.fx a2 hF h8 ⟨by omega, fun w _ x => ⟨by omega, by omega⟩⟩, ⟨h7, fun i hi => absurd hi (Nat.not_lt_zero i)⟩, RCs.fx a4 hF (fun i _ s => ⟨by omega, by omega⟩), RCx.fx a5 hF w5.2.1 ⟨by omega, by omega, fun i s _ => ⟨by omega, by omega⟩⟩, RCi.fx a6 hF (fun q => ⟨Nat.le_trans (w6.2 q).1 h4, Nat.le_trans (w6.2 q).2.1 h8⟩) ⟨fun s _ => by omega, fun i _ _ s => by omega, fun i _ _ s => ⟨by omega, by omega⟩⟩, by rw [hF _ _ _ (by omega)]; exact a7⟩, hF.up (fun k i s z => by unfold CC; omega)⟩
  refine ⟨by rw [hF _ _ _ (by omega)]; exact a1.1, fun m hm => ?_, fun m h1 h2 r hr => by rw [hF _ _ _ (by omega)]; exact a1.2.2 m h1 h2 r hr⟩
  have hm' : m < q.1.1 := hm
  obtain ⟨b1, b2, b3, b4⟩ := a1.2.1 m hm
  exact ⟨by rw [hF _ _ _ (by omega)]; exact b1, fun x hx => by rw [hF _ _ _ (by omega)]; exact b2 x hx, fun x hx => by rw [hF _ _ _ (by omega)]; exact b3 x hx, fun x hx => by rw [hF _ _ _ (by omega)]; exact b4 x hx⟩
theorem RC_mzg {q : EpS} {M M' : EzM} {n : Nat} {l : Nat → Int32} (hW : WF q) (hC : RC q M) (h4' : q.1.1 < 4) (hF : FX (fun k i s => (((k = 1 ∧ s = 0) ∨ k = 18 ∨ k = 19) ∧ i = q.1.1) ∨ (k = 7 ∧ i = 0 ∧ s = 1) ∨ (k = 11 ∧ i = 0 ∧ s = 2)) M M') (h7 : M'.1 7 0 1 = nI 0) (h11 : M'.1 11 0 2 = nI (q.1.1 + 1)) (hn : M'.1 1 q.1.1 0 = nI n) (hl : RZ q.1.1 l M') : RC ((q.1.1 + 1, er_u1 q.1.2.1 q.1.1 n, er_u1 q.1.2.2.1 q.1.1 l, er_u1 q.1.2.2.2 q.1.1 (fun _ => 0)), q.2.1, (0, q.2.2.1.2), q.2.2.2) M' ∧ FX CC M M' := by
  obtain ⟨a1, a2, a3, a4, a5, a6, a7⟩ := hC
  obtain ⟨w1, w2, w3, w4, w5, w6⟩ := hW
  have h4 := w1.1
  have h8 := w2.1
  refine ⟨⟨?_, RCw.fx a2 hF h8 ⟨by omega, fun w _ x => ⟨by omega, by omega⟩⟩, ⟨h7, fun i hi => absurd hi (Nat.not_lt_zero i)⟩, RCs.fx a4 hF (fun i _ s => ⟨by omega, by omega⟩), RCx.fx a5 hF w5.2.1 ⟨by omega, by omega, fun i s _ => ⟨by omega, by omega⟩⟩, RCi.fx a6 hF (fun q => ⟨Nat.le_trans (w6.2 q).1 h4, Nat.le_trans (w6.2 q).2.1 h8⟩) ⟨fun s _ => by omega, fun i _ _ s => by omega, fun i _ _ s => ⟨by omega, by omega⟩⟩, by rw [hF _ _ _ (by omega)]; exact a7⟩, hF.up (fun k i s z => by unfold CC; omega)⟩
  refine ⟨h11, fun m hm => ?_, fun m h1 h2 r hr => by rw [hF _ _ _ (by omega)]; exact a1.2.2 m (by have : q.1.1 + 1 ≤ m := h1; omega) h2 r hr⟩
  have hm' : m < q.1.1 + 1 := hm
  by_cases e : m = q.1.1
  · subst e
    show _ = nI (if q.1.1 = q.1.1 then n else _) ∧ (∀ x, x < 40 → _ = (if q.1.1 = q.1.1 then l else _) x) ∧ (∀ r, r < 10 → _ = nI (ep_dn (if q.1.1 = q.1.1 then l else _) r)) ∧ (∀ r, r < 10 → _ = nI ((if q.1.1 = q.1.1 then (fun _ => 0) else _) r))
    simp only [if_pos]
    exact ⟨hn, hl.1, hl.2, fun r hr => by rw [hF _ _ _ (by omega)]; exact a1.2.2 _ (Nat.le_refl _) h4' r hr⟩
  · show _ = nI (if m = q.1.1 then n else _) ∧ (∀ x, x < 40 → _ = (if m = q.1.1 then l else _) x) ∧ (∀ r, r < 10 → _ = nI (ep_dn (if m = q.1.1 then l else _) r)) ∧ (∀ r, r < 10 → _ = nI ((if m = q.1.1 then (fun _ => 0) else _) r))
    simp only [if_neg e]
    obtain ⟨b1, b2, b3, b4⟩ := a1.2.1 m (by omega)
    exact ⟨by rw [hF _ _ _ (by omega)]; exact b1, fun x hx => by rw [hF _ _ _ (by omega)]; exact b2 x hx, fun x hx => by rw [hF _ _ _ (by omega)]; exact b3 x hx, fun x hx => by rw [hF _ _ _ (by omega)]; exact b4 x hx⟩
set_option maxRecDepth 20000 in
theorem lp_clear2 (G : EzG) (d : Nat) (m n : Nat) (M : EzM) (hm : m < 4) : ∀ (z : Nat) (i : Nat) (M1 : EzM), 10 - i = z → i ≤ 10 → (∀ x, x < i → M1.1 19 m x = nI 0) → FX (MY m) M M1 → M1.1 1 m 0 = nI n → (∀ x, x < 40 → M1.1 18 m x = -1) → Ez G mX1_clear d 28 [(2, eI (nI i)), (1, eI (nI n)), (0, eR 1 m)] [] M1 (fun r M' => r = none ∧ M'.1 1 m 0 = nI n ∧ RZ m (fun _ => -1) M' ∧ FX (MY m) M M') := by
  intro z
  induction z using Nat.strongRecOn with
  | ind z ih =>
    intro i M1 hz hi hv hF h1 h18
    refine ez_iload_n 29 dX1_clear_28 rfl rfl ?_
    refine ez_bipush 31 dX1_clear_29 rfl (nI 10) (by decide) ?_
    refine ez_ncmp_ge 34 47 dX1_clear_31 rfl (by decide) (by omega) (by omega) (fun h31 => ?_) (fun h31 => ?_)
    · refine ez_vret dX1_clear_47 rfl ?_
      exact ⟨rfl, h1, ⟨h18, fun r hr => by rw [hv r (by omega)]; rfl⟩, hF⟩
    · refine ez_aload_n 35 dX1_clear_34 rfl rfl ?_
      refine ez_getf 38 (eR 19 m) dX1_clear_35 rfl fl_X1_15 (by show m < 4; omega) rfl ?_
      refine ez_iload_n 39 dX1_clear_38 rfl rfl ?_
      refine ez_iconst 40 dX1_clear_39 rfl (nI 0) (by decide) ?_
      refine ez_iastN i 41 dX1_clear_40 rfl (by decide) (by show m < 4; omega) (by show i < 10; omega) ?_
      refine ez_iinc 44 (nI (i + 1)) [(2, eI (nI (i + 1))), (1, eI (nI n)), (0, eR 1 m)] dX1_clear_41 rfl rfl (nI_add i 1) (by decide) rfl ?_
      refine ez_goto 28 dX1_clear_44 (by decide) ?_
      exact ih (10 - (i + 1)) (by omega) (i + 1) _ rfl (by omega) (fun x hx => by
        rw [ez_rd]
        by_cases e : x = i
        · rw [if_pos ⟨rfl, rfl, e⟩]
        · rw [if_neg (fun z => e z.2.2)]; exact hv x (by omega)) (hF.st ⟨Or.inr (Or.inr rfl), rfl⟩) (by rw [ez_rd, if_neg (by omega)]; exact h1) (fun x hx => by rw [ez_rd, if_neg (by omega)]; exact h18 x hx)
set_option maxRecDepth 20000 in
theorem lp_clear1 (G : EzG) (d : Nat) (m n : Nat) (M : EzM) (hm : m < 4) : ∀ (z : Nat) (i : Nat) (M1 : EzM), 40 - i = z → i ≤ 40 → (∀ x, x < i → M1.1 18 m x = -1) → FX (MY m) M M1 → M1.1 1 m 0 = nI n → Ez G mX1_clear d 7 [(2, eI (nI i)), (1, eI (nI n)), (0, eR 1 m)] [] M1 (fun r M' => r = none ∧ M'.1 1 m 0 = nI n ∧ RZ m (fun _ => -1) M' ∧ FX (MY m) M M') := by
  intro z
  induction z using Nat.strongRecOn with
  | ind z ih =>
    intro i M1 hz hi hv hF h1
    refine ez_iload_n 8 dX1_clear_7 rfl rfl ?_
    refine ez_bipush 10 dX1_clear_8 rfl (nI 40) (by decide) ?_
    refine ez_ncmp_ge 13 26 dX1_clear_10 rfl (by decide) (by omega) (by omega) (fun h10 => ?_) (fun h10 => ?_)
    · refine ez_iconst 27 dX1_clear_26 rfl (nI 0) (by decide) ?_
      refine ez_istore_n 28 [(2, eI (nI 0)), (1, eI (nI n)), (0, eR 1 m)] dX1_clear_27 rfl (by decide) rfl ?_
      exact lp_clear2 G d m n M hm _ 0 M1 rfl (by omega) (fun x hx => absurd hx (Nat.not_lt_zero x)) hF h1 (fun x hx => hv x (by omega))
    · refine ez_aload_n 14 dX1_clear_13 rfl rfl ?_
      refine ez_getf 17 (eR 18 m) dX1_clear_14 rfl fl_X1_9 (by show m < 4; omega) rfl ?_
      refine ez_iload_n 18 dX1_clear_17 rfl rfl ?_
      refine ez_iconst 19 dX1_clear_18 rfl (-1) (by decide) ?_
      refine ez_iastN i 20 dX1_clear_19 rfl (by decide) (by show m < 4; omega) (by show i < 40; omega) ?_
      refine ez_iinc 23 (nI (i + 1)) [(2, eI (nI (i + 1))), (1, eI (nI n)), (0, eR 1 m)] dX1_clear_20 rfl rfl (nI_add i 1) (by decide) rfl ?_
      refine ez_goto 7 dX1_clear_23 (by decide) ?_
      exact ih (40 - (i + 1)) (by omega) (i + 1) _ rfl (by omega) (fun x hx => by
        rw [ez_rd]
        by_cases e : x = i
        · rw [if_pos ⟨rfl, rfl, e⟩]
        · rw [if_neg (fun z => e z.2.2)]; exact hv x (by omega)) (hF.st ⟨Or.inr (Or.inl rfl), rfl⟩) (by rw [ez_rd, if_neg (by omega)]; exact h1)
set_option maxRecDepth 20000 in
theorem c_X1_clear (G : EzG) (d : Nat) (m n : Nat) (M : EzM) (hm : m < 4) : Ezc G mX1_clear d [eR 1 m, eI (nI n)] M (fun r M' => r = none ∧ M'.1 1 m 0 = nI n ∧ RZ m (fun _ => -1) M' ∧ FX (MY m) M M') := by
  refine Ezc.of (by decide +kernel) (Nat.le_of_ble_eq_true rfl) ?_
  show Ez G mX1_clear d 0 [(0, eR 1 m), (1, eI (nI n))] [] M _
  refine ez_aload_n 1 dX1_clear_0 rfl rfl ?_
  refine ez_iload_n 2 dX1_clear_1 rfl rfl ?_
  refine ez_putf 5 .int dX1_clear_2 rfl fp_X1_21 (by show m < 4; omega) rfl (by decide) rfl rfl ?_
  refine ez_iconst 6 dX1_clear_5 rfl (nI 0) (by decide) ?_
  refine ez_istore_n 7 [(2, eI (nI 0)), (0, eR 1 m), (1, eI (nI n))] dX1_clear_6 rfl (by decide) rfl ?_
  refine ez_drop [(2, eI (nI 0)), (1, eI (nI n)), (0, eR 1 m)] (by simp) ?_
  exact lp_clear1 G d m n M hm _ 0 _ rfl (by omega) (fun x hx => absurd hx (Nat.not_lt_zero x)) (FX.rf.st ⟨Or.inl ⟨rfl, rfl⟩, rfl⟩) (by rw [ez_rd, if_pos ⟨rfl, rfl, rfl⟩])
theorem FX.my {m : Nat} {M M' : EzM} (h : FX (MZ m) M M') : FX (MY m) M M' := MZ.my h
set_option maxRecDepth 20000 in
theorem lp_read (G : EzG) (d : Nat) (m n tn j : Nat) (tb : Nat → Nat) (T : EpPr) (M : EzM) (hd : 3 ≤ d) (hm : m < 4) (hn : n ≤ 10) (ht : tn ≤ 160) (hb : ∀ i, i < tn → M.1 13 0 i = ep_sb (tb i)) (hx6 : ∀ i, i < tn → tb i < 256) : ∀ (z : Nat) (k : Nat) (p : Nat) (l : Nat → Int32) (M1 : EzM), k = z → tn ≤ p + 6 * k → p ≤ 166 → FX (MY m) M M1 → M1.1 1 m 0 = nI n → RZ m l M1 → er_parts (er_my tn tb) tn n k p l = T → Ez G mX1_read d 31 [(4, eI (nI p)), (3, eI (nI j)), (2, eI (nI tn)), (1, eR 13 0), (0, eR 1 m)] [] M1 (fun r M' => FX (MY m) M M' ∧ ((∃ e, e ≤ 170 ∧ T = .inl e ∧ r = some (eI (nI e))) ∨ ∃ l2, T = .inr l2 ∧ r = some (eI (-1)) ∧ M'.1 1 m 0 = nI n ∧ RZ m l2 M')) := by
  intro z
  induction z using Nat.strongRecOn with
  | ind z ih =>
    intro k p l M1 hz hk hp hF hnr hR hE
    refine ez_iload 33 dX1_read_31 rfl rfl ?_
    refine ez_iload_n 34 dX1_read_33 rfl rfl ?_
    refine ez_ncmp_ge 37 62 dX1_read_34 rfl (by decide) (by omega) (by omega) (fun h34 => ?_) (fun h34 => ?_)
    · refine ez_iconst 63 dX1_read_62 rfl (-1) (by decide) ?_
      refine ez_iret .int dX1_read_63 rfl rfl ?_
      have eT : T = .inr l := by
        rw [← hE]
        cases k with
        | zero => rfl
        | succ k => unfold er_parts; rw [if_neg (by omega)]
      exact ⟨hF, Or.inr ⟨l, eT, rfl, hnr, hR⟩⟩
    · refine ez_aload_n 38 dX1_read_37 rfl rfl ?_
      refine ez_aload_n 39 dX1_read_38 rfl rfl ?_
      refine ez_iload_n 40 dX1_read_39 rfl rfl ?_
      refine ez_iload 42 dX1_read_40 rfl rfl ?_
      refine ez_callV 45 [eR 13 0, eI (nI tn), eI (nI p)] [] dX1_read_42 rfl rfl ok_X1_readPart in_X1_readPart (by decide) (by show m < 4; omega) ln_X1_45 (by omega) (Nat.le_of_ble_eq_true rfl) (c_X1_readPart G (d - 1) m n tn p tb l M1 (by omega) hm hn (by omega) ht (fun i hi => by rw [hF _ _ _ (by unfold MY; omega)]; exact hb i hi) hx6 hnr hR) (fun r42 M42 q42 => ?_)
      obtain ⟨f42, ⟨e9, y9, x9, rfl⟩ | ⟨l2, x9, rfl, g42⟩⟩ := q42
      · skip
        show Ez G mX1_read d 45 [(4, eI (nI p)), (3, eI (nI j)), (2, eI (nI tn)), (1, eR 13 0), (0, eR 1 m)] [eI (nI e9)] M42 _
        refine ez_istore 47 [(5, eI (nI e9)), (4, eI (nI p)), (3, eI (nI j)), (2, eI (nI tn)), (1, eR 13 0), (0, eR 1 m)] dX1_read_45 rfl (by decide) rfl ?_
        refine ez_iload 49 dX1_read_47 rfl rfl ?_
        refine ez_iconst 50 dX1_read_49 rfl (-1) (by decide) ?_
        refine ez_icmp_eq 53 56 dX1_read_50 rfl (by decide) (fun h50 => ?_) (fun h50 => ?_)
        · refine ez_iinc 59 (nI (p + 6)) [(4, eI (nI (p + 6))), (5, eI (nI e9)), (3, eI (nI j)), (2, eI (nI tn)), (1, eR 13 0), (0, eR 1 m)] dX1_read_56 rfl rfl (nI_add p 6) (by decide) rfl ?_
          refine ez_goto 31 dX1_read_59 (by decide) ?_
          exact absurd h50 (ep_m1 (by omega))
        · refine ez_iload 55 dX1_read_53 rfl rfl ?_
          refine ez_iret .int dX1_read_55 rfl rfl ?_
          obtain ⟨k2, rfl⟩ : ∃ k2, k = k2 + 1 := ⟨k - 1, by omega⟩
          have eP := hE
          unfold er_parts at eP
          rw [if_pos (by omega), x9] at eP
          exact ⟨hF.tr f42.my, Or.inl ⟨e9, by omega, eP.symm, rfl⟩⟩
      · skip
        show Ez G mX1_read d 45 [(4, eI (nI p)), (3, eI (nI j)), (2, eI (nI tn)), (1, eR 13 0), (0, eR 1 m)] [eI (-1)] M42 _
        refine ez_istore 47 [(5, eI (-1)), (4, eI (nI p)), (3, eI (nI j)), (2, eI (nI tn)), (1, eR 13 0), (0, eR 1 m)] dX1_read_45 rfl (by decide) rfl ?_
        refine ez_iload 49 dX1_read_47 rfl rfl ?_
        refine ez_iconst 50 dX1_read_49 rfl (-1) (by decide) ?_
        refine ez_icmp_eq 53 56 dX1_read_50 rfl (by decide) (fun h50 => ?_) (fun h50 => ?_)
        · refine ez_iinc 59 (nI (p + 6)) [(4, eI (nI (p + 6))), (5, eI (-1)), (3, eI (nI j)), (2, eI (nI tn)), (1, eR 13 0), (0, eR 1 m)] dX1_read_56 rfl rfl (nI_add p 6) (by decide) rfl ?_
          refine ez_goto 31 dX1_read_59 (by decide) ?_
          obtain ⟨k2, rfl⟩ : ∃ k2, k = k2 + 1 := ⟨k - 1, by omega⟩
          have eP := hE
          unfold er_parts at eP
          rw [if_pos (by omega), x9] at eP
          refine ez_drop [(4, eI (nI (p + 6))), (3, eI (nI j)), (2, eI (nI tn)), (1, eR 13 0), (0, eR 1 m)] (by simp) ?_
          exact ih k2 (by omega) k2 (p + 6) l2 M42 rfl (by omega) (by omega) (hF.tr f42.my) (by rw [f42 _ _ _ (by unfold MZ; omega)]; exact hnr) g42 eP
        · refine ez_iload 55 dX1_read_53 rfl rfl ?_
          refine ez_iret .int dX1_read_55 rfl rfl ?_
          exact absurd rfl h50
set_option maxRecDepth 20000 in
theorem c_X1_read (G : EzG) (d : Nat) (m tn : Nat) (tb : Nat → Nat) (M : EzM) (hd : 3 ≤ d) (hm : m < 4) (ht : tn ≤ 160) (hb : ∀ i, i < tn → M.1 13 0 i = ep_sb (tb i)) (hx6 : ∀ i, i < tn → tb i < 256) : Ezc G mX1_read d [eR 1 m, eR 13 0, eI (nI tn)] M (fun r M' => FX (MY m) M M' ∧ ((∃ e, e ≤ 170 ∧ er_read tn tb = .inl e ∧ r = some (eI (nI e))) ∨ ∃ n l2, er_read tn tb = .inr (n, l2) ∧ r = some (eI (-1)) ∧ M'.1 1 m 0 = nI n ∧ RZ m l2 M')) := by
  refine Ezc.of (by decide +kernel) (Nat.le_of_ble_eq_true rfl) ?_
  have hmt : ∀ i, er_my tn tb i < 257 := fun i => by unfold er_my; split; exact Nat.lt_succ_of_lt (hx6 i (by assumption)); omega
  show Ez G mX1_read d 0 [(0, eR 1 m), (1, eR 13 0), (2, eI (nI tn))] [] M _
  refine ez_aload_n 1 dX1_read_0 rfl rfl ?_
  refine ez_iload_n 2 dX1_read_1 rfl rfl ?_
  refine ez_iconst 3 dX1_read_2 rfl (nI 0) (by decide) ?_
  refine ez_callS 6 [eR 13 0, eI (nI tn), eI (nI 0)] [] dX1_read_3 rfl rfl ok_X1_byteAt st_X1_byteAt ln_X1_37 (by omega) (Nat.le_of_ble_eq_true rfl) (c_X1_byteAt G (d - 1) tn 0 tb M ht hb hx6 (by omega)) (fun r3 M3 q3 => ?_)
  obtain ⟨rfl, e3⟩ := q3
  rw [e3]
  show Ez G mX1_read d 6 [(0, eR 1 m), (1, eR 13 0), (2, eI (nI tn))] [eI (er_sv (er_my tn tb 0))] M _
  refine ez_bipush 8 dX1_read_6 rfl (nI 97) (by decide) ?_
  refine ez_isub 9 dX1_read_8 rfl ?_
  obtain ⟨u0, eu0⟩ : ∃ v, v = er_sv (er_my tn tb 0) - nI 97 := ⟨_, rfl⟩
  rw [← eu0]
  refine ez_istore_n 10 [(3, eI u0), (0, eR 1 m), (1, eR 13 0), (2, eI (nI tn))] dX1_read_9 rfl (by decide) rfl ?_
  refine ez_iload_n 11 dX1_read_10 rfl rfl ?_
  refine ez_bipush 13 dX1_read_11 rfl (nI 10) (by decide) ?_
  refine ez_callSN 16 [eI u0, eI (nI 10)] [] dX1_read_13 rfl rfl ok_X11_isInside st_X11_isInside "ElevenPebbles" nn_X1_25 (by omega) (Nat.le_of_ble_eq_true rfl) (c_isInside_c G (d - 1) u0 10 M (by omega)) (fun r13 M13 q13 => ?_)
  obtain ⟨e13, ⟨rfl, i13⟩ | ⟨j13, b13, rfl, rfl⟩⟩ := q13
  · rw [e13]
    show Ez G mX1_read d 16 [(3, eI u0), (0, eR 1 m), (1, eR 13 0), (2, eI (nI tn))] [eI (nI 0)] M _
    refine ez_nif_ne 19 21 dX1_read_16 rfl (by decide) (by omega) (fun h16 => ?_) (fun h16 => ?_)
    · exact absurd h16 (by decide)
    · refine ez_iconst 20 dX1_read_19 rfl (nI 0) (by decide) ?_
      refine ez_iret .int dX1_read_20 rfl rfl ?_
      have dx0 : er_dx (er_my tn tb 0) 97 10 = none := by rw [← er_ixdx (by omega) (by omega) (er_sv_97 (er_my tn tb 0) (hmt _)), ← eu0]; exact i13
      exact ⟨FX.rf, Or.inl ⟨0, by omega, by unfold er_read; rw [dx0], rfl⟩⟩
  · rw [e13]
    have i13 : ep_ix (nI j13) 10 = some j13 := ep_ix_nI b13 (by omega)
    show Ez G mX1_read d 16 [(3, eI (nI j13)), (0, eR 1 m), (1, eR 13 0), (2, eI (nI tn))] [eI (nI 1)] M _
    refine ez_nif_ne 19 21 dX1_read_16 rfl (by decide) (by omega) (fun h16 => ?_) (fun h16 => ?_)
    · refine ez_aload_n 22 dX1_read_21 rfl rfl ?_
      refine ez_iload_n 23 dX1_read_22 rfl rfl ?_
      refine ez_iconst 24 dX1_read_23 rfl (nI 1) (by decide) ?_
      refine ez_iadd 25 dX1_read_24 rfl ?_
      refine ez_top (nI (j13 + 1)) (nI_add _ _) ?_
      refine ez_callV 28 [eI (nI (j13 + 1))] [] dX1_read_25 rfl rfl ok_X1_clear in_X1_clear (by decide) (by show m < 4; omega) ln_X1_41 (by omega) (Nat.le_of_ble_eq_true rfl) (c_X1_clear G (d - 1) m (j13 + 1) M hm) (fun r25 M25 q25 => ?_)
      obtain ⟨rfl, k25, g25, f25⟩ := q25
      show Ez G mX1_read d 28 [(3, eI (nI j13)), (0, eR 1 m), (1, eR 13 0), (2, eI (nI tn))] [] M25 _
      refine ez_iconst 29 dX1_read_28 rfl (nI 1) (by decide) ?_
      refine ez_istore 31 [(4, eI (nI 1)), (3, eI (nI j13)), (0, eR 1 m), (1, eR 13 0), (2, eI (nI tn))] dX1_read_29 rfl (by decide) rfl ?_
      have dx0 : er_dx (er_my tn tb 0) 97 10 = some j13 := by rw [← er_ixdx (by omega) (by omega) (er_sv_97 (er_my tn tb 0) (hmt _)), ← eu0]; exact i13
      refine ez_drop [(4, eI (nI 1)), (3, eI (nI j13)), (2, eI (nI tn)), (1, eR 13 0), (0, eR 1 m)] (by simp) ?_
      refine ez_wk (fun r M' hr => ?_) (lp_read G d m (j13 + 1) tn j13 tb _ M25 (by omega) hm (by omega) ht (fun i hi => by rw [f25 _ _ _ (by unfold MY; omega)]; exact hb i hi) hx6 160 160 1 (fun _ => -1) M25 rfl (by omega) (by omega) FX.rf k25 g25 rfl)
      obtain ⟨g1, ⟨e, g2, g3, g4⟩ | ⟨l2, g3, g4, g5, g6⟩⟩ := hr
      · exact ⟨f25.tr g1, Or.inl ⟨e, g2, by unfold er_read; rw [dx0]; simp only []; rw [g3], g4⟩⟩
      · exact ⟨f25.tr g1, Or.inr ⟨j13 + 1, l2, by unfold er_read; rw [dx0]; simp only []; rw [g3], g4, g5, g6⟩⟩
    · exact absurd h16 (by decide)
set_option maxRecDepth 20000 in
theorem c_X11_maze (G : EzG) (d : Nat) {q : EpS} (M : EzM) (hd : 4 ≤ d) (hW : WF q) (hC : RC q M) : Ezc G mX11_maze d [eR 11 0] M (fun r M' => r = some (eI (S_maze q).1) ∧ RC (S_maze q).2 M' ∧ FX CC M M') := by
  refine Ezc.of (by decide +kernel) (Nat.le_of_ble_eq_true rfl) ?_
  have q8 := hW.2.1.1
  have q4 := hW.1.1
  have qx := hW.2.2.2.2.1
  show Ez G mX11_maze d 0 [(0, eR 11 0)] [] M _
  refine ez_aload_n 1 dX11_maze_0 rfl rfl ?_
  refine ez_getf 4 (eI (M.1 11 0 2)) dX11_maze_1 rfl fl_X11_108 (by show 0 < 1; omega) rfl ?_
  refine ez_top (nI q.1.1) hC.1.1 ?_
  refine ez_iconst 5 dX11_maze_4 rfl (nI 4) (by decide) ?_
  refine ez_ncmp_lt 8 11 dX11_maze_5 rfl (by decide) (by omega) (by omega) (fun h5 => ?_) (fun h5 => ?_)
  · refine ez_aload_n 12 dX11_maze_11 rfl rfl ?_
    refine ez_getf 15 (eR 36 0) dX11_maze_12 rfl fl_X11_18 (by show 0 < 1; omega) rfl ?_
    refine ez_aload_n 16 dX11_maze_15 rfl rfl ?_
    refine ez_getf 19 (eI (M.1 11 0 2)) dX11_maze_16 rfl fl_X11_108 (by show 0 < 1; omega) rfl ?_
    refine ez_top (nI q.1.1) hC.1.1 ?_
    refine ez_aaldN q.1.1 20 (eR 1 q.1.1) dX11_maze_19 rfl (by decide) rfl (by show 0 < 1; omega) (by show q.1.1 < 4; omega) (by rw [show (ez_ark 36) = (1, 0) from rfl]; simp) ?_
    refine ez_aload_n 21 dX11_maze_20 rfl rfl ?_
    refine ez_getf 24 (eR 7 0) dX11_maze_21 rfl fl_X11_10 (by show 0 < 1; omega) rfl ?_
    refine ez_getf 27 (eR 13 0) dX11_maze_24 rfl fl_X11_111 (by show 0 < 1; omega) rfl ?_
    refine ez_aload_n 28 dX11_maze_27 rfl rfl ?_
    refine ez_getf 31 (eR 7 0) dX11_maze_28 rfl fl_X11_10 (by show 0 < 1; omega) rfl ?_
    refine ez_getf 34 (eI (M.1 7 0 1)) dX11_maze_31 rfl fl_X11_100 (by show 0 < 1; omega) rfl ?_
    refine ez_top (nI q.2.2.1.1) hC.2.2.1.1 ?_
    refine ez_callV 37 [eR 13 0, eI (nI q.2.2.1.1)] [] dX11_maze_34 rfl rfl ok_X1_read in_X1_read (by decide) (by show q.1.1 < 4; omega) ln_X11_115 (by omega) (Nat.le_of_ble_eq_true rfl) (c_X1_read G (d - 1) q.1.1 q.2.2.1.1 q.2.2.1.2 M (by omega) (by omega) hW.2.2.1.1 hC.2.2.1.2 hW.2.2.1.2) (fun r34 M34 q34 => ?_)
    obtain ⟨f34, ⟨e9, y9, x9, rfl⟩ | ⟨n9, l9, x9, rfl, n34, g34⟩⟩ := q34
    · have k11 : M34.1 11 0 2 = nI q.1.1 := by rw [f34 _ _ _ (by unfold MY; omega)]; exact hC.1.1
      show Ez G mX11_maze d 37 [(0, eR 11 0)] [eI (nI e9)] M34 _
      refine ez_istore_n 38 [(1, eI (nI e9)), (0, eR 11 0)] dX11_maze_37 rfl (by decide) rfl ?_
      refine ez_aload_n 39 dX11_maze_38 rfl rfl ?_
      refine ez_getf 42 (eR 7 0) dX11_maze_39 rfl fl_X11_10 (by show 0 < 1; omega) rfl ?_
      refine ez_iconst 43 dX11_maze_42 rfl (nI 0) (by decide) ?_
      refine ez_putf 46 .int dX11_maze_43 rfl fp_X11_100 (by show 0 < 1; omega) rfl (by decide) rfl rfl ?_
      refine ez_iload_n 47 dX11_maze_46 rfl rfl ?_
      refine ez_iconst 48 dX11_maze_47 rfl (-1) (by decide) ?_
      refine ez_icmp_eq 51 56 dX11_maze_48 rfl (by decide) (fun h48 => ?_) (fun h48 => ?_)
      · refine ez_aload_n 57 dX11_maze_56 rfl rfl ?_
        refine ez_dup 58 dX11_maze_57 rfl rfl ?_
        refine ez_getf 61 (eI (M34.1 11 0 2)) dX11_maze_58 rfl fl_X11_108 (by show 0 < 1; omega) rfl ?_
        refine ez_top (nI q.1.1) k11 ?_
        refine ez_iconst 62 dX11_maze_61 rfl (nI 1) (by decide) ?_
        refine ez_iadd 63 dX11_maze_62 rfl ?_
        refine ez_top (nI (q.1.1 + 1)) (nI_add _ _) ?_
        refine ez_putf 66 .int dX11_maze_63 rfl fp_X11_108 (by show 0 < 1; omega) rfl (by decide) rfl rfl ?_
        refine ez_aload_n 67 dX11_maze_66 rfl rfl ?_
        refine ez_getf 70 (eI (nI (q.1.1 + 1))) dX11_maze_67 rfl fl_X11_108 (by show 0 < 1; omega) rfl ?_
        refine ez_iconst 71 dX11_maze_70 rfl (nI 1) (by decide) ?_
        refine ez_isub 72 dX11_maze_71 rfl ?_
        refine ez_top (nI (q.1.1 + 1 - 1)) (pk_sub (by omega)) ?_
        refine ez_iret .int dX11_maze_72 rfl rfl ?_
        exact absurd h48 (ep_m1 (by omega))
      · refine ez_bipush 53 dX11_maze_51 rfl (-100) (by decide) ?_
        refine ez_iload_n 54 dX11_maze_53 rfl rfl ?_
        refine ez_isub 55 dX11_maze_54 rfl ?_
        refine ez_iret .int dX11_maze_55 rfl rfl ?_
        have eS : S_maze q = (-100 - nI e9, q.1, q.2.1, (0, q.2.2.1.2), q.2.2.2) := by unfold S_maze; rw [if_pos (by omega), x9]
        have hF : FX (fun k i s => (((k = 1 ∧ s = 0) ∨ k = 18 ∨ k = 19) ∧ i = q.1.1) ∨ (k = 7 ∧ i = 0 ∧ s = 1)) M (ez_st M34 7 0 1 (nI 0)) := (FX.up f34 (fun k i s z => by unfold MY at z; omega)).st (by omega)
        have k9 := RC_mzb hW hC hF (by rw [ez_rd, if_pos ⟨rfl, rfl, rfl⟩])
        exact ⟨by rw [eS], by rw [eS]; exact k9.1, k9.2⟩
    · have k11 : M34.1 11 0 2 = nI q.1.1 := by rw [f34 _ _ _ (by unfold MY; omega)]; exact hC.1.1
      show Ez G mX11_maze d 37 [(0, eR 11 0)] [eI (-1)] M34 _
      refine ez_istore_n 38 [(1, eI (-1)), (0, eR 11 0)] dX11_maze_37 rfl (by decide) rfl ?_
      refine ez_aload_n 39 dX11_maze_38 rfl rfl ?_
      refine ez_getf 42 (eR 7 0) dX11_maze_39 rfl fl_X11_10 (by show 0 < 1; omega) rfl ?_
      refine ez_iconst 43 dX11_maze_42 rfl (nI 0) (by decide) ?_
      refine ez_putf 46 .int dX11_maze_43 rfl fp_X11_100 (by show 0 < 1; omega) rfl (by decide) rfl rfl ?_
      refine ez_iload_n 47 dX11_maze_46 rfl rfl ?_
      refine ez_iconst 48 dX11_maze_47 rfl (-1) (by decide) ?_
      refine ez_icmp_eq 51 56 dX11_maze_48 rfl (by decide) (fun h48 => ?_) (fun h48 => ?_)
      · refine ez_aload_n 57 dX11_maze_56 rfl rfl ?_
        refine ez_dup 58 dX11_maze_57 rfl rfl ?_
        refine ez_getf 61 (eI (M34.1 11 0 2)) dX11_maze_58 rfl fl_X11_108 (by show 0 < 1; omega) rfl ?_
        refine ez_top (nI q.1.1) k11 ?_
        refine ez_iconst 62 dX11_maze_61 rfl (nI 1) (by decide) ?_
        refine ez_iadd 63 dX11_maze_62 rfl ?_
        refine ez_top (nI (q.1.1 + 1)) (nI_add _ _) ?_
        refine ez_putf 66 .int dX11_maze_63 rfl fp_X11_108 (by show 0 < 1; omega) rfl (by decide) rfl rfl ?_
        refine ez_aload_n 67 dX11_maze_66 rfl rfl ?_
        refine ez_getf 70 (eI (nI (q.1.1 + 1))) dX11_maze_67 rfl fl_X11_108 (by show 0 < 1; omega) rfl ?_
        refine ez_iconst 71 dX11_maze_70 rfl (nI 1) (by decide) ?_
        refine ez_isub 72 dX11_maze_71 rfl ?_
        refine ez_top (nI (q.1.1 + 1 - 1)) (pk_sub (by omega)) ?_
        refine ez_iret .int dX11_maze_72 rfl rfl ?_
        have eS : S_maze q = (nI q.1.1, ((q.1.1 + 1, er_u1 q.1.2.1 q.1.1 n9, er_u1 q.1.2.2.1 q.1.1 l9, er_u1 q.1.2.2.2 q.1.1 (fun _ => 0)), q.2.1, (0, q.2.2.1.2), q.2.2.2)) := by unfold S_maze; rw [if_pos (by omega), x9]
        have hF : FX (fun k i s => (((k = 1 ∧ s = 0) ∨ k = 18 ∨ k = 19) ∧ i = q.1.1) ∨ (k = 7 ∧ i = 0 ∧ s = 1) ∨ (k = 11 ∧ i = 0 ∧ s = 2)) M (ez_st (ez_st M34 7 0 1 (nI 0)) 11 0 2 (nI (q.1.1 + 1))) := FX.st (FX.st (FX.up f34 (fun k i s z => by unfold MY at z; omega)) (by omega)) (by omega)
        have k9 := RC_mzg (n := n9) (l := l9) hW hC (by omega) hF (by rw [ez_rd, if_neg (by omega), ez_rd, if_pos ⟨rfl, rfl, rfl⟩]) (by rw [ez_rd, if_pos ⟨rfl, rfl, rfl⟩]) (by rw [ez_rd, if_neg (by omega), ez_rd, if_neg (by omega)]; exact n34) ⟨fun x hx => by rw [ez_rd, if_neg (by omega), ez_rd, if_neg (by omega)]; exact g34.1 x hx, fun x hx => by rw [ez_rd, if_neg (by omega), ez_rd, if_neg (by omega)]; exact g34.2 x hx⟩
        exact ⟨by rw [eS]; rfl, by rw [eS]; exact k9.1, k9.2⟩
      · refine ez_bipush 53 dX11_maze_51 rfl (-100) (by decide) ?_
        refine ez_iload_n 54 dX11_maze_53 rfl rfl ?_
        refine ez_isub 55 dX11_maze_54 rfl ?_
        refine ez_iret .int dX11_maze_55 rfl rfl ?_
        exact absurd rfl h48
  · refine ez_bipush 10 dX11_maze_8 rfl (-4) (by decide) ?_
    refine ez_iret .int dX11_maze_10 rfl rfl ?_
    have eS : S_maze q = (-4, q) := by unfold S_maze; rw [if_neg (by omega)]
    exact ⟨by rw [eS], by rw [eS]; exact hC, FX.rf⟩
