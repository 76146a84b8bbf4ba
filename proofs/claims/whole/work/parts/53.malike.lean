/-! alike: class and model -/
set_option maxRecDepth 20000 in
theorem lp_parts (G : EzG) (d : Nat) {n : Nat} {lt : Nat → Int32} (m : Nat) (M : EzM) (hd : 6 ≤ d) (hm : m < 4) (hwf : WFz n lt) (hZ : RCz m n lt M) : ∀ (z : Nat) (t : Nat) (p : Nat) (M1 : EzM), n - t = z → t ≤ n → p = s_cn lt t → FX PF M M1 → Ez G mX11_countParts d 4 [(3, eI (nI t)), (2, eI (nI p)), (0, eR 11 0), (1, eR 1 m)] [] M1 (fun r M' => r = some (eI (nI (s_cn lt n))) ∧ FX PF M M') := by
  intro z
  induction z using Nat.strongRecOn with
  | ind z ih =>
    intro t p M1 hz ht hp hF
    have n10 := hwf.2.1
    have l9 := s_la_le lt t
    have p9 := s_cn_le lt t
    refine ez_iload_n 5 dX11_countParts_4 rfl rfl ?_
    refine ez_aload_n 6 dX11_countParts_5 rfl rfl ?_
    refine ez_getf 9 (eI (M1.1 1 m 0)) dX11_countParts_6 rfl fl_X11_145 (by show m < 4; omega) rfl ?_
    refine ez_top (nI n) ((hZ.fx hF ⟨by unfold PF; omega, fun x => by unfold PF; omega⟩).1) ?_
    refine ez_ncmp_ge 12 31 dX11_countParts_9 rfl (by decide) (by omega) (by omega) (fun h9 => ?_) (fun h9 => ?_)
    · refine ez_iload_n 32 dX11_countParts_31 rfl rfl ?_
      refine ez_iret .int dX11_countParts_32 rfl rfl ?_
      have e9 : t = n := by omega
      subst e9
      exact ⟨by rw [hp], hF⟩
    · refine ez_aload_n 13 dX11_countParts_12 rfl rfl ?_
      refine ez_aload_n 14 dX11_countParts_13 rfl rfl ?_
      refine ez_iload_n 15 dX11_countParts_14 rfl rfl ?_
      refine ez_callV 18 [eR 1 m, eI (nI t)] [] dX11_countParts_15 rfl rfl ok_X11_leastAlike in_X11_leastAlike (by decide) (by show 0 < 1; omega) ln_X11_244 (by omega) (Nat.le_of_ble_eq_true rfl) (c_X11_leastAlike G (d - 1) (n := n) (lt := lt) m t M1 (by omega) hm hwf (by omega) (hZ.fx hF ⟨by unfold PF; omega, fun x => by unfold PF; omega⟩)) (fun r15 M15 q15 => ?_)
      obtain ⟨rfl, f15⟩ := q15
      show Ez G mX11_countParts d 18 [(3, eI (nI t)), (2, eI (nI p)), (0, eR 11 0), (1, eR 1 m)] [eI (nI (s_la lt t))] M15 _
      refine ez_iload_n 19 dX11_countParts_18 rfl rfl ?_
      refine ez_ncmp_ne 22 25 dX11_countParts_19 rfl (by decide) (by omega) (by omega) (fun h19 => ?_) (fun h19 => ?_)
      · refine ez_iinc 28 (nI (t + 1)) [(3, eI (nI (t + 1))), (2, eI (nI p)), (0, eR 11 0), (1, eR 1 m)] dX11_countParts_25 rfl rfl (nI_add t 1) (by decide) rfl ?_
        refine ez_goto 4 dX11_countParts_28 (by decide) ?_
        refine ez_drop [(3, eI (nI (t + 1))), (2, eI (nI p)), (0, eR 11 0), (1, eR 1 m)] (by simp) ?_
        exact ih (n - (t + 1)) (by omega) (t + 1) _ _ rfl (by omega) (by show _ = s_cn lt t + _; rw [if_neg h19, hp, Nat.add_zero]) (hF.tr f15)
      · refine ez_iinc 25 (nI (p + 1)) [(2, eI (nI (p + 1))), (3, eI (nI t)), (0, eR 11 0), (1, eR 1 m)] dX11_countParts_22 rfl rfl (nI_add p 1) (by decide) rfl ?_
        refine ez_iinc 28 (nI (t + 1)) [(3, eI (nI (t + 1))), (2, eI (nI (p + 1))), (0, eR 11 0), (1, eR 1 m)] dX11_countParts_25 rfl rfl (nI_add t 1) (by decide) rfl ?_
        refine ez_goto 4 dX11_countParts_28 (by decide) ?_
        refine ez_drop [(3, eI (nI (t + 1))), (2, eI (nI (p + 1))), (0, eR 11 0), (1, eR 1 m)] (by simp) ?_
        exact ih (n - (t + 1)) (by omega) (t + 1) _ _ rfl (by omega) (by show _ = s_cn lt t + _; rw [if_pos h19, hp]) (hF.tr f15)
set_option maxRecDepth 20000 in
theorem c_X11_countParts (G : EzG) (d : Nat) {n : Nat} {lt : Nat → Int32} (m : Nat) (M : EzM) (hd : 6 ≤ d) (hm : m < 4) (hwf : WFz n lt) (hZ : RCz m n lt M) : Ezc G mX11_countParts d [eR 11 0, eR 1 m] M (fun r M' => r = some (eI (nI (s_cn lt n))) ∧ FX PF M M') := by
  refine Ezc.of (by decide +kernel) (Nat.le_of_ble_eq_true rfl) ?_
  show Ez G mX11_countParts d 0 [(0, eR 11 0), (1, eR 1 m)] [] M _
  refine ez_iconst 1 dX11_countParts_0 rfl (nI 0) (by decide) ?_
  refine ez_istore_n 2 [(2, eI (nI 0)), (0, eR 11 0), (1, eR 1 m)] dX11_countParts_1 rfl (by decide) rfl ?_
  refine ez_iconst 3 dX11_countParts_2 rfl (nI 0) (by decide) ?_
  refine ez_istore_n 4 [(3, eI (nI 0)), (2, eI (nI 0)), (0, eR 11 0), (1, eR 1 m)] dX11_countParts_3 rfl (by decide) rfl ?_
  exact lp_parts G d m M hd hm hwf hZ _ 0 0 M rfl (by omega) rfl FX.rf
set_option maxRecDepth 20000 in
theorem c_X11_alike (G : EzG) (d : Nat) {q : EpS} (x y : Int32) (M : EzM) (hd : 7 ≤ d) (hW : WF q) (hC : RC q M) : Ezc G mX11_alike d [eR 11 0, eI x, eI y] M (fun r M' => r = some (eI (S_alike q x y)) ∧ RC q M' ∧ FX CC M M') := by
  refine Ezc.of (by decide +kernel) (Nat.le_of_ble_eq_true rfl) ?_
  have q8 := hW.2.1.1
  have q4 := hW.1.1
  have qx := hW.2.2.2.2.1
  show Ez G mX11_alike d 0 [(0, eR 11 0), (1, eI x), (2, eI y)] [] M _
  refine ez_aload_n 1 dX11_alike_0 rfl rfl ?_
  refine ez_iload_n 2 dX11_alike_1 rfl rfl ?_
  refine ez_callV 5 [eI x] [] dX11_alike_2 rfl rfl ok_X11_mazeAt in_X11_mazeAt (by decide) (by show 0 < 1; omega) ln_X11_141 (by omega) (Nat.le_of_ble_eq_true rfl) (c_X11_mazeAt G (d - 1) x q.1.1 M (by omega) hC.1.1 (by omega)) (fun r2 M2 q2 => ?_)
  obtain ⟨e2, ⟨rfl, i2⟩ | ⟨j2, b2, rfl, rfl⟩⟩ := q2
  · rw [e2]
    show Ez G mX11_alike d 5 [(0, eR 11 0), (1, eI x), (2, eI y)] [eN] M _
    refine ez_astore_n 6 [(3, eN), (0, eR 11 0), (1, eI x), (2, eI y)] dX11_alike_5 rfl (by decide) rfl ?_
    refine ez_aload_n 7 dX11_alike_6 rfl rfl ?_
    refine ez_ifnonnull_n 10 dX11_alike_7 rfl ?_
    refine ez_bipush 12 dX11_alike_10 rfl (-2) (by decide) ?_
    refine ez_iret .int dX11_alike_12 rfl rfl ?_
    exact ⟨by simp [S_alike, i2], hC, FX.rf⟩
  · rw [e2]
    have i2 : ep_ix (nI j2) q.1.1 = some j2 := ep_ix_nI b2 (by omega)
    show Ez G mX11_alike d 5 [(0, eR 11 0), (1, eI (nI j2)), (2, eI y)] [eR 1 j2] M _
    refine ez_astore_n 6 [(3, eR 1 j2), (0, eR 11 0), (1, eI (nI j2)), (2, eI y)] dX11_alike_5 rfl (by decide) rfl ?_
    refine ez_aload_n 7 dX11_alike_6 rfl rfl ?_
    refine ez_ifnonnull_r 13 dX11_alike_7 (by decide) ?_
    refine ez_iload_n 14 dX11_alike_13 rfl rfl ?_
    refine ez_iconst 15 dX11_alike_14 rfl (-1) (by decide) ?_
    refine ez_icmp_ne 18 24 dX11_alike_15 rfl (by decide) (fun h15 => ?_) (fun h15 => ?_)
    · refine ez_aload_n 25 dX11_alike_24 rfl rfl ?_
      refine ez_iload_n 26 dX11_alike_25 rfl rfl ?_
      refine ez_callV 29 [eI y] [] dX11_alike_26 rfl rfl ok_X1_hasRoom in_X1_hasRoom (by decide) (by show j2 < 4; omega) ln_X11_148 (by omega) (Nat.le_of_ble_eq_true rfl) (c_hasRoom_c G (d - 1) j2 y (q.1.2.1 j2) M (by omega) (hC.1.2.1 j2 (by omega)).1 (by have := (hW.1.2 j2 (by omega)).2.1; omega)) (fun r26 M26 q26 => ?_)
      obtain ⟨e26, ⟨rfl, i26⟩ | ⟨j26, b26, rfl, rfl⟩⟩ := q26
      · rw [e26]
        show Ez G mX11_alike d 29 [(3, eR 1 j2), (0, eR 11 0), (1, eI (nI j2)), (2, eI y)] [eI (nI 0)] M _
        refine ez_nif_eq 32 41 dX11_alike_29 rfl (by decide) (by omega) (fun h29 => ?_) (fun h29 => ?_)
        · refine ez_bipush 43 dX11_alike_41 rfl (-2) (by decide) ?_
          refine ez_iret .int dX11_alike_43 rfl rfl ?_
          exact ⟨by simp only [S_alike, i2, i26]; rw [if_neg h15], hC, FX.rf⟩
        · exact absurd h29 (by decide)
      · rw [e26]
        have i26 : ep_ix (nI j26) (q.1.2.1 j2) = some j26 := ep_ix_nI b26 (by have := (hW.1.2 j2 (by omega)).2.1; omega)
        show Ez G mX11_alike d 29 [(3, eR 1 j2), (0, eR 11 0), (1, eI (nI j2)), (2, eI (nI j26))] [eI (nI 1)] M _
        refine ez_nif_eq 32 41 dX11_alike_29 rfl (by decide) (by omega) (fun h29 => ?_) (fun h29 => ?_)
        · exact absurd h29 (by decide)
        · refine ez_aload_n 33 dX11_alike_32 rfl rfl ?_
          refine ez_aload_n 34 dX11_alike_33 rfl rfl ?_
          refine ez_iload_n 35 dX11_alike_34 rfl rfl ?_
          refine ez_callV 38 [eR 1 j2, eI (nI j26)] [] dX11_alike_35 rfl rfl ok_X11_leastAlike in_X11_leastAlike (by decide) (by show 0 < 1; omega) ln_X11_244 (by omega) (Nat.le_of_ble_eq_true rfl) (c_X11_leastAlike G (d - 1) j2 j26 M (by omega) (by omega) (g_WFz hW.1 b2) b26 (g_RCz hC.1 b2)) (fun r35 M35 q35 => ?_)
          obtain ⟨rfl, f35⟩ := q35
          show Ez G mX11_alike d 38 [(3, eR 1 j2), (0, eR 11 0), (1, eI (nI j2)), (2, eI (nI j26))] [eI (nI (s_la (q.1.2.2.1 j2) j26))] M35 _
          refine ez_goto 43 dX11_alike_38 (by decide) ?_
          refine ez_iret .int dX11_alike_43 rfl rfl ?_
          exact ⟨by simp only [S_alike, i2, i26]; rw [if_neg (ep_m1 (by have := (hW.1.2 j2 b2).2.1; omega))], RC.sc hW hC f35.pfsc, f35.pfsc.scc⟩
    · subst h15
      refine ez_aload_n 19 dX11_alike_18 rfl rfl ?_
      refine ez_aload_n 20 dX11_alike_19 rfl rfl ?_
      refine ez_callV 23 [eR 1 j2] [] dX11_alike_20 rfl rfl ok_X11_countParts in_X11_countParts (by decide) (by show 0 < 1; omega) ln_X11_240 (by omega) (Nat.le_of_ble_eq_true rfl) (c_X11_countParts G (d - 1) j2 M (by omega) (by omega) (g_WFz hW.1 b2) (g_RCz hC.1 b2)) (fun r20 M20 q20 => ?_)
      obtain ⟨rfl, f20⟩ := q20
      show Ez G mX11_alike d 23 [(3, eR 1 j2), (0, eR 11 0), (1, eI (nI j2)), (2, eI (-1))] [eI (nI (s_cn (q.1.2.2.1 j2) (q.1.2.1 j2)))] M20 _
      refine ez_iret .int dX11_alike_23 rfl rfl ?_
      exact ⟨by simp [S_alike, i2], RC.sc hW hC f20.pfsc, f20.pfsc.scc⟩
set_option maxRecDepth 20000 in
theorem lp_areOne (g : EzH) (d : Nat) {n : Nat} {lt : Nat → Int32} {sv : Nat → Nat} (m a b : Nat) (M : EzM) (hd : 2 ≤ d) (hm : m < 4) (hwf : WFz n lt) (ha : a < n) (hb : b < n) (hZ : RMz m n lt M) (hs9 : ∀ x, x < n → sv x ≤ x) (hsv : ∀ x, x < n → M.1 58 0 x = nI (sv x)) (hse : sv a = sv b) (hdn : ep_dn lt a = ep_dn lt b) : ∀ (z : Nat) (c : Nat), 4 - c = z → c ≤ 4 → (∀ j, j < c → lt (4 * a + j) = -1 ∨ ((lt (4 * a + j)).toNatClampNeg % 10 = (lt (4 * b + j)).toNatClampNeg % 10 ∧ sv ((lt (4 * a + j)).toNatClampNeg / 10) = sv ((lt (4 * b + j)).toNatClampNeg / 10))) → Ez (true, g) mX12_areOne d 35 [(4, eI (nI c)), (0, eR 12 0), (1, eI (nI m)), (2, eI (nI a)), (3, eI (nI b))] [] M (fun r M' => M' = M ∧ ((r = some (eI (nI 1)) ∧ A1 lt sv a b) ∨ (r = some (eI (nI 0)) ∧ ¬ A1 lt sv a b))) := by
  intro z
  induction z using Nat.strongRecOn with
  | ind z ih =>
    intro c hz hc hj0
    have n10 := hwf.2.1
    refine ez_iload 37 dX12_areOne_35 rfl rfl ?_
    refine ez_iconst 38 dX12_areOne_37 rfl (nI 4) (by decide) ?_
    refine ez_ncmp_ge 41 111 dX12_areOne_38 rfl (by decide) (by omega) (by omega) (fun h38 => ?_) (fun h38 => ?_)
    · refine ez_iconst 112 dX12_areOne_111 rfl (nI 1) (by decide) ?_
      refine ez_iret .boolean dX12_areOne_112 rfl (by decide) ?_
      exact ⟨rfl, Or.inl ⟨rfl, hse, hdn, fun c9 hc9 => hj0 c9 (by omega)⟩⟩
    · refine ez_aload_n 42 dX12_areOne_41 rfl rfl ?_
      refine ez_iload_n 43 dX12_areOne_42 rfl rfl ?_
      refine ez_iload_n 44 dX12_areOne_43 rfl rfl ?_
      refine ez_iload 46 dX12_areOne_44 rfl rfl ?_
      refine ez_callV 49 [eI (nI m), eI (nI a), eI (nI c)] [] dX12_areOne_46 rfl rfl ok_X12_to in_X12_to (by decide) (by show 0 < 1; omega) ln_X12_170 (by omega) (Nat.le_of_ble_eq_true rfl) (c_X12_to g (d - 1) m a c M (by omega) (by omega) (by omega)) (fun r46 M46 q46 => ?_)
      obtain ⟨rfl, e46⟩ := q46
      rw [e46, show M.1 45 0 (40 * m + (4 * a + c)) = lt (4 * a + c) from hZ.2 _ (by omega)]
      show Ez (true, g) mX12_areOne d 49 [(4, eI (nI c)), (0, eR 12 0), (1, eI (nI m)), (2, eI (nI a)), (3, eI (nI b))] [eI (lt (4 * a + c))] M _
      refine ez_istore 51 [(5, eI (lt (4 * a + c))), (4, eI (nI c)), (0, eR 12 0), (1, eI (nI m)), (2, eI (nI a)), (3, eI (nI b))] dX12_areOne_49 rfl (by decide) rfl ?_
      refine ez_aload_n 52 dX12_areOne_51 rfl rfl ?_
      refine ez_iload_n 53 dX12_areOne_52 rfl rfl ?_
      refine ez_iload_n 54 dX12_areOne_53 rfl rfl ?_
      refine ez_iload 56 dX12_areOne_54 rfl rfl ?_
      refine ez_callV 59 [eI (nI m), eI (nI b), eI (nI c)] [] dX12_areOne_56 rfl rfl ok_X12_to in_X12_to (by decide) (by show 0 < 1; omega) ln_X12_170 (by omega) (Nat.le_of_ble_eq_true rfl) (c_X12_to g (d - 1) m b c M (by omega) (by omega) (by omega)) (fun r56 M56 q56 => ?_)
      obtain ⟨rfl, e56⟩ := q56
      rw [e56, show M.1 45 0 (40 * m + (4 * b + c)) = lt (4 * b + c) from hZ.2 _ (by omega)]
      show Ez (true, g) mX12_areOne d 59 [(5, eI (lt (4 * a + c))), (4, eI (nI c)), (0, eR 12 0), (1, eI (nI m)), (2, eI (nI a)), (3, eI (nI b))] [eI (lt (4 * b + c))] M _
      refine ez_istore 61 [(6, eI (lt (4 * b + c))), (5, eI (lt (4 * a + c))), (4, eI (nI c)), (0, eR 12 0), (1, eI (nI m)), (2, eI (nI a)), (3, eI (nI b))] dX12_areOne_59 rfl (by decide) rfl ?_
      refine ez_iload 63 dX12_areOne_61 rfl rfl ?_
      refine ez_iconst 64 dX12_areOne_63 rfl (-1) (by decide) ?_
      refine ez_icmp_eq 67 105 dX12_areOne_64 rfl (by decide) (fun h64 => ?_) (fun h64 => ?_)
      · refine ez_iinc 108 (nI (c + 1)) [(4, eI (nI (c + 1))), (6, eI (lt (4 * b + c))), (5, eI (lt (4 * a + c))), (0, eR 12 0), (1, eI (nI m)), (2, eI (nI a)), (3, eI (nI b))] dX12_areOne_105 rfl rfl (nI_add c 1) (by decide) rfl ?_
        refine ez_goto 35 dX12_areOne_108 (by decide) ?_
        refine ez_drop [(4, eI (nI (c + 1))), (0, eR 12 0), (1, eI (nI m)), (2, eI (nI a)), (3, eI (nI b))] (by simp) ?_
        exact ih (4 - (c + 1)) (by omega) (c + 1) rfl (by omega) (fun j hj => by
          by_cases e : j = c
          · rw [e]; exact Or.inl h64
          · exact hj0 j (by omega))
      · rcases hwf.2.2 a c (by omega) (by omega) with z | ⟨-, r1, c1, b1, b2, b3⟩
        · exact absurd z h64
        rcases hwf.2.2 b c (by omega) (by omega) with z | ⟨-, r2, c2, b4, b5, b6⟩
        · exact absurd ((bz_dn hdn (by omega)).mpr z) h64
        have v1 := hs9 ((10 * r1 + c1) / 10) (by omega)
        have v2 := hs9 ((10 * r2 + c2) / 10) (by omega)
        rw [b3, b6]
        show Ez (true, g) mX12_areOne d 67 [(6, eI (nI (10 * r2 + c2))), (5, eI (nI (10 * r1 + c1))), (4, eI (nI c)), (0, eR 12 0), (1, eI (nI m)), (2, eI (nI a)), (3, eI (nI b))] [] M _
        refine ez_iload 69 dX12_areOne_67 rfl rfl ?_
        refine ez_bipush 71 dX12_areOne_69 rfl (nI 10) (by decide) ?_
        refine ez_irem 72 dX12_areOne_71 rfl (by decide) ?_
        refine ez_top (nI ((10 * r1 + c1) % 10)) (pk_rem (by omega) (by omega) (by omega)) ?_
        refine ez_iload 74 dX12_areOne_72 rfl rfl ?_
        refine ez_bipush 76 dX12_areOne_74 rfl (nI 10) (by decide) ?_
        refine ez_irem 77 dX12_areOne_76 rfl (by decide) ?_
        refine ez_top (nI ((10 * r2 + c2) % 10)) (pk_rem (by omega) (by omega) (by omega)) ?_
        refine ez_ncmp_ne 80 103 dX12_areOne_77 rfl (by decide) (by omega) (by omega) (fun h77 => ?_) (fun h77 => ?_)
        · refine ez_iconst 104 dX12_areOne_103 rfl (nI 0) (by decide) ?_
          refine ez_iret .boolean dX12_areOne_104 rfl (by decide) ?_
          refine ⟨rfl, Or.inr ⟨rfl, fun k9 => ?_⟩⟩
          rcases k9.2.2 c (by omega) with z | ⟨z1, z2⟩
          · exact h64 z
          · rw [b3, b6, nI_clamp (by omega), nI_clamp (by omega)] at z1 z2
            exact h77 z1
        · refine ez_aload_n 81 dX12_areOne_80 rfl rfl ?_
          refine ez_getf 84 (eR 58 0) dX12_areOne_81 rfl fl_X12_62 (by show 0 < 1; omega) rfl ?_
          refine ez_iload 86 dX12_areOne_84 rfl rfl ?_
          refine ez_bipush 88 dX12_areOne_86 rfl (nI 10) (by decide) ?_
          refine ez_idiv 89 dX12_areOne_88 rfl (by decide) ?_
          refine ez_top (nI ((10 * r1 + c1) / 10)) (pk_div (by omega) (by omega) (by omega)) ?_
          refine ez_ialdN ((10 * r1 + c1) / 10) 90 dX12_areOne_89 rfl (by decide) (by show 0 < 1; omega) (by show (10 * r1 + c1) / 10 < 10; omega) ?_
          refine ez_top (nI (sv ((10 * r1 + c1) / 10))) (hsv ((10 * r1 + c1) / 10) (by omega)) ?_
          refine ez_aload_n 91 dX12_areOne_90 rfl rfl ?_
          refine ez_getf 94 (eR 58 0) dX12_areOne_91 rfl fl_X12_62 (by show 0 < 1; omega) rfl ?_
          refine ez_iload 96 dX12_areOne_94 rfl rfl ?_
          refine ez_bipush 98 dX12_areOne_96 rfl (nI 10) (by decide) ?_
          refine ez_idiv 99 dX12_areOne_98 rfl (by decide) ?_
          refine ez_top (nI ((10 * r2 + c2) / 10)) (pk_div (by omega) (by omega) (by omega)) ?_
          refine ez_ialdN ((10 * r2 + c2) / 10) 100 dX12_areOne_99 rfl (by decide) (by show 0 < 1; omega) (by show (10 * r2 + c2) / 10 < 10; omega) ?_
          refine ez_top (nI (sv ((10 * r2 + c2) / 10))) (hsv ((10 * r2 + c2) / 10) (by omega)) ?_
          refine ez_ncmp_eq 103 105 dX12_areOne_100 rfl (by decide) (by omega) (by omega) (fun h100 => ?_) (fun h100 => ?_)
          · refine ez_iinc 108 (nI (c + 1)) [(4, eI (nI (c + 1))), (6, eI (nI (10 * r2 + c2))), (5, eI (nI (10 * r1 + c1))), (0, eR 12 0), (1, eI (nI m)), (2, eI (nI a)), (3, eI (nI b))] dX12_areOne_105 rfl rfl (nI_add c 1) (by decide) rfl ?_
            refine ez_goto 35 dX12_areOne_108 (by decide) ?_
            refine ez_drop [(4, eI (nI (c + 1))), (0, eR 12 0), (1, eI (nI m)), (2, eI (nI a)), (3, eI (nI b))] (by simp) ?_
            exact ih (4 - (c + 1)) (by omega) (c + 1) rfl (by omega) (fun j hj => by
              by_cases e : j = c
              · rw [e]; exact Or.inr (by rw [b3, b6, nI_clamp (by omega), nI_clamp (by omega)]; exact ⟨h77, h100⟩)
              · exact hj0 j (by omega))
          · refine ez_iconst 104 dX12_areOne_103 rfl (nI 0) (by decide) ?_
            refine ez_iret .boolean dX12_areOne_104 rfl (by decide) ?_
            refine ⟨rfl, Or.inr ⟨rfl, fun k9 => ?_⟩⟩
            rcases k9.2.2 c (by omega) with z | ⟨z1, z2⟩
            · exact h64 z
            · rw [b3, b6, nI_clamp (by omega), nI_clamp (by omega)] at z1 z2
              exact h100 z2
set_option maxRecDepth 20000 in
theorem c_X12_areOne (g : EzH) (d : Nat) {n : Nat} {lt : Nat → Int32} {sv : Nat → Nat} (m a b : Nat) (M : EzM) (hd : 2 ≤ d) (hm : m < 4) (hwf : WFz n lt) (ha : a < n) (hb : b < n) (hZ : RMz m n lt M) (hs9 : ∀ x, x < n → sv x ≤ x) (hsv : ∀ x, x < n → M.1 58 0 x = nI (sv x)) : Ezc (true, g) mX12_areOne d [eR 12 0, eI (nI m), eI (nI a), eI (nI b)] M (fun r M' => M' = M ∧ ((r = some (eI (nI 1)) ∧ A1 lt sv a b) ∨ (r = some (eI (nI 0)) ∧ ¬ A1 lt sv a b))) := by
  refine Ezc.of (by decide +kernel) (Nat.le_of_ble_eq_true rfl) ?_
  have n10 := hwf.2.1
  have v1 := hs9 a ha
  have v2 := hs9 b hb
  have d1 := ep_dn16 lt a
  have d2 := ep_dn16 lt b
  show Ez (true, g) mX12_areOne d 0 [(0, eR 12 0), (1, eI (nI m)), (2, eI (nI a)), (3, eI (nI b))] [] M _
  refine ez_aload_n 1 dX12_areOne_0 rfl rfl ?_
  refine ez_getf 4 (eR 58 0) dX12_areOne_1 rfl fl_X12_62 (by show 0 < 1; omega) rfl ?_
  refine ez_iload_n 5 dX12_areOne_4 rfl rfl ?_
  refine ez_ialdN a 6 dX12_areOne_5 rfl (by decide) (by show 0 < 1; omega) (by show a < 10; omega) ?_
  refine ez_top (nI (sv a)) (hsv a (by omega)) ?_
  refine ez_aload_n 7 dX12_areOne_6 rfl rfl ?_
  refine ez_getf 10 (eR 58 0) dX12_areOne_7 rfl fl_X12_62 (by show 0 < 1; omega) rfl ?_
  refine ez_iload_n 11 dX12_areOne_10 rfl rfl ?_
  refine ez_ialdN b 12 dX12_areOne_11 rfl (by decide) (by show 0 < 1; omega) (by show b < 10; omega) ?_
  refine ez_top (nI (sv b)) (hsv b (by omega)) ?_
  refine ez_ncmp_ne 15 30 dX12_areOne_12 rfl (by decide) (by omega) (by omega) (fun h12 => ?_) (fun h12 => ?_)
  · refine ez_iconst 31 dX12_areOne_30 rfl (nI 0) (by decide) ?_
    refine ez_iret .boolean dX12_areOne_31 rfl (by decide) ?_
    exact ⟨rfl, Or.inr ⟨rfl, fun k9 => h12 k9.1⟩⟩
  · refine ez_aload_n 16 dX12_areOne_15 rfl rfl ?_
    refine ez_iload_n 17 dX12_areOne_16 rfl rfl ?_
    refine ez_iload_n 18 dX12_areOne_17 rfl rfl ?_
    refine ez_callV 21 [eI (nI m), eI (nI a)] [] dX12_areOne_18 rfl rfl ok_X12_doorsOf in_X12_doorsOf (by decide) (by show 0 < 1; omega) ln_X12_190 (by omega) (Nat.le_of_ble_eq_true rfl) (c_X12_doorsOf g (d - 1) m n a lt M (by omega) hm (by omega) hZ) (fun r18 M18 q18 => ?_)
    obtain ⟨rfl, e18⟩ := q18
    rw [e18]
    show Ez (true, g) mX12_areOne d 21 [(0, eR 12 0), (1, eI (nI m)), (2, eI (nI a)), (3, eI (nI b))] [eI (nI (ep_dn lt a))] M _
    refine ez_aload_n 22 dX12_areOne_21 rfl rfl ?_
    refine ez_iload_n 23 dX12_areOne_22 rfl rfl ?_
    refine ez_iload_n 24 dX12_areOne_23 rfl rfl ?_
    refine ez_callV 27 [eI (nI m), eI (nI b)] [eI (nI (ep_dn lt a))] dX12_areOne_24 rfl rfl ok_X12_doorsOf in_X12_doorsOf (by decide) (by show 0 < 1; omega) ln_X12_190 (by omega) (Nat.le_of_ble_eq_true rfl) (c_X12_doorsOf g (d - 1) m n b lt M (by omega) hm (by omega) hZ) (fun r24 M24 q24 => ?_)
    obtain ⟨rfl, e24⟩ := q24
    rw [e24]
    show Ez (true, g) mX12_areOne d 27 [(0, eR 12 0), (1, eI (nI m)), (2, eI (nI a)), (3, eI (nI b))] [eI (nI (ep_dn lt b)), eI (nI (ep_dn lt a))] M _
    refine ez_ncmp_eq 30 32 dX12_areOne_27 rfl (by decide) (by omega) (by omega) (fun h27 => ?_) (fun h27 => ?_)
    · refine ez_iconst 33 dX12_areOne_32 rfl (nI 0) (by decide) ?_
      refine ez_istore 35 [(4, eI (nI 0)), (0, eR 12 0), (1, eI (nI m)), (2, eI (nI a)), (3, eI (nI b))] dX12_areOne_33 rfl (by decide) rfl ?_
      exact lp_areOne g d m a b M hd hm hwf ha hb hZ hs9 hsv h12 h27 _ 0 rfl (by omega) (fun j hj => by omega)
    · refine ez_iconst 31 dX12_areOne_30 rfl (nI 0) (by decide) ?_
      refine ez_iret .boolean dX12_areOne_31 rfl (by decide) ?_
      exact ⟨rfl, Or.inr ⟨rfl, fun k9 => h27 k9.2.1⟩⟩
def er_pd : Nat → Int32
  | 0 => -1
  | i + 1 => nI i
theorem er_pd_dec (i : Nat) (h : i < 2 ^ 31) : nI i + Int32.ofInt (-1) = er_pd i := by
  cases i with
  | zero => decide
  | succ i =>
    show _ = nI i
    rw [show Int32.ofInt (-1) = -nI 1 from by decide, ← Int32.sub_eq_add_neg]
    exact pk_sub (by omega)
theorem er_pd_sub (i : Nat) (h : i < 2 ^ 31) : nI i - nI 1 = er_pd i := by
  rw [← er_pd_dec i h, Int32.sub_eq_add_neg]
  rfl
def AF (k i s : Nat) : Prop := k = 58 ∨ k = 59
theorem FX.afsm {M M' : EzM} (h : FX AF M M') : FX SM M M' := h.up (fun k i s z => by unfold AF at z; unfold SM; omega)
noncomputable def er_av (lt : Nat → Int32) (n : Nat) (y : Int32) : Int32 := if y = -1 then nI (s_cn lt n) else nI (s_la lt y.toNatClampNeg)
set_option maxRecDepth 20000 in
theorem alike_239 (g : EzH) (d : Nat) {n : Nat} {lt : Nat → Int32} (y : Int32) (M0 M1 : EzM) (hn : n ≤ 10) (hy : y = -1 ∨ ∃ r, r < n ∧ y = nI r) (hsv : ∀ x, x < n → M1.1 58 0 x = nI (s_la lt x)) (hF : FX AF M0 M1) : Ez (true, g) mX12_alike d 239 [(5, eI (nI (s_cn lt n))), (0, eR 12 0), (2, eI y)] [] M1 (fun r M' => r = some (eI (er_av lt n y)) ∧ FX AF M0 M') := by
  refine ez_iload_n 240 dX12_alike_239 rfl rfl ?_
  refine ez_iconst 241 dX12_alike_240 rfl (-1) (by decide) ?_
  refine ez_icmp_ne 244 249 dX12_alike_241 rfl (by decide) (fun h241 => ?_) (fun h241 => ?_)
  · rcases hy with z | ⟨r, hr, rfl⟩
    · exact absurd z h241
    refine ez_aload_n 250 dX12_alike_249 rfl rfl ?_
    refine ez_getf 253 (eR 58 0) dX12_alike_250 rfl fl_X12_62 (by show 0 < 1; omega) rfl ?_
    refine ez_iload_n 254 dX12_alike_253 rfl rfl ?_
    refine ez_ialdN r 255 dX12_alike_254 rfl (by decide) (by show 0 < 1; omega) (by show r < 10; omega) ?_
    refine ez_top (nI (s_la lt r)) (hsv r hr) ?_
    refine ez_iret .int dX12_alike_255 rfl rfl ?_
    exact ⟨by unfold er_av; rw [if_neg h241, nI_clamp (by omega)], hF⟩
  · refine ez_iload 246 dX12_alike_244 rfl rfl ?_
    refine ez_goto 255 dX12_alike_246 (by decide) ?_
    refine ez_iret .int dX12_alike_255 rfl rfl ?_
    exact ⟨by unfold er_av; rw [if_pos h241], hF⟩
set_option maxRecDepth 20000 in
theorem lp_al205 (g : EzH) (d : Nat) {n : Nat} {lt : Nat → Int32} (y : Int32) (M0 M1 : EzM) (hn : n ≤ 10) (hy : y = -1 ∨ ∃ r, r < n ∧ y = nI r) (hsv : ∀ x, x < n → M1.1 58 0 x = nI (s_la lt x)) (hF : FX AF M0 M1) : ∀ (z : Nat) (t : Nat) (p : Nat), n - t = z → t ≤ n → p = s_cn lt t → Ez (true, g) mX12_alike d 205 [(6, eI (nI t)), (5, eI (nI p)), (0, eR 12 0), (2, eI y), (3, eI (nI n))] [] M1 (fun r M' => r = some (eI (er_av lt n y)) ∧ FX AF M0 M') := by
  intro z
  induction z using Nat.strongRecOn with
  | ind z ih =>
    intro t p hz ht hp
    have l9 := s_la_le lt t
    have p9 := s_cn_le lt t
    refine ez_iload 207 dX12_alike_205 rfl rfl ?_
    refine ez_iload_n 208 dX12_alike_207 rfl rfl ?_
    refine ez_ncmp_ge 211 239 dX12_alike_208 rfl (by decide) (by omega) (by omega) (fun h208 => ?_) (fun h208 => ?_)
    · have e9 : t = n := by omega
      subst e9
      subst hp
      refine ez_drop [(5, eI (nI (s_cn lt t))), (0, eR 12 0), (2, eI y)] (by simp) ?_
      exact alike_239 g d y M0 M1 hn hy hsv hF
    · refine ez_iload 213 dX12_alike_211 rfl rfl ?_
      refine ez_aload_n 214 dX12_alike_213 rfl rfl ?_
      refine ez_getf 217 (eR 58 0) dX12_alike_214 rfl fl_X12_62 (by show 0 < 1; omega) rfl ?_
      refine ez_iload 219 dX12_alike_217 rfl rfl ?_
      refine ez_ialdN t 220 dX12_alike_219 rfl (by decide) (by show 0 < 1; omega) (by show t < 10; omega) ?_
      refine ez_top (nI (s_la lt t)) (hsv t (by omega)) ?_
      refine ez_iload 222 dX12_alike_220 rfl rfl ?_
      refine ez_ncmp_ne 225 229 dX12_alike_222 rfl (by decide) (by omega) (by omega) (fun h222 => ?_) (fun h222 => ?_)
      · refine ez_iconst 230 dX12_alike_229 rfl (nI 0) (by decide) ?_
        refine ez_iadd 231 dX12_alike_230 rfl ?_
        refine ez_top (nI (p + 0)) (nI_add _ _) ?_
        refine ez_istore 233 [(5, eI (nI (p + 0))), (6, eI (nI t)), (0, eR 12 0), (2, eI y), (3, eI (nI n))] dX12_alike_231 rfl (by decide) rfl ?_
        refine ez_iinc 236 (nI (t + 1)) [(6, eI (nI (t + 1))), (5, eI (nI (p + 0))), (0, eR 12 0), (2, eI y), (3, eI (nI n))] dX12_alike_233 rfl rfl (nI_add t 1) (by decide) rfl ?_
        refine ez_goto 205 dX12_alike_236 (by decide) ?_
        refine ez_drop [(6, eI (nI (t + 1))), (5, eI (nI (p + 0))), (0, eR 12 0), (2, eI y), (3, eI (nI n))] (by simp) ?_
        exact ih (n - (t + 1)) (by omega) (t + 1) _ rfl (by omega) (by show _ = s_cn lt t + _; rw [if_neg h222, hp])
      · refine ez_iconst 226 dX12_alike_225 rfl (nI 1) (by decide) ?_
        refine ez_goto 230 dX12_alike_226 (by decide) ?_
        refine ez_iadd 231 dX12_alike_230 rfl ?_
        refine ez_top (nI (p + 1)) (nI_add _ _) ?_
        refine ez_istore 233 [(5, eI (nI (p + 1))), (6, eI (nI t)), (0, eR 12 0), (2, eI y), (3, eI (nI n))] dX12_alike_231 rfl (by decide) rfl ?_
        refine ez_iinc 236 (nI (t + 1)) [(6, eI (nI (t + 1))), (5, eI (nI (p + 1))), (0, eR 12 0), (2, eI y), (3, eI (nI n))] dX12_alike_233 rfl rfl (nI_add t 1) (by decide) rfl ?_
        refine ez_goto 205 dX12_alike_236 (by decide) ?_
        refine ez_drop [(6, eI (nI (t + 1))), (5, eI (nI (p + 1))), (0, eR 12 0), (2, eI y), (3, eI (nI n))] (by simp) ?_
        exact ih (n - (t + 1)) (by omega) (t + 1) _ rfl (by omega) (by show _ = s_cn lt t + _; rw [if_pos h222, hp])
set_option maxRecDepth 20000 in
theorem lp_al141 (g : EzH) (d : Nat) {n : Nat} {sv sw : Nat → Nat} (m : Nat) (y : Int32) (M0 : EzM) (P : Option EzV → EzM → Prop) (hn : n ≤ 10) (h9 : ∀ x, x < n → sv x ≤ x) (w9 : ∀ x, x < n → sw x ≤ x) (K : ∀ b M2, b < 2 → ((b = 1 ∧ ∃ x, x < n ∧ ¬ sv x = sw x) ∨ (b = 0 ∧ ∀ x, x < n → sv x = sw x)) → (∀ x, x < n → M2.1 58 0 x = nI (sw x)) → FX AF M0 M2 → Ez (true, g) mX12_alike d 58 [(4, eI (nI b)), (0, eR 12 0), (1, eI (nI m)), (2, eI y), (3, eI (nI n))] [] M2 P) : ∀ (z : Nat) (t : Nat) (b : Nat) (M1 : EzM), n - t = z → t ≤ n → b < 2 → (b = 1 ∧ ∃ x, x < t ∧ ¬ sv x = sw x) ∨ (b = 0 ∧ ∀ x, x < t → sv x = sw x) → (∀ x, x < n → M1.1 58 0 x = nI (if x < t then sw x else sv x)) → (∀ x, x < n → M1.1 59 0 x = nI (sw x)) → FX AF M0 M1 → Ez (true, g) mX12_alike d 141 [(5, eI (nI t)), (4, eI (nI b)), (0, eR 12 0), (1, eI (nI m)), (2, eI y), (3, eI (nI n))] [] M1 (P) := by
  intro z
  induction z using Nat.strongRecOn with
  | ind z ih =>
    intro t b M1 hz ht hb2 hb hs hw hF
    refine ez_iload 143 dX12_alike_141 rfl rfl ?_
    refine ez_iload_n 144 dX12_alike_143 rfl rfl ?_
    refine ez_ncmp_ge 147 196 dX12_alike_144 rfl (by decide) (by omega) (by omega) (fun h144 => ?_) (fun h144 => ?_)
    · refine ez_goto 58 dX12_alike_196 (by decide) ?_
      have e9 : n = t := by omega
      subst e9
      refine ez_drop [(4, eI (nI b)), (0, eR 12 0), (1, eI (nI m)), (2, eI y), (3, eI (nI n))] (by simp) ?_
      exact K b M1 hb2 hb (fun x hx => by rw [hs x hx, if_pos hx]) hF
    · have a1 := h9 t (by omega)
      have a2 := w9 t (by omega)
      refine ez_iload 149 dX12_alike_147 rfl rfl ?_
      refine ez_nif_ne 152 169 dX12_alike_149 rfl (by decide) (by omega) (fun h149 => ?_) (fun h149 => ?_)
      · refine ez_iconst 170 dX12_alike_169 rfl (nI 1) (by decide) ?_
        refine ez_goto 174 dX12_alike_170 (by decide) ?_
        refine ez_istore 176 [(4, eI (nI 1)), (5, eI (nI t)), (0, eR 12 0), (1, eI (nI m)), (2, eI y), (3, eI (nI n))] dX12_alike_174 rfl (by decide) rfl ?_
        refine ez_aload_n 177 dX12_alike_176 rfl rfl ?_
        refine ez_getf 180 (eR 58 0) dX12_alike_177 rfl fl_X12_62 (by show 0 < 1; omega) rfl ?_
        refine ez_iload 182 dX12_alike_180 rfl rfl ?_
        refine ez_aload_n 183 dX12_alike_182 rfl rfl ?_
        refine ez_getf 186 (eR 59 0) dX12_alike_183 rfl fl_X12_65 (by show 0 < 1; omega) rfl ?_
        refine ez_iload 188 dX12_alike_186 rfl rfl ?_
        refine ez_ialdN t 189 dX12_alike_188 rfl (by decide) (by show 0 < 1; omega) (by show t < 10; omega) ?_
        refine ez_top (nI (sw t)) (hw t (by omega)) ?_
        refine ez_iastN t 190 dX12_alike_189 rfl (by decide) (by show 0 < 1; omega) (by show t < 10; omega) ?_
        refine ez_iinc 193 (nI (t + 1)) [(5, eI (nI (t + 1))), (4, eI (nI 1)), (0, eR 12 0), (1, eI (nI m)), (2, eI y), (3, eI (nI n))] dX12_alike_190 rfl rfl (nI_add t 1) (by decide) rfl ?_
        refine ez_goto 141 dX12_alike_193 (by decide) ?_
        refine ez_drop [(5, eI (nI (t + 1))), (4, eI (nI 1)), (0, eR 12 0), (1, eI (nI m)), (2, eI y), (3, eI (nI n))] (by simp) ?_
        exact ih (n - (t + 1)) (by omega) (t + 1) 1 _ rfl (by omega) (by omega) (hb.elim (fun z => Or.inl ⟨rfl, z.2.elim (fun x hx => ⟨x, by omega, hx.2⟩)⟩) (fun z => by omega)) (fun x hx => by
          rw [ez_rd]
          by_cases e : x = t
          · rw [if_pos ⟨rfl, rfl, e⟩, e, if_pos (show t < t + 1 by omega)]
          · rw [if_neg (by omega), hs x hx]
            by_cases e2 : x < t
            · rw [if_pos e2, if_pos (show x < t + 1 by omega)]
            · rw [if_neg e2, if_neg (show ¬ x < t + 1 by omega)]) (fun x hx => by rw [ez_rd, if_neg (by omega)]; exact hw x hx) (hF.st (by unfold AF; omega))
      · refine ez_aload_n 153 dX12_alike_152 rfl rfl ?_
        refine ez_getf 156 (eR 58 0) dX12_alike_153 rfl fl_X12_62 (by show 0 < 1; omega) rfl ?_
        refine ez_iload 158 dX12_alike_156 rfl rfl ?_
        refine ez_ialdN t 159 dX12_alike_158 rfl (by decide) (by show 0 < 1; omega) (by show t < 10; omega) ?_
        refine ez_top (nI (sv t)) (by rw [hs t (by omega), if_neg (Nat.lt_irrefl t)]) ?_
        refine ez_aload_n 160 dX12_alike_159 rfl rfl ?_
        refine ez_getf 163 (eR 59 0) dX12_alike_160 rfl fl_X12_65 (by show 0 < 1; omega) rfl ?_
        refine ez_iload 165 dX12_alike_163 rfl rfl ?_
        refine ez_ialdN t 166 dX12_alike_165 rfl (by decide) (by show 0 < 1; omega) (by show t < 10; omega) ?_
        refine ez_top (nI (sw t)) (hw t (by omega)) ?_
        refine ez_ncmp_eq 169 173 dX12_alike_166 rfl (by decide) (by omega) (by omega) (fun h166 => ?_) (fun h166 => ?_)
        · refine ez_iconst 174 dX12_alike_173 rfl (nI 0) (by decide) ?_
          refine ez_istore 176 [(4, eI (nI 0)), (5, eI (nI t)), (0, eR 12 0), (1, eI (nI m)), (2, eI y), (3, eI (nI n))] dX12_alike_174 rfl (by decide) rfl ?_
          refine ez_aload_n 177 dX12_alike_176 rfl rfl ?_
          refine ez_getf 180 (eR 58 0) dX12_alike_177 rfl fl_X12_62 (by show 0 < 1; omega) rfl ?_
          refine ez_iload 182 dX12_alike_180 rfl rfl ?_
          refine ez_aload_n 183 dX12_alike_182 rfl rfl ?_
          refine ez_getf 186 (eR 59 0) dX12_alike_183 rfl fl_X12_65 (by show 0 < 1; omega) rfl ?_
          refine ez_iload 188 dX12_alike_186 rfl rfl ?_
          refine ez_ialdN t 189 dX12_alike_188 rfl (by decide) (by show 0 < 1; omega) (by show t < 10; omega) ?_
          refine ez_top (nI (sw t)) (hw t (by omega)) ?_
          refine ez_iastN t 190 dX12_alike_189 rfl (by decide) (by show 0 < 1; omega) (by show t < 10; omega) ?_
          refine ez_iinc 193 (nI (t + 1)) [(5, eI (nI (t + 1))), (4, eI (nI 0)), (0, eR 12 0), (1, eI (nI m)), (2, eI y), (3, eI (nI n))] dX12_alike_190 rfl rfl (nI_add t 1) (by decide) rfl ?_
          refine ez_goto 141 dX12_alike_193 (by decide) ?_
          refine ez_drop [(5, eI (nI (t + 1))), (4, eI (nI 0)), (0, eR 12 0), (1, eI (nI m)), (2, eI y), (3, eI (nI n))] (by simp) ?_
          exact ih (n - (t + 1)) (by omega) (t + 1) 0 _ rfl (by omega) (by omega) (Or.inr ⟨rfl, fun x hx => by
            rcases hb with z | z
            · omega
            · by_cases e : x = t
              · rw [e]; exact h166
              · exact z.2 x (by omega)⟩) (fun x hx => by
            rw [ez_rd]
            by_cases e : x = t
            · rw [if_pos ⟨rfl, rfl, e⟩, e, if_pos (show t < t + 1 by omega)]
            · rw [if_neg (by omega), hs x hx]
              by_cases e2 : x < t
              · rw [if_pos e2, if_pos (show x < t + 1 by omega)]
              · rw [if_neg e2, if_neg (show ¬ x < t + 1 by omega)]) (fun x hx => by rw [ez_rd, if_neg (by omega)]; exact hw x hx) (hF.st (by unfold AF; omega))
        · refine ez_iconst 170 dX12_alike_169 rfl (nI 1) (by decide) ?_
          refine ez_goto 174 dX12_alike_170 (by decide) ?_
          refine ez_istore 176 [(4, eI (nI 1)), (5, eI (nI t)), (0, eR 12 0), (1, eI (nI m)), (2, eI y), (3, eI (nI n))] dX12_alike_174 rfl (by decide) rfl ?_
          refine ez_aload_n 177 dX12_alike_176 rfl rfl ?_
          refine ez_getf 180 (eR 58 0) dX12_alike_177 rfl fl_X12_62 (by show 0 < 1; omega) rfl ?_
          refine ez_iload 182 dX12_alike_180 rfl rfl ?_
          refine ez_aload_n 183 dX12_alike_182 rfl rfl ?_
          refine ez_getf 186 (eR 59 0) dX12_alike_183 rfl fl_X12_65 (by show 0 < 1; omega) rfl ?_
          refine ez_iload 188 dX12_alike_186 rfl rfl ?_
          refine ez_ialdN t 189 dX12_alike_188 rfl (by decide) (by show 0 < 1; omega) (by show t < 10; omega) ?_
          refine ez_top (nI (sw t)) (hw t (by omega)) ?_
          refine ez_iastN t 190 dX12_alike_189 rfl (by decide) (by show 0 < 1; omega) (by show t < 10; omega) ?_
          refine ez_iinc 193 (nI (t + 1)) [(5, eI (nI (t + 1))), (4, eI (nI 1)), (0, eR 12 0), (1, eI (nI m)), (2, eI y), (3, eI (nI n))] dX12_alike_190 rfl rfl (nI_add t 1) (by decide) rfl ?_
          refine ez_goto 141 dX12_alike_193 (by decide) ?_
          refine ez_drop [(5, eI (nI (t + 1))), (4, eI (nI 1)), (0, eR 12 0), (1, eI (nI m)), (2, eI y), (3, eI (nI n))] (by simp) ?_
          exact ih (n - (t + 1)) (by omega) (t + 1) 1 _ rfl (by omega) (by omega) (Or.inl ⟨rfl, t, by omega, h166⟩) (fun x hx => by
            rw [ez_rd]
            by_cases e : x = t
            · rw [if_pos ⟨rfl, rfl, e⟩, e, if_pos (show t < t + 1 by omega)]
            · rw [if_neg (by omega), hs x hx]
              by_cases e2 : x < t
              · rw [if_pos e2, if_pos (show x < t + 1 by omega)]
              · rw [if_neg e2, if_neg (show ¬ x < t + 1 by omega)]) (fun x hx => by rw [ez_rd, if_neg (by omega)]; exact hw x hx) (hF.st (by unfold AF; omega))
set_option maxRecDepth 20000 in
theorem lp_al90 (g : EzH) (d : Nat) {n : Nat} {lt : Nat → Int32} {sv : Nat → Nat} (m a : Nat) (y : Int32) (MB : EzM) (P : Option EzV → EzM → Prop) (hd : 4 ≤ d) (hm : m < 4) (hwf : WFz n lt) (ha : a < n) (hZ : RMz m n lt MB) (hs9 : ∀ x, x < n → sv x ≤ x) (hsv : ∀ x, x < n → MB.1 58 0 x = nI (sv x)) (K : ∀ v M2, NX lt sv a v → M2.1 59 0 a = nI v → FX (fun k i s => k = 59 ∧ s = a) MB M2 → Ez (true, g) mX12_alike d 132 [(5, eI (nI a)), (4, eI (nI 0)), (0, eR 12 0), (1, eI (nI m)), (2, eI y), (3, eI (nI n))] [] M2 P) : ∀ (z : Nat) (j : Nat) (v : Nat) (M1 : EzM), j = z → j ≤ a → M1.1 59 0 a = nI v → (v = a ∧ ∀ b, j ≤ b → b < a → ¬ A1 lt sv a b) ∨ (j ≤ v ∧ v < a ∧ A1 lt sv a v ∧ ∀ b, j ≤ b → b < v → ¬ A1 lt sv a b) → FX (fun k i s => k = 59 ∧ s = a) MB M1 → Ez (true, g) mX12_alike d 90 [(6, eI (er_pd j)), (5, eI (nI a)), (4, eI (nI 0)), (0, eR 12 0), (1, eI (nI m)), (2, eI y), (3, eI (nI n))] [] M1 (P) := by
  intro z
  induction z using Nat.strongRecOn with
  | ind z ih =>
    intro j v M1 hz hj hva hv hF
    have n10 := hwf.2.1
    cases j with
    | zero =>
      show Ez (true, g) mX12_alike d 90 [(6, eI (-1)), (5, eI (nI a)), (4, eI (nI 0)), (0, eR 12 0), (1, eI (nI m)), (2, eI y), (3, eI (nI n))] [] M1 _
      refine ez_iload 92 dX12_alike_90 rfl rfl ?_
      refine ez_if_lt 95 132 dX12_alike_92 rfl (by decide) (fun h92 => ?_) (fun h92 => ?_)
      · have N9 : NX lt sv a v := hv.elim (fun z => by rw [z.1]; exact ⟨Nat.le_refl _, A1.rf, fun b hb => z.2 b (by omega) hb⟩) (fun z => ⟨by omega, z.2.2.1, fun b hb => z.2.2.2 b (by omega) hb⟩)
        refine ez_drop [(5, eI (nI a)), (4, eI (nI 0)), (0, eR 12 0), (1, eI (nI m)), (2, eI y), (3, eI (nI n))] (by simp) ?_
        exact K v M1 N9 hva hF
      · exact absurd (show (-1 : Int32) < 0 by decide) h92
    | succ i =>
      show Ez (true, g) mX12_alike d 90 [(6, eI (nI i)), (5, eI (nI a)), (4, eI (nI 0)), (0, eR 12 0), (1, eI (nI m)), (2, eI y), (3, eI (nI n))] [] M1 _
      refine ez_iload 92 dX12_alike_90 rfl rfl ?_
      refine ez_nif_lt 95 dX12_alike_92 rfl (by omega) ?_
      refine ez_aload_n 96 dX12_alike_95 rfl rfl ?_
      refine ez_getf 99 (eR 59 0) dX12_alike_96 rfl fl_X12_65 (by show 0 < 1; omega) rfl ?_
      refine ez_iload 101 dX12_alike_99 rfl rfl ?_
      refine ez_aload_n 102 dX12_alike_101 rfl rfl ?_
      refine ez_iload_n 103 dX12_alike_102 rfl rfl ?_
      refine ez_iload 105 dX12_alike_103 rfl rfl ?_
      refine ez_iload 107 dX12_alike_105 rfl rfl ?_
      refine ez_callV 110 [eI (nI m), eI (nI a), eI (nI i)] [eI (nI a), eR 59 0] dX12_alike_107 rfl rfl ok_X12_areOne in_X12_areOne (by decide) (by show 0 < 1; omega) ln_X12_376 (by omega) (Nat.le_of_ble_eq_true rfl) (c_X12_areOne g (d - 1) (n := n) (lt := lt) (sv := sv) m a i M1 (by omega) hm hwf ha (by omega) (hZ.fx hF ⟨by omega, fun x => by omega⟩) hs9 (fun x hx => by rw [hF _ _ _ (by omega)]; exact hsv x hx)) (fun r107 M107 q107 => ?_)
      obtain ⟨e107, ⟨rfl, o107⟩ | ⟨rfl, o107⟩⟩ := q107
      · rw [e107]
        show Ez (true, g) mX12_alike d 110 [(6, eI (nI i)), (5, eI (nI a)), (4, eI (nI 0)), (0, eR 12 0), (1, eI (nI m)), (2, eI y), (3, eI (nI n))] [eI (nI 1), eI (nI a), eR 59 0] M1 _
        refine ez_nif_eq 113 118 dX12_alike_110 rfl (by decide) (by omega) (fun h110 => ?_) (fun h110 => ?_)
        · exact absurd h110 (by decide)
        · refine ez_iload 115 dX12_alike_113 rfl rfl ?_
          refine ez_goto 125 dX12_alike_115 (by decide) ?_
          refine ez_iastN a 126 dX12_alike_125 rfl (by decide) (by show 0 < 1; omega) (by show a < 10; omega) ?_
          refine ez_iinc 129 (er_pd i) [(6, eI (er_pd i)), (5, eI (nI a)), (4, eI (nI 0)), (0, eR 12 0), (1, eI (nI m)), (2, eI y), (3, eI (nI n))] dX12_alike_126 rfl rfl (er_pd_dec i (by omega)) (by decide) rfl ?_
          refine ez_goto 90 dX12_alike_129 (by decide) ?_
          refine ez_drop [(6, eI (er_pd i)), (5, eI (nI a)), (4, eI (nI 0)), (0, eR 12 0), (1, eI (nI m)), (2, eI y), (3, eI (nI n))] (by simp) ?_
          exact ih i (by omega) i i _ rfl (by omega) (by simp [ez_rd]) (Or.inr ⟨by omega, by omega, o107, fun b hb1 hb2 => by omega⟩) (hF.st (by omega))
      · rw [e107]
        show Ez (true, g) mX12_alike d 110 [(6, eI (nI i)), (5, eI (nI a)), (4, eI (nI 0)), (0, eR 12 0), (1, eI (nI m)), (2, eI y), (3, eI (nI n))] [eI (nI 0), eI (nI a), eR 59 0] M1 _
        refine ez_nif_eq 113 118 dX12_alike_110 rfl (by decide) (by omega) (fun h110 => ?_) (fun h110 => ?_)
        · refine ez_aload_n 119 dX12_alike_118 rfl rfl ?_
          refine ez_getf 122 (eR 59 0) dX12_alike_119 rfl fl_X12_65 (by show 0 < 1; omega) rfl ?_
          refine ez_iload 124 dX12_alike_122 rfl rfl ?_
          refine ez_ialdN a 125 dX12_alike_124 rfl (by decide) (by show 0 < 1; omega) (by show a < 10; omega) ?_
          refine ez_top (nI v) hva ?_
          refine ez_iastN a 126 dX12_alike_125 rfl (by decide) (by show 0 < 1; omega) (by show a < 10; omega) ?_
          refine ez_iinc 129 (er_pd i) [(6, eI (er_pd i)), (5, eI (nI a)), (4, eI (nI 0)), (0, eR 12 0), (1, eI (nI m)), (2, eI y), (3, eI (nI n))] dX12_alike_126 rfl rfl (er_pd_dec i (by omega)) (by decide) rfl ?_
          refine ez_goto 90 dX12_alike_129 (by decide) ?_
          refine ez_drop [(6, eI (er_pd i)), (5, eI (nI a)), (4, eI (nI 0)), (0, eR 12 0), (1, eI (nI m)), (2, eI y), (3, eI (nI n))] (by simp) ?_
          exact ih i (by omega) i v _ rfl (by omega) (by simp [ez_rd]) (hv.elim (fun z => Or.inl ⟨z.1, fun b hb1 hb2 => by
              by_cases e : b = i
              · rw [e]; exact o107
              · exact z.2 b (by omega) hb2⟩) (fun z => Or.inr ⟨by omega, z.2.1, z.2.2.1, fun b hb1 hb2 => by
              by_cases e : b = i
              · rw [e]; exact o107
              · exact z.2.2.2 b (by omega) hb2⟩)) (hF.st (by omega))
        · exact absurd h110 (by decide)
set_option maxRecDepth 20000 in
theorem alike_132 (g : EzH) (d : Nat) (m n a : Nat) (y : Int32) (M1 : EzM) (P : Option EzV → EzM → Prop) (K : Ez (true, g) mX12_alike d 69 [(5, eI (nI (a + 1))), (4, eI (nI 0)), (0, eR 12 0), (1, eI (nI m)), (2, eI y), (3, eI (nI n))] [] M1 P) : Ez (true, g) mX12_alike d 132 [(5, eI (nI a)), (4, eI (nI 0)), (0, eR 12 0), (1, eI (nI m)), (2, eI y), (3, eI (nI n))] [] M1 (P) := by
  refine ez_iinc 135 (nI (a + 1)) [(5, eI (nI (a + 1))), (4, eI (nI 0)), (0, eR 12 0), (1, eI (nI m)), (2, eI y), (3, eI (nI n))] dX12_alike_132 rfl rfl (nI_add a 1) (by decide) rfl ?_
  refine ez_goto 69 dX12_alike_135 (by decide) ?_
  exact K
set_option maxRecDepth 20000 in
theorem lp_al69 (g : EzH) (d : Nat) {n : Nat} {lt : Nat → Int32} {sv : Nat → Nat} (m : Nat) (y : Int32) (M0 : EzM) (P : Option EzV → EzM → Prop) (hd : 4 ≤ d) (hm : m < 4) (hwf : WFz n lt) (hZ : RMz m n lt M0) (hs9 : ∀ x, x < n → sv x ≤ x) (K : ∀ (sw : Nat → Nat) M2, (∀ x, x < n → M2.1 59 0 x = nI (sw x) ∧ NX lt sv x (sw x)) → (∀ x, x < n → M2.1 58 0 x = nI (sv x)) → FX AF M0 M2 → Ez (true, g) mX12_alike d 138 [(0, eR 12 0), (1, eI (nI m)), (2, eI y), (3, eI (nI n)), (4, eI (nI 0))] [] M2 P) : ∀ (z : Nat) (t : Nat) (sw : Nat → Nat) (M1 : EzM), n - t = z → t ≤ n → (∀ x, x < t → M1.1 59 0 x = nI (sw x) ∧ NX lt sv x (sw x)) → (∀ x, x < n → M1.1 58 0 x = nI (sv x)) → FX AF M0 M1 → Ez (true, g) mX12_alike d 69 [(5, eI (nI t)), (4, eI (nI 0)), (0, eR 12 0), (1, eI (nI m)), (2, eI y), (3, eI (nI n))] [] M1 (P) := by
  intro z
  induction z using Nat.strongRecOn with
  | ind z ih =>
    intro t sw M1 hz ht hw hsv hF
    have n10 := hwf.2.1
    refine ez_iload 71 dX12_alike_69 rfl rfl ?_
    refine ez_iload_n 72 dX12_alike_71 rfl rfl ?_
    refine ez_ncmp_ge 75 138 dX12_alike_72 rfl (by decide) (by omega) (by omega) (fun h72 => ?_) (fun h72 => ?_)
    · refine ez_drop [(0, eR 12 0), (1, eI (nI m)), (2, eI y), (3, eI (nI n)), (4, eI (nI 0))] (by simp) ?_
      exact K sw M1 (fun x hx => hw x (by omega)) hsv hF
    · refine ez_aload_n 76 dX12_alike_75 rfl rfl ?_
      refine ez_getf 79 (eR 59 0) dX12_alike_76 rfl fl_X12_65 (by show 0 < 1; omega) rfl ?_
      refine ez_iload 81 dX12_alike_79 rfl rfl ?_
      refine ez_iload 83 dX12_alike_81 rfl rfl ?_
      refine ez_iastN t 84 dX12_alike_83 rfl (by decide) (by show 0 < 1; omega) (by show t < 10; omega) ?_
      refine ez_iload 86 dX12_alike_84 rfl rfl ?_
      refine ez_iconst 87 dX12_alike_86 rfl (nI 1) (by decide) ?_
      refine ez_isub 88 dX12_alike_87 rfl ?_
      refine ez_top (er_pd t) (er_pd_sub t (by omega)) ?_
      refine ez_istore 90 [(6, eI (er_pd t)), (5, eI (nI t)), (4, eI (nI 0)), (0, eR 12 0), (1, eI (nI m)), (2, eI y), (3, eI (nI n))] dX12_alike_88 rfl (by decide) rfl ?_
      refine ez_drop [(6, eI (er_pd t)), (5, eI (nI t)), (4, eI (nI 0)), (0, eR 12 0), (1, eI (nI m)), (2, eI y), (3, eI (nI n))] (by simp) ?_
      have F1 : FX AF M0 (ez_st M1 59 0 t (nI t)) := hF.st (by unfold AF; omega)
      refine lp_al90 g d (lt := lt) (sv := sv) m t y (ez_st M1 59 0 t (nI t)) P hd hm hwf (by omega) (hZ.fx F1 ⟨by unfold AF; omega, fun x => by unfold AF; omega⟩) hs9 (fun x hx => by rw [ez_rd, if_neg (by omega)]; exact hsv x hx) (fun v M2 N2 v2 f2 => ?_) _ t t (ez_st M1 59 0 t (nI t)) rfl (by omega) (by simp [ez_rd]) (Or.inl ⟨rfl, fun b hb1 hb2 => by omega⟩) FX.rf
      refine alike_132 g d m n t y M2 P ?_
      exact ih (n - (t + 1)) (by omega) (t + 1) (va_up sw t v) M2 rfl (by omega) (fun x hx => by
        by_cases e : x = t
        · rw [e, va_up_self]; exact ⟨v2, N2⟩
        · rw [va_up_ne _ _ e, f2 _ _ _ (by omega), ez_rd, if_neg (by omega)]; exact hw x (by omega)) (fun x hx => by rw [f2 _ _ _ (by omega), ez_rd, if_neg (by omega)]; exact hsv x hx) (F1.tr (f2.up (fun k i s z => by unfold AF; omega)))
set_option maxRecDepth 20000 in
theorem alike_138 (g : EzH) (d : Nat) (m n : Nat) (y : Int32) (M1 : EzM) (P : Option EzV → EzM → Prop) (K : Ez (true, g) mX12_alike d 141 [(5, eI (nI 0)), (4, eI (nI 0)), (0, eR 12 0), (1, eI (nI m)), (2, eI y), (3, eI (nI n))] [] M1 P) : Ez (true, g) mX12_alike d 138 [(0, eR 12 0), (1, eI (nI m)), (2, eI y), (3, eI (nI n)), (4, eI (nI 0))] [] M1 (P) := by
  refine ez_iconst 139 dX12_alike_138 rfl (nI 0) (by decide) ?_
  refine ez_istore 141 [(5, eI (nI 0)), (0, eR 12 0), (1, eI (nI m)), (2, eI y), (3, eI (nI n)), (4, eI (nI 0))] dX12_alike_139 rfl (by decide) rfl ?_
  refine ez_drop [(5, eI (nI 0)), (4, eI (nI 0)), (0, eR 12 0), (1, eI (nI m)), (2, eI y), (3, eI (nI n))] (by simp) ?_
  exact K
set_option maxRecDepth 20000 in
theorem alike_199 (g : EzH) (d : Nat) {n : Nat} {lt : Nat → Int32} (y : Int32) (M0 M1 : EzM) (hn : n ≤ 10) (hy : y = -1 ∨ ∃ r, r < n ∧ y = nI r) (hsv : ∀ x, x < n → M1.1 58 0 x = nI (s_la lt x)) (hF : FX AF M0 M1) : Ez (true, g) mX12_alike d 199 [(0, eR 12 0), (2, eI y), (3, eI (nI n))] [] M1 (fun r M' => r = some (eI (er_av lt n y)) ∧ FX AF M0 M') := by
  refine ez_iconst 200 dX12_alike_199 rfl (nI 0) (by decide) ?_
  refine ez_istore 202 [(5, eI (nI 0)), (0, eR 12 0), (2, eI y), (3, eI (nI n))] dX12_alike_200 rfl (by decide) rfl ?_
  refine ez_iconst 203 dX12_alike_202 rfl (nI 0) (by decide) ?_
  refine ez_istore 205 [(6, eI (nI 0)), (5, eI (nI 0)), (0, eR 12 0), (2, eI y), (3, eI (nI n))] dX12_alike_203 rfl (by decide) rfl ?_
  refine ez_drop [(6, eI (nI 0)), (5, eI (nI 0)), (0, eR 12 0), (2, eI y), (3, eI (nI n))] (by simp) ?_
  exact lp_al205 g d y M0 M1 hn hy hsv hF _ 0 0 rfl (by omega) rfl
set_option maxRecDepth 20000 in
theorem lp_al58 (g : EzH) (d : Nat) {n : Nat} {lt : Nat → Int32} (m : Nat) (y : Int32) (M0 : EzM) (hd : 4 ≤ d) (hm : m < 4) (hwf : WFz n lt) (hZ : RMz m n lt M0) (hy : y = -1 ∨ ∃ r, r < n ∧ y = nI r) : ∀ (z : Nat) (sv : Nat → Nat) (b : Nat) (M1 : EzM), 2 * (er_sm (fun x => x) n - er_sm sv n) + b = z → b < 2 → SI n lt sv → (b = 0 → ∀ a, a < n → NX lt sv a (sv a)) → (∀ x, x < n → M1.1 58 0 x = nI (sv x)) → FX AF M0 M1 → Ez (true, g) mX12_alike d 58 [(4, eI (nI b)), (0, eR 12 0), (1, eI (nI m)), (2, eI y), (3, eI (nI n))] [] M1 (fun r M' => r = some (eI (er_av lt n y)) ∧ FX AF M0 M') := by
  intro z
  induction z using Nat.strongRecOn with
  | ind z ih =>
    intro sv b M1 hz hb2 hSI hnx hsv hF
    have n10 := hwf.2.1
    refine ez_iload 60 dX12_alike_58 rfl rfl ?_
    refine ez_nif_eq 63 199 dX12_alike_60 rfl (by decide) (by omega) (fun h60 => ?_) (fun h60 => ?_)
    · refine ez_drop [(0, eR 12 0), (2, eI y), (3, eI (nI n))] (by simp) ?_
      exact alike_199 g d y M0 M1 n10 hy (fun x hx => by rw [hsv x hx, SI_la hwf hSI (hnx (by omega)) hx]) hF
    · refine ez_iconst 64 dX12_alike_63 rfl (nI 0) (by decide) ?_
      refine ez_istore 66 [(4, eI (nI 0)), (0, eR 12 0), (1, eI (nI m)), (2, eI y), (3, eI (nI n))] dX12_alike_64 rfl (by decide) rfl ?_
      refine ez_iconst 67 dX12_alike_66 rfl (nI 0) (by decide) ?_
      refine ez_istore 69 [(5, eI (nI 0)), (4, eI (nI 0)), (0, eR 12 0), (1, eI (nI m)), (2, eI y), (3, eI (nI n))] dX12_alike_67 rfl (by decide) rfl ?_
      refine ez_drop [(5, eI (nI 0)), (4, eI (nI 0)), (0, eR 12 0), (1, eI (nI m)), (2, eI y), (3, eI (nI n))] (by simp) ?_
      refine lp_al69 g d (lt := lt) (sv := sv) m y M0 _ hd hm hwf hZ hSI.1 (fun sw M2 w2 s2 f2 => ?_) _ 0 (fun _ => 0) M1 rfl (by omega) (fun x hx => by omega) hsv hF
      obtain ⟨SI2, mo2⟩ := SI_nx hwf hSI (fun a ha => (w2 a ha).2)
      refine alike_138 g d m n y M2 _ ?_
      refine lp_al141 g d (sv := sv) (sw := sw) m y M0 _ n10 hSI.1 SI2.1 (fun b9 M3 b93 c3 s3 f3 => ?_) _ 0 0 M2 rfl (by omega) (by omega) (Or.inr ⟨rfl, fun x hx => by omega⟩) (fun x hx => by rw [s2 x hx, if_neg (by omega)]) (fun x hx => (w2 x hx).1) f2
      have u1 := er_sm_le (f := sv) (g := fun x => x) n hSI.1
      have u2 := er_sm_le (f := sw) (g := fun x => x) n SI2.1
      rcases c3 with ⟨e3, x, hx, ne3⟩ | ⟨e3, eq3⟩
      · have u3 := er_sm_lt (f := sv) (g := sw) (j := x) n mo2 hx (by have := mo2 x hx; omega)
        exact ih (2 * (er_sm (fun x => x) n - er_sm sw n) + b9) (by omega) sw b9 M3 rfl b93 SI2 (fun z => by omega) s3 f3
      · exact ih (2 * (er_sm (fun x => x) n - er_sm sv n) + b9) (by omega) sv b9 M3 rfl b93 hSI (fun _ a ha => by have := (w2 a ha).2; rw [← eq3 a ha] at this; exact this) (fun x hx => by rw [s3 x hx, eq3 x hx]) f3
set_option maxRecDepth 20000 in
theorem lp_al35 (g : EzH) (d : Nat) {n : Nat} {lt : Nat → Int32} (m : Nat) (y : Int32) (M0 : EzM) (hd : 4 ≤ d) (hm : m < 4) (hwf : WFz n lt) (hZ : RMz m n lt M0) (hy : y = -1 ∨ ∃ r, r < n ∧ y = nI r) : ∀ (z : Nat) (t : Nat) (M1 : EzM), n - t = z → t ≤ n → (∀ x, x < t → M1.1 58 0 x = nI 0) → FX AF M0 M1 → Ez (true, g) mX12_alike d 35 [(4, eI (nI t)), (0, eR 12 0), (1, eI (nI m)), (2, eI y), (3, eI (nI n))] [] M1 (fun r M' => r = some (eI (er_av lt n y)) ∧ FX AF M0 M') := by
  intro z
  induction z using Nat.strongRecOn with
  | ind z ih =>
    intro t M1 hz ht hs hF
    have n10 := hwf.2.1
    refine ez_iload 37 dX12_alike_35 rfl rfl ?_
    refine ez_iload_n 38 dX12_alike_37 rfl rfl ?_
    refine ez_ncmp_ge 41 55 dX12_alike_38 rfl (by decide) (by omega) (by omega) (fun h38 => ?_) (fun h38 => ?_)
    · refine ez_iconst 56 dX12_alike_55 rfl (nI 1) (by decide) ?_
      refine ez_istore 58 [(4, eI (nI 1)), (0, eR 12 0), (1, eI (nI m)), (2, eI y), (3, eI (nI n))] dX12_alike_56 rfl (by decide) rfl ?_
      refine ez_drop [(4, eI (nI 1)), (0, eR 12 0), (1, eI (nI m)), (2, eI y), (3, eI (nI n))] (by simp) ?_
      exact lp_al58 g d (lt := lt) m y M0 hd hm hwf hZ hy _ (fun _ => 0) 1 M1 rfl (by omega) (SI_0 n lt) (fun z => by omega) (fun x hx => hs x (by omega)) hF
    · refine ez_aload_n 42 dX12_alike_41 rfl rfl ?_
      refine ez_getf 45 (eR 58 0) dX12_alike_42 rfl fl_X12_62 (by show 0 < 1; omega) rfl ?_
      refine ez_iload 47 dX12_alike_45 rfl rfl ?_
      refine ez_iconst 48 dX12_alike_47 rfl (nI 0) (by decide) ?_
      refine ez_iastN t 49 dX12_alike_48 rfl (by decide) (by show 0 < 1; omega) (by show t < 10; omega) ?_
      refine ez_iinc 52 (nI (t + 1)) [(4, eI (nI (t + 1))), (0, eR 12 0), (1, eI (nI m)), (2, eI y), (3, eI (nI n))] dX12_alike_49 rfl rfl (nI_add t 1) (by decide) rfl ?_
      refine ez_goto 35 dX12_alike_52 (by decide) ?_
      exact ih (n - (t + 1)) (by omega) (t + 1) _ rfl (by omega) (fun x hx => by
        rw [ez_rd]
        by_cases e : x = t
        · rw [if_pos ⟨rfl, rfl, e⟩]
        · rw [if_neg (by omega)]; exact hs x (by omega)) (hF.st (by unfold AF; omega))
set_option maxRecDepth 20000 in
theorem c_X12_alike (g : EzH) (d : Nat) {q : EpS} (x y : Int32) (M : EzM) (hd : 4 ≤ d) (hW : WF q) (hC : RM q M) : Ezc (true, g) mX12_alike d [eR 12 0, eI x, eI y] M (fun r M' => r = some (eI (S_alike q x y)) ∧ RM q M' ∧ FX CM M M') := by
  refine Ezc.of (by decide +kernel) (Nat.le_of_ble_eq_true rfl) ?_
  have q8 := hW.2.1.1
  have q4 := hW.1.1
  have qx := hW.2.2.2.2.1
  show Ez (true, g) mX12_alike d 0 [(0, eR 12 0), (1, eI x), (2, eI y)] [] M _
  refine ez_aload_n 1 dX12_alike_0 rfl rfl ?_
  refine ez_iload_n 2 dX12_alike_1 rfl rfl ?_
  refine ez_callV 5 [eI x] [] dX12_alike_2 rfl rfl ok_X12_isMaze in_X12_isMaze (by decide) (by show 0 < 1; omega) ln_X12_137 (by omega) (Nat.le_of_ble_eq_true rfl) (c_X12_isMaze g (d - 1) x q.1.1 M (by omega) hC.1.1 (by omega)) (fun r2 M2 q2 => ?_)
  obtain ⟨e2, ⟨rfl, i2⟩ | ⟨j2, b2, rfl, rfl⟩⟩ := q2
  · rw [e2]
    show Ez (true, g) mX12_alike d 5 [(0, eR 12 0), (1, eI x), (2, eI y)] [eI (nI 0)] M _
    refine ez_nif_eq 8 22 dX12_alike_5 rfl (by decide) (by omega) (fun h5 => ?_) (fun h5 => ?_)
    · refine ez_bipush 24 dX12_alike_22 rfl (-2) (by decide) ?_
      refine ez_iret .int dX12_alike_24 rfl rfl ?_
      exact ⟨by simp [S_alike, i2], hC, FX.rf⟩
    · exact absurd h5 (by decide)
  · rw [e2]
    have i2 : ep_ix (nI j2) q.1.1 = some j2 := ep_ix_nI b2 (by omega)
    have n10 := (hW.1.2 j2 b2).2.1
    show Ez (true, g) mX12_alike d 5 [(0, eR 12 0), (1, eI (nI j2)), (2, eI y)] [eI (nI 1)] M _
    refine ez_nif_eq 8 22 dX12_alike_5 rfl (by decide) (by omega) (fun h5 => ?_) (fun h5 => ?_)
    · exact absurd h5 (by decide)
    · refine ez_iload_n 9 dX12_alike_8 rfl rfl ?_
      refine ez_iconst 10 dX12_alike_9 rfl (-1) (by decide) ?_
      refine ez_icmp_eq 13 25 dX12_alike_10 rfl (by decide) (fun h10 => ?_) (fun h10 => ?_)
      · subst h10
        refine ez_aload_n 26 dX12_alike_25 rfl rfl ?_
        refine ez_getf 29 (eR 46 0) dX12_alike_26 rfl fl_X12_26 (by show 0 < 1; omega) rfl ?_
        refine ez_iload_n 30 dX12_alike_29 rfl rfl ?_
        refine ez_ialdN j2 31 dX12_alike_30 rfl (by decide) (by show 0 < 1; omega) (by show j2 < 4; omega) ?_
        refine ez_top (nI (q.1.2.1 j2)) ((hC.1.2 j2 b2).1) ?_
        refine ez_istore_n 32 [(3, eI (nI (q.1.2.1 j2))), (0, eR 12 0), (1, eI (nI j2)), (2, eI (-1))] dX12_alike_31 rfl (by decide) rfl ?_
        refine ez_iconst 33 dX12_alike_32 rfl (nI 0) (by decide) ?_
        refine ez_istore 35 [(4, eI (nI 0)), (3, eI (nI (q.1.2.1 j2))), (0, eR 12 0), (1, eI (nI j2)), (2, eI (-1))] dX12_alike_33 rfl (by decide) rfl ?_
        refine ez_drop [(4, eI (nI 0)), (0, eR 12 0), (1, eI (nI j2)), (2, eI (-1)), (3, eI (nI (q.1.2.1 j2)))] (by simp) ?_
        refine ez_wk ?_ (lp_al35 g d (lt := q.1.2.2.1 j2) j2 (-1) M hd (by omega) (g_WFz hW.1 b2) (g_RMz hC.1 b2) (Or.inl rfl) _ 0 M rfl (by omega) (fun x hx => by omega) FX.rf)
        exact fun r M' z9 => ⟨by rw [z9.1]; simp only [S_alike, i2]; unfold er_av; rfl, hC.sm z9.2.afsm, z9.2.afsm.smm⟩
      · refine ez_aload_n 14 dX12_alike_13 rfl rfl ?_
        refine ez_iload_n 15 dX12_alike_14 rfl rfl ?_
        refine ez_iload_n 16 dX12_alike_15 rfl rfl ?_
        refine ez_callV 19 [eI (nI j2), eI y] [] dX12_alike_16 rfl rfl ok_X12_isRoom in_X12_isRoom (by decide) (by show 0 < 1; omega) ln_X12_165 (by omega) (Nat.le_of_ble_eq_true rfl) (c_X12_isRoom g (d - 1) (nI j2) y M (by omega) hW hC) (fun r16 M16 q16 => ?_)
        obtain ⟨e16, ⟨rfl, i16⟩ | ⟨a16, b16, p16, s16, x16, rfl, rfl⟩⟩ := q16
        · rw [e16]
          show Ez (true, g) mX12_alike d 19 [(0, eR 12 0), (1, eI (nI j2)), (2, eI y)] [eI (nI 0)] M _
          refine ez_nif_ne 22 25 dX12_alike_19 rfl (by decide) (by omega) (fun h19 => ?_) (fun h19 => ?_)
          · exact absurd h19 (by decide)
          · refine ez_bipush 24 dX12_alike_22 rfl (-2) (by decide) ?_
            refine ez_iret .int dX12_alike_24 rfl rfl ?_
            exact ⟨by simp only [S_alike, i2]; rw [if_neg h10, i16.elim (fun z => by rw [i2] at z; cases z) (fun z => z j2 i2)], hC, FX.rf⟩
        · rw [e16]
          have a9 : j2 = a16 := (nI_eq (by omega) (by omega)).mp x16
          subst a9
          show Ez (true, g) mX12_alike d 19 [(0, eR 12 0), (1, eI (nI j2)), (2, eI (nI b16))] [eI (nI 1)] M _
          refine ez_nif_ne 22 25 dX12_alike_19 rfl (by decide) (by omega) (fun h19 => ?_) (fun h19 => ?_)
          · refine ez_aload_n 26 dX12_alike_25 rfl rfl ?_
            refine ez_getf 29 (eR 46 0) dX12_alike_26 rfl fl_X12_26 (by show 0 < 1; omega) rfl ?_
            refine ez_iload_n 30 dX12_alike_29 rfl rfl ?_
            refine ez_ialdN j2 31 dX12_alike_30 rfl (by decide) (by show 0 < 1; omega) (by show j2 < 4; omega) ?_
            refine ez_top (nI (q.1.2.1 j2)) ((hC.1.2 j2 b2).1) ?_
            refine ez_istore_n 32 [(3, eI (nI (q.1.2.1 j2))), (0, eR 12 0), (1, eI (nI j2)), (2, eI (nI b16))] dX12_alike_31 rfl (by decide) rfl ?_
            refine ez_iconst 33 dX12_alike_32 rfl (nI 0) (by decide) ?_
            refine ez_istore 35 [(4, eI (nI 0)), (3, eI (nI (q.1.2.1 j2))), (0, eR 12 0), (1, eI (nI j2)), (2, eI (nI b16))] dX12_alike_33 rfl (by decide) rfl ?_
            refine ez_drop [(4, eI (nI 0)), (0, eR 12 0), (1, eI (nI j2)), (2, eI (nI b16)), (3, eI (nI (q.1.2.1 j2)))] (by simp) ?_
            refine ez_wk ?_ (lp_al35 g d (lt := q.1.2.2.1 j2) j2 (nI b16) M hd (by omega) (g_WFz hW.1 b2) (g_RMz hC.1 b2) (Or.inr ⟨b16, s16, rfl⟩) _ 0 M rfl (by omega) (fun x hx => by omega) FX.rf)
            exact fun r M' z9 => ⟨by rw [z9.1]; simp only [S_alike, i2]; rw [if_neg (ep_m1 (by omega)), ep_ix_nI s16 (by omega)]; unfold er_av; rw [if_neg (ep_m1 (by omega)), nI_clamp (by omega)], hC.sm z9.2.afsm, z9.2.afsm.smm⟩
          · exact absurd h19 (by decide)
