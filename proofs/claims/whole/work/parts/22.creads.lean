/-! the tape's reader: expect, mayOpen, and reading behind a fault -/
theorem ez_drop {G : EzG} {Y : EzY} {d pc : Nat} {ls : List (Nat × EzV)} {st : List EzV} {M : EzM} {P : Option EzV → EzM → Prop} (ls' : List (Nat × EzV)) (h : ∀ q ∈ ls', q ∈ ls) (k : Ez G Y d pc ls' st M P) : Ez G Y d pc ls st M P := by
  intro p e s m args below meth c H locs lsA hx hb hr hml hown hts hlk hK hD hP hS hl
  refine k p e s m args below meth c H locs lsA hx hb hr hml hown hts hlk hK hD hP hS ⟨hl.1, hl.2.1, fun q hq => ?_⟩
  obtain ⟨z, hz, rfl⟩ := List.mem_map.mp hq
  exact hl.2.2 _ (List.mem_map.mpr ⟨z, h z hz, rfl⟩)
set_option maxRecDepth 20000 in
theorem c_exp (G : EzG) (d : Nat) {Tk Pl : Nat → Nat} {N : Nat} {k : Nat} {L : List Int32} (t : Nat) (M : EzM) (hd : 2 ≤ d) (hH : HT Tk Pl N) (hG : TG Tk Pl N k L M) (h10 : 10 ≤ t) (ht : Tk k = t) : Ezc G mX7_expect d [eR 7 0, eI (nI t)] M (fun q M' => q = none ∧ TF M M' ∧ TG Tk Pl N (k + 1) L M') := by
  refine Ezc.of (by decide +kernel) (Nat.le_of_ble_eq_true rfl) ?_
  have u0 := (hH.2.1 _ hG.2.1).1
  have w0 := hG.2.1
  have n0 := hH.1
  show Ez G mX7_expect d 0 [(0, eR 7 0), (1, eI (nI t))] [] M _
  refine ez_aload_n 1 dX7_expect_0 rfl rfl ?_
  refine ez_getf 4 (eI (M.1 7 0 6)) dX7_expect_1 rfl fl_X7_39 (by show 0 < 1; omega) rfl ?_
  refine ez_top (nI (Tk k)) hG.2.2.2.1 ?_
  refine ez_iload_n 5 dX7_expect_4 rfl rfl ?_
  refine ez_ncmp_ne 8 15 dX7_expect_5 rfl (by decide) (by omega) (by omega) (fun h5 => ?_) (fun h5 => ?_)
  · exact absurd ht h5
  · refine ez_aload_n 9 dX7_expect_8 rfl rfl ?_
    refine ez_callV 12 [] [] dX7_expect_9 rfl rfl ok_X7_advance in_X7_advance (by decide) (by show 0 < 1; omega) ln_X7_107 (by omega) (Nat.le_of_ble_eq_true rfl) (c_adv G (d - 1) M (by omega) hH hG (by omega)) (fun r9 M9 q9 => ?_)
    obtain ⟨rfl, f9, g9⟩ := q9
    have u9 := (hH.2.1 _ g9.2.1).1
    have w9 := g9.2.1
    show Ez G mX7_expect d 12 [(0, eR 7 0), (1, eI (nI t))] [] M9 _
    refine ez_goto 19 dX7_expect_12 (by decide) ?_
    refine ez_vret dX7_expect_19 rfl ?_
    exact ⟨rfl, (TF.rf.tr f9), g9⟩
set_option maxRecDepth 20000 in
theorem c_expn (G : EzG) (d : Nat) {Tk Pl : Nat → Nat} {N : Nat} {k : Nat} {L : List Int32} (t : Nat) (M : EzM) (hd : 2 ≤ d) (hH : HT Tk Pl N) (hG : TG Tk Pl N k L M) (h10 : t < 2 ^ 31) (ht : ¬ Tk k = t) : Ezc G mX7_expect d [eR 7 0, eI (nI t)] M (fun q M' => q = none ∧ TF M M' ∧ TB (Pl k) M') := by
  refine Ezc.of (by decide +kernel) (Nat.le_of_ble_eq_true rfl) ?_
  have u0 := (hH.2.1 _ hG.2.1).1
  have w0 := hG.2.1
  have n0 := hH.1
  show Ez G mX7_expect d 0 [(0, eR 7 0), (1, eI (nI t))] [] M _
  refine ez_aload_n 1 dX7_expect_0 rfl rfl ?_
  refine ez_getf 4 (eI (M.1 7 0 6)) dX7_expect_1 rfl fl_X7_39 (by show 0 < 1; omega) rfl ?_
  refine ez_top (nI (Tk k)) hG.2.2.2.1 ?_
  refine ez_iload_n 5 dX7_expect_4 rfl rfl ?_
  refine ez_ncmp_ne 8 15 dX7_expect_5 rfl (by decide) (by omega) (by omega) (fun h5 => ?_) (fun h5 => ?_)
  · refine ez_aload_n 16 dX7_expect_15 rfl rfl ?_
    refine ez_callV 19 [] [] dX7_expect_16 rfl rfl ok_X7_refuse in_X7_refuse (by decide) (by show 0 < 1; omega) ln_X7_56 (by omega) (Nat.le_of_ble_eq_true rfl) (c_ref G (d - 1) M (by omega) hH hG) (fun r16 M16 q16 => ?_)
    obtain ⟨rfl, f16, g16⟩ := q16
    show Ez G mX7_expect d 19 [(0, eR 7 0), (1, eI (nI t))] [] M16 _
    refine ez_vret dX7_expect_19 rfl ?_
    exact ⟨rfl, (TF.rf.tr f16), g16⟩
  · exact absurd h5 ht
set_option maxRecDepth 20000 in
theorem c_expb (G : EzG) (d : Nat) {f : Nat} (t : Nat) (M : EzM) (hd : 2 ≤ d) (hf : f < 2 ^ 31) (hB : TB f M) (h10 : 10 ≤ t) (h11 : t < 2 ^ 31) : Ezc G mX7_expect d [eR 7 0, eI (nI t)] M (fun q M' => q = none ∧ TF M M' ∧ TB f M') := by
  refine Ezc.of (by decide +kernel) (Nat.le_of_ble_eq_true rfl) ?_
  show Ez G mX7_expect d 0 [(0, eR 7 0), (1, eI (nI t))] [] M _
  refine ez_aload_n 1 dX7_expect_0 rfl rfl ?_
  refine ez_getf 4 (eI (M.1 7 0 6)) dX7_expect_1 rfl fl_X7_39 (by show 0 < 1; omega) rfl ?_
  refine ez_top (nI 1) hB.1 ?_
  refine ez_iload_n 5 dX7_expect_4 rfl rfl ?_
  refine ez_ncmp_ne 8 15 dX7_expect_5 rfl (by decide) (by omega) (by omega) (fun h5 => ?_) (fun h5 => ?_)
  · refine ez_aload_n 16 dX7_expect_15 rfl rfl ?_
    refine ez_callV 19 [] [] dX7_expect_16 rfl rfl ok_X7_refuse in_X7_refuse (by decide) (by show 0 < 1; omega) ln_X7_56 (by omega) (Nat.le_of_ble_eq_true rfl) (c_refb G (d - 1) M (by omega) hf hB) (fun r16 M16 q16 => ?_)
    obtain ⟨rfl, f16, g16⟩ := q16
    show Ez G mX7_expect d 19 [(0, eR 7 0), (1, eI (nI t))] [] M16 _
    refine ez_vret dX7_expect_19 rfl ?_
    exact ⟨rfl, (TF.rf.tr f16), g16⟩
  · exfalso; omega
set_option maxRecDepth 20000 in
theorem c_open (G : EzG) (d : Nat) {Tk Pl : Nat → Nat} {N : Nat} {k : Nat} {L : List Int32} (o : Nat) (M : EzM) (hd : 2 ≤ d) (hH : HT Tk Pl N) (hG : TG Tk Pl N k L M) (h10 : 10 ≤ Tk k) (ho : o < 5) : Ezc G mX7_mayOpen d [eR 7 0, eI (nI o)] M (fun q M' => q = some (eI (nI 1)) ∧ TF M M' ∧ TG Tk Pl N (k + 1) L M') := by
  refine Ezc.of (by decide +kernel) (Nat.le_of_ble_eq_true rfl) ?_
  have u0 := (hH.2.1 _ hG.2.1).1
  have w0 := hG.2.1
  have n0 := hH.1
  show Ez G mX7_mayOpen d 0 [(0, eR 7 0), (1, eI (nI o))] [] M _
  refine ez_iload_n 1 dX7_mayOpen_0 rfl rfl ?_
  refine ez_iconst 2 dX7_mayOpen_1 rfl (nI 5) (by decide) ?_
  refine ez_ncmp_lt 5 11 dX7_mayOpen_2 rfl (by decide) (by omega) (by omega) (fun h2 => ?_) (fun h2 => ?_)
  · refine ez_aload_n 12 dX7_mayOpen_11 rfl rfl ?_
    refine ez_callV 15 [] [] dX7_mayOpen_12 rfl rfl ok_X7_advance in_X7_advance (by decide) (by show 0 < 1; omega) ln_X7_107 (by omega) (Nat.le_of_ble_eq_true rfl) (c_adv G (d - 1) M (by omega) hH hG (by omega)) (fun r12 M12 q12 => ?_)
    obtain ⟨rfl, f12, g12⟩ := q12
    have u12 := (hH.2.1 _ g12.2.1).1
    have w12 := g12.2.1
    show Ez G mX7_mayOpen d 15 [(0, eR 7 0), (1, eI (nI o))] [] M12 _
    refine ez_iconst 16 dX7_mayOpen_15 rfl (nI 1) (by decide) ?_
    refine ez_iret .boolean dX7_mayOpen_16 rfl (by decide) ?_
    exact ⟨rfl, (TF.rf.tr f12), g12⟩
  · exfalso; omega
set_option maxRecDepth 20000 in
theorem c_opn (G : EzG) (d : Nat) {Tk Pl : Nat → Nat} {N : Nat} {k : Nat} {L : List Int32} (o : Nat) (M : EzM) (hd : 2 ≤ d) (hH : HT Tk Pl N) (hG : TG Tk Pl N k L M) (ho : 5 ≤ o) (ho2 : o < 10) : Ezc G mX7_mayOpen d [eR 7 0, eI (nI o)] M (fun q M' => q = some (eI (nI 0)) ∧ TF M M' ∧ TB (Pl k) M') := by
  refine Ezc.of (by decide +kernel) (Nat.le_of_ble_eq_true rfl) ?_
  have u0 := (hH.2.1 _ hG.2.1).1
  have w0 := hG.2.1
  have n0 := hH.1
  show Ez G mX7_mayOpen d 0 [(0, eR 7 0), (1, eI (nI o))] [] M _
  refine ez_iload_n 1 dX7_mayOpen_0 rfl rfl ?_
  refine ez_iconst 2 dX7_mayOpen_1 rfl (nI 5) (by decide) ?_
  refine ez_ncmp_lt 5 11 dX7_mayOpen_2 rfl (by decide) (by omega) (by omega) (fun h2 => ?_) (fun h2 => ?_)
  · exfalso; omega
  · refine ez_aload_n 6 dX7_mayOpen_5 rfl rfl ?_
    refine ez_callV 9 [] [] dX7_mayOpen_6 rfl rfl ok_X7_refuse in_X7_refuse (by decide) (by show 0 < 1; omega) ln_X7_56 (by omega) (Nat.le_of_ble_eq_true rfl) (c_ref G (d - 1) M (by omega) hH hG) (fun r6 M6 q6 => ?_)
    obtain ⟨rfl, f6, g6⟩ := q6
    show Ez G mX7_mayOpen d 9 [(0, eR 7 0), (1, eI (nI o))] [] M6 _
    refine ez_iconst 10 dX7_mayOpen_9 rfl (nI 0) (by decide) ?_
    refine ez_iret .boolean dX7_mayOpen_10 rfl (by decide) ?_
    exact ⟨rfl, (TF.rf.tr f6), g6⟩
set_option maxRecDepth 20000 in
theorem cb_readOne (G : EzG) (d : Nat) {f : Nat} (o : Nat) (M : EzM) (hd : 2 ≤ d) (hf : f < 2 ^ 31) (ho : o ≤ 5) (hB : TB f M) : Ezc G mX7_readOne d [eR 7 0, eI (nI o)] M (fun q M' => q = none ∧ TF M M' ∧ TB f M') := by
  refine Ezc.of (by decide +kernel) (Nat.le_of_ble_eq_true rfl) ?_
  show Ez G mX7_readOne d 0 [(0, eR 7 0), (1, eI (nI o))] [] M _
  refine ez_aload_n 1 dX7_readOne_0 rfl rfl ?_
  refine ez_getf 4 (eI (M.1 7 0 6)) dX7_readOne_1 rfl fl_X7_39 (by show 0 < 1; omega) rfl ?_
  refine ez_top (nI 1) hB.1 ?_
  refine ez_sipush 7 dX7_readOne_4 rfl (nI 1000) (by decide) ?_
  refine ez_ncmp_lt 10 32 dX7_readOne_7 rfl (by decide) (by omega) (by omega) (fun h7 => ?_) (fun h7 => ?_)
  · refine ez_aload_n 33 dX7_readOne_32 rfl rfl ?_
    refine ez_getf 36 (eI (M.1 7 0 6)) dX7_readOne_33 rfl fl_X7_39 (by show 0 < 1; omega) rfl ?_
    refine ez_top (nI 1) hB.1 ?_
    refine ez_bipush 38 dX7_readOne_36 rfl (nI 10) (by decide) ?_
    refine ez_ncmp_lt 41 74 dX7_readOne_38 rfl (by decide) (by omega) (by omega) (fun h38 => ?_) (fun h38 => ?_)
    · refine ez_aload_n 75 dX7_readOne_74 rfl rfl ?_
      refine ez_getf 78 (eI (M.1 7 0 6)) dX7_readOne_75 rfl fl_X7_39 (by show 0 < 1; omega) rfl ?_
      refine ez_top (nI 1) hB.1 ?_
      refine ez_bipush 80 dX7_readOne_78 rfl (nI 45) (by decide) ?_
      refine ez_ncmp_ne 83 110 dX7_readOne_80 rfl (by decide) (by omega) (by omega) (fun h80 => ?_) (fun h80 => ?_)
      · refine ez_aload_n 111 dX7_readOne_110 rfl rfl ?_
        refine ez_getf 114 (eI (M.1 7 0 6)) dX7_readOne_111 rfl fl_X7_39 (by show 0 < 1; omega) rfl ?_
        refine ez_top (nI 1) hB.1 ?_
        refine ez_bipush 116 dX7_readOne_114 rfl (nI 40) (by decide) ?_
        refine ez_ncmp_ne 119 143 dX7_readOne_116 rfl (by decide) (by omega) (by omega) (fun h116 => ?_) (fun h116 => ?_)
        · refine ez_aload_n 144 dX7_readOne_143 rfl rfl ?_
          refine ez_callV 147 [] [] dX7_readOne_144 rfl rfl ok_X7_refuse in_X7_refuse (by decide) (by show 0 < 1; omega) ln_X7_56 (by omega) (Nat.le_of_ble_eq_true rfl) (c_refb G (d - 1) M (by omega) hf hB) (fun r144 M144 q144 => ?_)
          obtain ⟨rfl, f144, g144⟩ := q144
          show Ez G mX7_readOne d 147 [(0, eR 7 0), (1, eI (nI o))] [] M144 _
          refine ez_vret dX7_readOne_147 rfl ?_
          exact ⟨rfl, (TF.rf.tr f144), g144⟩
        · exact absurd h116 (by decide)
      · exact absurd h80 (by decide)
    · exact absurd h38 (by decide)
  · exact absurd h7 (by decide)
set_option maxRecDepth 20000 in
theorem lb_readTerm (G : EzG) (d : Nat) (i o f : Nat) (M0 M : EzM) (hi : i ≤ 200) (hF : TF M0 M) (hB : TB f M) : Ez G mX7_readTerm d 7 [(2, eI (nI i)), (0, eR 7 0), (1, eI (nI o))] [] M (fun q M' => q = none ∧ TF M0 M' ∧ TB f M') := by
  refine ez_iload_n 8 dX7_readTerm_7 rfl rfl ?_
  refine ez_sipush 11 dX7_readTerm_8 rfl (nI 160) (by decide) ?_
  refine ez_ncmp_ge 14 47 dX7_readTerm_11 rfl (by decide) (by omega) (by omega) (fun h11 => ?_) (fun h11 => ?_)
  · refine ez_vret dX7_readTerm_47 rfl ?_
    exact ⟨rfl, hF, hB⟩
  · refine ez_aload_n 15 dX7_readTerm_14 rfl rfl ?_
    refine ez_getf 18 (eI (M.1 7 0 6)) dX7_readTerm_15 rfl fl_X7_39 (by show 0 < 1; omega) rfl ?_
    refine ez_top (nI 1) hB.1 ?_
    refine ez_bipush 20 dX7_readTerm_18 rfl (nI 42) (by decide) ?_
    refine ez_ncmp_ne 23 47 dX7_readTerm_20 rfl (by decide) (by omega) (by omega) (fun h20 => ?_) (fun h20 => ?_)
    · refine ez_vret dX7_readTerm_47 rfl ?_
      exact ⟨rfl, hF, hB⟩
    · exact absurd h20 (by decide)
set_option maxRecDepth 20000 in
theorem cb_readTerm (G : EzG) (d : Nat) {f : Nat} (o : Nat) (M : EzM) (hd : 3 ≤ d) (hf : f < 2 ^ 31) (ho : o ≤ 5) (hB : TB f M) : Ezc G mX7_readTerm d [eR 7 0, eI (nI o)] M (fun q M' => q = none ∧ TF M M' ∧ TB f M') := by
  refine Ezc.of (by decide +kernel) (Nat.le_of_ble_eq_true rfl) ?_
  show Ez G mX7_readTerm d 0 [(0, eR 7 0), (1, eI (nI o))] [] M _
  refine ez_aload_n 1 dX7_readTerm_0 rfl rfl ?_
  refine ez_iload_n 2 dX7_readTerm_1 rfl rfl ?_
  refine ez_callV 5 [eI (nI o)] [] dX7_readTerm_2 rfl rfl ok_X7_readOne in_X7_readOne (by decide) (by show 0 < 1; omega) ln_X7_128 (by omega) (Nat.le_of_ble_eq_true rfl) (cb_readOne G (d - 1) o M (by omega) hf (by omega) hB) (fun r2 M2 q2 => ?_)
  obtain ⟨rfl, f2, g2⟩ := q2
  show Ez G mX7_readTerm d 5 [(0, eR 7 0), (1, eI (nI o))] [] M2 _
  refine ez_iconst 6 dX7_readTerm_5 rfl (nI 0) (by decide) ?_
  refine ez_istore_n 7 [(2, eI (nI 0)), (0, eR 7 0), (1, eI (nI o))] dX7_readTerm_6 rfl (by decide) rfl ?_
  exact lb_readTerm G d 0 o f M _ (by omega) (TF.rf.tr f2) g2
set_option maxRecDepth 20000 in
theorem lb_readSum (G : EzG) (d : Nat) (i o f : Nat) (M0 M : EzM) (hi : i ≤ 200) (hF : TF M0 M) (hB : TB f M) : Ez G mX7_readSum d 7 [(2, eI (nI i)), (0, eR 7 0), (1, eI (nI o))] [] M (fun q M' => q = none ∧ TF M0 M' ∧ TB f M') := by
  refine ez_iload_n 8 dX7_readSum_7 rfl rfl ?_
  refine ez_sipush 11 dX7_readSum_8 rfl (nI 160) (by decide) ?_
  refine ez_ncmp_ge 14 72 dX7_readSum_11 rfl (by decide) (by omega) (by omega) (fun h11 => ?_) (fun h11 => ?_)
  · refine ez_vret dX7_readSum_72 rfl ?_
    exact ⟨rfl, hF, hB⟩
  · refine ez_aload_n 15 dX7_readSum_14 rfl rfl ?_
    refine ez_getf 18 (eI (M.1 7 0 6)) dX7_readSum_15 rfl fl_X7_39 (by show 0 < 1; omega) rfl ?_
    refine ez_top (nI 1) hB.1 ?_
    refine ez_bipush 20 dX7_readSum_18 rfl (nI 43) (by decide) ?_
    refine ez_ncmp_eq 23 32 dX7_readSum_20 rfl (by decide) (by omega) (by omega) (fun h20 => ?_) (fun h20 => ?_)
    · exact absurd h20 (by decide)
    · refine ez_aload_n 24 dX7_readSum_23 rfl rfl ?_
      refine ez_getf 27 (eI (M.1 7 0 6)) dX7_readSum_24 rfl fl_X7_39 (by show 0 < 1; omega) rfl ?_
      refine ez_top (nI 1) hB.1 ?_
      refine ez_bipush 29 dX7_readSum_27 rfl (nI 45) (by decide) ?_
      refine ez_ncmp_ne 32 72 dX7_readSum_29 rfl (by decide) (by omega) (by omega) (fun h29 => ?_) (fun h29 => ?_)
      · refine ez_vret dX7_readSum_72 rfl ?_
        exact ⟨rfl, hF, hB⟩
      · exact absurd h29 (by decide)
set_option maxRecDepth 20000 in
theorem cb_readSum (G : EzG) (d : Nat) {f : Nat} (o : Nat) (M : EzM) (hd : 4 ≤ d) (hf : f < 2 ^ 31) (ho : o ≤ 5) (hB : TB f M) : Ezc G mX7_readSum d [eR 7 0, eI (nI o)] M (fun q M' => q = none ∧ TF M M' ∧ TB f M') := by
  refine Ezc.of (by decide +kernel) (Nat.le_of_ble_eq_true rfl) ?_
  show Ez G mX7_readSum d 0 [(0, eR 7 0), (1, eI (nI o))] [] M _
  refine ez_aload_n 1 dX7_readSum_0 rfl rfl ?_
  refine ez_iload_n 2 dX7_readSum_1 rfl rfl ?_
  refine ez_callV 5 [eI (nI o)] [] dX7_readSum_2 rfl rfl ok_X7_readTerm in_X7_readTerm (by decide) (by show 0 < 1; omega) ln_X7_125 (by omega) (Nat.le_of_ble_eq_true rfl) (cb_readTerm G (d - 1) o M (by omega) hf (by omega) hB) (fun r2 M2 q2 => ?_)
  obtain ⟨rfl, f2, g2⟩ := q2
  show Ez G mX7_readSum d 5 [(0, eR 7 0), (1, eI (nI o))] [] M2 _
  refine ez_iconst 6 dX7_readSum_5 rfl (nI 0) (by decide) ?_
  refine ez_istore_n 7 [(2, eI (nI 0)), (0, eR 7 0), (1, eI (nI o))] dX7_readSum_6 rfl (by decide) rfl ?_
  exact lb_readSum G d 0 o f M _ (by omega) (TF.rf.tr f2) g2
set_option maxRecDepth 20000 in
theorem cb_readNot (G : EzG) (d : Nat) {f : Nat} (o : Nat) (M : EzM) (hd : 5 ≤ d) (hf : f < 2 ^ 31) (ho : o ≤ 5) (hB : TB f M) : Ezc G mX7_readNot d [eR 7 0, eI (nI o)] M (fun q M' => q = none ∧ TF M M' ∧ TB f M') := by
  refine Ezc.of (by decide +kernel) (Nat.le_of_ble_eq_true rfl) ?_
  show Ez G mX7_readNot d 0 [(0, eR 7 0), (1, eI (nI o))] [] M _
  refine ez_aload_n 1 dX7_readNot_0 rfl rfl ?_
  refine ez_getf 4 (eI (M.1 7 0 6)) dX7_readNot_1 rfl fl_X7_39 (by show 0 < 1; omega) rfl ?_
  refine ez_top (nI 1) hB.1 ?_
  refine ez_bipush 6 dX7_readNot_4 rfl (nI 21) (by decide) ?_
  refine ez_ncmp_ne 9 34 dX7_readNot_6 rfl (by decide) (by omega) (by omega) (fun h6 => ?_) (fun h6 => ?_)
  · refine ez_aload_n 35 dX7_readNot_34 rfl rfl ?_
    refine ez_iload_n 36 dX7_readNot_35 rfl rfl ?_
    refine ez_callV 39 [eI (nI o)] [] dX7_readNot_36 rfl rfl ok_X7_readSum in_X7_readSum (by decide) (by show 0 < 1; omega) ln_X7_122 (by omega) (Nat.le_of_ble_eq_true rfl) (cb_readSum G (d - 1) o M (by omega) hf (by omega) hB) (fun r36 M36 q36 => ?_)
    obtain ⟨rfl, f36, g36⟩ := q36
    show Ez G mX7_readNot d 39 [(0, eR 7 0), (1, eI (nI o))] [] M36 _
    refine ez_aload_n 40 dX7_readNot_39 rfl rfl ?_
    refine ez_getf 43 (eI (M36.1 7 0 6)) dX7_readNot_40 rfl fl_X7_39 (by show 0 < 1; omega) rfl ?_
    refine ez_top (nI 1) g36.1 ?_
    refine ez_bipush 45 dX7_readNot_43 rfl (nI 60) (by decide) ?_
    refine ez_ncmp_eq 48 57 dX7_readNot_45 rfl (by decide) (by omega) (by omega) (fun h45 => ?_) (fun h45 => ?_)
    · exact absurd h45 (by decide)
    · refine ez_aload_n 49 dX7_readNot_48 rfl rfl ?_
      refine ez_getf 52 (eI (M36.1 7 0 6)) dX7_readNot_49 rfl fl_X7_39 (by show 0 < 1; omega) rfl ?_
      refine ez_top (nI 1) g36.1 ?_
      refine ez_bipush 54 dX7_readNot_52 rfl (nI 61) (by decide) ?_
      refine ez_ncmp_ne 57 91 dX7_readNot_54 rfl (by decide) (by omega) (by omega) (fun h54 => ?_) (fun h54 => ?_)
      · refine ez_vret dX7_readNot_91 rfl ?_
        exact ⟨rfl, (TF.rf.tr f36), g36⟩
      · exact absurd h54 (by decide)
  · exact absurd h6 (by decide)
set_option maxRecDepth 20000 in
theorem lb_readAnd (G : EzG) (d : Nat) (i o f : Nat) (M0 M : EzM) (hi : i ≤ 200) (hF : TF M0 M) (hB : TB f M) : Ez G mX7_readAnd d 7 [(2, eI (nI i)), (0, eR 7 0), (1, eI (nI o))] [] M (fun q M' => q = none ∧ TF M0 M' ∧ TB f M') := by
  refine ez_iload_n 8 dX7_readAnd_7 rfl rfl ?_
  refine ez_sipush 11 dX7_readAnd_8 rfl (nI 160) (by decide) ?_
  refine ez_ncmp_ge 14 47 dX7_readAnd_11 rfl (by decide) (by omega) (by omega) (fun h11 => ?_) (fun h11 => ?_)
  · refine ez_vret dX7_readAnd_47 rfl ?_
    exact ⟨rfl, hF, hB⟩
  · refine ez_aload_n 15 dX7_readAnd_14 rfl rfl ?_
    refine ez_getf 18 (eI (M.1 7 0 6)) dX7_readAnd_15 rfl fl_X7_39 (by show 0 < 1; omega) rfl ?_
    refine ez_top (nI 1) hB.1 ?_
    refine ez_bipush 20 dX7_readAnd_18 rfl (nI 20) (by decide) ?_
    refine ez_ncmp_ne 23 47 dX7_readAnd_20 rfl (by decide) (by omega) (by omega) (fun h20 => ?_) (fun h20 => ?_)
    · refine ez_vret dX7_readAnd_47 rfl ?_
      exact ⟨rfl, hF, hB⟩
    · exact absurd h20 (by decide)
set_option maxRecDepth 20000 in
theorem cb_readAnd (G : EzG) (d : Nat) {f : Nat} (o : Nat) (M : EzM) (hd : 6 ≤ d) (hf : f < 2 ^ 31) (ho : o ≤ 5) (hB : TB f M) : Ezc G mX7_readAnd d [eR 7 0, eI (nI o)] M (fun q M' => q = none ∧ TF M M' ∧ TB f M') := by
  refine Ezc.of (by decide +kernel) (Nat.le_of_ble_eq_true rfl) ?_
  show Ez G mX7_readAnd d 0 [(0, eR 7 0), (1, eI (nI o))] [] M _
  refine ez_aload_n 1 dX7_readAnd_0 rfl rfl ?_
  refine ez_iload_n 2 dX7_readAnd_1 rfl rfl ?_
  refine ez_callV 5 [eI (nI o)] [] dX7_readAnd_2 rfl rfl ok_X7_readNot in_X7_readNot (by decide) (by show 0 < 1; omega) ln_X7_116 (by omega) (Nat.le_of_ble_eq_true rfl) (cb_readNot G (d - 1) o M (by omega) hf (by omega) hB) (fun r2 M2 q2 => ?_)
  obtain ⟨rfl, f2, g2⟩ := q2
  show Ez G mX7_readAnd d 5 [(0, eR 7 0), (1, eI (nI o))] [] M2 _
  refine ez_iconst 6 dX7_readAnd_5 rfl (nI 0) (by decide) ?_
  refine ez_istore_n 7 [(2, eI (nI 0)), (0, eR 7 0), (1, eI (nI o))] dX7_readAnd_6 rfl (by decide) rfl ?_
  exact lb_readAnd G d 0 o f M _ (by omega) (TF.rf.tr f2) g2
set_option maxRecDepth 20000 in
theorem lb_readOr (G : EzG) (d : Nat) (i o f : Nat) (M0 M : EzM) (hi : i ≤ 200) (hF : TF M0 M) (hB : TB f M) : Ez G mX7_readOr d 7 [(2, eI (nI i)), (0, eR 7 0), (1, eI (nI o))] [] M (fun q M' => q = none ∧ TF M0 M' ∧ TB f M') := by
  refine ez_iload_n 8 dX7_readOr_7 rfl rfl ?_
  refine ez_sipush 11 dX7_readOr_8 rfl (nI 160) (by decide) ?_
  refine ez_ncmp_ge 14 47 dX7_readOr_11 rfl (by decide) (by omega) (by omega) (fun h11 => ?_) (fun h11 => ?_)
  · refine ez_vret dX7_readOr_47 rfl ?_
    exact ⟨rfl, hF, hB⟩
  · refine ez_aload_n 15 dX7_readOr_14 rfl rfl ?_
    refine ez_getf 18 (eI (M.1 7 0 6)) dX7_readOr_15 rfl fl_X7_39 (by show 0 < 1; omega) rfl ?_
    refine ez_top (nI 1) hB.1 ?_
    refine ez_bipush 20 dX7_readOr_18 rfl (nI 19) (by decide) ?_
    refine ez_ncmp_ne 23 47 dX7_readOr_20 rfl (by decide) (by omega) (by omega) (fun h20 => ?_) (fun h20 => ?_)
    · refine ez_vret dX7_readOr_47 rfl ?_
      exact ⟨rfl, hF, hB⟩
    · exact absurd h20 (by decide)
set_option maxRecDepth 20000 in
theorem cb_readOr (G : EzG) (d : Nat) {f : Nat} (o : Nat) (M : EzM) (hd : 7 ≤ d) (hf : f < 2 ^ 31) (ho : o ≤ 5) (hB : TB f M) : Ezc G mX7_readOr d [eR 7 0, eI (nI o)] M (fun q M' => q = none ∧ TF M M' ∧ TB f M') := by
  refine Ezc.of (by decide +kernel) (Nat.le_of_ble_eq_true rfl) ?_
  show Ez G mX7_readOr d 0 [(0, eR 7 0), (1, eI (nI o))] [] M _
  refine ez_aload_n 1 dX7_readOr_0 rfl rfl ?_
  refine ez_iload_n 2 dX7_readOr_1 rfl rfl ?_
  refine ez_callV 5 [eI (nI o)] [] dX7_readOr_2 rfl rfl ok_X7_readAnd in_X7_readAnd (by decide) (by show 0 < 1; omega) ln_X7_110 (by omega) (Nat.le_of_ble_eq_true rfl) (cb_readAnd G (d - 1) o M (by omega) hf (by omega) hB) (fun r2 M2 q2 => ?_)
  obtain ⟨rfl, f2, g2⟩ := q2
  show Ez G mX7_readOr d 5 [(0, eR 7 0), (1, eI (nI o))] [] M2 _
  refine ez_iconst 6 dX7_readOr_5 rfl (nI 0) (by decide) ?_
  refine ez_istore_n 7 [(2, eI (nI 0)), (0, eR 7 0), (1, eI (nI o))] dX7_readOr_6 rfl (by decide) rfl ?_
  exact lb_readOr G d 0 o f M _ (by omega) (TF.rf.tr f2) g2
/-- reading by the grammar, for a fuel n: a method from its start; a loop at its head -/
def PzM (G : EzG) (Tk Pl : Nat → Nat) (N : Nat) (Y : EzY) (r mode n : Nat) : Prop := ∀ (o k : Nat) (L : List Int32) (v : EpV) (x : EpR) (M : EzM) (d : Nat), o ≤ 5 → 8 * (6 - o) + r ≤ d → L.length + (N - k) ≤ 159 → TG Tk Pl N k L M → ep_pz Tk n mode o k [] v = some x → Ezc G Y d [eR 7 0, eI (nI o)] M (fun q M' => q = none ∧ TF M M' ∧ TX Tk Pl N x L M')
def PzT (G : EzG) (Tk Pl : Nat → Nat) (N : Nat) (Y : EzY) (r mode n : Nat) : Prop := ∀ (o k i : Nat) (L c : List Int32) (v : EpV) (x : EpR) (M0 M : EzM) (d : Nat), o ≤ 5 → 8 * (6 - o) + r ≤ d → i ≤ k → (L ++ c).length + (N - k) ≤ 159 → TF M0 M → TG Tk Pl N k (L ++ c) M → ep_pz Tk n mode o k c v = some x → Ez G Y d 7 [(2, eI (nI i)), (0, eR 7 0), (1, eI (nI o))] [] M (fun q M' => q = none ∧ TF M0 M' ∧ TX Tk Pl N x L M')
set_option maxRecDepth 20000 in
theorem sp_readOr (G : EzG) {Tk Pl : Nat → Nat} {N n : Nat} (hH : HT Tk Pl N) (iA : PzM G Tk Pl N mX7_readAnd 6 2 n) (iT : PzT G Tk Pl N mX7_readOr 7 1 n) : PzM G Tk Pl N mX7_readOr 7 0 (n + 1) := by
  intro o k L v x M d ho hd hl hG h
  have hn := hH.1
  rw [ep_pz_0] at h
  have w0 := hG.2.1
  refine Ezc.of (by decide +kernel) (Nat.le_of_ble_eq_true rfl) ?_
  show Ez G mX7_readOr d 0 [(0, eR 7 0), (1, eI (nI o))] [] M _
  rcases ep_bd_some h with ⟨k1, c1, v1, h1, h2⟩ | ⟨e, h1, rfl⟩
  · obtain ⟨p1, p2, p3⟩ := ep_pz_pk hH.2.2 n _ _ _ _ _ _ hG.2.1 (Or.inr (Or.inr (Or.inr (Or.inr rfl)))) h1
    simp only [List.length_nil] at p3
    refine ez_aload_n 1 dX7_readOr_0 rfl rfl ?_
    refine ez_iload_n 2 dX7_readOr_1 rfl rfl ?_
    refine ez_callV 5 [eI (nI o)] [] dX7_readOr_2 rfl rfl ok_X7_readAnd in_X7_readAnd (by decide) (by show 0 < 1; omega) ln_X7_110 (by omega) (Nat.le_of_ble_eq_true rfl) (iA o k L _ _ M (d - 1) (by omega) (by omega) (by first | omega | (simp only [List.length_append, List.length_cons, List.length_nil] at *; omega)) hG h1) (fun r2 M2 q2 => ?_)
    obtain ⟨rfl, f2, g2⟩ := q2
    have g2 : TG Tk Pl N k1 (L ++ c1) M2 := g2
    have u2 := (hH.2.1 _ g2.2.1).1
    have w2 := g2.2.1
    show Ez G mX7_readOr d 5 [(0, eR 7 0), (1, eI (nI o))] [] M2 _
    refine ez_iconst 6 dX7_readOr_5 rfl (nI 0) (by decide) ?_
    refine ez_istore_n 7 [(2, eI (nI 0)), (0, eR 7 0), (1, eI (nI o))] dX7_readOr_6 rfl (by decide) rfl ?_
    exact iT o k1 0 L c1 v1 x M _ d ho (by omega) (by omega) (by first | omega | (simp only [List.length_append] at *; omega)) (TF.rf.tr f2) g2 h2
  · refine ez_aload_n 1 dX7_readOr_0 rfl rfl ?_
    refine ez_iload_n 2 dX7_readOr_1 rfl rfl ?_
    refine ez_callV 5 [eI (nI o)] [] dX7_readOr_2 rfl rfl ok_X7_readAnd in_X7_readAnd (by decide) (by show 0 < 1; omega) ln_X7_110 (by omega) (Nat.le_of_ble_eq_true rfl) (iA o k L _ _ M (d - 1) (by omega) (by omega) (by first | omega | (simp only [List.length_append, List.length_cons, List.length_nil] at *; omega)) hG h1) (fun r2 M2 q2 => ?_)
    obtain ⟨rfl, f2, g2⟩ := q2
    show Ez G mX7_readOr d 5 [(0, eR 7 0), (1, eI (nI o))] [] M2 _
    refine ez_iconst 6 dX7_readOr_5 rfl (nI 0) (by decide) ?_
    refine ez_istore_n 7 [(2, eI (nI 0)), (0, eR 7 0), (1, eI (nI o))] dX7_readOr_6 rfl (by decide) rfl ?_
    exact lb_readOr G d 0 o (Pl e) M _ (by omega) (TF.rf.tr f2) g2
set_option maxRecDepth 20000 in
theorem sp_readAnd (G : EzG) {Tk Pl : Nat → Nat} {N n : Nat} (hH : HT Tk Pl N) (iA : PzM G Tk Pl N mX7_readNot 5 4 n) (iT : PzT G Tk Pl N mX7_readAnd 6 3 n) : PzM G Tk Pl N mX7_readAnd 6 2 (n + 1) := by
  intro o k L v x M d ho hd hl hG h
  have hn := hH.1
  rw [ep_pz_2] at h
  have w0 := hG.2.1
  refine Ezc.of (by decide +kernel) (Nat.le_of_ble_eq_true rfl) ?_
  show Ez G mX7_readAnd d 0 [(0, eR 7 0), (1, eI (nI o))] [] M _
  rcases ep_bd_some h with ⟨k1, c1, v1, h1, h2⟩ | ⟨e, h1, rfl⟩
  · obtain ⟨p1, p2, p3⟩ := ep_pz_pk hH.2.2 n _ _ _ _ _ _ hG.2.1 (Or.inr (Or.inr (Or.inr (Or.inr rfl)))) h1
    simp only [List.length_nil] at p3
    refine ez_aload_n 1 dX7_readAnd_0 rfl rfl ?_
    refine ez_iload_n 2 dX7_readAnd_1 rfl rfl ?_
    refine ez_callV 5 [eI (nI o)] [] dX7_readAnd_2 rfl rfl ok_X7_readNot in_X7_readNot (by decide) (by show 0 < 1; omega) ln_X7_116 (by omega) (Nat.le_of_ble_eq_true rfl) (iA o k L _ _ M (d - 1) (by omega) (by omega) (by first | omega | (simp only [List.length_append, List.length_cons, List.length_nil] at *; omega)) hG h1) (fun r2 M2 q2 => ?_)
    obtain ⟨rfl, f2, g2⟩ := q2
    have g2 : TG Tk Pl N k1 (L ++ c1) M2 := g2
    have u2 := (hH.2.1 _ g2.2.1).1
    have w2 := g2.2.1
    show Ez G mX7_readAnd d 5 [(0, eR 7 0), (1, eI (nI o))] [] M2 _
    refine ez_iconst 6 dX7_readAnd_5 rfl (nI 0) (by decide) ?_
    refine ez_istore_n 7 [(2, eI (nI 0)), (0, eR 7 0), (1, eI (nI o))] dX7_readAnd_6 rfl (by decide) rfl ?_
    exact iT o k1 0 L c1 v1 x M _ d ho (by omega) (by omega) (by first | omega | (simp only [List.length_append] at *; omega)) (TF.rf.tr f2) g2 h2
  · refine ez_aload_n 1 dX7_readAnd_0 rfl rfl ?_
    refine ez_iload_n 2 dX7_readAnd_1 rfl rfl ?_
    refine ez_callV 5 [eI (nI o)] [] dX7_readAnd_2 rfl rfl ok_X7_readNot in_X7_readNot (by decide) (by show 0 < 1; omega) ln_X7_116 (by omega) (Nat.le_of_ble_eq_true rfl) (iA o k L _ _ M (d - 1) (by omega) (by omega) (by first | omega | (simp only [List.length_append, List.length_cons, List.length_nil] at *; omega)) hG h1) (fun r2 M2 q2 => ?_)
    obtain ⟨rfl, f2, g2⟩ := q2
    show Ez G mX7_readAnd d 5 [(0, eR 7 0), (1, eI (nI o))] [] M2 _
    refine ez_iconst 6 dX7_readAnd_5 rfl (nI 0) (by decide) ?_
    refine ez_istore_n 7 [(2, eI (nI 0)), (0, eR 7 0), (1, eI (nI o))] dX7_readAnd_6 rfl (by decide) rfl ?_
    exact lb_readAnd G d 0 o (Pl e) M _ (by omega) (TF.rf.tr f2) g2
set_option maxRecDepth 20000 in
theorem sp_readSum (G : EzG) {Tk Pl : Nat → Nat} {N n : Nat} (hH : HT Tk Pl N) (iA : PzM G Tk Pl N mX7_readTerm 3 7 n) (iT : PzT G Tk Pl N mX7_readSum 4 6 n) : PzM G Tk Pl N mX7_readSum 4 5 (n + 1) := by
  intro o k L v x M d ho hd hl hG h
  have hn := hH.1
  rw [ep_pz_5] at h
  have w0 := hG.2.1
  refine Ezc.of (by decide +kernel) (Nat.le_of_ble_eq_true rfl) ?_
  show Ez G mX7_readSum d 0 [(0, eR 7 0), (1, eI (nI o))] [] M _
  rcases ep_bd_some h with ⟨k1, c1, v1, h1, h2⟩ | ⟨e, h1, rfl⟩
  · obtain ⟨p1, p2, p3⟩ := ep_pz_pk hH.2.2 n _ _ _ _ _ _ hG.2.1 (Or.inr (Or.inr (Or.inr (Or.inr rfl)))) h1
    simp only [List.length_nil] at p3
    refine ez_aload_n 1 dX7_readSum_0 rfl rfl ?_
    refine ez_iload_n 2 dX7_readSum_1 rfl rfl ?_
    refine ez_callV 5 [eI (nI o)] [] dX7_readSum_2 rfl rfl ok_X7_readTerm in_X7_readTerm (by decide) (by show 0 < 1; omega) ln_X7_125 (by omega) (Nat.le_of_ble_eq_true rfl) (iA o k L _ _ M (d - 1) (by omega) (by omega) (by first | omega | (simp only [List.length_append, List.length_cons, List.length_nil] at *; omega)) hG h1) (fun r2 M2 q2 => ?_)
    obtain ⟨rfl, f2, g2⟩ := q2
    have g2 : TG Tk Pl N k1 (L ++ c1) M2 := g2
    have u2 := (hH.2.1 _ g2.2.1).1
    have w2 := g2.2.1
    show Ez G mX7_readSum d 5 [(0, eR 7 0), (1, eI (nI o))] [] M2 _
    refine ez_iconst 6 dX7_readSum_5 rfl (nI 0) (by decide) ?_
    refine ez_istore_n 7 [(2, eI (nI 0)), (0, eR 7 0), (1, eI (nI o))] dX7_readSum_6 rfl (by decide) rfl ?_
    exact iT o k1 0 L c1 v1 x M _ d ho (by omega) (by omega) (by first | omega | (simp only [List.length_append] at *; omega)) (TF.rf.tr f2) g2 h2
  · refine ez_aload_n 1 dX7_readSum_0 rfl rfl ?_
    refine ez_iload_n 2 dX7_readSum_1 rfl rfl ?_
    refine ez_callV 5 [eI (nI o)] [] dX7_readSum_2 rfl rfl ok_X7_readTerm in_X7_readTerm (by decide) (by show 0 < 1; omega) ln_X7_125 (by omega) (Nat.le_of_ble_eq_true rfl) (iA o k L _ _ M (d - 1) (by omega) (by omega) (by first | omega | (simp only [List.length_append, List.length_cons, List.length_nil] at *; omega)) hG h1) (fun r2 M2 q2 => ?_)
    obtain ⟨rfl, f2, g2⟩ := q2
    show Ez G mX7_readSum d 5 [(0, eR 7 0), (1, eI (nI o))] [] M2 _
    refine ez_iconst 6 dX7_readSum_5 rfl (nI 0) (by decide) ?_
    refine ez_istore_n 7 [(2, eI (nI 0)), (0, eR 7 0), (1, eI (nI o))] dX7_readSum_6 rfl (by decide) rfl ?_
    exact lb_readSum G d 0 o (Pl e) M _ (by omega) (TF.rf.tr f2) g2
set_option maxRecDepth 20000 in
theorem sp_readTerm (G : EzG) {Tk Pl : Nat → Nat} {N n : Nat} (hH : HT Tk Pl N) (iA : PzM G Tk Pl N mX7_readOne 2 9 n) (iT : PzT G Tk Pl N mX7_readTerm 3 8 n) : PzM G Tk Pl N mX7_readTerm 3 7 (n + 1) := by
  intro o k L v x M d ho hd hl hG h
  have hn := hH.1
  rw [ep_pz_7] at h
  have w0 := hG.2.1
  refine Ezc.of (by decide +kernel) (Nat.le_of_ble_eq_true rfl) ?_
  show Ez G mX7_readTerm d 0 [(0, eR 7 0), (1, eI (nI o))] [] M _
  rcases ep_bd_some h with ⟨k1, c1, v1, h1, h2⟩ | ⟨e, h1, rfl⟩
  · obtain ⟨p1, p2, p3⟩ := ep_pz_pk hH.2.2 n _ _ _ _ _ _ hG.2.1 (Or.inr (Or.inr (Or.inr (Or.inr rfl)))) h1
    simp only [List.length_nil] at p3
    refine ez_aload_n 1 dX7_readTerm_0 rfl rfl ?_
    refine ez_iload_n 2 dX7_readTerm_1 rfl rfl ?_
    refine ez_callV 5 [eI (nI o)] [] dX7_readTerm_2 rfl rfl ok_X7_readOne in_X7_readOne (by decide) (by show 0 < 1; omega) ln_X7_128 (by omega) (Nat.le_of_ble_eq_true rfl) (iA o k L _ _ M (d - 1) (by omega) (by omega) (by first | omega | (simp only [List.length_append, List.length_cons, List.length_nil] at *; omega)) hG h1) (fun r2 M2 q2 => ?_)
    obtain ⟨rfl, f2, g2⟩ := q2
    have g2 : TG Tk Pl N k1 (L ++ c1) M2 := g2
    have u2 := (hH.2.1 _ g2.2.1).1
    have w2 := g2.2.1
    show Ez G mX7_readTerm d 5 [(0, eR 7 0), (1, eI (nI o))] [] M2 _
    refine ez_iconst 6 dX7_readTerm_5 rfl (nI 0) (by decide) ?_
    refine ez_istore_n 7 [(2, eI (nI 0)), (0, eR 7 0), (1, eI (nI o))] dX7_readTerm_6 rfl (by decide) rfl ?_
    exact iT o k1 0 L c1 v1 x M _ d ho (by omega) (by omega) (by first | omega | (simp only [List.length_append] at *; omega)) (TF.rf.tr f2) g2 h2
  · refine ez_aload_n 1 dX7_readTerm_0 rfl rfl ?_
    refine ez_iload_n 2 dX7_readTerm_1 rfl rfl ?_
    refine ez_callV 5 [eI (nI o)] [] dX7_readTerm_2 rfl rfl ok_X7_readOne in_X7_readOne (by decide) (by show 0 < 1; omega) ln_X7_128 (by omega) (Nat.le_of_ble_eq_true rfl) (iA o k L _ _ M (d - 1) (by omega) (by omega) (by first | omega | (simp only [List.length_append, List.length_cons, List.length_nil] at *; omega)) hG h1) (fun r2 M2 q2 => ?_)
    obtain ⟨rfl, f2, g2⟩ := q2
    show Ez G mX7_readTerm d 5 [(0, eR 7 0), (1, eI (nI o))] [] M2 _
    refine ez_iconst 6 dX7_readTerm_5 rfl (nI 0) (by decide) ?_
    refine ez_istore_n 7 [(2, eI (nI 0)), (0, eR 7 0), (1, eI (nI o))] dX7_readTerm_6 rfl (by decide) rfl ?_
    exact lb_readTerm G d 0 o (Pl e) M _ (by omega) (TF.rf.tr f2) g2
set_option maxRecDepth 20000 in
theorem st_readOrT (G : EzG) {Tk Pl : Nat → Nat} {N n : Nat} (hH : HT Tk Pl N) (iA : PzM G Tk Pl N mX7_readAnd 6 2 n) (iT : PzT G Tk Pl N mX7_readOr 7 1 n) : PzT G Tk Pl N mX7_readOr 7 1 (n + 1) := by
  intro o k i L c v x M0 M d ho hd hi hl hF hG h
  have hn := hH.1
  rw [ep_pz_1] at h
  have u0 := (hH.2.1 _ hG.2.1).1
  have w0 := hG.2.1
  by_cases t19 : Tk k = 19
  · rw [if_pos t19] at h
    rcases ep_bd_some h with ⟨k1, c1, v1, h1, h2⟩ | ⟨e, h1, rfl⟩
    · have hlt := hH.2.2 k hG.2.1 (by omega)
      obtain ⟨p1, p2, p3⟩ := ep_pz_pk hH.2.2 n _ _ _ _ _ _ (show k + 1 ≤ N from hlt) (Or.inr (Or.inr (Or.inr (Or.inr rfl)))) h1
      simp only [List.length_nil] at p3
      refine ez_iload_n 8 dX7_readOr_7 rfl rfl ?_
      refine ez_sipush 11 dX7_readOr_8 rfl (nI 160) (by decide) ?_
      refine ez_ncmp_ge 14 47 dX7_readOr_11 rfl (by decide) (by omega) (by omega) (fun h11 => ?_) (fun h11 => ?_)
      · exfalso; omega
      · refine ez_aload_n 15 dX7_readOr_14 rfl rfl ?_
        refine ez_getf 18 (eI (M.1 7 0 6)) dX7_readOr_15 rfl fl_X7_39 (by show 0 < 1; omega) rfl ?_
        refine ez_top (nI (Tk k)) hG.2.2.2.1 ?_
        refine ez_bipush 20 dX7_readOr_18 rfl (nI 19) (by decide) ?_
        refine ez_ncmp_ne 23 47 dX7_readOr_20 rfl (by decide) (by omega) (by omega) (fun h20 => ?_) (fun h20 => ?_)
        · exfalso; omega
        · refine ez_aload_n 24 dX7_readOr_23 rfl rfl ?_
          refine ez_callV 27 [] [] dX7_readOr_24 rfl rfl ok_X7_advance in_X7_advance (by decide) (by show 0 < 1; omega) ln_X7_107 (by omega) (Nat.le_of_ble_eq_true rfl) (c_adv G (d - 1) M (by omega) hH hG (by omega)) (fun r24 M24 q24 => ?_)
          obtain ⟨rfl, f24, g24⟩ := q24
          have u24 := (hH.2.1 _ g24.2.1).1
          have w24 := g24.2.1
          show Ez G mX7_readOr d 27 [(2, eI (nI i)), (0, eR 7 0), (1, eI (nI o))] [] M24 _
          refine ez_aload_n 28 dX7_readOr_27 rfl rfl ?_
          refine ez_iload_n 29 dX7_readOr_28 rfl rfl ?_
          refine ez_callV 32 [eI (nI o)] [] dX7_readOr_29 rfl rfl ok_X7_readAnd in_X7_readAnd (by decide) (by show 0 < 1; omega) ln_X7_110 (by omega) (Nat.le_of_ble_eq_true rfl) (iA o (k + 1) (L ++ c) _ _ M24 (d - 1) (by omega) (by omega) (by first | omega | (simp only [List.length_append, List.length_cons, List.length_nil] at *; omega)) g24 h1) (fun r29 M29 q29 => ?_)
          obtain ⟨rfl, f29, g29⟩ := q29
          have g29 : TG Tk Pl N k1 ((L ++ c) ++ c1) M29 := g29
          have u29 := (hH.2.1 _ g29.2.1).1
          have w29 := g29.2.1
          show Ez G mX7_readOr d 32 [(2, eI (nI i)), (0, eR 7 0), (1, eI (nI o))] [] M29 _
          refine ez_aload_n 33 dX7_readOr_32 rfl rfl ?_
          refine ez_getf 36 (eR 3 6) dX7_readOr_33 rfl fl_X7_25 (by show 0 < 1; omega) rfl ?_
          refine ez_bipush 38 dX7_readOr_36 rfl (-20) (by decide) ?_
          refine ez_callV 41 [eI (-20)] [] dX7_readOr_38 rfl rfl ok_X3_add in_X3_add (by decide) (by show 6 < 7; omega) ln_X7_113 (by omega) (Nat.le_of_ble_eq_true rfl) (c_add G (d - 1) (-20) M29 g29 (by first | omega | (simp only [List.length_append, List.length_cons, List.length_nil] at *; omega))) (fun r38 M38 q38 => ?_)
          obtain ⟨rfl, f38, g38⟩ := q38
          have u38 := (hH.2.1 _ g38.2.1).1
          have w38 := g38.2.1
          show Ez G mX7_readOr d 41 [(2, eI (nI i)), (0, eR 7 0), (1, eI (nI o))] [] M38 _
          refine ez_iinc 44 (nI (i + 1)) [(2, eI (nI (i + 1))), (0, eR 7 0), (1, eI (nI o))] dX7_readOr_41 rfl rfl (nI_add i 1) (by decide) rfl ?_
          refine ez_goto 7 dX7_readOr_44 (by decide) ?_
          refine ez_drop [(2, eI (nI (i + 1))), (0, eR 7 0), (1, eI (nI o))] (by simp) ?_
          exact iT o k1 (i + 1) L (c ++ c1 ++ [-20]) _ x M0 _ d ho (by omega) (by omega) (by first | omega | (simp only [List.length_append, List.length_cons, List.length_nil] at *; omega)) (((hF.tr f24).tr f29).tr f38) (by simpa only [List.append_assoc] using g38) h2
    · have hlt := hH.2.2 k hG.2.1 (by omega)
      refine ez_iload_n 8 dX7_readOr_7 rfl rfl ?_
      refine ez_sipush 11 dX7_readOr_8 rfl (nI 160) (by decide) ?_
      refine ez_ncmp_ge 14 47 dX7_readOr_11 rfl (by decide) (by omega) (by omega) (fun h11 => ?_) (fun h11 => ?_)
      · exfalso; omega
      · refine ez_aload_n 15 dX7_readOr_14 rfl rfl ?_
        refine ez_getf 18 (eI (M.1 7 0 6)) dX7_readOr_15 rfl fl_X7_39 (by show 0 < 1; omega) rfl ?_
        refine ez_top (nI (Tk k)) hG.2.2.2.1 ?_
        refine ez_bipush 20 dX7_readOr_18 rfl (nI 19) (by decide) ?_
        refine ez_ncmp_ne 23 47 dX7_readOr_20 rfl (by decide) (by omega) (by omega) (fun h20 => ?_) (fun h20 => ?_)
        · exfalso; omega
        · refine ez_aload_n 24 dX7_readOr_23 rfl rfl ?_
          refine ez_callV 27 [] [] dX7_readOr_24 rfl rfl ok_X7_advance in_X7_advance (by decide) (by show 0 < 1; omega) ln_X7_107 (by omega) (Nat.le_of_ble_eq_true rfl) (c_adv G (d - 1) M (by omega) hH hG (by omega)) (fun r24 M24 q24 => ?_)
          obtain ⟨rfl, f24, g24⟩ := q24
          have u24 := (hH.2.1 _ g24.2.1).1
          have w24 := g24.2.1
          show Ez G mX7_readOr d 27 [(2, eI (nI i)), (0, eR 7 0), (1, eI (nI o))] [] M24 _
          refine ez_aload_n 28 dX7_readOr_27 rfl rfl ?_
          refine ez_iload_n 29 dX7_readOr_28 rfl rfl ?_
          refine ez_callV 32 [eI (nI o)] [] dX7_readOr_29 rfl rfl ok_X7_readAnd in_X7_readAnd (by decide) (by show 0 < 1; omega) ln_X7_110 (by omega) (Nat.le_of_ble_eq_true rfl) (iA o (k + 1) (L ++ c) _ _ M24 (d - 1) (by omega) (by omega) (by first | omega | (simp only [List.length_append, List.length_cons, List.length_nil] at *; omega)) g24 h1) (fun r29 M29 q29 => ?_)
          obtain ⟨rfl, f29, g29⟩ := q29
          show Ez G mX7_readOr d 32 [(2, eI (nI i)), (0, eR 7 0), (1, eI (nI o))] [] M29 _
          refine ez_aload_n 33 dX7_readOr_32 rfl rfl ?_
          refine ez_getf 36 (eR 3 6) dX7_readOr_33 rfl fl_X7_25 (by show 0 < 1; omega) rfl ?_
          refine ez_bipush 38 dX7_readOr_36 rfl (-20) (by decide) ?_
          refine ez_callV 41 [eI (-20)] [] dX7_readOr_38 rfl rfl ok_X3_add in_X3_add (by decide) (by show 6 < 7; omega) ln_X7_113 (by omega) (Nat.le_of_ble_eq_true rfl) (c_addb G (d - 1) (Pl e) (-20) M29 g29) (fun r38 M38 q38 => ?_)
          obtain ⟨rfl, f38, g38⟩ := q38
          show Ez G mX7_readOr d 41 [(2, eI (nI i)), (0, eR 7 0), (1, eI (nI o))] [] M38 _
          refine ez_iinc 44 (nI (i + 1)) [(2, eI (nI (i + 1))), (0, eR 7 0), (1, eI (nI o))] dX7_readOr_41 rfl rfl (nI_add i 1) (by decide) rfl ?_
          refine ez_goto 7 dX7_readOr_44 (by decide) ?_
          refine ez_drop [(2, eI (nI (i + 1))), (0, eR 7 0), (1, eI (nI o))] (by simp) ?_
          exact lb_readOr G d (i + 1) o (Pl e) M0 _ (by omega) (((hF.tr f24).tr f29).tr f38) g38
  rw [if_neg t19] at h
  cases h
  refine ez_iload_n 8 dX7_readOr_7 rfl rfl ?_
  refine ez_sipush 11 dX7_readOr_8 rfl (nI 160) (by decide) ?_
  refine ez_ncmp_ge 14 47 dX7_readOr_11 rfl (by decide) (by omega) (by omega) (fun h11 => ?_) (fun h11 => ?_)
  · refine ez_vret dX7_readOr_47 rfl ?_
    exact ⟨rfl, hF, hG⟩
  · refine ez_aload_n 15 dX7_readOr_14 rfl rfl ?_
    refine ez_getf 18 (eI (M.1 7 0 6)) dX7_readOr_15 rfl fl_X7_39 (by show 0 < 1; omega) rfl ?_
    refine ez_top (nI (Tk k)) hG.2.2.2.1 ?_
    refine ez_bipush 20 dX7_readOr_18 rfl (nI 19) (by decide) ?_
    refine ez_ncmp_ne 23 47 dX7_readOr_20 rfl (by decide) (by omega) (by omega) (fun h20 => ?_) (fun h20 => ?_)
    · refine ez_vret dX7_readOr_47 rfl ?_
      exact ⟨rfl, hF, hG⟩
    · exfalso; omega
set_option maxRecDepth 20000 in
theorem st_readAndT (G : EzG) {Tk Pl : Nat → Nat} {N n : Nat} (hH : HT Tk Pl N) (iA : PzM G Tk Pl N mX7_readNot 5 4 n) (iT : PzT G Tk Pl N mX7_readAnd 6 3 n) : PzT G Tk Pl N mX7_readAnd 6 3 (n + 1) := by
  intro o k i L c v x M0 M d ho hd hi hl hF hG h
  have hn := hH.1
  rw [ep_pz_3] at h
  have u0 := (hH.2.1 _ hG.2.1).1
  have w0 := hG.2.1
  by_cases t20 : Tk k = 20
  · rw [if_pos t20] at h
    rcases ep_bd_some h with ⟨k1, c1, v1, h1, h2⟩ | ⟨e, h1, rfl⟩
    · have hlt := hH.2.2 k hG.2.1 (by omega)
      obtain ⟨p1, p2, p3⟩ := ep_pz_pk hH.2.2 n _ _ _ _ _ _ (show k + 1 ≤ N from hlt) (Or.inr (Or.inr (Or.inr (Or.inr rfl)))) h1
      simp only [List.length_nil] at p3
      refine ez_iload_n 8 dX7_readAnd_7 rfl rfl ?_
      refine ez_sipush 11 dX7_readAnd_8 rfl (nI 160) (by decide) ?_
      refine ez_ncmp_ge 14 47 dX7_readAnd_11 rfl (by decide) (by omega) (by omega) (fun h11 => ?_) (fun h11 => ?_)
      · exfalso; omega
      · refine ez_aload_n 15 dX7_readAnd_14 rfl rfl ?_
        refine ez_getf 18 (eI (M.1 7 0 6)) dX7_readAnd_15 rfl fl_X7_39 (by show 0 < 1; omega) rfl ?_
        refine ez_top (nI (Tk k)) hG.2.2.2.1 ?_
        refine ez_bipush 20 dX7_readAnd_18 rfl (nI 20) (by decide) ?_
        refine ez_ncmp_ne 23 47 dX7_readAnd_20 rfl (by decide) (by omega) (by omega) (fun h20 => ?_) (fun h20 => ?_)
        · exfalso; omega
        · refine ez_aload_n 24 dX7_readAnd_23 rfl rfl ?_
          refine ez_callV 27 [] [] dX7_readAnd_24 rfl rfl ok_X7_advance in_X7_advance (by decide) (by show 0 < 1; omega) ln_X7_107 (by omega) (Nat.le_of_ble_eq_true rfl) (c_adv G (d - 1) M (by omega) hH hG (by omega)) (fun r24 M24 q24 => ?_)
          obtain ⟨rfl, f24, g24⟩ := q24
          have u24 := (hH.2.1 _ g24.2.1).1
          have w24 := g24.2.1
          show Ez G mX7_readAnd d 27 [(2, eI (nI i)), (0, eR 7 0), (1, eI (nI o))] [] M24 _
          refine ez_aload_n 28 dX7_readAnd_27 rfl rfl ?_
          refine ez_iload_n 29 dX7_readAnd_28 rfl rfl ?_
          refine ez_callV 32 [eI (nI o)] [] dX7_readAnd_29 rfl rfl ok_X7_readNot in_X7_readNot (by decide) (by show 0 < 1; omega) ln_X7_116 (by omega) (Nat.le_of_ble_eq_true rfl) (iA o (k + 1) (L ++ c) _ _ M24 (d - 1) (by omega) (by omega) (by first | omega | (simp only [List.length_append, List.length_cons, List.length_nil] at *; omega)) g24 h1) (fun r29 M29 q29 => ?_)
          obtain ⟨rfl, f29, g29⟩ := q29
          have g29 : TG Tk Pl N k1 ((L ++ c) ++ c1) M29 := g29
          have u29 := (hH.2.1 _ g29.2.1).1
          have w29 := g29.2.1
          show Ez G mX7_readAnd d 32 [(2, eI (nI i)), (0, eR 7 0), (1, eI (nI o))] [] M29 _
          refine ez_aload_n 33 dX7_readAnd_32 rfl rfl ?_
          refine ez_getf 36 (eR 3 6) dX7_readAnd_33 rfl fl_X7_25 (by show 0 < 1; omega) rfl ?_
          refine ez_bipush 38 dX7_readAnd_36 rfl (-21) (by decide) ?_
          refine ez_callV 41 [eI (-21)] [] dX7_readAnd_38 rfl rfl ok_X3_add in_X3_add (by decide) (by show 6 < 7; omega) ln_X7_113 (by omega) (Nat.le_of_ble_eq_true rfl) (c_add G (d - 1) (-21) M29 g29 (by first | omega | (simp only [List.length_append, List.length_cons, List.length_nil] at *; omega))) (fun r38 M38 q38 => ?_)
          obtain ⟨rfl, f38, g38⟩ := q38
          have u38 := (hH.2.1 _ g38.2.1).1
          have w38 := g38.2.1
          show Ez G mX7_readAnd d 41 [(2, eI (nI i)), (0, eR 7 0), (1, eI (nI o))] [] M38 _
          refine ez_iinc 44 (nI (i + 1)) [(2, eI (nI (i + 1))), (0, eR 7 0), (1, eI (nI o))] dX7_readAnd_41 rfl rfl (nI_add i 1) (by decide) rfl ?_
          refine ez_goto 7 dX7_readAnd_44 (by decide) ?_
          refine ez_drop [(2, eI (nI (i + 1))), (0, eR 7 0), (1, eI (nI o))] (by simp) ?_
          exact iT o k1 (i + 1) L (c ++ c1 ++ [-21]) _ x M0 _ d ho (by omega) (by omega) (by first | omega | (simp only [List.length_append, List.length_cons, List.length_nil] at *; omega)) (((hF.tr f24).tr f29).tr f38) (by simpa only [List.append_assoc] using g38) h2
    · have hlt := hH.2.2 k hG.2.1 (by omega)
      refine ez_iload_n 8 dX7_readAnd_7 rfl rfl ?_
      refine ez_sipush 11 dX7_readAnd_8 rfl (nI 160) (by decide) ?_
      refine ez_ncmp_ge 14 47 dX7_readAnd_11 rfl (by decide) (by omega) (by omega) (fun h11 => ?_) (fun h11 => ?_)
      · exfalso; omega
      · refine ez_aload_n 15 dX7_readAnd_14 rfl rfl ?_
        refine ez_getf 18 (eI (M.1 7 0 6)) dX7_readAnd_15 rfl fl_X7_39 (by show 0 < 1; omega) rfl ?_
        refine ez_top (nI (Tk k)) hG.2.2.2.1 ?_
        refine ez_bipush 20 dX7_readAnd_18 rfl (nI 20) (by decide) ?_
        refine ez_ncmp_ne 23 47 dX7_readAnd_20 rfl (by decide) (by omega) (by omega) (fun h20 => ?_) (fun h20 => ?_)
        · exfalso; omega
        · refine ez_aload_n 24 dX7_readAnd_23 rfl rfl ?_
          refine ez_callV 27 [] [] dX7_readAnd_24 rfl rfl ok_X7_advance in_X7_advance (by decide) (by show 0 < 1; omega) ln_X7_107 (by omega) (Nat.le_of_ble_eq_true rfl) (c_adv G (d - 1) M (by omega) hH hG (by omega)) (fun r24 M24 q24 => ?_)
          obtain ⟨rfl, f24, g24⟩ := q24
          have u24 := (hH.2.1 _ g24.2.1).1
          have w24 := g24.2.1
          show Ez G mX7_readAnd d 27 [(2, eI (nI i)), (0, eR 7 0), (1, eI (nI o))] [] M24 _
          refine ez_aload_n 28 dX7_readAnd_27 rfl rfl ?_
          refine ez_iload_n 29 dX7_readAnd_28 rfl rfl ?_
          refine ez_callV 32 [eI (nI o)] [] dX7_readAnd_29 rfl rfl ok_X7_readNot in_X7_readNot (by decide) (by show 0 < 1; omega) ln_X7_116 (by omega) (Nat.le_of_ble_eq_true rfl) (iA o (k + 1) (L ++ c) _ _ M24 (d - 1) (by omega) (by omega) (by first | omega | (simp only [List.length_append, List.length_cons, List.length_nil] at *; omega)) g24 h1) (fun r29 M29 q29 => ?_)
          obtain ⟨rfl, f29, g29⟩ := q29
          show Ez G mX7_readAnd d 32 [(2, eI (nI i)), (0, eR 7 0), (1, eI (nI o))] [] M29 _
          refine ez_aload_n 33 dX7_readAnd_32 rfl rfl ?_
          refine ez_getf 36 (eR 3 6) dX7_readAnd_33 rfl fl_X7_25 (by show 0 < 1; omega) rfl ?_
          refine ez_bipush 38 dX7_readAnd_36 rfl (-21) (by decide) ?_
          refine ez_callV 41 [eI (-21)] [] dX7_readAnd_38 rfl rfl ok_X3_add in_X3_add (by decide) (by show 6 < 7; omega) ln_X7_113 (by omega) (Nat.le_of_ble_eq_true rfl) (c_addb G (d - 1) (Pl e) (-21) M29 g29) (fun r38 M38 q38 => ?_)
          obtain ⟨rfl, f38, g38⟩ := q38
          show Ez G mX7_readAnd d 41 [(2, eI (nI i)), (0, eR 7 0), (1, eI (nI o))] [] M38 _
          refine ez_iinc 44 (nI (i + 1)) [(2, eI (nI (i + 1))), (0, eR 7 0), (1, eI (nI o))] dX7_readAnd_41 rfl rfl (nI_add i 1) (by decide) rfl ?_
          refine ez_goto 7 dX7_readAnd_44 (by decide) ?_
          refine ez_drop [(2, eI (nI (i + 1))), (0, eR 7 0), (1, eI (nI o))] (by simp) ?_
          exact lb_readAnd G d (i + 1) o (Pl e) M0 _ (by omega) (((hF.tr f24).tr f29).tr f38) g38
  rw [if_neg t20] at h
  cases h
  refine ez_iload_n 8 dX7_readAnd_7 rfl rfl ?_
  refine ez_sipush 11 dX7_readAnd_8 rfl (nI 160) (by decide) ?_
  refine ez_ncmp_ge 14 47 dX7_readAnd_11 rfl (by decide) (by omega) (by omega) (fun h11 => ?_) (fun h11 => ?_)
  · refine ez_vret dX7_readAnd_47 rfl ?_
    exact ⟨rfl, hF, hG⟩
  · refine ez_aload_n 15 dX7_readAnd_14 rfl rfl ?_
    refine ez_getf 18 (eI (M.1 7 0 6)) dX7_readAnd_15 rfl fl_X7_39 (by show 0 < 1; omega) rfl ?_
    refine ez_top (nI (Tk k)) hG.2.2.2.1 ?_
    refine ez_bipush 20 dX7_readAnd_18 rfl (nI 20) (by decide) ?_
    refine ez_ncmp_ne 23 47 dX7_readAnd_20 rfl (by decide) (by omega) (by omega) (fun h20 => ?_) (fun h20 => ?_)
    · refine ez_vret dX7_readAnd_47 rfl ?_
      exact ⟨rfl, hF, hG⟩
    · exfalso; omega
set_option maxRecDepth 20000 in
theorem st_readSumT (G : EzG) {Tk Pl : Nat → Nat} {N n : Nat} (hH : HT Tk Pl N) (iA : PzM G Tk Pl N mX7_readTerm 3 7 n) (iT : PzT G Tk Pl N mX7_readSum 4 6 n) : PzT G Tk Pl N mX7_readSum 4 6 (n + 1) := by
  intro o k i L c v x M0 M d ho hd hi hl hF hG h
  have hn := hH.1
  rw [ep_pz_6] at h
  have u0 := (hH.2.1 _ hG.2.1).1
  have w0 := hG.2.1
  by_cases t43 : Tk k = 43
  · rw [if_pos t43] at h
    rcases ep_bd_some h with ⟨k1, c1, v1, h1, h2⟩ | ⟨e, h1, rfl⟩
    · have hlt := hH.2.2 k hG.2.1 (by omega)
      obtain ⟨p1, p2, p3⟩ := ep_pz_pk hH.2.2 n _ _ _ _ _ _ (show k + 1 ≤ N from hlt) (Or.inr (Or.inr (Or.inr (Or.inr rfl)))) h1
      simp only [List.length_nil] at p3
      refine ez_iload_n 8 dX7_readSum_7 rfl rfl ?_
      refine ez_sipush 11 dX7_readSum_8 rfl (nI 160) (by decide) ?_
      refine ez_ncmp_ge 14 72 dX7_readSum_11 rfl (by decide) (by omega) (by omega) (fun h11 => ?_) (fun h11 => ?_)
      · exfalso; omega
      · refine ez_aload_n 15 dX7_readSum_14 rfl rfl ?_
        refine ez_getf 18 (eI (M.1 7 0 6)) dX7_readSum_15 rfl fl_X7_39 (by show 0 < 1; omega) rfl ?_
        refine ez_top (nI (Tk k)) hG.2.2.2.1 ?_
        refine ez_bipush 20 dX7_readSum_18 rfl (nI 43) (by decide) ?_
        refine ez_ncmp_eq 23 32 dX7_readSum_20 rfl (by decide) (by omega) (by omega) (fun h20 => ?_) (fun h20 => ?_)
        · refine ez_aload_n 33 dX7_readSum_32 rfl rfl ?_
          refine ez_getf 36 (eI (M.1 7 0 6)) dX7_readSum_33 rfl fl_X7_39 (by show 0 < 1; omega) rfl ?_
          refine ez_top (nI (Tk k)) hG.2.2.2.1 ?_
          refine ez_bipush 38 dX7_readSum_36 rfl (nI 43) (by decide) ?_
          refine ez_ncmp_ne 41 46 dX7_readSum_38 rfl (by decide) (by omega) (by omega) (fun h38 => ?_) (fun h38 => ?_)
          · exfalso; omega
          · refine ez_bipush 43 dX7_readSum_41 rfl (-25) (by decide) ?_
            refine ez_goto 48 dX7_readSum_43 (by decide) ?_
            refine ez_istore_n 49 [(3, eI (-25)), (2, eI (nI i)), (0, eR 7 0), (1, eI (nI o))] dX7_readSum_48 rfl (by decide) rfl ?_
            refine ez_aload_n 50 dX7_readSum_49 rfl rfl ?_
            refine ez_callV 53 [] [] dX7_readSum_50 rfl rfl ok_X7_advance in_X7_advance (by decide) (by show 0 < 1; omega) ln_X7_107 (by omega) (Nat.le_of_ble_eq_true rfl) (c_adv G (d - 1) M (by omega) hH hG (by omega)) (fun r50 M50 q50 => ?_)
            obtain ⟨rfl, f50, g50⟩ := q50
            have u50 := (hH.2.1 _ g50.2.1).1
            have w50 := g50.2.1
            show Ez G mX7_readSum d 53 [(3, eI (-25)), (2, eI (nI i)), (0, eR 7 0), (1, eI (nI o))] [] M50 _
            refine ez_aload_n 54 dX7_readSum_53 rfl rfl ?_
            refine ez_iload_n 55 dX7_readSum_54 rfl rfl ?_
            refine ez_callV 58 [eI (nI o)] [] dX7_readSum_55 rfl rfl ok_X7_readTerm in_X7_readTerm (by decide) (by show 0 < 1; omega) ln_X7_125 (by omega) (Nat.le_of_ble_eq_true rfl) (iA o (k + 1) (L ++ c) _ _ M50 (d - 1) (by omega) (by omega) (by first | omega | (simp only [List.length_append, List.length_cons, List.length_nil] at *; omega)) g50 h1) (fun r55 M55 q55 => ?_)
            obtain ⟨rfl, f55, g55⟩ := q55
            have g55 : TG Tk Pl N k1 ((L ++ c) ++ c1) M55 := g55
            have u55 := (hH.2.1 _ g55.2.1).1
            have w55 := g55.2.1
            show Ez G mX7_readSum d 58 [(3, eI (-25)), (2, eI (nI i)), (0, eR 7 0), (1, eI (nI o))] [] M55 _
            refine ez_aload_n 59 dX7_readSum_58 rfl rfl ?_
            refine ez_getf 62 (eR 3 6) dX7_readSum_59 rfl fl_X7_25 (by show 0 < 1; omega) rfl ?_
            refine ez_iload_n 63 dX7_readSum_62 rfl rfl ?_
            refine ez_callV 66 [eI (-25)] [] dX7_readSum_63 rfl rfl ok_X3_add in_X3_add (by decide) (by show 6 < 7; omega) ln_X7_113 (by omega) (Nat.le_of_ble_eq_true rfl) (c_add G (d - 1) (-25) M55 g55 (by first | omega | (simp only [List.length_append, List.length_cons, List.length_nil] at *; omega))) (fun r63 M63 q63 => ?_)
            obtain ⟨rfl, f63, g63⟩ := q63
            have u63 := (hH.2.1 _ g63.2.1).1
            have w63 := g63.2.1
            show Ez G mX7_readSum d 66 [(3, eI (-25)), (2, eI (nI i)), (0, eR 7 0), (1, eI (nI o))] [] M63 _
            refine ez_iinc 69 (nI (i + 1)) [(2, eI (nI (i + 1))), (3, eI (-25)), (0, eR 7 0), (1, eI (nI o))] dX7_readSum_66 rfl rfl (nI_add i 1) (by decide) rfl ?_
            refine ez_goto 7 dX7_readSum_69 (by decide) ?_
            refine ez_drop [(2, eI (nI (i + 1))), (0, eR 7 0), (1, eI (nI o))] (by simp) ?_
            exact iT o k1 (i + 1) L (c ++ c1 ++ [-25]) _ x M0 _ d ho (by omega) (by omega) (by first | omega | (simp only [List.length_append, List.length_cons, List.length_nil] at *; omega)) (((hF.tr f50).tr f55).tr f63) (by simpa only [List.append_assoc] using g63) h2
        · exfalso; omega
    · have hlt := hH.2.2 k hG.2.1 (by omega)
      refine ez_iload_n 8 dX7_readSum_7 rfl rfl ?_
      refine ez_sipush 11 dX7_readSum_8 rfl (nI 160) (by decide) ?_
      refine ez_ncmp_ge 14 72 dX7_readSum_11 rfl (by decide) (by omega) (by omega) (fun h11 => ?_) (fun h11 => ?_)
      · exfalso; omega
      · refine ez_aload_n 15 dX7_readSum_14 rfl rfl ?_
        refine ez_getf 18 (eI (M.1 7 0 6)) dX7_readSum_15 rfl fl_X7_39 (by show 0 < 1; omega) rfl ?_
        refine ez_top (nI (Tk k)) hG.2.2.2.1 ?_
        refine ez_bipush 20 dX7_readSum_18 rfl (nI 43) (by decide) ?_
        refine ez_ncmp_eq 23 32 dX7_readSum_20 rfl (by decide) (by omega) (by omega) (fun h20 => ?_) (fun h20 => ?_)
        · refine ez_aload_n 33 dX7_readSum_32 rfl rfl ?_
          refine ez_getf 36 (eI (M.1 7 0 6)) dX7_readSum_33 rfl fl_X7_39 (by show 0 < 1; omega) rfl ?_
          refine ez_top (nI (Tk k)) hG.2.2.2.1 ?_
          refine ez_bipush 38 dX7_readSum_36 rfl (nI 43) (by decide) ?_
          refine ez_ncmp_ne 41 46 dX7_readSum_38 rfl (by decide) (by omega) (by omega) (fun h38 => ?_) (fun h38 => ?_)
          · exfalso; omega
          · refine ez_bipush 43 dX7_readSum_41 rfl (-25) (by decide) ?_
            refine ez_goto 48 dX7_readSum_43 (by decide) ?_
            refine ez_istore_n 49 [(3, eI (-25)), (2, eI (nI i)), (0, eR 7 0), (1, eI (nI o))] dX7_readSum_48 rfl (by decide) rfl ?_
            refine ez_aload_n 50 dX7_readSum_49 rfl rfl ?_
            refine ez_callV 53 [] [] dX7_readSum_50 rfl rfl ok_X7_advance in_X7_advance (by decide) (by show 0 < 1; omega) ln_X7_107 (by omega) (Nat.le_of_ble_eq_true rfl) (c_adv G (d - 1) M (by omega) hH hG (by omega)) (fun r50 M50 q50 => ?_)
            obtain ⟨rfl, f50, g50⟩ := q50
            have u50 := (hH.2.1 _ g50.2.1).1
            have w50 := g50.2.1
            show Ez G mX7_readSum d 53 [(3, eI (-25)), (2, eI (nI i)), (0, eR 7 0), (1, eI (nI o))] [] M50 _
            refine ez_aload_n 54 dX7_readSum_53 rfl rfl ?_
            refine ez_iload_n 55 dX7_readSum_54 rfl rfl ?_
            refine ez_callV 58 [eI (nI o)] [] dX7_readSum_55 rfl rfl ok_X7_readTerm in_X7_readTerm (by decide) (by show 0 < 1; omega) ln_X7_125 (by omega) (Nat.le_of_ble_eq_true rfl) (iA o (k + 1) (L ++ c) _ _ M50 (d - 1) (by omega) (by omega) (by first | omega | (simp only [List.length_append, List.length_cons, List.length_nil] at *; omega)) g50 h1) (fun r55 M55 q55 => ?_)
            obtain ⟨rfl, f55, g55⟩ := q55
            show Ez G mX7_readSum d 58 [(3, eI (-25)), (2, eI (nI i)), (0, eR 7 0), (1, eI (nI o))] [] M55 _
            refine ez_aload_n 59 dX7_readSum_58 rfl rfl ?_
            refine ez_getf 62 (eR 3 6) dX7_readSum_59 rfl fl_X7_25 (by show 0 < 1; omega) rfl ?_
            refine ez_iload_n 63 dX7_readSum_62 rfl rfl ?_
            refine ez_callV 66 [eI (-25)] [] dX7_readSum_63 rfl rfl ok_X3_add in_X3_add (by decide) (by show 6 < 7; omega) ln_X7_113 (by omega) (Nat.le_of_ble_eq_true rfl) (c_addb G (d - 1) (Pl e) (-25) M55 g55) (fun r63 M63 q63 => ?_)
            obtain ⟨rfl, f63, g63⟩ := q63
            show Ez G mX7_readSum d 66 [(3, eI (-25)), (2, eI (nI i)), (0, eR 7 0), (1, eI (nI o))] [] M63 _
            refine ez_iinc 69 (nI (i + 1)) [(2, eI (nI (i + 1))), (3, eI (-25)), (0, eR 7 0), (1, eI (nI o))] dX7_readSum_66 rfl rfl (nI_add i 1) (by decide) rfl ?_
            refine ez_goto 7 dX7_readSum_69 (by decide) ?_
            refine ez_drop [(2, eI (nI (i + 1))), (0, eR 7 0), (1, eI (nI o))] (by simp) ?_
            exact lb_readSum G d (i + 1) o (Pl e) M0 _ (by omega) (((hF.tr f50).tr f55).tr f63) g63
        · exfalso; omega
  rw [if_neg t43] at h
  by_cases t45 : Tk k = 45
  · rw [if_pos t45] at h
    rcases ep_bd_some h with ⟨k1, c1, v1, h1, h2⟩ | ⟨e, h1, rfl⟩
    · have hlt := hH.2.2 k hG.2.1 (by omega)
      obtain ⟨p1, p2, p3⟩ := ep_pz_pk hH.2.2 n _ _ _ _ _ _ (show k + 1 ≤ N from hlt) (Or.inr (Or.inr (Or.inr (Or.inr rfl)))) h1
      simp only [List.length_nil] at p3
      refine ez_iload_n 8 dX7_readSum_7 rfl rfl ?_
      refine ez_sipush 11 dX7_readSum_8 rfl (nI 160) (by decide) ?_
      refine ez_ncmp_ge 14 72 dX7_readSum_11 rfl (by decide) (by omega) (by omega) (fun h11 => ?_) (fun h11 => ?_)
      · exfalso; omega
      · refine ez_aload_n 15 dX7_readSum_14 rfl rfl ?_
        refine ez_getf 18 (eI (M.1 7 0 6)) dX7_readSum_15 rfl fl_X7_39 (by show 0 < 1; omega) rfl ?_
        refine ez_top (nI (Tk k)) hG.2.2.2.1 ?_
        refine ez_bipush 20 dX7_readSum_18 rfl (nI 43) (by decide) ?_
        refine ez_ncmp_eq 23 32 dX7_readSum_20 rfl (by decide) (by omega) (by omega) (fun h20 => ?_) (fun h20 => ?_)
        · exfalso; omega
        · refine ez_aload_n 24 dX7_readSum_23 rfl rfl ?_
          refine ez_getf 27 (eI (M.1 7 0 6)) dX7_readSum_24 rfl fl_X7_39 (by show 0 < 1; omega) rfl ?_
          refine ez_top (nI (Tk k)) hG.2.2.2.1 ?_
          refine ez_bipush 29 dX7_readSum_27 rfl (nI 45) (by decide) ?_
          refine ez_ncmp_ne 32 72 dX7_readSum_29 rfl (by decide) (by omega) (by omega) (fun h29 => ?_) (fun h29 => ?_)
          · exfalso; omega
          · refine ez_aload_n 33 dX7_readSum_32 rfl rfl ?_
            refine ez_getf 36 (eI (M.1 7 0 6)) dX7_readSum_33 rfl fl_X7_39 (by show 0 < 1; omega) rfl ?_
            refine ez_top (nI (Tk k)) hG.2.2.2.1 ?_
            refine ez_bipush 38 dX7_readSum_36 rfl (nI 43) (by decide) ?_
            refine ez_ncmp_ne 41 46 dX7_readSum_38 rfl (by decide) (by omega) (by omega) (fun h38 => ?_) (fun h38 => ?_)
            · refine ez_bipush 48 dX7_readSum_46 rfl (-26) (by decide) ?_
              refine ez_istore_n 49 [(3, eI (-26)), (2, eI (nI i)), (0, eR 7 0), (1, eI (nI o))] dX7_readSum_48 rfl (by decide) rfl ?_
              refine ez_aload_n 50 dX7_readSum_49 rfl rfl ?_
              refine ez_callV 53 [] [] dX7_readSum_50 rfl rfl ok_X7_advance in_X7_advance (by decide) (by show 0 < 1; omega) ln_X7_107 (by omega) (Nat.le_of_ble_eq_true rfl) (c_adv G (d - 1) M (by omega) hH hG (by omega)) (fun r50 M50 q50 => ?_)
              obtain ⟨rfl, f50, g50⟩ := q50
              have u50 := (hH.2.1 _ g50.2.1).1
              have w50 := g50.2.1
              show Ez G mX7_readSum d 53 [(3, eI (-26)), (2, eI (nI i)), (0, eR 7 0), (1, eI (nI o))] [] M50 _
              refine ez_aload_n 54 dX7_readSum_53 rfl rfl ?_
              refine ez_iload_n 55 dX7_readSum_54 rfl rfl ?_
              refine ez_callV 58 [eI (nI o)] [] dX7_readSum_55 rfl rfl ok_X7_readTerm in_X7_readTerm (by decide) (by show 0 < 1; omega) ln_X7_125 (by omega) (Nat.le_of_ble_eq_true rfl) (iA o (k + 1) (L ++ c) _ _ M50 (d - 1) (by omega) (by omega) (by first | omega | (simp only [List.length_append, List.length_cons, List.length_nil] at *; omega)) g50 h1) (fun r55 M55 q55 => ?_)
              obtain ⟨rfl, f55, g55⟩ := q55
              have g55 : TG Tk Pl N k1 ((L ++ c) ++ c1) M55 := g55
              have u55 := (hH.2.1 _ g55.2.1).1
              have w55 := g55.2.1
              show Ez G mX7_readSum d 58 [(3, eI (-26)), (2, eI (nI i)), (0, eR 7 0), (1, eI (nI o))] [] M55 _
              refine ez_aload_n 59 dX7_readSum_58 rfl rfl ?_
              refine ez_getf 62 (eR 3 6) dX7_readSum_59 rfl fl_X7_25 (by show 0 < 1; omega) rfl ?_
              refine ez_iload_n 63 dX7_readSum_62 rfl rfl ?_
              refine ez_callV 66 [eI (-26)] [] dX7_readSum_63 rfl rfl ok_X3_add in_X3_add (by decide) (by show 6 < 7; omega) ln_X7_113 (by omega) (Nat.le_of_ble_eq_true rfl) (c_add G (d - 1) (-26) M55 g55 (by first | omega | (simp only [List.length_append, List.length_cons, List.length_nil] at *; omega))) (fun r63 M63 q63 => ?_)
              obtain ⟨rfl, f63, g63⟩ := q63
              have u63 := (hH.2.1 _ g63.2.1).1
              have w63 := g63.2.1
              show Ez G mX7_readSum d 66 [(3, eI (-26)), (2, eI (nI i)), (0, eR 7 0), (1, eI (nI o))] [] M63 _
              refine ez_iinc 69 (nI (i + 1)) [(2, eI (nI (i + 1))), (3, eI (-26)), (0, eR 7 0), (1, eI (nI o))] dX7_readSum_66 rfl rfl (nI_add i 1) (by decide) rfl ?_
              refine ez_goto 7 dX7_readSum_69 (by decide) ?_
              refine ez_drop [(2, eI (nI (i + 1))), (0, eR 7 0), (1, eI (nI o))] (by simp) ?_
              exact iT o k1 (i + 1) L (c ++ c1 ++ [-26]) _ x M0 _ d ho (by omega) (by omega) (by first | omega | (simp only [List.length_append, List.length_cons, List.length_nil] at *; omega)) (((hF.tr f50).tr f55).tr f63) (by simpa only [List.append_assoc] using g63) h2
            · exfalso; omega
    · have hlt := hH.2.2 k hG.2.1 (by omega)
      refine ez_iload_n 8 dX7_readSum_7 rfl rfl ?_
      refine ez_sipush 11 dX7_readSum_8 rfl (nI 160) (by decide) ?_
      refine ez_ncmp_ge 14 72 dX7_readSum_11 rfl (by decide) (by omega) (by omega) (fun h11 => ?_) (fun h11 => ?_)
      · exfalso; omega
      · refine ez_aload_n 15 dX7_readSum_14 rfl rfl ?_
        refine ez_getf 18 (eI (M.1 7 0 6)) dX7_readSum_15 rfl fl_X7_39 (by show 0 < 1; omega) rfl ?_
        refine ez_top (nI (Tk k)) hG.2.2.2.1 ?_
        refine ez_bipush 20 dX7_readSum_18 rfl (nI 43) (by decide) ?_
        refine ez_ncmp_eq 23 32 dX7_readSum_20 rfl (by decide) (by omega) (by omega) (fun h20 => ?_) (fun h20 => ?_)
        · exfalso; omega
        · refine ez_aload_n 24 dX7_readSum_23 rfl rfl ?_
          refine ez_getf 27 (eI (M.1 7 0 6)) dX7_readSum_24 rfl fl_X7_39 (by show 0 < 1; omega) rfl ?_
          refine ez_top (nI (Tk k)) hG.2.2.2.1 ?_
          refine ez_bipush 29 dX7_readSum_27 rfl (nI 45) (by decide) ?_
          refine ez_ncmp_ne 32 72 dX7_readSum_29 rfl (by decide) (by omega) (by omega) (fun h29 => ?_) (fun h29 => ?_)
          · exfalso; omega
          · refine ez_aload_n 33 dX7_readSum_32 rfl rfl ?_
            refine ez_getf 36 (eI (M.1 7 0 6)) dX7_readSum_33 rfl fl_X7_39 (by show 0 < 1; omega) rfl ?_
            refine ez_top (nI (Tk k)) hG.2.2.2.1 ?_
            refine ez_bipush 38 dX7_readSum_36 rfl (nI 43) (by decide) ?_
            refine ez_ncmp_ne 41 46 dX7_readSum_38 rfl (by decide) (by omega) (by omega) (fun h38 => ?_) (fun h38 => ?_)
            · refine ez_bipush 48 dX7_readSum_46 rfl (-26) (by decide) ?_
              refine ez_istore_n 49 [(3, eI (-26)), (2, eI (nI i)), (0, eR 7 0), (1, eI (nI o))] dX7_readSum_48 rfl (by decide) rfl ?_
              refine ez_aload_n 50 dX7_readSum_49 rfl rfl ?_
              refine ez_callV 53 [] [] dX7_readSum_50 rfl rfl ok_X7_advance in_X7_advance (by decide) (by show 0 < 1; omega) ln_X7_107 (by omega) (Nat.le_of_ble_eq_true rfl) (c_adv G (d - 1) M (by omega) hH hG (by omega)) (fun r50 M50 q50 => ?_)
              obtain ⟨rfl, f50, g50⟩ := q50
              have u50 := (hH.2.1 _ g50.2.1).1
              have w50 := g50.2.1
              show Ez G mX7_readSum d 53 [(3, eI (-26)), (2, eI (nI i)), (0, eR 7 0), (1, eI (nI o))] [] M50 _
              refine ez_aload_n 54 dX7_readSum_53 rfl rfl ?_
              refine ez_iload_n 55 dX7_readSum_54 rfl rfl ?_
              refine ez_callV 58 [eI (nI o)] [] dX7_readSum_55 rfl rfl ok_X7_readTerm in_X7_readTerm (by decide) (by show 0 < 1; omega) ln_X7_125 (by omega) (Nat.le_of_ble_eq_true rfl) (iA o (k + 1) (L ++ c) _ _ M50 (d - 1) (by omega) (by omega) (by first | omega | (simp only [List.length_append, List.length_cons, List.length_nil] at *; omega)) g50 h1) (fun r55 M55 q55 => ?_)
              obtain ⟨rfl, f55, g55⟩ := q55
              show Ez G mX7_readSum d 58 [(3, eI (-26)), (2, eI (nI i)), (0, eR 7 0), (1, eI (nI o))] [] M55 _
              refine ez_aload_n 59 dX7_readSum_58 rfl rfl ?_
              refine ez_getf 62 (eR 3 6) dX7_readSum_59 rfl fl_X7_25 (by show 0 < 1; omega) rfl ?_
              refine ez_iload_n 63 dX7_readSum_62 rfl rfl ?_
              refine ez_callV 66 [eI (-26)] [] dX7_readSum_63 rfl rfl ok_X3_add in_X3_add (by decide) (by show 6 < 7; omega) ln_X7_113 (by omega) (Nat.le_of_ble_eq_true rfl) (c_addb G (d - 1) (Pl e) (-26) M55 g55) (fun r63 M63 q63 => ?_)
              obtain ⟨rfl, f63, g63⟩ := q63
              show Ez G mX7_readSum d 66 [(3, eI (-26)), (2, eI (nI i)), (0, eR 7 0), (1, eI (nI o))] [] M63 _
              refine ez_iinc 69 (nI (i + 1)) [(2, eI (nI (i + 1))), (3, eI (-26)), (0, eR 7 0), (1, eI (nI o))] dX7_readSum_66 rfl rfl (nI_add i 1) (by decide) rfl ?_
              refine ez_goto 7 dX7_readSum_69 (by decide) ?_
              refine ez_drop [(2, eI (nI (i + 1))), (0, eR 7 0), (1, eI (nI o))] (by simp) ?_
              exact lb_readSum G d (i + 1) o (Pl e) M0 _ (by omega) (((hF.tr f50).tr f55).tr f63) g63
            · exfalso; omega
  rw [if_neg t45] at h
  cases h
  refine ez_iload_n 8 dX7_readSum_7 rfl rfl ?_
  refine ez_sipush 11 dX7_readSum_8 rfl (nI 160) (by decide) ?_
  refine ez_ncmp_ge 14 72 dX7_readSum_11 rfl (by decide) (by omega) (by omega) (fun h11 => ?_) (fun h11 => ?_)
  · refine ez_vret dX7_readSum_72 rfl ?_
    exact ⟨rfl, hF, hG⟩
  · refine ez_aload_n 15 dX7_readSum_14 rfl rfl ?_
    refine ez_getf 18 (eI (M.1 7 0 6)) dX7_readSum_15 rfl fl_X7_39 (by show 0 < 1; omega) rfl ?_
    refine ez_top (nI (Tk k)) hG.2.2.2.1 ?_
    refine ez_bipush 20 dX7_readSum_18 rfl (nI 43) (by decide) ?_
    refine ez_ncmp_eq 23 32 dX7_readSum_20 rfl (by decide) (by omega) (by omega) (fun h20 => ?_) (fun h20 => ?_)
    · exfalso; omega
    · refine ez_aload_n 24 dX7_readSum_23 rfl rfl ?_
      refine ez_getf 27 (eI (M.1 7 0 6)) dX7_readSum_24 rfl fl_X7_39 (by show 0 < 1; omega) rfl ?_
      refine ez_top (nI (Tk k)) hG.2.2.2.1 ?_
      refine ez_bipush 29 dX7_readSum_27 rfl (nI 45) (by decide) ?_
      refine ez_ncmp_ne 32 72 dX7_readSum_29 rfl (by decide) (by omega) (by omega) (fun h29 => ?_) (fun h29 => ?_)
      · refine ez_vret dX7_readSum_72 rfl ?_
        exact ⟨rfl, hF, hG⟩
      · exfalso; omega
set_option maxRecDepth 20000 in
theorem st_readTermT (G : EzG) {Tk Pl : Nat → Nat} {N n : Nat} (hH : HT Tk Pl N) (iA : PzM G Tk Pl N mX7_readOne 2 9 n) (iT : PzT G Tk Pl N mX7_readTerm 3 8 n) : PzT G Tk Pl N mX7_readTerm 3 8 (n + 1) := by
  intro o k i L c v x M0 M d ho hd hi hl hF hG h
  have hn := hH.1
  rw [ep_pz_8] at h
  have u0 := (hH.2.1 _ hG.2.1).1
  have w0 := hG.2.1
  by_cases t42 : Tk k = 42
  · rw [if_pos t42] at h
    rcases ep_bd_some h with ⟨k1, c1, v1, h1, h2⟩ | ⟨e, h1, rfl⟩
    · have hlt := hH.2.2 k hG.2.1 (by omega)
      obtain ⟨p1, p2, p3⟩ := ep_pz_pk hH.2.2 n _ _ _ _ _ _ (show k + 1 ≤ N from hlt) (Or.inr (Or.inr (Or.inr (Or.inr rfl)))) h1
      simp only [List.length_nil] at p3
      refine ez_iload_n 8 dX7_readTerm_7 rfl rfl ?_
      refine ez_sipush 11 dX7_readTerm_8 rfl (nI 160) (by decide) ?_
      refine ez_ncmp_ge 14 47 dX7_readTerm_11 rfl (by decide) (by omega) (by omega) (fun h11 => ?_) (fun h11 => ?_)
      · exfalso; omega
      · refine ez_aload_n 15 dX7_readTerm_14 rfl rfl ?_
        refine ez_getf 18 (eI (M.1 7 0 6)) dX7_readTerm_15 rfl fl_X7_39 (by show 0 < 1; omega) rfl ?_
        refine ez_top (nI (Tk k)) hG.2.2.2.1 ?_
        refine ez_bipush 20 dX7_readTerm_18 rfl (nI 42) (by decide) ?_
        refine ez_ncmp_ne 23 47 dX7_readTerm_20 rfl (by decide) (by omega) (by omega) (fun h20 => ?_) (fun h20 => ?_)
        · exfalso; omega
        · refine ez_aload_n 24 dX7_readTerm_23 rfl rfl ?_
          refine ez_callV 27 [] [] dX7_readTerm_24 rfl rfl ok_X7_advance in_X7_advance (by decide) (by show 0 < 1; omega) ln_X7_107 (by omega) (Nat.le_of_ble_eq_true rfl) (c_adv G (d - 1) M (by omega) hH hG (by omega)) (fun r24 M24 q24 => ?_)
          obtain ⟨rfl, f24, g24⟩ := q24
          have u24 := (hH.2.1 _ g24.2.1).1
          have w24 := g24.2.1
          show Ez G mX7_readTerm d 27 [(2, eI (nI i)), (0, eR 7 0), (1, eI (nI o))] [] M24 _
          refine ez_aload_n 28 dX7_readTerm_27 rfl rfl ?_
          refine ez_iload_n 29 dX7_readTerm_28 rfl rfl ?_
          refine ez_callV 32 [eI (nI o)] [] dX7_readTerm_29 rfl rfl ok_X7_readOne in_X7_readOne (by decide) (by show 0 < 1; omega) ln_X7_128 (by omega) (Nat.le_of_ble_eq_true rfl) (iA o (k + 1) (L ++ c) _ _ M24 (d - 1) (by omega) (by omega) (by first | omega | (simp only [List.length_append, List.length_cons, List.length_nil] at *; omega)) g24 h1) (fun r29 M29 q29 => ?_)
          obtain ⟨rfl, f29, g29⟩ := q29
          have g29 : TG Tk Pl N k1 ((L ++ c) ++ c1) M29 := g29
          have u29 := (hH.2.1 _ g29.2.1).1
          have w29 := g29.2.1
          show Ez G mX7_readTerm d 32 [(2, eI (nI i)), (0, eR 7 0), (1, eI (nI o))] [] M29 _
          refine ez_aload_n 33 dX7_readTerm_32 rfl rfl ?_
          refine ez_getf 36 (eR 3 6) dX7_readTerm_33 rfl fl_X7_25 (by show 0 < 1; omega) rfl ?_
          refine ez_bipush 38 dX7_readTerm_36 rfl (-27) (by decide) ?_
          refine ez_callV 41 [eI (-27)] [] dX7_readTerm_38 rfl rfl ok_X3_add in_X3_add (by decide) (by show 6 < 7; omega) ln_X7_113 (by omega) (Nat.le_of_ble_eq_true rfl) (c_add G (d - 1) (-27) M29 g29 (by first | omega | (simp only [List.length_append, List.length_cons, List.length_nil] at *; omega))) (fun r38 M38 q38 => ?_)
          obtain ⟨rfl, f38, g38⟩ := q38
          have u38 := (hH.2.1 _ g38.2.1).1
          have w38 := g38.2.1
          show Ez G mX7_readTerm d 41 [(2, eI (nI i)), (0, eR 7 0), (1, eI (nI o))] [] M38 _
          refine ez_iinc 44 (nI (i + 1)) [(2, eI (nI (i + 1))), (0, eR 7 0), (1, eI (nI o))] dX7_readTerm_41 rfl rfl (nI_add i 1) (by decide) rfl ?_
          refine ez_goto 7 dX7_readTerm_44 (by decide) ?_
          refine ez_drop [(2, eI (nI (i + 1))), (0, eR 7 0), (1, eI (nI o))] (by simp) ?_
          exact iT o k1 (i + 1) L (c ++ c1 ++ [-27]) _ x M0 _ d ho (by omega) (by omega) (by first | omega | (simp only [List.length_append, List.length_cons, List.length_nil] at *; omega)) (((hF.tr f24).tr f29).tr f38) (by simpa only [List.append_assoc] using g38) h2
    · have hlt := hH.2.2 k hG.2.1 (by omega)
      refine ez_iload_n 8 dX7_readTerm_7 rfl rfl ?_
      refine ez_sipush 11 dX7_readTerm_8 rfl (nI 160) (by decide) ?_
      refine ez_ncmp_ge 14 47 dX7_readTerm_11 rfl (by decide) (by omega) (by omega) (fun h11 => ?_) (fun h11 => ?_)
      · exfalso; omega
      · refine ez_aload_n 15 dX7_readTerm_14 rfl rfl ?_
        refine ez_getf 18 (eI (M.1 7 0 6)) dX7_readTerm_15 rfl fl_X7_39 (by show 0 < 1; omega) rfl ?_
        refine ez_top (nI (Tk k)) hG.2.2.2.1 ?_
        refine ez_bipush 20 dX7_readTerm_18 rfl (nI 42) (by decide) ?_
        refine ez_ncmp_ne 23 47 dX7_readTerm_20 rfl (by decide) (by omega) (by omega) (fun h20 => ?_) (fun h20 => ?_)
        · exfalso; omega
        · refine ez_aload_n 24 dX7_readTerm_23 rfl rfl ?_
          refine ez_callV 27 [] [] dX7_readTerm_24 rfl rfl ok_X7_advance in_X7_advance (by decide) (by show 0 < 1; omega) ln_X7_107 (by omega) (Nat.le_of_ble_eq_true rfl) (c_adv G (d - 1) M (by omega) hH hG (by omega)) (fun r24 M24 q24 => ?_)
          obtain ⟨rfl, f24, g24⟩ := q24
          have u24 := (hH.2.1 _ g24.2.1).1
          have w24 := g24.2.1
          show Ez G mX7_readTerm d 27 [(2, eI (nI i)), (0, eR 7 0), (1, eI (nI o))] [] M24 _
          refine ez_aload_n 28 dX7_readTerm_27 rfl rfl ?_
          refine ez_iload_n 29 dX7_readTerm_28 rfl rfl ?_
          refine ez_callV 32 [eI (nI o)] [] dX7_readTerm_29 rfl rfl ok_X7_readOne in_X7_readOne (by decide) (by show 0 < 1; omega) ln_X7_128 (by omega) (Nat.le_of_ble_eq_true rfl) (iA o (k + 1) (L ++ c) _ _ M24 (d - 1) (by omega) (by omega) (by first | omega | (simp only [List.length_append, List.length_cons, List.length_nil] at *; omega)) g24 h1) (fun r29 M29 q29 => ?_)
          obtain ⟨rfl, f29, g29⟩ := q29
          show Ez G mX7_readTerm d 32 [(2, eI (nI i)), (0, eR 7 0), (1, eI (nI o))] [] M29 _
          refine ez_aload_n 33 dX7_readTerm_32 rfl rfl ?_
          refine ez_getf 36 (eR 3 6) dX7_readTerm_33 rfl fl_X7_25 (by show 0 < 1; omega) rfl ?_
          refine ez_bipush 38 dX7_readTerm_36 rfl (-27) (by decide) ?_
          refine ez_callV 41 [eI (-27)] [] dX7_readTerm_38 rfl rfl ok_X3_add in_X3_add (by decide) (by show 6 < 7; omega) ln_X7_113 (by omega) (Nat.le_of_ble_eq_true rfl) (c_addb G (d - 1) (Pl e) (-27) M29 g29) (fun r38 M38 q38 => ?_)
          obtain ⟨rfl, f38, g38⟩ := q38
          show Ez G mX7_readTerm d 41 [(2, eI (nI i)), (0, eR 7 0), (1, eI (nI o))] [] M38 _
          refine ez_iinc 44 (nI (i + 1)) [(2, eI (nI (i + 1))), (0, eR 7 0), (1, eI (nI o))] dX7_readTerm_41 rfl rfl (nI_add i 1) (by decide) rfl ?_
          refine ez_goto 7 dX7_readTerm_44 (by decide) ?_
          refine ez_drop [(2, eI (nI (i + 1))), (0, eR 7 0), (1, eI (nI o))] (by simp) ?_
          exact lb_readTerm G d (i + 1) o (Pl e) M0 _ (by omega) (((hF.tr f24).tr f29).tr f38) g38
  rw [if_neg t42] at h
  cases h
  refine ez_iload_n 8 dX7_readTerm_7 rfl rfl ?_
  refine ez_sipush 11 dX7_readTerm_8 rfl (nI 160) (by decide) ?_
  refine ez_ncmp_ge 14 47 dX7_readTerm_11 rfl (by decide) (by omega) (by omega) (fun h11 => ?_) (fun h11 => ?_)
  · refine ez_vret dX7_readTerm_47 rfl ?_
    exact ⟨rfl, hF, hG⟩
  · refine ez_aload_n 15 dX7_readTerm_14 rfl rfl ?_
    refine ez_getf 18 (eI (M.1 7 0 6)) dX7_readTerm_15 rfl fl_X7_39 (by show 0 < 1; omega) rfl ?_
    refine ez_top (nI (Tk k)) hG.2.2.2.1 ?_
    refine ez_bipush 20 dX7_readTerm_18 rfl (nI 42) (by decide) ?_
    refine ez_ncmp_ne 23 47 dX7_readTerm_20 rfl (by decide) (by omega) (by omega) (fun h20 => ?_) (fun h20 => ?_)
    · refine ez_vret dX7_readTerm_47 rfl ?_
      exact ⟨rfl, hF, hG⟩
    · exfalso; omega
set_option maxRecDepth 20000 in
theorem sp_readNot (G : EzG) {Tk Pl : Nat → Nat} {N n : Nat} (hH : HT Tk Pl N) (iN : PzM G Tk Pl N mX7_readNot 5 4 n) (iS : PzM G Tk Pl N mX7_readSum 4 5 n) : PzM G Tk Pl N mX7_readNot 5 4 (n + 1) := by
  intro o k L v x M d ho hd hl hG h
  have hn := hH.1
  rw [ep_pz_4] at h
  have u0 := (hH.2.1 _ hG.2.1).1
  have w0 := hG.2.1
  refine Ezc.of (by decide +kernel) (Nat.le_of_ble_eq_true rfl) ?_
  show Ez G mX7_readNot d 0 [(0, eR 7 0), (1, eI (nI o))] [] M _
  by_cases t21 : Tk k = 21
  · rw [if_pos t21] at h
    have hlt := hH.2.2 k hG.2.1 (by omega)
    by_cases o5 : 5 ≤ o
    · rw [if_pos o5] at h
      cases h
      refine ez_aload_n 1 dX7_readNot_0 rfl rfl ?_
      refine ez_getf 4 (eI (M.1 7 0 6)) dX7_readNot_1 rfl fl_X7_39 (by show 0 < 1; omega) rfl ?_
      refine ez_top (nI (Tk k)) hG.2.2.2.1 ?_
      refine ez_bipush 6 dX7_readNot_4 rfl (nI 21) (by decide) ?_
      refine ez_ncmp_ne 9 34 dX7_readNot_6 rfl (by decide) (by omega) (by omega) (fun h6 => ?_) (fun h6 => ?_)
      · exact absurd t21 h6
      · refine ez_aload_n 10 dX7_readNot_9 rfl rfl ?_
        refine ez_iload_n 11 dX7_readNot_10 rfl rfl ?_
        refine ez_callV 14 [eI (nI o)] [] dX7_readNot_11 rfl rfl ok_X7_mayOpen in_X7_mayOpen (by decide) (by show 0 < 1; omega) ln_X7_119 (by omega) (Nat.le_of_ble_eq_true rfl) (c_opn G (d - 1) o M (by omega) hH hG (by omega) (by omega)) (fun r11 M11 q11 => ?_)
        obtain ⟨rfl, f11, g11⟩ := q11
        show Ez G mX7_readNot d 14 [(0, eR 7 0), (1, eI (nI o))] [eI (nI 0)] M11 _
        refine ez_nif_eq 17 33 dX7_readNot_14 rfl (by decide) (by omega) (fun h14 => ?_) (fun h14 => ?_)
        · refine ez_vret dX7_readNot_33 rfl ?_
          exact ⟨rfl, (TF.rf.tr f11), g11⟩
        · exact absurd h14 (by decide)
    · rw [if_neg o5] at h
      rcases ep_bd_some h with ⟨k1, c1, v1, h1, h2⟩ | ⟨e, h1, rfl⟩
      · obtain ⟨p1, p2, p3⟩ := ep_pz_pk hH.2.2 n _ _ _ _ _ _ (show k + 1 ≤ N from hlt) (Or.inr (Or.inr (Or.inr (Or.inr rfl)))) h1
        simp only [List.length_nil] at p3
        cases h2
        refine ez_aload_n 1 dX7_readNot_0 rfl rfl ?_
        refine ez_getf 4 (eI (M.1 7 0 6)) dX7_readNot_1 rfl fl_X7_39 (by show 0 < 1; omega) rfl ?_
        refine ez_top (nI (Tk k)) hG.2.2.2.1 ?_
        refine ez_bipush 6 dX7_readNot_4 rfl (nI 21) (by decide) ?_
        refine ez_ncmp_ne 9 34 dX7_readNot_6 rfl (by decide) (by omega) (by omega) (fun h6 => ?_) (fun h6 => ?_)
        · exact absurd t21 h6
        · refine ez_aload_n 10 dX7_readNot_9 rfl rfl ?_
          refine ez_iload_n 11 dX7_readNot_10 rfl rfl ?_
          refine ez_callV 14 [eI (nI o)] [] dX7_readNot_11 rfl rfl ok_X7_mayOpen in_X7_mayOpen (by decide) (by show 0 < 1; omega) ln_X7_119 (by omega) (Nat.le_of_ble_eq_true rfl) (c_open G (d - 1) o M (by omega) hH hG (by omega) (by omega)) (fun r11 M11 q11 => ?_)
          obtain ⟨rfl, f11, g11⟩ := q11
          have u11 := (hH.2.1 _ g11.2.1).1
          have w11 := g11.2.1
          show Ez G mX7_readNot d 14 [(0, eR 7 0), (1, eI (nI o))] [eI (nI 1)] M11 _
          refine ez_nif_eq 17 33 dX7_readNot_14 rfl (by decide) (by omega) (fun h14 => ?_) (fun h14 => ?_)
          · exact absurd h14 (by decide)
          · refine ez_aload_n 18 dX7_readNot_17 rfl rfl ?_
            refine ez_iload_n 19 dX7_readNot_18 rfl rfl ?_
            refine ez_iconst 20 dX7_readNot_19 rfl (nI 1) (by decide) ?_
            refine ez_iadd 21 dX7_readNot_20 rfl ?_
            refine ez_top (nI (o + 1)) (nI_add _ _) ?_
            refine ez_callV 24 [eI (nI (o + 1))] [] dX7_readNot_21 rfl rfl ok_X7_readNot in_X7_readNot (by decide) (by show 0 < 1; omega) ln_X7_116 (by omega) (Nat.le_of_ble_eq_true rfl) (iN (o + 1) (k + 1) L _ _ M11 (d - 1) (by omega) (by omega) (by first | omega | (simp only [List.length_append, List.length_cons, List.length_nil] at *; omega)) g11 h1) (fun r21 M21 q21 => ?_)
            obtain ⟨rfl, f21, g21⟩ := q21
            have g21 : TG Tk Pl N k1 (L ++ c1) M21 := g21
            have u21 := (hH.2.1 _ g21.2.1).1
            have w21 := g21.2.1
            show Ez G mX7_readNot d 24 [(0, eR 7 0), (1, eI (nI o))] [] M21 _
            refine ez_aload_n 25 dX7_readNot_24 rfl rfl ?_
            refine ez_getf 28 (eR 3 6) dX7_readNot_25 rfl fl_X7_25 (by show 0 < 1; omega) rfl ?_
            refine ez_bipush 30 dX7_readNot_28 rfl (-22) (by decide) ?_
            refine ez_callV 33 [eI (-22)] [] dX7_readNot_30 rfl rfl ok_X3_add in_X3_add (by decide) (by show 6 < 7; omega) ln_X7_113 (by omega) (Nat.le_of_ble_eq_true rfl) (c_add G (d - 1) (-22) M21 g21 (by first | omega | (simp only [List.length_append, List.length_cons, List.length_nil] at *; omega))) (fun r30 M30 q30 => ?_)
            obtain ⟨rfl, f30, g30⟩ := q30
            have u30 := (hH.2.1 _ g30.2.1).1
            have w30 := g30.2.1
            show Ez G mX7_readNot d 33 [(0, eR 7 0), (1, eI (nI o))] [] M30 _
            refine ez_vret dX7_readNot_33 rfl ?_
            refine ⟨rfl, (((TF.rf.tr f11).tr f21).tr f30), ?_⟩
            show TG Tk Pl N _ _ _
            simpa only [List.append_assoc] using g30
      · refine ez_aload_n 1 dX7_readNot_0 rfl rfl ?_
        refine ez_getf 4 (eI (M.1 7 0 6)) dX7_readNot_1 rfl fl_X7_39 (by show 0 < 1; omega) rfl ?_
        refine ez_top (nI (Tk k)) hG.2.2.2.1 ?_
        refine ez_bipush 6 dX7_readNot_4 rfl (nI 21) (by decide) ?_
        refine ez_ncmp_ne 9 34 dX7_readNot_6 rfl (by decide) (by omega) (by omega) (fun h6 => ?_) (fun h6 => ?_)
        · exact absurd t21 h6
        · refine ez_aload_n 10 dX7_readNot_9 rfl rfl ?_
          refine ez_iload_n 11 dX7_readNot_10 rfl rfl ?_
          refine ez_callV 14 [eI (nI o)] [] dX7_readNot_11 rfl rfl ok_X7_mayOpen in_X7_mayOpen (by decide) (by show 0 < 1; omega) ln_X7_119 (by omega) (Nat.le_of_ble_eq_true rfl) (c_open G (d - 1) o M (by omega) hH hG (by omega) (by omega)) (fun r11 M11 q11 => ?_)
          obtain ⟨rfl, f11, g11⟩ := q11
          have u11 := (hH.2.1 _ g11.2.1).1
          have w11 := g11.2.1
          show Ez G mX7_readNot d 14 [(0, eR 7 0), (1, eI (nI o))] [eI (nI 1)] M11 _
          refine ez_nif_eq 17 33 dX7_readNot_14 rfl (by decide) (by omega) (fun h14 => ?_) (fun h14 => ?_)
          · exact absurd h14 (by decide)
          · refine ez_aload_n 18 dX7_readNot_17 rfl rfl ?_
            refine ez_iload_n 19 dX7_readNot_18 rfl rfl ?_
            refine ez_iconst 20 dX7_readNot_19 rfl (nI 1) (by decide) ?_
            refine ez_iadd 21 dX7_readNot_20 rfl ?_
            refine ez_top (nI (o + 1)) (nI_add _ _) ?_
            refine ez_callV 24 [eI (nI (o + 1))] [] dX7_readNot_21 rfl rfl ok_X7_readNot in_X7_readNot (by decide) (by show 0 < 1; omega) ln_X7_116 (by omega) (Nat.le_of_ble_eq_true rfl) (iN (o + 1) (k + 1) L _ _ M11 (d - 1) (by omega) (by omega) (by first | omega | (simp only [List.length_append, List.length_cons, List.length_nil] at *; omega)) g11 h1) (fun r21 M21 q21 => ?_)
            obtain ⟨rfl, f21, g21⟩ := q21
            show Ez G mX7_readNot d 24 [(0, eR 7 0), (1, eI (nI o))] [] M21 _
            refine ez_aload_n 25 dX7_readNot_24 rfl rfl ?_
            refine ez_getf 28 (eR 3 6) dX7_readNot_25 rfl fl_X7_25 (by show 0 < 1; omega) rfl ?_
            refine ez_bipush 30 dX7_readNot_28 rfl (-22) (by decide) ?_
            refine ez_callV 33 [eI (-22)] [] dX7_readNot_30 rfl rfl ok_X3_add in_X3_add (by decide) (by show 6 < 7; omega) ln_X7_113 (by omega) (Nat.le_of_ble_eq_true rfl) (c_addb G (d - 1) (Pl e) (-22) M21 g21) (fun r30 M30 q30 => ?_)
            obtain ⟨rfl, f30, g30⟩ := q30
            show Ez G mX7_readNot d 33 [(0, eR 7 0), (1, eI (nI o))] [] M30 _
            refine ez_vret dX7_readNot_33 rfl ?_
            exact ⟨rfl, (((TF.rf.tr f11).tr f21).tr f30), g30⟩
  · rw [if_neg t21] at h
    rcases ep_bd_some h with ⟨k1, c1, v1, h1, h2⟩ | ⟨e, h1, rfl⟩
    · obtain ⟨p1, p2, p3⟩ := ep_pz_pk hH.2.2 n _ _ _ _ _ _ hG.2.1 (Or.inr (Or.inr (Or.inr (Or.inr rfl)))) h1
      simp only [List.length_nil] at p3
      have uk := (hH.2.1 k1 p2).1
      by_cases t60 : Tk k1 = 60
      · rw [if_pos t60] at h2
        have hl1 := hH.2.2 k1 p2 (by omega)
        rcases ep_bd_some h2 with ⟨k2, c2, v2, h3, h4⟩ | ⟨e, h3, rfl⟩
        · obtain ⟨r1, r2, r3⟩ := ep_pz_pk hH.2.2 n _ _ _ _ _ _ (show k1 + 1 ≤ N from hl1) (Or.inr (Or.inr (Or.inr (Or.inr rfl)))) h3
          simp only [List.length_nil] at r3
          cases h4
          refine ez_aload_n 1 dX7_readNot_0 rfl rfl ?_
          refine ez_getf 4 (eI (M.1 7 0 6)) dX7_readNot_1 rfl fl_X7_39 (by show 0 < 1; omega) rfl ?_
          refine ez_top (nI (Tk k)) hG.2.2.2.1 ?_
          refine ez_bipush 6 dX7_readNot_4 rfl (nI 21) (by decide) ?_
          refine ez_ncmp_ne 9 34 dX7_readNot_6 rfl (by decide) (by omega) (by omega) (fun h6 => ?_) (fun h6 => ?_)
          · refine ez_aload_n 35 dX7_readNot_34 rfl rfl ?_
            refine ez_iload_n 36 dX7_readNot_35 rfl rfl ?_
            refine ez_callV 39 [eI (nI o)] [] dX7_readNot_36 rfl rfl ok_X7_readSum in_X7_readSum (by decide) (by show 0 < 1; omega) ln_X7_122 (by omega) (Nat.le_of_ble_eq_true rfl) (iS o k L _ _ M (d - 1) (by omega) (by omega) (by first | omega | (simp only [List.length_append, List.length_cons, List.length_nil] at *; omega)) hG h1) (fun r36 M36 q36 => ?_)
            obtain ⟨rfl, f36, g36⟩ := q36
            have g36 : TG Tk Pl N k1 (L ++ c1) M36 := g36
            have u36 := (hH.2.1 _ g36.2.1).1
            have w36 := g36.2.1
            show Ez G mX7_readNot d 39 [(0, eR 7 0), (1, eI (nI o))] [] M36 _
            refine ez_aload_n 40 dX7_readNot_39 rfl rfl ?_
            refine ez_getf 43 (eI (M36.1 7 0 6)) dX7_readNot_40 rfl fl_X7_39 (by show 0 < 1; omega) rfl ?_
            refine ez_top (nI (Tk k1)) g36.2.2.2.1 ?_
            refine ez_bipush 45 dX7_readNot_43 rfl (nI 60) (by decide) ?_
            refine ez_ncmp_eq 48 57 dX7_readNot_45 rfl (by decide) (by omega) (by omega) (fun h45 => ?_) (fun h45 => ?_)
            · refine ez_aload_n 58 dX7_readNot_57 rfl rfl ?_
              refine ez_getf 61 (eI (M36.1 7 0 6)) dX7_readNot_58 rfl fl_X7_39 (by show 0 < 1; omega) rfl ?_
              refine ez_top (nI (Tk k1)) g36.2.2.2.1 ?_
              refine ez_bipush 63 dX7_readNot_61 rfl (nI 60) (by decide) ?_
              refine ez_ncmp_ne 66 71 dX7_readNot_63 rfl (by decide) (by omega) (by omega) (fun h63 => ?_) (fun h63 => ?_)
              · exfalso; omega
              · refine ez_bipush 68 dX7_readNot_66 rfl (-23) (by decide) ?_
                refine ez_goto 73 dX7_readNot_68 (by decide) ?_
                refine ez_istore_n 74 [(2, eI (-23)), (0, eR 7 0), (1, eI (nI o))] dX7_readNot_73 rfl (by decide) rfl ?_
                refine ez_aload_n 75 dX7_readNot_74 rfl rfl ?_
                refine ez_callV 78 [] [] dX7_readNot_75 rfl rfl ok_X7_advance in_X7_advance (by decide) (by show 0 < 1; omega) ln_X7_107 (by omega) (Nat.le_of_ble_eq_true rfl) (c_adv G (d - 1) M36 (by omega) hH g36 (by omega)) (fun r75 M75 q75 => ?_)
                obtain ⟨rfl, f75, g75⟩ := q75
                have u75 := (hH.2.1 _ g75.2.1).1
                have w75 := g75.2.1
                show Ez G mX7_readNot d 78 [(2, eI (-23)), (0, eR 7 0), (1, eI (nI o))] [] M75 _
                refine ez_aload_n 79 dX7_readNot_78 rfl rfl ?_
                refine ez_iload_n 80 dX7_readNot_79 rfl rfl ?_
                refine ez_callV 83 [eI (nI o)] [] dX7_readNot_80 rfl rfl ok_X7_readSum in_X7_readSum (by decide) (by show 0 < 1; omega) ln_X7_122 (by omega) (Nat.le_of_ble_eq_true rfl) (iS o (k1 + 1) (L ++ c1) _ _ M75 (d - 1) (by omega) (by omega) (by first | omega | (simp only [List.length_append, List.length_cons, List.length_nil] at *; omega)) g75 h3) (fun r80 M80 q80 => ?_)
                obtain ⟨rfl, f80, g80⟩ := q80
                have g80 : TG Tk Pl N k2 ((L ++ c1) ++ c2) M80 := g80
                have u80 := (hH.2.1 _ g80.2.1).1
                have w80 := g80.2.1
                show Ez G mX7_readNot d 83 [(2, eI (-23)), (0, eR 7 0), (1, eI (nI o))] [] M80 _
                refine ez_aload_n 84 dX7_readNot_83 rfl rfl ?_
                refine ez_getf 87 (eR 3 6) dX7_readNot_84 rfl fl_X7_25 (by show 0 < 1; omega) rfl ?_
                refine ez_iload_n 88 dX7_readNot_87 rfl rfl ?_
                refine ez_callV 91 [eI (-23)] [] dX7_readNot_88 rfl rfl ok_X3_add in_X3_add (by decide) (by show 6 < 7; omega) ln_X7_113 (by omega) (Nat.le_of_ble_eq_true rfl) (c_add G (d - 1) (-23) M80 g80 (by first | omega | (simp only [List.length_append, List.length_cons, List.length_nil] at *; omega))) (fun r88 M88 q88 => ?_)
                obtain ⟨rfl, f88, g88⟩ := q88
                have u88 := (hH.2.1 _ g88.2.1).1
                have w88 := g88.2.1
                show Ez G mX7_readNot d 91 [(2, eI (-23)), (0, eR 7 0), (1, eI (nI o))] [] M88 _
                refine ez_vret dX7_readNot_91 rfl ?_
                refine ⟨rfl, ((((TF.rf.tr f36).tr f75).tr f80).tr f88), ?_⟩
                show TG Tk Pl N _ _ _
                simpa only [List.append_assoc] using g88
            · exfalso; omega
          · exact absurd h6 t21
        · refine ez_aload_n 1 dX7_readNot_0 rfl rfl ?_
          refine ez_getf 4 (eI (M.1 7 0 6)) dX7_readNot_1 rfl fl_X7_39 (by show 0 < 1; omega) rfl ?_
          refine ez_top (nI (Tk k)) hG.2.2.2.1 ?_
          refine ez_bipush 6 dX7_readNot_4 rfl (nI 21) (by decide) ?_
          refine ez_ncmp_ne 9 34 dX7_readNot_6 rfl (by decide) (by omega) (by omega) (fun h6 => ?_) (fun h6 => ?_)
          · refine ez_aload_n 35 dX7_readNot_34 rfl rfl ?_
            refine ez_iload_n 36 dX7_readNot_35 rfl rfl ?_
            refine ez_callV 39 [eI (nI o)] [] dX7_readNot_36 rfl rfl ok_X7_readSum in_X7_readSum (by decide) (by show 0 < 1; omega) ln_X7_122 (by omega) (Nat.le_of_ble_eq_true rfl) (iS o k L _ _ M (d - 1) (by omega) (by omega) (by first | omega | (simp only [List.length_append, List.length_cons, List.length_nil] at *; omega)) hG h1) (fun r36 M36 q36 => ?_)
            obtain ⟨rfl, f36, g36⟩ := q36
            have g36 : TG Tk Pl N k1 (L ++ c1) M36 := g36
            have u36 := (hH.2.1 _ g36.2.1).1
            have w36 := g36.2.1
            show Ez G mX7_readNot d 39 [(0, eR 7 0), (1, eI (nI o))] [] M36 _
            refine ez_aload_n 40 dX7_readNot_39 rfl rfl ?_
            refine ez_getf 43 (eI (M36.1 7 0 6)) dX7_readNot_40 rfl fl_X7_39 (by show 0 < 1; omega) rfl ?_
            refine ez_top (nI (Tk k1)) g36.2.2.2.1 ?_
            refine ez_bipush 45 dX7_readNot_43 rfl (nI 60) (by decide) ?_
            refine ez_ncmp_eq 48 57 dX7_readNot_45 rfl (by decide) (by omega) (by omega) (fun h45 => ?_) (fun h45 => ?_)
            · refine ez_aload_n 58 dX7_readNot_57 rfl rfl ?_
              refine ez_getf 61 (eI (M36.1 7 0 6)) dX7_readNot_58 rfl fl_X7_39 (by show 0 < 1; omega) rfl ?_
              refine ez_top (nI (Tk k1)) g36.2.2.2.1 ?_
              refine ez_bipush 63 dX7_readNot_61 rfl (nI 60) (by decide) ?_
              refine ez_ncmp_ne 66 71 dX7_readNot_63 rfl (by decide) (by omega) (by omega) (fun h63 => ?_) (fun h63 => ?_)
              · exfalso; omega
              · refine ez_bipush 68 dX7_readNot_66 rfl (-23) (by decide) ?_
                refine ez_goto 73 dX7_readNot_68 (by decide) ?_
                refine ez_istore_n 74 [(2, eI (-23)), (0, eR 7 0), (1, eI (nI o))] dX7_readNot_73 rfl (by decide) rfl ?_
                refine ez_aload_n 75 dX7_readNot_74 rfl rfl ?_
                refine ez_callV 78 [] [] dX7_readNot_75 rfl rfl ok_X7_advance in_X7_advance (by decide) (by show 0 < 1; omega) ln_X7_107 (by omega) (Nat.le_of_ble_eq_true rfl) (c_adv G (d - 1) M36 (by omega) hH g36 (by omega)) (fun r75 M75 q75 => ?_)
                obtain ⟨rfl, f75, g75⟩ := q75
                have u75 := (hH.2.1 _ g75.2.1).1
                have w75 := g75.2.1
                show Ez G mX7_readNot d 78 [(2, eI (-23)), (0, eR 7 0), (1, eI (nI o))] [] M75 _
                refine ez_aload_n 79 dX7_readNot_78 rfl rfl ?_
                refine ez_iload_n 80 dX7_readNot_79 rfl rfl ?_
                refine ez_callV 83 [eI (nI o)] [] dX7_readNot_80 rfl rfl ok_X7_readSum in_X7_readSum (by decide) (by show 0 < 1; omega) ln_X7_122 (by omega) (Nat.le_of_ble_eq_true rfl) (iS o (k1 + 1) (L ++ c1) _ _ M75 (d - 1) (by omega) (by omega) (by first | omega | (simp only [List.length_append, List.length_cons, List.length_nil] at *; omega)) g75 h3) (fun r80 M80 q80 => ?_)
                obtain ⟨rfl, f80, g80⟩ := q80
                show Ez G mX7_readNot d 83 [(2, eI (-23)), (0, eR 7 0), (1, eI (nI o))] [] M80 _
                refine ez_aload_n 84 dX7_readNot_83 rfl rfl ?_
                refine ez_getf 87 (eR 3 6) dX7_readNot_84 rfl fl_X7_25 (by show 0 < 1; omega) rfl ?_
                refine ez_iload_n 88 dX7_readNot_87 rfl rfl ?_
                refine ez_callV 91 [eI (-23)] [] dX7_readNot_88 rfl rfl ok_X3_add in_X3_add (by decide) (by show 6 < 7; omega) ln_X7_113 (by omega) (Nat.le_of_ble_eq_true rfl) (c_addb G (d - 1) (Pl e) (-23) M80 g80) (fun r88 M88 q88 => ?_)
                obtain ⟨rfl, f88, g88⟩ := q88
                show Ez G mX7_readNot d 91 [(2, eI (-23)), (0, eR 7 0), (1, eI (nI o))] [] M88 _
                refine ez_vret dX7_readNot_91 rfl ?_
                exact ⟨rfl, ((((TF.rf.tr f36).tr f75).tr f80).tr f88), g88⟩
            · exfalso; omega
          · exact absurd h6 t21
      rw [if_neg t60] at h2
      by_cases t61 : Tk k1 = 61
      · rw [if_pos t61] at h2
        have hl1 := hH.2.2 k1 p2 (by omega)
        rcases ep_bd_some h2 with ⟨k2, c2, v2, h3, h4⟩ | ⟨e, h3, rfl⟩
        · obtain ⟨r1, r2, r3⟩ := ep_pz_pk hH.2.2 n _ _ _ _ _ _ (show k1 + 1 ≤ N from hl1) (Or.inr (Or.inr (Or.inr (Or.inr rfl)))) h3
          simp only [List.length_nil] at r3
          cases h4
          refine ez_aload_n 1 dX7_readNot_0 rfl rfl ?_
          refine ez_getf 4 (eI (M.1 7 0 6)) dX7_readNot_1 rfl fl_X7_39 (by show 0 < 1; omega) rfl ?_
          refine ez_top (nI (Tk k)) hG.2.2.2.1 ?_
          refine ez_bipush 6 dX7_readNot_4 rfl (nI 21) (by decide) ?_
          refine ez_ncmp_ne 9 34 dX7_readNot_6 rfl (by decide) (by omega) (by omega) (fun h6 => ?_) (fun h6 => ?_)
          · refine ez_aload_n 35 dX7_readNot_34 rfl rfl ?_
            refine ez_iload_n 36 dX7_readNot_35 rfl rfl ?_
            refine ez_callV 39 [eI (nI o)] [] dX7_readNot_36 rfl rfl ok_X7_readSum in_X7_readSum (by decide) (by show 0 < 1; omega) ln_X7_122 (by omega) (Nat.le_of_ble_eq_true rfl) (iS o k L _ _ M (d - 1) (by omega) (by omega) (by first | omega | (simp only [List.length_append, List.length_cons, List.length_nil] at *; omega)) hG h1) (fun r36 M36 q36 => ?_)
            obtain ⟨rfl, f36, g36⟩ := q36
            have g36 : TG Tk Pl N k1 (L ++ c1) M36 := g36
            have u36 := (hH.2.1 _ g36.2.1).1
            have w36 := g36.2.1
            show Ez G mX7_readNot d 39 [(0, eR 7 0), (1, eI (nI o))] [] M36 _
            refine ez_aload_n 40 dX7_readNot_39 rfl rfl ?_
            refine ez_getf 43 (eI (M36.1 7 0 6)) dX7_readNot_40 rfl fl_X7_39 (by show 0 < 1; omega) rfl ?_
            refine ez_top (nI (Tk k1)) g36.2.2.2.1 ?_
            refine ez_bipush 45 dX7_readNot_43 rfl (nI 60) (by decide) ?_
            refine ez_ncmp_eq 48 57 dX7_readNot_45 rfl (by decide) (by omega) (by omega) (fun h45 => ?_) (fun h45 => ?_)
            · exfalso; omega
            · refine ez_aload_n 49 dX7_readNot_48 rfl rfl ?_
              refine ez_getf 52 (eI (M36.1 7 0 6)) dX7_readNot_49 rfl fl_X7_39 (by show 0 < 1; omega) rfl ?_
              refine ez_top (nI (Tk k1)) g36.2.2.2.1 ?_
              refine ez_bipush 54 dX7_readNot_52 rfl (nI 61) (by decide) ?_
              refine ez_ncmp_ne 57 91 dX7_readNot_54 rfl (by decide) (by omega) (by omega) (fun h54 => ?_) (fun h54 => ?_)
              · exfalso; omega
              · refine ez_aload_n 58 dX7_readNot_57 rfl rfl ?_
                refine ez_getf 61 (eI (M36.1 7 0 6)) dX7_readNot_58 rfl fl_X7_39 (by show 0 < 1; omega) rfl ?_
                refine ez_top (nI (Tk k1)) g36.2.2.2.1 ?_
                refine ez_bipush 63 dX7_readNot_61 rfl (nI 60) (by decide) ?_
                refine ez_ncmp_ne 66 71 dX7_readNot_63 rfl (by decide) (by omega) (by omega) (fun h63 => ?_) (fun h63 => ?_)
                · refine ez_bipush 73 dX7_readNot_71 rfl (-24) (by decide) ?_
                  refine ez_istore_n 74 [(2, eI (-24)), (0, eR 7 0), (1, eI (nI o))] dX7_readNot_73 rfl (by decide) rfl ?_
                  refine ez_aload_n 75 dX7_readNot_74 rfl rfl ?_
                  refine ez_callV 78 [] [] dX7_readNot_75 rfl rfl ok_X7_advance in_X7_advance (by decide) (by show 0 < 1; omega) ln_X7_107 (by omega) (Nat.le_of_ble_eq_true rfl) (c_adv G (d - 1) M36 (by omega) hH g36 (by omega)) (fun r75 M75 q75 => ?_)
                  obtain ⟨rfl, f75, g75⟩ := q75
                  have u75 := (hH.2.1 _ g75.2.1).1
                  have w75 := g75.2.1
                  show Ez G mX7_readNot d 78 [(2, eI (-24)), (0, eR 7 0), (1, eI (nI o))] [] M75 _
                  refine ez_aload_n 79 dX7_readNot_78 rfl rfl ?_
                  refine ez_iload_n 80 dX7_readNot_79 rfl rfl ?_
                  refine ez_callV 83 [eI (nI o)] [] dX7_readNot_80 rfl rfl ok_X7_readSum in_X7_readSum (by decide) (by show 0 < 1; omega) ln_X7_122 (by omega) (Nat.le_of_ble_eq_true rfl) (iS o (k1 + 1) (L ++ c1) _ _ M75 (d - 1) (by omega) (by omega) (by first | omega | (simp only [List.length_append, List.length_cons, List.length_nil] at *; omega)) g75 h3) (fun r80 M80 q80 => ?_)
                  obtain ⟨rfl, f80, g80⟩ := q80
                  have g80 : TG Tk Pl N k2 ((L ++ c1) ++ c2) M80 := g80
                  have u80 := (hH.2.1 _ g80.2.1).1
                  have w80 := g80.2.1
                  show Ez G mX7_readNot d 83 [(2, eI (-24)), (0, eR 7 0), (1, eI (nI o))] [] M80 _
                  refine ez_aload_n 84 dX7_readNot_83 rfl rfl ?_
                  refine ez_getf 87 (eR 3 6) dX7_readNot_84 rfl fl_X7_25 (by show 0 < 1; omega) rfl ?_
                  refine ez_iload_n 88 dX7_readNot_87 rfl rfl ?_
                  refine ez_callV 91 [eI (-24)] [] dX7_readNot_88 rfl rfl ok_X3_add in_X3_add (by decide) (by show 6 < 7; omega) ln_X7_113 (by omega) (Nat.le_of_ble_eq_true rfl) (c_add G (d - 1) (-24) M80 g80 (by first | omega | (simp only [List.length_append, List.length_cons, List.length_nil] at *; omega))) (fun r88 M88 q88 => ?_)
                  obtain ⟨rfl, f88, g88⟩ := q88
                  have u88 := (hH.2.1 _ g88.2.1).1
                  have w88 := g88.2.1
                  show Ez G mX7_readNot d 91 [(2, eI (-24)), (0, eR 7 0), (1, eI (nI o))] [] M88 _
                  refine ez_vret dX7_readNot_91 rfl ?_
                  refine ⟨rfl, ((((TF.rf.tr f36).tr f75).tr f80).tr f88), ?_⟩
                  show TG Tk Pl N _ _ _
                  simpa only [List.append_assoc] using g88
                · exfalso; omega
          · exact absurd h6 t21
        · refine ez_aload_n 1 dX7_readNot_0 rfl rfl ?_
          refine ez_getf 4 (eI (M.1 7 0 6)) dX7_readNot_1 rfl fl_X7_39 (by show 0 < 1; omega) rfl ?_
          refine ez_top (nI (Tk k)) hG.2.2.2.1 ?_
          refine ez_bipush 6 dX7_readNot_4 rfl (nI 21) (by decide) ?_
          refine ez_ncmp_ne 9 34 dX7_readNot_6 rfl (by decide) (by omega) (by omega) (fun h6 => ?_) (fun h6 => ?_)
          · refine ez_aload_n 35 dX7_readNot_34 rfl rfl ?_
            refine ez_iload_n 36 dX7_readNot_35 rfl rfl ?_
            refine ez_callV 39 [eI (nI o)] [] dX7_readNot_36 rfl rfl ok_X7_readSum in_X7_readSum (by decide) (by show 0 < 1; omega) ln_X7_122 (by omega) (Nat.le_of_ble_eq_true rfl) (iS o k L _ _ M (d - 1) (by omega) (by omega) (by first | omega | (simp only [List.length_append, List.length_cons, List.length_nil] at *; omega)) hG h1) (fun r36 M36 q36 => ?_)
            obtain ⟨rfl, f36, g36⟩ := q36
            have g36 : TG Tk Pl N k1 (L ++ c1) M36 := g36
            have u36 := (hH.2.1 _ g36.2.1).1
            have w36 := g36.2.1
            show Ez G mX7_readNot d 39 [(0, eR 7 0), (1, eI (nI o))] [] M36 _
            refine ez_aload_n 40 dX7_readNot_39 rfl rfl ?_
            refine ez_getf 43 (eI (M36.1 7 0 6)) dX7_readNot_40 rfl fl_X7_39 (by show 0 < 1; omega) rfl ?_
            refine ez_top (nI (Tk k1)) g36.2.2.2.1 ?_
            refine ez_bipush 45 dX7_readNot_43 rfl (nI 60) (by decide) ?_
            refine ez_ncmp_eq 48 57 dX7_readNot_45 rfl (by decide) (by omega) (by omega) (fun h45 => ?_) (fun h45 => ?_)
            · exfalso; omega
            · refine ez_aload_n 49 dX7_readNot_48 rfl rfl ?_
              refine ez_getf 52 (eI (M36.1 7 0 6)) dX7_readNot_49 rfl fl_X7_39 (by show 0 < 1; omega) rfl ?_
              refine ez_top (nI (Tk k1)) g36.2.2.2.1 ?_
              refine ez_bipush 54 dX7_readNot_52 rfl (nI 61) (by decide) ?_
              refine ez_ncmp_ne 57 91 dX7_readNot_54 rfl (by decide) (by omega) (by omega) (fun h54 => ?_) (fun h54 => ?_)
              · exfalso; omega
              · refine ez_aload_n 58 dX7_readNot_57 rfl rfl ?_
                refine ez_getf 61 (eI (M36.1 7 0 6)) dX7_readNot_58 rfl fl_X7_39 (by show 0 < 1; omega) rfl ?_
                refine ez_top (nI (Tk k1)) g36.2.2.2.1 ?_
                refine ez_bipush 63 dX7_readNot_61 rfl (nI 60) (by decide) ?_
                refine ez_ncmp_ne 66 71 dX7_readNot_63 rfl (by decide) (by omega) (by omega) (fun h63 => ?_) (fun h63 => ?_)
                · refine ez_bipush 73 dX7_readNot_71 rfl (-24) (by decide) ?_
                  refine ez_istore_n 74 [(2, eI (-24)), (0, eR 7 0), (1, eI (nI o))] dX7_readNot_73 rfl (by decide) rfl ?_
                  refine ez_aload_n 75 dX7_readNot_74 rfl rfl ?_
                  refine ez_callV 78 [] [] dX7_readNot_75 rfl rfl ok_X7_advance in_X7_advance (by decide) (by show 0 < 1; omega) ln_X7_107 (by omega) (Nat.le_of_ble_eq_true rfl) (c_adv G (d - 1) M36 (by omega) hH g36 (by omega)) (fun r75 M75 q75 => ?_)
                  obtain ⟨rfl, f75, g75⟩ := q75
                  have u75 := (hH.2.1 _ g75.2.1).1
                  have w75 := g75.2.1
                  show Ez G mX7_readNot d 78 [(2, eI (-24)), (0, eR 7 0), (1, eI (nI o))] [] M75 _
                  refine ez_aload_n 79 dX7_readNot_78 rfl rfl ?_
                  refine ez_iload_n 80 dX7_readNot_79 rfl rfl ?_
                  refine ez_callV 83 [eI (nI o)] [] dX7_readNot_80 rfl rfl ok_X7_readSum in_X7_readSum (by decide) (by show 0 < 1; omega) ln_X7_122 (by omega) (Nat.le_of_ble_eq_true rfl) (iS o (k1 + 1) (L ++ c1) _ _ M75 (d - 1) (by omega) (by omega) (by first | omega | (simp only [List.length_append, List.length_cons, List.length_nil] at *; omega)) g75 h3) (fun r80 M80 q80 => ?_)
                  obtain ⟨rfl, f80, g80⟩ := q80
                  show Ez G mX7_readNot d 83 [(2, eI (-24)), (0, eR 7 0), (1, eI (nI o))] [] M80 _
                  refine ez_aload_n 84 dX7_readNot_83 rfl rfl ?_
                  refine ez_getf 87 (eR 3 6) dX7_readNot_84 rfl fl_X7_25 (by show 0 < 1; omega) rfl ?_
                  refine ez_iload_n 88 dX7_readNot_87 rfl rfl ?_
                  refine ez_callV 91 [eI (-24)] [] dX7_readNot_88 rfl rfl ok_X3_add in_X3_add (by decide) (by show 6 < 7; omega) ln_X7_113 (by omega) (Nat.le_of_ble_eq_true rfl) (c_addb G (d - 1) (Pl e) (-24) M80 g80) (fun r88 M88 q88 => ?_)
                  obtain ⟨rfl, f88, g88⟩ := q88
                  show Ez G mX7_readNot d 91 [(2, eI (-24)), (0, eR 7 0), (1, eI (nI o))] [] M88 _
                  refine ez_vret dX7_readNot_91 rfl ?_
                  exact ⟨rfl, ((((TF.rf.tr f36).tr f75).tr f80).tr f88), g88⟩
                · exfalso; omega
          · exact absurd h6 t21
      rw [if_neg t61] at h2
      cases h2
      refine ez_aload_n 1 dX7_readNot_0 rfl rfl ?_
      refine ez_getf 4 (eI (M.1 7 0 6)) dX7_readNot_1 rfl fl_X7_39 (by show 0 < 1; omega) rfl ?_
      refine ez_top (nI (Tk k)) hG.2.2.2.1 ?_
      refine ez_bipush 6 dX7_readNot_4 rfl (nI 21) (by decide) ?_
      refine ez_ncmp_ne 9 34 dX7_readNot_6 rfl (by decide) (by omega) (by omega) (fun h6 => ?_) (fun h6 => ?_)
      · refine ez_aload_n 35 dX7_readNot_34 rfl rfl ?_
        refine ez_iload_n 36 dX7_readNot_35 rfl rfl ?_
        refine ez_callV 39 [eI (nI o)] [] dX7_readNot_36 rfl rfl ok_X7_readSum in_X7_readSum (by decide) (by show 0 < 1; omega) ln_X7_122 (by omega) (Nat.le_of_ble_eq_true rfl) (iS o k L _ _ M (d - 1) (by omega) (by omega) (by first | omega | (simp only [List.length_append, List.length_cons, List.length_nil] at *; omega)) hG h1) (fun r36 M36 q36 => ?_)
        obtain ⟨rfl, f36, g36⟩ := q36
        have g36 : TG Tk Pl N k1 (L ++ c1) M36 := g36
        have u36 := (hH.2.1 _ g36.2.1).1
        have w36 := g36.2.1
        show Ez G mX7_readNot d 39 [(0, eR 7 0), (1, eI (nI o))] [] M36 _
        refine ez_aload_n 40 dX7_readNot_39 rfl rfl ?_
        refine ez_getf 43 (eI (M36.1 7 0 6)) dX7_readNot_40 rfl fl_X7_39 (by show 0 < 1; omega) rfl ?_
        refine ez_top (nI (Tk k1)) g36.2.2.2.1 ?_
        refine ez_bipush 45 dX7_readNot_43 rfl (nI 60) (by decide) ?_
        refine ez_ncmp_eq 48 57 dX7_readNot_45 rfl (by decide) (by omega) (by omega) (fun h45 => ?_) (fun h45 => ?_)
        · exfalso; omega
        · refine ez_aload_n 49 dX7_readNot_48 rfl rfl ?_
          refine ez_getf 52 (eI (M36.1 7 0 6)) dX7_readNot_49 rfl fl_X7_39 (by show 0 < 1; omega) rfl ?_
          refine ez_top (nI (Tk k1)) g36.2.2.2.1 ?_
          refine ez_bipush 54 dX7_readNot_52 rfl (nI 61) (by decide) ?_
          refine ez_ncmp_ne 57 91 dX7_readNot_54 rfl (by decide) (by omega) (by omega) (fun h54 => ?_) (fun h54 => ?_)
          · refine ez_vret dX7_readNot_91 rfl ?_
            refine ⟨rfl, (TF.rf.tr f36), ?_⟩
            show TG Tk Pl N _ _ _
            simpa only [List.append_assoc] using g36
          · exfalso; omega
      · exact absurd h6 t21
    · refine ez_aload_n 1 dX7_readNot_0 rfl rfl ?_
      refine ez_getf 4 (eI (M.1 7 0 6)) dX7_readNot_1 rfl fl_X7_39 (by show 0 < 1; omega) rfl ?_
      refine ez_top (nI (Tk k)) hG.2.2.2.1 ?_
      refine ez_bipush 6 dX7_readNot_4 rfl (nI 21) (by decide) ?_
      refine ez_ncmp_ne 9 34 dX7_readNot_6 rfl (by decide) (by omega) (by omega) (fun h6 => ?_) (fun h6 => ?_)
      · refine ez_aload_n 35 dX7_readNot_34 rfl rfl ?_
        refine ez_iload_n 36 dX7_readNot_35 rfl rfl ?_
        refine ez_callV 39 [eI (nI o)] [] dX7_readNot_36 rfl rfl ok_X7_readSum in_X7_readSum (by decide) (by show 0 < 1; omega) ln_X7_122 (by omega) (Nat.le_of_ble_eq_true rfl) (iS o k L _ _ M (d - 1) (by omega) (by omega) (by first | omega | (simp only [List.length_append, List.length_cons, List.length_nil] at *; omega)) hG h1) (fun r36 M36 q36 => ?_)
        obtain ⟨rfl, f36, g36⟩ := q36
        show Ez G mX7_readNot d 39 [(0, eR 7 0), (1, eI (nI o))] [] M36 _
        refine ez_aload_n 40 dX7_readNot_39 rfl rfl ?_
        refine ez_getf 43 (eI (M36.1 7 0 6)) dX7_readNot_40 rfl fl_X7_39 (by show 0 < 1; omega) rfl ?_
        refine ez_top (nI 1) g36.1 ?_
        refine ez_bipush 45 dX7_readNot_43 rfl (nI 60) (by decide) ?_
        refine ez_ncmp_eq 48 57 dX7_readNot_45 rfl (by decide) (by omega) (by omega) (fun h45 => ?_) (fun h45 => ?_)
        · exact absurd h45 (by decide)
        · refine ez_aload_n 49 dX7_readNot_48 rfl rfl ?_
          refine ez_getf 52 (eI (M36.1 7 0 6)) dX7_readNot_49 rfl fl_X7_39 (by show 0 < 1; omega) rfl ?_
          refine ez_top (nI 1) g36.1 ?_
          refine ez_bipush 54 dX7_readNot_52 rfl (nI 61) (by decide) ?_
          refine ez_ncmp_ne 57 91 dX7_readNot_54 rfl (by decide) (by omega) (by omega) (fun h54 => ?_) (fun h54 => ?_)
          · refine ez_vret dX7_readNot_91 rfl ?_
            exact ⟨rfl, (TF.rf.tr f36), g36⟩
          · exact absurd h54 (by decide)
      · exact absurd h6 t21
set_option maxRecDepth 20000 in
theorem sp_readOne (G : EzG) {Tk Pl : Nat → Nat} {N n : Nat} (hH : HT Tk Pl N) (iO : PzM G Tk Pl N mX7_readOne 2 9 n) (iR : PzM G Tk Pl N mX7_readOr 7 0 n) : PzM G Tk Pl N mX7_readOne 2 9 (n + 1) := by
  intro o k L v x M d ho hd hl hG h
  have hn := hH.1
  rw [ep_pz_9] at h
  have u0 := (hH.2.1 _ hG.2.1).1
  have w0 := hG.2.1
  refine Ezc.of (by decide +kernel) (Nat.le_of_ble_eq_true rfl) ?_
  show Ez G mX7_readOne d 0 [(0, eR 7 0), (1, eI (nI o))] [] M _
  by_cases tn : 1000 ≤ Tk k
  · rw [if_pos tn] at h
    have hlt := hH.2.2 k hG.2.1 (by omega)
    cases h
    refine ez_aload_n 1 dX7_readOne_0 rfl rfl ?_
    refine ez_getf 4 (eI (M.1 7 0 6)) dX7_readOne_1 rfl fl_X7_39 (by show 0 < 1; omega) rfl ?_
    refine ez_top (nI (Tk k)) hG.2.2.2.1 ?_
    refine ez_sipush 7 dX7_readOne_4 rfl (nI 1000) (by decide) ?_
    refine ez_ncmp_lt 10 32 dX7_readOne_7 rfl (by decide) (by omega) (by omega) (fun h7 => ?_) (fun h7 => ?_)
    · exfalso; omega
    · refine ez_aload_n 11 dX7_readOne_10 rfl rfl ?_
      refine ez_getf 14 (eR 3 6) dX7_readOne_11 rfl fl_X7_25 (by show 0 < 1; omega) rfl ?_
      refine ez_aload_n 15 dX7_readOne_14 rfl rfl ?_
      refine ez_getf 18 (eI (M.1 7 0 6)) dX7_readOne_15 rfl fl_X7_39 (by show 0 < 1; omega) rfl ?_
      refine ez_top (nI (Tk k)) hG.2.2.2.1 ?_
      refine ez_sipush 21 dX7_readOne_18 rfl (nI 1000) (by decide) ?_
      refine ez_isub 22 dX7_readOne_21 rfl ?_
      refine ez_top (nI (Tk k - 1000)) (pk_sub (by omega)) ?_
      refine ez_callV 25 [eI (nI (Tk k - 1000))] [] dX7_readOne_22 rfl rfl ok_X3_add in_X3_add (by decide) (by show 6 < 7; omega) ln_X7_113 (by omega) (Nat.le_of_ble_eq_true rfl) (c_add G (d - 1) (nI (Tk k - 1000)) M hG (by first | omega | (simp only [List.length_append, List.length_cons, List.length_nil] at *; omega))) (fun r22 M22 q22 => ?_)
      obtain ⟨rfl, f22, g22⟩ := q22
      have u22 := (hH.2.1 _ g22.2.1).1
      have w22 := g22.2.1
      show Ez G mX7_readOne d 25 [(0, eR 7 0), (1, eI (nI o))] [] M22 _
      refine ez_aload_n 26 dX7_readOne_25 rfl rfl ?_
      refine ez_callV 29 [] [] dX7_readOne_26 rfl rfl ok_X7_advance in_X7_advance (by decide) (by show 0 < 1; omega) ln_X7_107 (by omega) (Nat.le_of_ble_eq_true rfl) (c_adv G (d - 1) M22 (by omega) hH g22 (by omega)) (fun r26 M26 q26 => ?_)
      obtain ⟨rfl, f26, g26⟩ := q26
      have u26 := (hH.2.1 _ g26.2.1).1
      have w26 := g26.2.1
      show Ez G mX7_readOne d 29 [(0, eR 7 0), (1, eI (nI o))] [] M26 _
      refine ez_goto 147 dX7_readOne_29 (by decide) ?_
      refine ez_vret dX7_readOne_147 rfl ?_
      refine ⟨rfl, ((TF.rf.tr f22).tr f26), ?_⟩
      show TG Tk Pl N _ _ _
      simpa only [List.append_assoc] using g26
  rw [if_neg tn] at h
  by_cases ta : 10 ≤ Tk k ∧ Tk k < 16
  · rw [if_pos ta] at h
    have hlt := hH.2.2 k hG.2.1 (by omega)
    cases h
    refine ez_aload_n 1 dX7_readOne_0 rfl rfl ?_
    refine ez_getf 4 (eI (M.1 7 0 6)) dX7_readOne_1 rfl fl_X7_39 (by show 0 < 1; omega) rfl ?_
    refine ez_top (nI (Tk k)) hG.2.2.2.1 ?_
    refine ez_sipush 7 dX7_readOne_4 rfl (nI 1000) (by decide) ?_
    refine ez_ncmp_lt 10 32 dX7_readOne_7 rfl (by decide) (by omega) (by omega) (fun h7 => ?_) (fun h7 => ?_)
    · refine ez_aload_n 33 dX7_readOne_32 rfl rfl ?_
      refine ez_getf 36 (eI (M.1 7 0 6)) dX7_readOne_33 rfl fl_X7_39 (by show 0 < 1; omega) rfl ?_
      refine ez_top (nI (Tk k)) hG.2.2.2.1 ?_
      refine ez_bipush 38 dX7_readOne_36 rfl (nI 10) (by decide) ?_
      refine ez_ncmp_lt 41 74 dX7_readOne_38 rfl (by decide) (by omega) (by omega) (fun h38 => ?_) (fun h38 => ?_)
      · exfalso; omega
      · refine ez_aload_n 42 dX7_readOne_41 rfl rfl ?_
        refine ez_getf 45 (eI (M.1 7 0 6)) dX7_readOne_42 rfl fl_X7_39 (by show 0 < 1; omega) rfl ?_
        refine ez_top (nI (Tk k)) hG.2.2.2.1 ?_
        refine ez_bipush 47 dX7_readOne_45 rfl (nI 16) (by decide) ?_
        refine ez_ncmp_ge 50 74 dX7_readOne_47 rfl (by decide) (by omega) (by omega) (fun h47 => ?_) (fun h47 => ?_)
        · exfalso; omega
        · refine ez_aload_n 51 dX7_readOne_50 rfl rfl ?_
          refine ez_getf 54 (eR 3 6) dX7_readOne_51 rfl fl_X7_25 (by show 0 < 1; omega) rfl ?_
          refine ez_bipush 56 dX7_readOne_54 rfl (-10) (by decide) ?_
          refine ez_aload_n 57 dX7_readOne_56 rfl rfl ?_
          refine ez_getf 60 (eI (M.1 7 0 6)) dX7_readOne_57 rfl fl_X7_39 (by show 0 < 1; omega) rfl ?_
          refine ez_top (nI (Tk k)) hG.2.2.2.1 ?_
          refine ez_bipush 62 dX7_readOne_60 rfl (nI 10) (by decide) ?_
          refine ez_isub 63 dX7_readOne_62 rfl ?_
          refine ez_top (nI (Tk k - 10)) (pk_sub (by omega)) ?_
          refine ez_isub 64 dX7_readOne_63 rfl ?_
          refine ez_callV 67 [eI ((-10) - (nI (Tk k - 10)))] [] dX7_readOne_64 rfl rfl ok_X3_add in_X3_add (by decide) (by show 6 < 7; omega) ln_X7_113 (by omega) (Nat.le_of_ble_eq_true rfl) (c_add G (d - 1) ((-10) - (nI (Tk k - 10))) M hG (by first | omega | (simp only [List.length_append, List.length_cons, List.length_nil] at *; omega))) (fun r64 M64 q64 => ?_)
          obtain ⟨rfl, f64, g64⟩ := q64
          have u64 := (hH.2.1 _ g64.2.1).1
          have w64 := g64.2.1
          show Ez G mX7_readOne d 67 [(0, eR 7 0), (1, eI (nI o))] [] M64 _
          refine ez_aload_n 68 dX7_readOne_67 rfl rfl ?_
          refine ez_callV 71 [] [] dX7_readOne_68 rfl rfl ok_X7_advance in_X7_advance (by decide) (by show 0 < 1; omega) ln_X7_107 (by omega) (Nat.le_of_ble_eq_true rfl) (c_adv G (d - 1) M64 (by omega) hH g64 (by omega)) (fun r68 M68 q68 => ?_)
          obtain ⟨rfl, f68, g68⟩ := q68
          have u68 := (hH.2.1 _ g68.2.1).1
          have w68 := g68.2.1
          show Ez G mX7_readOne d 71 [(0, eR 7 0), (1, eI (nI o))] [] M68 _
          refine ez_goto 147 dX7_readOne_71 (by decide) ?_
          refine ez_vret dX7_readOne_147 rfl ?_
          refine ⟨rfl, ((TF.rf.tr f64).tr f68), ?_⟩
          show TG Tk Pl N _ _ _
          simpa only [List.append_assoc] using g68
    · exfalso; omega
  rw [if_neg ta] at h
  by_cases t45 : Tk k = 45
  · rw [if_pos t45] at h
    have hlt := hH.2.2 k hG.2.1 (by omega)
    by_cases o5 : 5 ≤ o
    · rw [if_pos o5] at h
      cases h
      refine ez_aload_n 1 dX7_readOne_0 rfl rfl ?_
      refine ez_getf 4 (eI (M.1 7 0 6)) dX7_readOne_1 rfl fl_X7_39 (by show 0 < 1; omega) rfl ?_
      refine ez_top (nI (Tk k)) hG.2.2.2.1 ?_
      refine ez_sipush 7 dX7_readOne_4 rfl (nI 1000) (by decide) ?_
      refine ez_ncmp_lt 10 32 dX7_readOne_7 rfl (by decide) (by omega) (by omega) (fun h7 => ?_) (fun h7 => ?_)
      · refine ez_aload_n 33 dX7_readOne_32 rfl rfl ?_
        refine ez_getf 36 (eI (M.1 7 0 6)) dX7_readOne_33 rfl fl_X7_39 (by show 0 < 1; omega) rfl ?_
        refine ez_top (nI (Tk k)) hG.2.2.2.1 ?_
        refine ez_bipush 38 dX7_readOne_36 rfl (nI 10) (by decide) ?_
        refine ez_ncmp_lt 41 74 dX7_readOne_38 rfl (by decide) (by omega) (by omega) (fun h38 => ?_) (fun h38 => ?_)
        · exfalso; omega
        · refine ez_aload_n 42 dX7_readOne_41 rfl rfl ?_
          refine ez_getf 45 (eI (M.1 7 0 6)) dX7_readOne_42 rfl fl_X7_39 (by show 0 < 1; omega) rfl ?_
          refine ez_top (nI (Tk k)) hG.2.2.2.1 ?_
          refine ez_bipush 47 dX7_readOne_45 rfl (nI 16) (by decide) ?_
          refine ez_ncmp_ge 50 74 dX7_readOne_47 rfl (by decide) (by omega) (by omega) (fun h47 => ?_) (fun h47 => ?_)
          · refine ez_aload_n 75 dX7_readOne_74 rfl rfl ?_
            refine ez_getf 78 (eI (M.1 7 0 6)) dX7_readOne_75 rfl fl_X7_39 (by show 0 < 1; omega) rfl ?_
            refine ez_top (nI (Tk k)) hG.2.2.2.1 ?_
            refine ez_bipush 80 dX7_readOne_78 rfl (nI 45) (by decide) ?_
            refine ez_ncmp_ne 83 110 dX7_readOne_80 rfl (by decide) (by omega) (by omega) (fun h80 => ?_) (fun h80 => ?_)
            · exfalso; omega
            · refine ez_aload_n 84 dX7_readOne_83 rfl rfl ?_
              refine ez_iload_n 85 dX7_readOne_84 rfl rfl ?_
              refine ez_callV 88 [eI (nI o)] [] dX7_readOne_85 rfl rfl ok_X7_mayOpen in_X7_mayOpen (by decide) (by show 0 < 1; omega) ln_X7_119 (by omega) (Nat.le_of_ble_eq_true rfl) (c_opn G (d - 1) o M (by omega) hH hG (by omega) (by omega)) (fun r85 M85 q85 => ?_)
              obtain ⟨rfl, f85, g85⟩ := q85
              show Ez G mX7_readOne d 88 [(0, eR 7 0), (1, eI (nI o))] [eI (nI 0)] M85 _
              refine ez_nif_eq 91 147 dX7_readOne_88 rfl (by decide) (by omega) (fun h88 => ?_) (fun h88 => ?_)
              · refine ez_vret dX7_readOne_147 rfl ?_
                exact ⟨rfl, (TF.rf.tr f85), g85⟩
              · exact absurd h88 (by decide)
          · exfalso; omega
      · exfalso; omega
    · rw [if_neg o5] at h
      rcases ep_bd_some h with ⟨k1, c1, v1, h1, h2⟩ | ⟨e, h1, rfl⟩
      · obtain ⟨p1, p2, p3⟩ := ep_pz_pk hH.2.2 n _ _ _ _ _ _ (show k + 1 ≤ N from hlt) (Or.inr (Or.inr (Or.inr (Or.inr rfl)))) h1
        simp only [List.length_nil] at p3
        cases h2
        refine ez_aload_n 1 dX7_readOne_0 rfl rfl ?_
        refine ez_getf 4 (eI (M.1 7 0 6)) dX7_readOne_1 rfl fl_X7_39 (by show 0 < 1; omega) rfl ?_
        refine ez_top (nI (Tk k)) hG.2.2.2.1 ?_
        refine ez_sipush 7 dX7_readOne_4 rfl (nI 1000) (by decide) ?_
        refine ez_ncmp_lt 10 32 dX7_readOne_7 rfl (by decide) (by omega) (by omega) (fun h7 => ?_) (fun h7 => ?_)
        · refine ez_aload_n 33 dX7_readOne_32 rfl rfl ?_
          refine ez_getf 36 (eI (M.1 7 0 6)) dX7_readOne_33 rfl fl_X7_39 (by show 0 < 1; omega) rfl ?_
          refine ez_top (nI (Tk k)) hG.2.2.2.1 ?_
          refine ez_bipush 38 dX7_readOne_36 rfl (nI 10) (by decide) ?_
          refine ez_ncmp_lt 41 74 dX7_readOne_38 rfl (by decide) (by omega) (by omega) (fun h38 => ?_) (fun h38 => ?_)
          · exfalso; omega
          · refine ez_aload_n 42 dX7_readOne_41 rfl rfl ?_
            refine ez_getf 45 (eI (M.1 7 0 6)) dX7_readOne_42 rfl fl_X7_39 (by show 0 < 1; omega) rfl ?_
            refine ez_top (nI (Tk k)) hG.2.2.2.1 ?_
            refine ez_bipush 47 dX7_readOne_45 rfl (nI 16) (by decide) ?_
            refine ez_ncmp_ge 50 74 dX7_readOne_47 rfl (by decide) (by omega) (by omega) (fun h47 => ?_) (fun h47 => ?_)
            · refine ez_aload_n 75 dX7_readOne_74 rfl rfl ?_
              refine ez_getf 78 (eI (M.1 7 0 6)) dX7_readOne_75 rfl fl_X7_39 (by show 0 < 1; omega) rfl ?_
              refine ez_top (nI (Tk k)) hG.2.2.2.1 ?_
              refine ez_bipush 80 dX7_readOne_78 rfl (nI 45) (by decide) ?_
              refine ez_ncmp_ne 83 110 dX7_readOne_80 rfl (by decide) (by omega) (by omega) (fun h80 => ?_) (fun h80 => ?_)
              · exfalso; omega
              · refine ez_aload_n 84 dX7_readOne_83 rfl rfl ?_
                refine ez_iload_n 85 dX7_readOne_84 rfl rfl ?_
                refine ez_callV 88 [eI (nI o)] [] dX7_readOne_85 rfl rfl ok_X7_mayOpen in_X7_mayOpen (by decide) (by show 0 < 1; omega) ln_X7_119 (by omega) (Nat.le_of_ble_eq_true rfl) (c_open G (d - 1) o M (by omega) hH hG (by omega) (by omega)) (fun r85 M85 q85 => ?_)
                obtain ⟨rfl, f85, g85⟩ := q85
                have u85 := (hH.2.1 _ g85.2.1).1
                have w85 := g85.2.1
                show Ez G mX7_readOne d 88 [(0, eR 7 0), (1, eI (nI o))] [eI (nI 1)] M85 _
                refine ez_nif_eq 91 147 dX7_readOne_88 rfl (by decide) (by omega) (fun h88 => ?_) (fun h88 => ?_)
                · exact absurd h88 (by decide)
                · refine ez_aload_n 92 dX7_readOne_91 rfl rfl ?_
                  refine ez_iload_n 93 dX7_readOne_92 rfl rfl ?_
                  refine ez_iconst 94 dX7_readOne_93 rfl (nI 1) (by decide) ?_
                  refine ez_iadd 95 dX7_readOne_94 rfl ?_
                  refine ez_top (nI (o + 1)) (nI_add _ _) ?_
                  refine ez_callV 98 [eI (nI (o + 1))] [] dX7_readOne_95 rfl rfl ok_X7_readOne in_X7_readOne (by decide) (by show 0 < 1; omega) ln_X7_128 (by omega) (Nat.le_of_ble_eq_true rfl) (iO (o + 1) (k + 1) L _ _ M85 (d - 1) (by omega) (by omega) (by first | omega | (simp only [List.length_append, List.length_cons, List.length_nil] at *; omega)) g85 h1) (fun r95 M95 q95 => ?_)
                  obtain ⟨rfl, f95, g95⟩ := q95
                  have g95 : TG Tk Pl N k1 (L ++ c1) M95 := g95
                  have u95 := (hH.2.1 _ g95.2.1).1
                  have w95 := g95.2.1
                  show Ez G mX7_readOne d 98 [(0, eR 7 0), (1, eI (nI o))] [] M95 _
                  refine ez_aload_n 99 dX7_readOne_98 rfl rfl ?_
                  refine ez_getf 102 (eR 3 6) dX7_readOne_99 rfl fl_X7_25 (by show 0 < 1; omega) rfl ?_
                  refine ez_bipush 104 dX7_readOne_102 rfl (-28) (by decide) ?_
                  refine ez_callV 107 [eI (-28)] [] dX7_readOne_104 rfl rfl ok_X3_add in_X3_add (by decide) (by show 6 < 7; omega) ln_X7_113 (by omega) (Nat.le_of_ble_eq_true rfl) (c_add G (d - 1) (-28) M95 g95 (by first | omega | (simp only [List.length_append, List.length_cons, List.length_nil] at *; omega))) (fun r104 M104 q104 => ?_)
                  obtain ⟨rfl, f104, g104⟩ := q104
                  have u104 := (hH.2.1 _ g104.2.1).1
                  have w104 := g104.2.1
                  show Ez G mX7_readOne d 107 [(0, eR 7 0), (1, eI (nI o))] [] M104 _
                  refine ez_goto 147 dX7_readOne_107 (by decide) ?_
                  refine ez_vret dX7_readOne_147 rfl ?_
                  refine ⟨rfl, (((TF.rf.tr f85).tr f95).tr f104), ?_⟩
                  show TG Tk Pl N _ _ _
                  simpa only [List.append_assoc] using g104
            · exfalso; omega
        · exfalso; omega
      · refine ez_aload_n 1 dX7_readOne_0 rfl rfl ?_
        refine ez_getf 4 (eI (M.1 7 0 6)) dX7_readOne_1 rfl fl_X7_39 (by show 0 < 1; omega) rfl ?_
        refine ez_top (nI (Tk k)) hG.2.2.2.1 ?_
        refine ez_sipush 7 dX7_readOne_4 rfl (nI 1000) (by decide) ?_
        refine ez_ncmp_lt 10 32 dX7_readOne_7 rfl (by decide) (by omega) (by omega) (fun h7 => ?_) (fun h7 => ?_)
        · refine ez_aload_n 33 dX7_readOne_32 rfl rfl ?_
          refine ez_getf 36 (eI (M.1 7 0 6)) dX7_readOne_33 rfl fl_X7_39 (by show 0 < 1; omega) rfl ?_
          refine ez_top (nI (Tk k)) hG.2.2.2.1 ?_
          refine ez_bipush 38 dX7_readOne_36 rfl (nI 10) (by decide) ?_
          refine ez_ncmp_lt 41 74 dX7_readOne_38 rfl (by decide) (by omega) (by omega) (fun h38 => ?_) (fun h38 => ?_)
          · exfalso; omega
          · refine ez_aload_n 42 dX7_readOne_41 rfl rfl ?_
            refine ez_getf 45 (eI (M.1 7 0 6)) dX7_readOne_42 rfl fl_X7_39 (by show 0 < 1; omega) rfl ?_
            refine ez_top (nI (Tk k)) hG.2.2.2.1 ?_
            refine ez_bipush 47 dX7_readOne_45 rfl (nI 16) (by decide) ?_
            refine ez_ncmp_ge 50 74 dX7_readOne_47 rfl (by decide) (by omega) (by omega) (fun h47 => ?_) (fun h47 => ?_)
            · refine ez_aload_n 75 dX7_readOne_74 rfl rfl ?_
              refine ez_getf 78 (eI (M.1 7 0 6)) dX7_readOne_75 rfl fl_X7_39 (by show 0 < 1; omega) rfl ?_
              refine ez_top (nI (Tk k)) hG.2.2.2.1 ?_
              refine ez_bipush 80 dX7_readOne_78 rfl (nI 45) (by decide) ?_
              refine ez_ncmp_ne 83 110 dX7_readOne_80 rfl (by decide) (by omega) (by omega) (fun h80 => ?_) (fun h80 => ?_)
              · exfalso; omega
              · refine ez_aload_n 84 dX7_readOne_83 rfl rfl ?_
                refine ez_iload_n 85 dX7_readOne_84 rfl rfl ?_
                refine ez_callV 88 [eI (nI o)] [] dX7_readOne_85 rfl rfl ok_X7_mayOpen in_X7_mayOpen (by decide) (by show 0 < 1; omega) ln_X7_119 (by omega) (Nat.le_of_ble_eq_true rfl) (c_open G (d - 1) o M (by omega) hH hG (by omega) (by omega)) (fun r85 M85 q85 => ?_)
                obtain ⟨rfl, f85, g85⟩ := q85
                have u85 := (hH.2.1 _ g85.2.1).1
                have w85 := g85.2.1
                show Ez G mX7_readOne d 88 [(0, eR 7 0), (1, eI (nI o))] [eI (nI 1)] M85 _
                refine ez_nif_eq 91 147 dX7_readOne_88 rfl (by decide) (by omega) (fun h88 => ?_) (fun h88 => ?_)
                · exact absurd h88 (by decide)
                · refine ez_aload_n 92 dX7_readOne_91 rfl rfl ?_
                  refine ez_iload_n 93 dX7_readOne_92 rfl rfl ?_
                  refine ez_iconst 94 dX7_readOne_93 rfl (nI 1) (by decide) ?_
                  refine ez_iadd 95 dX7_readOne_94 rfl ?_
                  refine ez_top (nI (o + 1)) (nI_add _ _) ?_
                  refine ez_callV 98 [eI (nI (o + 1))] [] dX7_readOne_95 rfl rfl ok_X7_readOne in_X7_readOne (by decide) (by show 0 < 1; omega) ln_X7_128 (by omega) (Nat.le_of_ble_eq_true rfl) (iO (o + 1) (k + 1) L _ _ M85 (d - 1) (by omega) (by omega) (by first | omega | (simp only [List.length_append, List.length_cons, List.length_nil] at *; omega)) g85 h1) (fun r95 M95 q95 => ?_)
                  obtain ⟨rfl, f95, g95⟩ := q95
                  show Ez G mX7_readOne d 98 [(0, eR 7 0), (1, eI (nI o))] [] M95 _
                  refine ez_aload_n 99 dX7_readOne_98 rfl rfl ?_
                  refine ez_getf 102 (eR 3 6) dX7_readOne_99 rfl fl_X7_25 (by show 0 < 1; omega) rfl ?_
                  refine ez_bipush 104 dX7_readOne_102 rfl (-28) (by decide) ?_
                  refine ez_callV 107 [eI (-28)] [] dX7_readOne_104 rfl rfl ok_X3_add in_X3_add (by decide) (by show 6 < 7; omega) ln_X7_113 (by omega) (Nat.le_of_ble_eq_true rfl) (c_addb G (d - 1) (Pl e) (-28) M95 g95) (fun r104 M104 q104 => ?_)
                  obtain ⟨rfl, f104, g104⟩ := q104
                  show Ez G mX7_readOne d 107 [(0, eR 7 0), (1, eI (nI o))] [] M104 _
                  refine ez_goto 147 dX7_readOne_107 (by decide) ?_
                  refine ez_vret dX7_readOne_147 rfl ?_
                  exact ⟨rfl, (((TF.rf.tr f85).tr f95).tr f104), g104⟩
            · exfalso; omega
        · exfalso; omega
  rw [if_neg t45] at h
  by_cases t40 : Tk k = 40
  · rw [if_pos t40] at h
    have hlt := hH.2.2 k hG.2.1 (by omega)
    by_cases o5 : 5 ≤ o
    · rw [if_pos o5] at h
      cases h
      refine ez_aload_n 1 dX7_readOne_0 rfl rfl ?_
      refine ez_getf 4 (eI (M.1 7 0 6)) dX7_readOne_1 rfl fl_X7_39 (by show 0 < 1; omega) rfl ?_
      refine ez_top (nI (Tk k)) hG.2.2.2.1 ?_
      refine ez_sipush 7 dX7_readOne_4 rfl (nI 1000) (by decide) ?_
      refine ez_ncmp_lt 10 32 dX7_readOne_7 rfl (by decide) (by omega) (by omega) (fun h7 => ?_) (fun h7 => ?_)
      · refine ez_aload_n 33 dX7_readOne_32 rfl rfl ?_
        refine ez_getf 36 (eI (M.1 7 0 6)) dX7_readOne_33 rfl fl_X7_39 (by show 0 < 1; omega) rfl ?_
        refine ez_top (nI (Tk k)) hG.2.2.2.1 ?_
        refine ez_bipush 38 dX7_readOne_36 rfl (nI 10) (by decide) ?_
        refine ez_ncmp_lt 41 74 dX7_readOne_38 rfl (by decide) (by omega) (by omega) (fun h38 => ?_) (fun h38 => ?_)
        · exfalso; omega
        · refine ez_aload_n 42 dX7_readOne_41 rfl rfl ?_
          refine ez_getf 45 (eI (M.1 7 0 6)) dX7_readOne_42 rfl fl_X7_39 (by show 0 < 1; omega) rfl ?_
          refine ez_top (nI (Tk k)) hG.2.2.2.1 ?_
          refine ez_bipush 47 dX7_readOne_45 rfl (nI 16) (by decide) ?_
          refine ez_ncmp_ge 50 74 dX7_readOne_47 rfl (by decide) (by omega) (by omega) (fun h47 => ?_) (fun h47 => ?_)
          · refine ez_aload_n 75 dX7_readOne_74 rfl rfl ?_
            refine ez_getf 78 (eI (M.1 7 0 6)) dX7_readOne_75 rfl fl_X7_39 (by show 0 < 1; omega) rfl ?_
            refine ez_top (nI (Tk k)) hG.2.2.2.1 ?_
            refine ez_bipush 80 dX7_readOne_78 rfl (nI 45) (by decide) ?_
            refine ez_ncmp_ne 83 110 dX7_readOne_80 rfl (by decide) (by omega) (by omega) (fun h80 => ?_) (fun h80 => ?_)
            · refine ez_aload_n 111 dX7_readOne_110 rfl rfl ?_
              refine ez_getf 114 (eI (M.1 7 0 6)) dX7_readOne_111 rfl fl_X7_39 (by show 0 < 1; omega) rfl ?_
              refine ez_top (nI (Tk k)) hG.2.2.2.1 ?_
              refine ez_bipush 116 dX7_readOne_114 rfl (nI 40) (by decide) ?_
              refine ez_ncmp_ne 119 143 dX7_readOne_116 rfl (by decide) (by omega) (by omega) (fun h116 => ?_) (fun h116 => ?_)
              · exfalso; omega
              · refine ez_aload_n 120 dX7_readOne_119 rfl rfl ?_
                refine ez_iload_n 121 dX7_readOne_120 rfl rfl ?_
                refine ez_callV 124 [eI (nI o)] [] dX7_readOne_121 rfl rfl ok_X7_mayOpen in_X7_mayOpen (by decide) (by show 0 < 1; omega) ln_X7_119 (by omega) (Nat.le_of_ble_eq_true rfl) (c_opn G (d - 1) o M (by omega) hH hG (by omega) (by omega)) (fun r121 M121 q121 => ?_)
                obtain ⟨rfl, f121, g121⟩ := q121
                show Ez G mX7_readOne d 124 [(0, eR 7 0), (1, eI (nI o))] [eI (nI 0)] M121 _
                refine ez_nif_eq 127 147 dX7_readOne_124 rfl (by decide) (by omega) (fun h124 => ?_) (fun h124 => ?_)
                · refine ez_vret dX7_readOne_147 rfl ?_
                  exact ⟨rfl, (TF.rf.tr f121), g121⟩
                · exact absurd h124 (by decide)
            · exfalso; omega
          · exfalso; omega
      · exfalso; omega
    · rw [if_neg o5] at h
      rcases ep_bd_some h with ⟨k1, c1, v1, h1, h2⟩ | ⟨e, h1, rfl⟩
      · obtain ⟨p1, p2, p3⟩ := ep_pz_pk hH.2.2 n _ _ _ _ _ _ (show k + 1 ≤ N from hlt) (Or.inr (Or.inr (Or.inr (Or.inr rfl)))) h1
        simp only [List.length_nil] at p3
        by_cases t41 : Tk k1 = 41
        · rw [if_pos t41] at h2
          have hl1 := hH.2.2 k1 p2 (by omega)
          cases h2
          refine ez_aload_n 1 dX7_readOne_0 rfl rfl ?_
          refine ez_getf 4 (eI (M.1 7 0 6)) dX7_readOne_1 rfl fl_X7_39 (by show 0 < 1; omega) rfl ?_
          refine ez_top (nI (Tk k)) hG.2.2.2.1 ?_
          refine ez_sipush 7 dX7_readOne_4 rfl (nI 1000) (by decide) ?_
          refine ez_ncmp_lt 10 32 dX7_readOne_7 rfl (by decide) (by omega) (by omega) (fun h7 => ?_) (fun h7 => ?_)
          · refine ez_aload_n 33 dX7_readOne_32 rfl rfl ?_
            refine ez_getf 36 (eI (M.1 7 0 6)) dX7_readOne_33 rfl fl_X7_39 (by show 0 < 1; omega) rfl ?_
            refine ez_top (nI (Tk k)) hG.2.2.2.1 ?_
            refine ez_bipush 38 dX7_readOne_36 rfl (nI 10) (by decide) ?_
            refine ez_ncmp_lt 41 74 dX7_readOne_38 rfl (by decide) (by omega) (by omega) (fun h38 => ?_) (fun h38 => ?_)
            · exfalso; omega
            · refine ez_aload_n 42 dX7_readOne_41 rfl rfl ?_
              refine ez_getf 45 (eI (M.1 7 0 6)) dX7_readOne_42 rfl fl_X7_39 (by show 0 < 1; omega) rfl ?_
              refine ez_top (nI (Tk k)) hG.2.2.2.1 ?_
              refine ez_bipush 47 dX7_readOne_45 rfl (nI 16) (by decide) ?_
              refine ez_ncmp_ge 50 74 dX7_readOne_47 rfl (by decide) (by omega) (by omega) (fun h47 => ?_) (fun h47 => ?_)
              · refine ez_aload_n 75 dX7_readOne_74 rfl rfl ?_
                refine ez_getf 78 (eI (M.1 7 0 6)) dX7_readOne_75 rfl fl_X7_39 (by show 0 < 1; omega) rfl ?_
                refine ez_top (nI (Tk k)) hG.2.2.2.1 ?_
                refine ez_bipush 80 dX7_readOne_78 rfl (nI 45) (by decide) ?_
                refine ez_ncmp_ne 83 110 dX7_readOne_80 rfl (by decide) (by omega) (by omega) (fun h80 => ?_) (fun h80 => ?_)
                · refine ez_aload_n 111 dX7_readOne_110 rfl rfl ?_
                  refine ez_getf 114 (eI (M.1 7 0 6)) dX7_readOne_111 rfl fl_X7_39 (by show 0 < 1; omega) rfl ?_
                  refine ez_top (nI (Tk k)) hG.2.2.2.1 ?_
                  refine ez_bipush 116 dX7_readOne_114 rfl (nI 40) (by decide) ?_
                  refine ez_ncmp_ne 119 143 dX7_readOne_116 rfl (by decide) (by omega) (by omega) (fun h116 => ?_) (fun h116 => ?_)
                  · exfalso; omega
                  · refine ez_aload_n 120 dX7_readOne_119 rfl rfl ?_
                    refine ez_iload_n 121 dX7_readOne_120 rfl rfl ?_
                    refine ez_callV 124 [eI (nI o)] [] dX7_readOne_121 rfl rfl ok_X7_mayOpen in_X7_mayOpen (by decide) (by show 0 < 1; omega) ln_X7_119 (by omega) (Nat.le_of_ble_eq_true rfl) (c_open G (d - 1) o M (by omega) hH hG (by omega) (by omega)) (fun r121 M121 q121 => ?_)
                    obtain ⟨rfl, f121, g121⟩ := q121
                    have u121 := (hH.2.1 _ g121.2.1).1
                    have w121 := g121.2.1
                    show Ez G mX7_readOne d 124 [(0, eR 7 0), (1, eI (nI o))] [eI (nI 1)] M121 _
                    refine ez_nif_eq 127 147 dX7_readOne_124 rfl (by decide) (by omega) (fun h124 => ?_) (fun h124 => ?_)
                    · exact absurd h124 (by decide)
                    · refine ez_aload_n 128 dX7_readOne_127 rfl rfl ?_
                      refine ez_iload_n 129 dX7_readOne_128 rfl rfl ?_
                      refine ez_iconst 130 dX7_readOne_129 rfl (nI 1) (by decide) ?_
                      refine ez_iadd 131 dX7_readOne_130 rfl ?_
                      refine ez_top (nI (o + 1)) (nI_add _ _) ?_
                      refine ez_callV 134 [eI (nI (o + 1))] [] dX7_readOne_131 rfl rfl ok_X7_readOr in_X7_readOr (by decide) (by show 0 < 1; omega) ln_X7_50 (by omega) (Nat.le_of_ble_eq_true rfl) (iR (o + 1) (k + 1) L _ _ M121 (d - 1) (by omega) (by omega) (by first | omega | (simp only [List.length_append, List.length_cons, List.length_nil] at *; omega)) g121 h1) (fun r131 M131 q131 => ?_)
                      obtain ⟨rfl, f131, g131⟩ := q131
                      have g131 : TG Tk Pl N k1 (L ++ c1) M131 := g131
                      have u131 := (hH.2.1 _ g131.2.1).1
                      have w131 := g131.2.1
                      show Ez G mX7_readOne d 134 [(0, eR 7 0), (1, eI (nI o))] [] M131 _
                      refine ez_aload_n 135 dX7_readOne_134 rfl rfl ?_
                      refine ez_bipush 137 dX7_readOne_135 rfl (nI 41) (by decide) ?_
                      refine ez_callV 140 [eI (nI 41)] [] dX7_readOne_137 rfl rfl ok_X7_expect in_X7_expect (by decide) (by show 0 < 1; omega) ln_X7_46 (by omega) (Nat.le_of_ble_eq_true rfl) (c_exp G (d - 1) 41 M131 (by omega) hH g131 (by omega) t41) (fun r137 M137 q137 => ?_)
                      obtain ⟨rfl, f137, g137⟩ := q137
                      have u137 := (hH.2.1 _ g137.2.1).1
                      have w137 := g137.2.1
                      show Ez G mX7_readOne d 140 [(0, eR 7 0), (1, eI (nI o))] [] M137 _
                      refine ez_goto 147 dX7_readOne_140 (by decide) ?_
                      refine ez_vret dX7_readOne_147 rfl ?_
                      refine ⟨rfl, (((TF.rf.tr f121).tr f131).tr f137), ?_⟩
                      show TG Tk Pl N _ _ _
                      simpa only [List.append_assoc] using g137
                · exfalso; omega
              · exfalso; omega
          · exfalso; omega
        · rw [if_neg t41] at h2
          cases h2
          refine ez_aload_n 1 dX7_readOne_0 rfl rfl ?_
          refine ez_getf 4 (eI (M.1 7 0 6)) dX7_readOne_1 rfl fl_X7_39 (by show 0 < 1; omega) rfl ?_
          refine ez_top (nI (Tk k)) hG.2.2.2.1 ?_
          refine ez_sipush 7 dX7_readOne_4 rfl (nI 1000) (by decide) ?_
          refine ez_ncmp_lt 10 32 dX7_readOne_7 rfl (by decide) (by omega) (by omega) (fun h7 => ?_) (fun h7 => ?_)
          · refine ez_aload_n 33 dX7_readOne_32 rfl rfl ?_
            refine ez_getf 36 (eI (M.1 7 0 6)) dX7_readOne_33 rfl fl_X7_39 (by show 0 < 1; omega) rfl ?_
            refine ez_top (nI (Tk k)) hG.2.2.2.1 ?_
            refine ez_bipush 38 dX7_readOne_36 rfl (nI 10) (by decide) ?_
            refine ez_ncmp_lt 41 74 dX7_readOne_38 rfl (by decide) (by omega) (by omega) (fun h38 => ?_) (fun h38 => ?_)
            · exfalso; omega
            · refine ez_aload_n 42 dX7_readOne_41 rfl rfl ?_
              refine ez_getf 45 (eI (M.1 7 0 6)) dX7_readOne_42 rfl fl_X7_39 (by show 0 < 1; omega) rfl ?_
              refine ez_top (nI (Tk k)) hG.2.2.2.1 ?_
              refine ez_bipush 47 dX7_readOne_45 rfl (nI 16) (by decide) ?_
              refine ez_ncmp_ge 50 74 dX7_readOne_47 rfl (by decide) (by omega) (by omega) (fun h47 => ?_) (fun h47 => ?_)
              · refine ez_aload_n 75 dX7_readOne_74 rfl rfl ?_
                refine ez_getf 78 (eI (M.1 7 0 6)) dX7_readOne_75 rfl fl_X7_39 (by show 0 < 1; omega) rfl ?_
                refine ez_top (nI (Tk k)) hG.2.2.2.1 ?_
                refine ez_bipush 80 dX7_readOne_78 rfl (nI 45) (by decide) ?_
                refine ez_ncmp_ne 83 110 dX7_readOne_80 rfl (by decide) (by omega) (by omega) (fun h80 => ?_) (fun h80 => ?_)
                · refine ez_aload_n 111 dX7_readOne_110 rfl rfl ?_
                  refine ez_getf 114 (eI (M.1 7 0 6)) dX7_readOne_111 rfl fl_X7_39 (by show 0 < 1; omega) rfl ?_
                  refine ez_top (nI (Tk k)) hG.2.2.2.1 ?_
                  refine ez_bipush 116 dX7_readOne_114 rfl (nI 40) (by decide) ?_
                  refine ez_ncmp_ne 119 143 dX7_readOne_116 rfl (by decide) (by omega) (by omega) (fun h116 => ?_) (fun h116 => ?_)
                  · exfalso; omega
                  · refine ez_aload_n 120 dX7_readOne_119 rfl rfl ?_
                    refine ez_iload_n 121 dX7_readOne_120 rfl rfl ?_
                    refine ez_callV 124 [eI (nI o)] [] dX7_readOne_121 rfl rfl ok_X7_mayOpen in_X7_mayOpen (by decide) (by show 0 < 1; omega) ln_X7_119 (by omega) (Nat.le_of_ble_eq_true rfl) (c_open G (d - 1) o M (by omega) hH hG (by omega) (by omega)) (fun r121 M121 q121 => ?_)
                    obtain ⟨rfl, f121, g121⟩ := q121
                    have u121 := (hH.2.1 _ g121.2.1).1
                    have w121 := g121.2.1
                    show Ez G mX7_readOne d 124 [(0, eR 7 0), (1, eI (nI o))] [eI (nI 1)] M121 _
                    refine ez_nif_eq 127 147 dX7_readOne_124 rfl (by decide) (by omega) (fun h124 => ?_) (fun h124 => ?_)
                    · exact absurd h124 (by decide)
                    · refine ez_aload_n 128 dX7_readOne_127 rfl rfl ?_
                      refine ez_iload_n 129 dX7_readOne_128 rfl rfl ?_
                      refine ez_iconst 130 dX7_readOne_129 rfl (nI 1) (by decide) ?_
                      refine ez_iadd 131 dX7_readOne_130 rfl ?_
                      refine ez_top (nI (o + 1)) (nI_add _ _) ?_
                      refine ez_callV 134 [eI (nI (o + 1))] [] dX7_readOne_131 rfl rfl ok_X7_readOr in_X7_readOr (by decide) (by show 0 < 1; omega) ln_X7_50 (by omega) (Nat.le_of_ble_eq_true rfl) (iR (o + 1) (k + 1) L _ _ M121 (d - 1) (by omega) (by omega) (by first | omega | (simp only [List.length_append, List.length_cons, List.length_nil] at *; omega)) g121 h1) (fun r131 M131 q131 => ?_)
                      obtain ⟨rfl, f131, g131⟩ := q131
                      have g131 : TG Tk Pl N k1 (L ++ c1) M131 := g131
                      have u131 := (hH.2.1 _ g131.2.1).1
                      have w131 := g131.2.1
                      show Ez G mX7_readOne d 134 [(0, eR 7 0), (1, eI (nI o))] [] M131 _
                      refine ez_aload_n 135 dX7_readOne_134 rfl rfl ?_
                      refine ez_bipush 137 dX7_readOne_135 rfl (nI 41) (by decide) ?_
                      refine ez_callV 140 [eI (nI 41)] [] dX7_readOne_137 rfl rfl ok_X7_expect in_X7_expect (by decide) (by show 0 < 1; omega) ln_X7_46 (by omega) (Nat.le_of_ble_eq_true rfl) (c_expn G (d - 1) 41 M131 (by omega) hH g131 (by omega) t41) (fun r137 M137 q137 => ?_)
                      obtain ⟨rfl, f137, g137⟩ := q137
                      show Ez G mX7_readOne d 140 [(0, eR 7 0), (1, eI (nI o))] [] M137 _
                      refine ez_goto 147 dX7_readOne_140 (by decide) ?_
                      refine ez_vret dX7_readOne_147 rfl ?_
                      exact ⟨rfl, (((TF.rf.tr f121).tr f131).tr f137), g137⟩
                · exfalso; omega
              · exfalso; omega
          · exfalso; omega
      · have qe := (ep_pz_pk hH.2.2 n _ _ _ _ _ _ (show k + 1 ≤ N from hlt) (Or.inr (Or.inr (Or.inr (Or.inr rfl)))) h1).2
        refine ez_aload_n 1 dX7_readOne_0 rfl rfl ?_
        refine ez_getf 4 (eI (M.1 7 0 6)) dX7_readOne_1 rfl fl_X7_39 (by show 0 < 1; omega) rfl ?_
        refine ez_top (nI (Tk k)) hG.2.2.2.1 ?_
        refine ez_sipush 7 dX7_readOne_4 rfl (nI 1000) (by decide) ?_
        refine ez_ncmp_lt 10 32 dX7_readOne_7 rfl (by decide) (by omega) (by omega) (fun h7 => ?_) (fun h7 => ?_)
        · refine ez_aload_n 33 dX7_readOne_32 rfl rfl ?_
          refine ez_getf 36 (eI (M.1 7 0 6)) dX7_readOne_33 rfl fl_X7_39 (by show 0 < 1; omega) rfl ?_
          refine ez_top (nI (Tk k)) hG.2.2.2.1 ?_
          refine ez_bipush 38 dX7_readOne_36 rfl (nI 10) (by decide) ?_
          refine ez_ncmp_lt 41 74 dX7_readOne_38 rfl (by decide) (by omega) (by omega) (fun h38 => ?_) (fun h38 => ?_)
          · exfalso; omega
          · refine ez_aload_n 42 dX7_readOne_41 rfl rfl ?_
            refine ez_getf 45 (eI (M.1 7 0 6)) dX7_readOne_42 rfl fl_X7_39 (by show 0 < 1; omega) rfl ?_
            refine ez_top (nI (Tk k)) hG.2.2.2.1 ?_
            refine ez_bipush 47 dX7_readOne_45 rfl (nI 16) (by decide) ?_
            refine ez_ncmp_ge 50 74 dX7_readOne_47 rfl (by decide) (by omega) (by omega) (fun h47 => ?_) (fun h47 => ?_)
            · refine ez_aload_n 75 dX7_readOne_74 rfl rfl ?_
              refine ez_getf 78 (eI (M.1 7 0 6)) dX7_readOne_75 rfl fl_X7_39 (by show 0 < 1; omega) rfl ?_
              refine ez_top (nI (Tk k)) hG.2.2.2.1 ?_
              refine ez_bipush 80 dX7_readOne_78 rfl (nI 45) (by decide) ?_
              refine ez_ncmp_ne 83 110 dX7_readOne_80 rfl (by decide) (by omega) (by omega) (fun h80 => ?_) (fun h80 => ?_)
              · refine ez_aload_n 111 dX7_readOne_110 rfl rfl ?_
                refine ez_getf 114 (eI (M.1 7 0 6)) dX7_readOne_111 rfl fl_X7_39 (by show 0 < 1; omega) rfl ?_
                refine ez_top (nI (Tk k)) hG.2.2.2.1 ?_
                refine ez_bipush 116 dX7_readOne_114 rfl (nI 40) (by decide) ?_
                refine ez_ncmp_ne 119 143 dX7_readOne_116 rfl (by decide) (by omega) (by omega) (fun h116 => ?_) (fun h116 => ?_)
                · exfalso; omega
                · refine ez_aload_n 120 dX7_readOne_119 rfl rfl ?_
                  refine ez_iload_n 121 dX7_readOne_120 rfl rfl ?_
                  refine ez_callV 124 [eI (nI o)] [] dX7_readOne_121 rfl rfl ok_X7_mayOpen in_X7_mayOpen (by decide) (by show 0 < 1; omega) ln_X7_119 (by omega) (Nat.le_of_ble_eq_true rfl) (c_open G (d - 1) o M (by omega) hH hG (by omega) (by omega)) (fun r121 M121 q121 => ?_)
                  obtain ⟨rfl, f121, g121⟩ := q121
                  have u121 := (hH.2.1 _ g121.2.1).1
                  have w121 := g121.2.1
                  show Ez G mX7_readOne d 124 [(0, eR 7 0), (1, eI (nI o))] [eI (nI 1)] M121 _
                  refine ez_nif_eq 127 147 dX7_readOne_124 rfl (by decide) (by omega) (fun h124 => ?_) (fun h124 => ?_)
                  · exact absurd h124 (by decide)
                  · refine ez_aload_n 128 dX7_readOne_127 rfl rfl ?_
                    refine ez_iload_n 129 dX7_readOne_128 rfl rfl ?_
                    refine ez_iconst 130 dX7_readOne_129 rfl (nI 1) (by decide) ?_
                    refine ez_iadd 131 dX7_readOne_130 rfl ?_
                    refine ez_top (nI (o + 1)) (nI_add _ _) ?_
                    refine ez_callV 134 [eI (nI (o + 1))] [] dX7_readOne_131 rfl rfl ok_X7_readOr in_X7_readOr (by decide) (by show 0 < 1; omega) ln_X7_50 (by omega) (Nat.le_of_ble_eq_true rfl) (iR (o + 1) (k + 1) L _ _ M121 (d - 1) (by omega) (by omega) (by first | omega | (simp only [List.length_append, List.length_cons, List.length_nil] at *; omega)) g121 h1) (fun r131 M131 q131 => ?_)
                    obtain ⟨rfl, f131, g131⟩ := q131
                    show Ez G mX7_readOne d 134 [(0, eR 7 0), (1, eI (nI o))] [] M131 _
                    refine ez_aload_n 135 dX7_readOne_134 rfl rfl ?_
                    refine ez_bipush 137 dX7_readOne_135 rfl (nI 41) (by decide) ?_
                    refine ez_callV 140 [eI (nI 41)] [] dX7_readOne_137 rfl rfl ok_X7_expect in_X7_expect (by decide) (by show 0 < 1; omega) ln_X7_46 (by omega) (Nat.le_of_ble_eq_true rfl) (c_expb G (d - 1) 41 M131 (by omega) (by have := (hH.2.1 _ qe).2; omega) g131 (by omega) (by omega)) (fun r137 M137 q137 => ?_)
                    obtain ⟨rfl, f137, g137⟩ := q137
                    show Ez G mX7_readOne d 140 [(0, eR 7 0), (1, eI (nI o))] [] M137 _
                    refine ez_goto 147 dX7_readOne_140 (by decide) ?_
                    refine ez_vret dX7_readOne_147 rfl ?_
                    exact ⟨rfl, (((TF.rf.tr f121).tr f131).tr f137), g137⟩
              · exfalso; omega
            · exfalso; omega
        · exfalso; omega
  rw [if_neg t40] at h
  cases h
  refine ez_aload_n 1 dX7_readOne_0 rfl rfl ?_
  refine ez_getf 4 (eI (M.1 7 0 6)) dX7_readOne_1 rfl fl_X7_39 (by show 0 < 1; omega) rfl ?_
  refine ez_top (nI (Tk k)) hG.2.2.2.1 ?_
  refine ez_sipush 7 dX7_readOne_4 rfl (nI 1000) (by decide) ?_
  refine ez_ncmp_lt 10 32 dX7_readOne_7 rfl (by decide) (by omega) (by omega) (fun h7 => ?_) (fun h7 => ?_)
  · refine ez_aload_n 33 dX7_readOne_32 rfl rfl ?_
    refine ez_getf 36 (eI (M.1 7 0 6)) dX7_readOne_33 rfl fl_X7_39 (by show 0 < 1; omega) rfl ?_
    refine ez_top (nI (Tk k)) hG.2.2.2.1 ?_
    refine ez_bipush 38 dX7_readOne_36 rfl (nI 10) (by decide) ?_
    refine ez_ncmp_lt 41 74 dX7_readOne_38 rfl (by decide) (by omega) (by omega) (fun h38 => ?_) (fun h38 => ?_)
    · refine ez_aload_n 75 dX7_readOne_74 rfl rfl ?_
      refine ez_getf 78 (eI (M.1 7 0 6)) dX7_readOne_75 rfl fl_X7_39 (by show 0 < 1; omega) rfl ?_
      refine ez_top (nI (Tk k)) hG.2.2.2.1 ?_
      refine ez_bipush 80 dX7_readOne_78 rfl (nI 45) (by decide) ?_
      refine ez_ncmp_ne 83 110 dX7_readOne_80 rfl (by decide) (by omega) (by omega) (fun h80 => ?_) (fun h80 => ?_)
      · refine ez_aload_n 111 dX7_readOne_110 rfl rfl ?_
        refine ez_getf 114 (eI (M.1 7 0 6)) dX7_readOne_111 rfl fl_X7_39 (by show 0 < 1; omega) rfl ?_
        refine ez_top (nI (Tk k)) hG.2.2.2.1 ?_
        refine ez_bipush 116 dX7_readOne_114 rfl (nI 40) (by decide) ?_
        refine ez_ncmp_ne 119 143 dX7_readOne_116 rfl (by decide) (by omega) (by omega) (fun h116 => ?_) (fun h116 => ?_)
        · refine ez_aload_n 144 dX7_readOne_143 rfl rfl ?_
          refine ez_callV 147 [] [] dX7_readOne_144 rfl rfl ok_X7_refuse in_X7_refuse (by decide) (by show 0 < 1; omega) ln_X7_56 (by omega) (Nat.le_of_ble_eq_true rfl) (c_ref G (d - 1) M (by omega) hH hG) (fun r144 M144 q144 => ?_)
          obtain ⟨rfl, f144, g144⟩ := q144
          show Ez G mX7_readOne d 147 [(0, eR 7 0), (1, eI (nI o))] [] M144 _
          refine ez_vret dX7_readOne_147 rfl ?_
          exact ⟨rfl, (TF.rf.tr f144), g144⟩
        · exfalso; omega
      · exfalso; omega
    · refine ez_aload_n 42 dX7_readOne_41 rfl rfl ?_
      refine ez_getf 45 (eI (M.1 7 0 6)) dX7_readOne_42 rfl fl_X7_39 (by show 0 < 1; omega) rfl ?_
      refine ez_top (nI (Tk k)) hG.2.2.2.1 ?_
      refine ez_bipush 47 dX7_readOne_45 rfl (nI 16) (by decide) ?_
      refine ez_ncmp_ge 50 74 dX7_readOne_47 rfl (by decide) (by omega) (by omega) (fun h47 => ?_) (fun h47 => ?_)
      · refine ez_aload_n 75 dX7_readOne_74 rfl rfl ?_
        refine ez_getf 78 (eI (M.1 7 0 6)) dX7_readOne_75 rfl fl_X7_39 (by show 0 < 1; omega) rfl ?_
        refine ez_top (nI (Tk k)) hG.2.2.2.1 ?_
        refine ez_bipush 80 dX7_readOne_78 rfl (nI 45) (by decide) ?_
        refine ez_ncmp_ne 83 110 dX7_readOne_80 rfl (by decide) (by omega) (by omega) (fun h80 => ?_) (fun h80 => ?_)
        · refine ez_aload_n 111 dX7_readOne_110 rfl rfl ?_
          refine ez_getf 114 (eI (M.1 7 0 6)) dX7_readOne_111 rfl fl_X7_39 (by show 0 < 1; omega) rfl ?_
          refine ez_top (nI (Tk k)) hG.2.2.2.1 ?_
          refine ez_bipush 116 dX7_readOne_114 rfl (nI 40) (by decide) ?_
          refine ez_ncmp_ne 119 143 dX7_readOne_116 rfl (by decide) (by omega) (by omega) (fun h116 => ?_) (fun h116 => ?_)
          · refine ez_aload_n 144 dX7_readOne_143 rfl rfl ?_
            refine ez_callV 147 [] [] dX7_readOne_144 rfl rfl ok_X7_refuse in_X7_refuse (by decide) (by show 0 < 1; omega) ln_X7_56 (by omega) (Nat.le_of_ble_eq_true rfl) (c_ref G (d - 1) M (by omega) hH hG) (fun r144 M144 q144 => ?_)
            obtain ⟨rfl, f144, g144⟩ := q144
            show Ez G mX7_readOne d 147 [(0, eR 7 0), (1, eI (nI o))] [] M144 _
            refine ez_vret dX7_readOne_147 rfl ?_
            exact ⟨rfl, (TF.rf.tr f144), g144⟩
          · exfalso; omega
        · exfalso; omega
      · exfalso; omega
  · exfalso; omega
/-- all readers, for every fuel -/
theorem c_pz (G : EzG) {Tk Pl : Nat → Nat} {N : Nat} (hH : HT Tk Pl N) : ∀ n : Nat, (PzM G Tk Pl N mX7_readOr 7 0 n ∧ PzM G Tk Pl N mX7_readAnd 6 2 n ∧ PzM G Tk Pl N mX7_readNot 5 4 n ∧ PzM G Tk Pl N mX7_readSum 4 5 n ∧ PzM G Tk Pl N mX7_readTerm 3 7 n ∧ PzM G Tk Pl N mX7_readOne 2 9 n) ∧ (PzT G Tk Pl N mX7_readOr 7 1 n ∧ PzT G Tk Pl N mX7_readAnd 6 3 n ∧ PzT G Tk Pl N mX7_readSum 4 6 n ∧ PzT G Tk Pl N mX7_readTerm 3 8 n)
  | 0 => ⟨⟨fun _ _ _ _ _ _ _ _ _ _ _ h => by (cases h), fun _ _ _ _ _ _ _ _ _ _ _ h => by (cases h), fun _ _ _ _ _ _ _ _ _ _ _ h => by (cases h), fun _ _ _ _ _ _ _ _ _ _ _ h => by (cases h), fun _ _ _ _ _ _ _ _ _ _ _ h => by (cases h), fun _ _ _ _ _ _ _ _ _ _ _ h => by (cases h)⟩, ⟨fun _ _ _ _ _ _ _ _ _ _ _ _ _ _ _ _ h => by (cases h), fun _ _ _ _ _ _ _ _ _ _ _ _ _ _ _ _ h => by (cases h), fun _ _ _ _ _ _ _ _ _ _ _ _ _ _ _ _ h => by (cases h), fun _ _ _ _ _ _ _ _ _ _ _ _ _ _ _ _ h => by (cases h)⟩⟩
  | n + 1 => by
    obtain ⟨⟨i0, i2, i4, i5, i7, i9⟩, ⟨i1, i3, i6, i8⟩⟩ := c_pz G hH n
    exact ⟨⟨sp_readOr G hH i2 i1, sp_readAnd G hH i4 i3, sp_readNot G hH i4 i5, sp_readSum G hH i7 i6, sp_readTerm G hH i9 i8, sp_readOne G hH i9 i0⟩, ⟨st_readOrT G hH i2 i1, st_readAndT G hH i4 i3, st_readSumT G hH i7 i6, st_readTermT G hH i9 i8⟩⟩
