/-! the model's readers: not, one; all for every fuel -/
set_option maxRecDepth 20000 in
theorem mp_not (g : EzH) {Tk Pl En : Nat → Nat} {N fr n : Nat} {b : Nat → Nat} {nm : Nat → Int32} {z : Nat} (hH : HT Tk Pl N) (hN : MNx g Tk Pl En N fr n b nm) (iN : PmM g Tk Pl En N fr n b nm mX12_not 8 4 z) (iS : PmM g Tk Pl En N fr n b nm mX12_added 7 5 z) : PmM g Tk Pl En N fr n b nm mX12_not 8 4 (z + 1) := by
  intro o k v x M d ho hd hG h
  rw [ep_pz_4] at h
  have u0 := (hH.2.1 _ hG.2.1).1
  have w0 := hG.2.1
  refine Ezc.of (by decide +kernel) (Nat.le_of_ble_eq_true rfl) ?_
  show Ez (true, g) mX12_not d 0 [(0, eR 12 0)] [] M _
  by_cases t21 : Tk k = 21
  · rw [if_pos t21] at h
    have hlt := hH.2.2 k hG.2.1 (by omega)
    by_cases o5 : 5 ≤ o
    · rw [if_pos o5] at h
      cases h
      refine ez_aload_n 1 dX12_not_0 rfl rfl ?_
      refine ez_ldc2 4 dX12_not_1 rfl 10631 cn_X12_336 ?_
      refine ez_callV 7 [eL 10631] [] dX12_not_4 rfl rfl ok_X12_isWord in_X12_isWord (by decide) (by show 0 < 1; omega) ln_X12_301 (by omega) (Nat.le_of_ble_eq_true rfl) (c_iw_y g (d - 1) 21 10631 M hG (by decide) rfl (by omega)) (fun r4 M4 q4 => ?_)
      obtain ⟨rfl, e4⟩ := q4
      rw [e4]
      show Ez (true, g) mX12_not d 7 [(0, eR 12 0)] [eI (nI 1)] M _
      refine ez_nif_eq 10 44 dX12_not_7 rfl (by decide) (by omega) (fun h7 => ?_) (fun h7 => ?_)
      · exact absurd h7 (by decide)
      · refine ez_aload_n 11 dX12_not_10 rfl rfl ?_
        refine ez_callV 14 [] [] dX12_not_11 rfl rfl ok_X12_opens in_X12_opens (by decide) (by show 0 < 1; omega) ln_X12_318 (by omega) (Nat.le_of_ble_eq_true rfl) (c_opensn g (d - 1) M (by omega) hH hG (by omega)) (fun r11 M11 q11 => ?_)
        obtain ⟨rfl, f11, g11⟩ := q11
        show Ez (true, g) mX12_not d 14 [(0, eR 12 0)] [eI (nI 0)] M11 _
        refine ez_nif_ne 17 19 dX12_not_14 rfl (by decide) (by omega) (fun h14 => ?_) (fun h14 => ?_)
        · exact absurd h14 (by decide)
        · refine ez_iconst 18 dX12_not_17 rfl (nI 0) (by decide) ?_
          refine ez_iret .int dX12_not_18 rfl rfl ?_
          exact ⟨(MF.rf.tr f11), ⟨_, rfl⟩, g11⟩
    · rw [if_neg o5] at h
      rcases ep_bd_some h with ⟨k1, c1, v1, h1, h2⟩ | ⟨e, h1, rfl⟩
      · cases h2
        refine ez_aload_n 1 dX12_not_0 rfl rfl ?_
        refine ez_ldc2 4 dX12_not_1 rfl 10631 cn_X12_336 ?_
        refine ez_callV 7 [eL 10631] [] dX12_not_4 rfl rfl ok_X12_isWord in_X12_isWord (by decide) (by show 0 < 1; omega) ln_X12_301 (by omega) (Nat.le_of_ble_eq_true rfl) (c_iw_y g (d - 1) 21 10631 M hG (by decide) rfl (by omega)) (fun r4 M4 q4 => ?_)
        obtain ⟨rfl, e4⟩ := q4
        rw [e4]
        show Ez (true, g) mX12_not d 7 [(0, eR 12 0)] [eI (nI 1)] M _
        refine ez_nif_eq 10 44 dX12_not_7 rfl (by decide) (by omega) (fun h7 => ?_) (fun h7 => ?_)
        · exact absurd h7 (by decide)
        · refine ez_aload_n 11 dX12_not_10 rfl rfl ?_
          refine ez_callV 14 [] [] dX12_not_11 rfl rfl ok_X12_opens in_X12_opens (by decide) (by show 0 < 1; omega) ln_X12_318 (by omega) (Nat.le_of_ble_eq_true rfl) (c_opens g (d - 1) M (by omega) hH hN hG (by omega) (by omega)) (fun r11 M11 q11 => ?_)
          obtain ⟨rfl, f11, g11⟩ := q11
          have u11 := (hH.2.1 _ g11.2.1).1
          have w11 := g11.2.1
          show Ez (true, g) mX12_not d 14 [(0, eR 12 0)] [eI (nI 1)] M11 _
          refine ez_nif_ne 17 19 dX12_not_14 rfl (by decide) (by omega) (fun h14 => ?_) (fun h14 => ?_)
          · refine ez_aload_n 20 dX12_not_19 rfl rfl ?_
            refine ez_callV 23 [] [] dX12_not_20 rfl rfl ok_X12_not in_X12_not (by decide) (by show 0 < 1; omega) ln_X12_338 (by omega) (Nat.le_of_ble_eq_true rfl) (iN (o + 1) (k + 1) _ _ M11 (d - 1) (by omega) (by omega) g11 h1) (fun r20 M20 q20 => ?_)
            obtain ⟨f20, rfl, g20⟩ := q20
            have g20 : MG Tk Pl En N fr n b nm (o + 1) k1 M20 := g20
            have u20 := (hH.2.1 _ g20.2.1).1
            have w20 := g20.2.1
            show Ez (true, g) mX12_not d 23 [(0, eR 12 0)] [eI (v1 nm)] M20 _
            refine ez_istore_n 24 [(1, eI (v1 nm)), (0, eR 12 0)] dX12_not_23 rfl (by decide) rfl ?_
            refine ez_aload_n 25 dX12_not_24 rfl rfl ?_
            refine ez_dup 26 dX12_not_25 rfl rfl ?_
            refine ez_getf 29 (eI (M20.1 12 0 27)) dX12_not_26 rfl fl_X12_290 (by show 0 < 1; omega) rfl ?_
            refine ez_top (nI (o + 1)) g20.2.2.2.2.2.1 ?_
            refine ez_iconst 30 dX12_not_29 rfl (nI 1) (by decide) ?_
            refine ez_isub 31 dX12_not_30 rfl ?_
            refine ez_top (nI o) (by rw [pk_sub (by omega)]; rfl) ?_
            refine ez_putf 34 .int dX12_not_31 rfl fp_X12_290 (by show 0 < 1; omega) rfl (by decide) rfl rfl ?_
            have g34 := MG_op (o' := o) g20
            have f34 : MF M20 (ez_st M20 12 0 27 (nI o)) := MF.s (by decide)
            generalize ez_st M20 12 0 27 (nI o) = M34 at g34 f34 ⊢
            have u34 := (hH.2.1 _ g34.2.1).1
            refine ez_iload_n 35 dX12_not_34 rfl rfl ?_
            refine ez_if_ne 38 42 dX12_not_35 rfl (by decide) (fun h35 => ?_) (fun h35 => ?_)
            · refine ez_iconst 43 dX12_not_42 rfl (nI 0) (by decide) ?_
              refine ez_iret .int dX12_not_43 rfl rfl ?_
              exact ⟨(((MF.rf.tr f11).tr f20).tr f34), by simp [ep_tr, h35], g34⟩
            · refine ez_iconst 39 dX12_not_38 rfl (nI 1) (by decide) ?_
              refine ez_goto 43 dX12_not_39 (by decide) ?_
              refine ez_iret .int dX12_not_43 rfl rfl ?_
              exact ⟨(((MF.rf.tr f11).tr f20).tr f34), by simp [ep_tr, h35], g34⟩
          · exact absurd h14 (by decide)
      · refine ez_aload_n 1 dX12_not_0 rfl rfl ?_
        refine ez_ldc2 4 dX12_not_1 rfl 10631 cn_X12_336 ?_
        refine ez_callV 7 [eL 10631] [] dX12_not_4 rfl rfl ok_X12_isWord in_X12_isWord (by decide) (by show 0 < 1; omega) ln_X12_301 (by omega) (Nat.le_of_ble_eq_true rfl) (c_iw_y g (d - 1) 21 10631 M hG (by decide) rfl (by omega)) (fun r4 M4 q4 => ?_)
        obtain ⟨rfl, e4⟩ := q4
        rw [e4]
        show Ez (true, g) mX12_not d 7 [(0, eR 12 0)] [eI (nI 1)] M _
        refine ez_nif_eq 10 44 dX12_not_7 rfl (by decide) (by omega) (fun h7 => ?_) (fun h7 => ?_)
        · exact absurd h7 (by decide)
        · refine ez_aload_n 11 dX12_not_10 rfl rfl ?_
          refine ez_callV 14 [] [] dX12_not_11 rfl rfl ok_X12_opens in_X12_opens (by decide) (by show 0 < 1; omega) ln_X12_318 (by omega) (Nat.le_of_ble_eq_true rfl) (c_opens g (d - 1) M (by omega) hH hN hG (by omega) (by omega)) (fun r11 M11 q11 => ?_)
          obtain ⟨rfl, f11, g11⟩ := q11
          have u11 := (hH.2.1 _ g11.2.1).1
          have w11 := g11.2.1
          show Ez (true, g) mX12_not d 14 [(0, eR 12 0)] [eI (nI 1)] M11 _
          refine ez_nif_ne 17 19 dX12_not_14 rfl (by decide) (by omega) (fun h14 => ?_) (fun h14 => ?_)
          · refine ez_aload_n 20 dX12_not_19 rfl rfl ?_
            refine ez_callV 23 [] [] dX12_not_20 rfl rfl ok_X12_not in_X12_not (by decide) (by show 0 < 1; omega) ln_X12_338 (by omega) (Nat.le_of_ble_eq_true rfl) (iN (o + 1) (k + 1) _ _ M11 (d - 1) (by omega) (by omega) g11 h1) (fun r20 M20 q20 => ?_)
            obtain ⟨f20, ⟨v20, rfl⟩, g20⟩ := q20
            show Ez (true, g) mX12_not d 23 [(0, eR 12 0)] [eI v20] M20 _
            refine ez_istore_n 24 [(1, eI v20), (0, eR 12 0)] dX12_not_23 rfl (by decide) rfl ?_
            refine ez_aload_n 25 dX12_not_24 rfl rfl ?_
            refine ez_dup 26 dX12_not_25 rfl rfl ?_
            refine ez_getf 29 (eI (M20.1 12 0 27)) dX12_not_26 rfl fl_X12_290 (by show 0 < 1; omega) rfl ?_
            refine ez_top (nI (o + 1)) g20.2.2 ?_
            refine ez_iconst 30 dX12_not_29 rfl (nI 1) (by decide) ?_
            refine ez_isub 31 dX12_not_30 rfl ?_
            refine ez_top (nI o) (by rw [pk_sub (by omega)]; rfl) ?_
            refine ez_putf 34 .int dX12_not_31 rfl fp_X12_290 (by show 0 < 1; omega) rfl (by decide) rfl rfl ?_
            have g34 := MB_op (o' := o) g20
            have f34 : MF M20 (ez_st M20 12 0 27 (nI o)) := MF.s (by decide)
            generalize ez_st M20 12 0 27 (nI o) = M34 at g34 f34 ⊢
            refine ez_iload_n 35 dX12_not_34 rfl rfl ?_
            refine ez_if_ne 38 42 dX12_not_35 rfl (by decide) (fun h35 => ?_) (fun h35 => ?_)
            · refine ez_iconst 43 dX12_not_42 rfl (nI 0) (by decide) ?_
              refine ez_iret .int dX12_not_43 rfl rfl ?_
              exact ⟨(((MF.rf.tr f11).tr f20).tr f34), ⟨_, rfl⟩, g34⟩
            · refine ez_iconst 39 dX12_not_38 rfl (nI 1) (by decide) ?_
              refine ez_goto 43 dX12_not_39 (by decide) ?_
              refine ez_iret .int dX12_not_43 rfl rfl ?_
              exact ⟨(((MF.rf.tr f11).tr f20).tr f34), ⟨_, rfl⟩, g34⟩
          · exact absurd h14 (by decide)
  · rw [if_neg t21] at h
    rcases ep_bd_some h with ⟨k1, c1, v1, h1, h2⟩ | ⟨e, h1, rfl⟩
    · obtain ⟨p1, p2, p3⟩ := ep_pz_pk hH.2.2 z _ _ _ _ _ _ hG.2.1 (Or.inr (Or.inr (Or.inr (Or.inr rfl)))) h1
      have uk := (hH.2.1 k1 p2).1
      by_cases t60 : Tk k1 = 60
      · rw [if_pos t60] at h2
        have hl1 := hH.2.2 k1 p2 (by omega)
        rcases ep_bd_some h2 with ⟨k2, c2, v2, h3, h4⟩ | ⟨e, h3, rfl⟩
        · cases h4
          refine ez_aload_n 1 dX12_not_0 rfl rfl ?_
          refine ez_ldc2 4 dX12_not_1 rfl 10631 cn_X12_336 ?_
          refine ez_callV 7 [eL 10631] [] dX12_not_4 rfl rfl ok_X12_isWord in_X12_isWord (by decide) (by show 0 < 1; omega) ln_X12_301 (by omega) (Nat.le_of_ble_eq_true rfl) (c_iw_n g (d - 1) 21 10631 M hG (by decide) rfl (by omega)) (fun r4 M4 q4 => ?_)
          obtain ⟨rfl, e4⟩ := q4
          rw [e4]
          show Ez (true, g) mX12_not d 7 [(0, eR 12 0)] [eI (nI 0)] M _
          refine ez_nif_eq 10 44 dX12_not_7 rfl (by decide) (by omega) (fun h7 => ?_) (fun h7 => ?_)
          · refine ez_aload_n 45 dX12_not_44 rfl rfl ?_
            refine ez_callV 48 [] [] dX12_not_45 rfl rfl ok_X12_added in_X12_added (by decide) (by show 0 < 1; omega) ln_X12_341 (by omega) (Nat.le_of_ble_eq_true rfl) (iS o k _ _ M (d - 1) (by omega) (by omega) hG h1) (fun r45 M45 q45 => ?_)
            obtain ⟨f45, rfl, g45⟩ := q45
            have g45 : MG Tk Pl En N fr n b nm o k1 M45 := g45
            have u45 := (hH.2.1 _ g45.2.1).1
            have w45 := g45.2.1
            show Ez (true, g) mX12_not d 48 [(0, eR 12 0)] [eI (v1 nm)] M45 _
            refine ez_istore_n 49 [(1, eI (v1 nm)), (0, eR 12 0)] dX12_not_48 rfl (by decide) rfl ?_
            refine ez_aload_n 50 dX12_not_49 rfl rfl ?_
            refine ez_bipush 52 dX12_not_50 rfl (nI 60) (by decide) ?_
            refine ez_callV 55 [eI (nI 60)] [] dX12_not_52 rfl rfl ok_X12_isSign in_X12_isSign (by decide) (by show 0 < 1; omega) ln_X12_315 (by omega) (Nat.le_of_ble_eq_true rfl) (c_is_y g (d - 1) 60 M45 g45 (by decide) (by omega)) (fun r52 M52 q52 => ?_)
            obtain ⟨rfl, e52⟩ := q52
            rw [e52]
            show Ez (true, g) mX12_not d 55 [(1, eI (v1 nm)), (0, eR 12 0)] [eI (nI 1)] M45 _
            refine ez_nif_ne 58 69 dX12_not_55 rfl (by decide) (by omega) (fun h55 => ?_) (fun h55 => ?_)
            · refine ez_aload_n 70 dX12_not_69 rfl rfl ?_
              refine ez_getf 73 (eL (M45.2 12 0 25)) dX12_not_70 rfl fl_X12_270 (by show 0 < 1; omega) rfl ?_
              refine ez_topL ((nI 60).toInt64) (((MTk_s g45.2.2.1 (by omega) (by omega)).mpr (show Tk k1 = 60 by omega)).2) ?_
              refine ez_ldc2 76 dX12_not_73 rfl 60 cn_X12_344 ?_
              refine ez_lcmp 77 dX12_not_76 rfl ?_
              refine ez_top (nI 0) (by decide) ?_
              refine ez_nif_ne 80 84 dX12_not_77 rfl (by decide) (by omega) (fun h77 => ?_) (fun h77 => ?_)
              · exact absurd h77 (by decide)
              · refine ez_iconst 81 dX12_not_80 rfl (nI 1) (by decide) ?_
                refine ez_goto 85 dX12_not_81 (by decide) ?_
                refine ez_istore_n 86 [(2, eI (nI 1)), (1, eI (v1 nm)), (0, eR 12 0)] dX12_not_85 rfl (by decide) rfl ?_
                refine ez_aload_n 87 dX12_not_86 rfl rfl ?_
                refine ez_callV 90 [] [] dX12_not_87 rfl rfl ok_X12_next in_X12_next (by decide) (by show 0 < 1; omega) ln_X12_296 (by omega) (Nat.le_of_ble_eq_true rfl) (hN o k1 M45 (d - 1) (by omega) g45 (by omega)) (fun r87 M87 q87 => ?_)
                obtain ⟨rfl, f87, g87⟩ := q87
                have u87 := (hH.2.1 _ g87.2.1).1
                have w87 := g87.2.1
                show Ez (true, g) mX12_not d 90 [(2, eI (nI 1)), (1, eI (v1 nm)), (0, eR 12 0)] [] M87 _
                refine ez_aload_n 91 dX12_not_90 rfl rfl ?_
                refine ez_callV 94 [] [] dX12_not_91 rfl rfl ok_X12_added in_X12_added (by decide) (by show 0 < 1; omega) ln_X12_341 (by omega) (Nat.le_of_ble_eq_true rfl) (iS o (k1 + 1) _ _ M87 (d - 1) (by omega) (by omega) g87 h3) (fun r91 M91 q91 => ?_)
                obtain ⟨f91, rfl, g91⟩ := q91
                have g91 : MG Tk Pl En N fr n b nm o k2 M91 := g91
                have u91 := (hH.2.1 _ g91.2.1).1
                have w91 := g91.2.1
                show Ez (true, g) mX12_not d 94 [(2, eI (nI 1)), (1, eI (v1 nm)), (0, eR 12 0)] [eI (v2 nm)] M91 _
                refine ez_istore_n 95 [(3, eI (v2 nm)), (2, eI (nI 1)), (1, eI (v1 nm)), (0, eR 12 0)] dX12_not_94 rfl (by decide) rfl ?_
                refine ez_iload_n 96 dX12_not_95 rfl rfl ?_
                refine ez_nif_eq 99 107 dX12_not_96 rfl (by decide) (by omega) (fun h96 => ?_) (fun h96 => ?_)
                · exact absurd h96 (by decide)
                · refine ez_iload_n 100 dX12_not_99 rfl rfl ?_
                  refine ez_iload_n 101 dX12_not_100 rfl rfl ?_
                  refine ez_icmp_ge 104 116 dX12_not_101 rfl (by decide) (fun h101 => ?_) (fun h101 => ?_)
                  · refine ez_iconst 117 dX12_not_116 rfl (nI 0) (by decide) ?_
                    refine ez_iret .int dX12_not_117 rfl rfl ?_
                    exact ⟨(((MF.rf.tr f45).tr f87).tr f91), by simp [ep_tr, Int32.not_lt.mpr h101], g91⟩
                  · refine ez_goto 112 dX12_not_104 (by decide) ?_
                    refine ez_iconst 113 dX12_not_112 rfl (nI 1) (by decide) ?_
                    refine ez_goto 117 dX12_not_113 (by decide) ?_
                    refine ez_iret .int dX12_not_117 rfl rfl ?_
                    exact ⟨(((MF.rf.tr f45).tr f87).tr f91), by simp [ep_tr, Int32.not_le.mp h101], g91⟩
            · exact absurd h55 (by decide)
          · exact absurd h7 (by decide)
        · refine ez_aload_n 1 dX12_not_0 rfl rfl ?_
          refine ez_ldc2 4 dX12_not_1 rfl 10631 cn_X12_336 ?_
          refine ez_callV 7 [eL 10631] [] dX12_not_4 rfl rfl ok_X12_isWord in_X12_isWord (by decide) (by show 0 < 1; omega) ln_X12_301 (by omega) (Nat.le_of_ble_eq_true rfl) (c_iw_n g (d - 1) 21 10631 M hG (by decide) rfl (by omega)) (fun r4 M4 q4 => ?_)
          obtain ⟨rfl, e4⟩ := q4
          rw [e4]
          show Ez (true, g) mX12_not d 7 [(0, eR 12 0)] [eI (nI 0)] M _
          refine ez_nif_eq 10 44 dX12_not_7 rfl (by decide) (by omega) (fun h7 => ?_) (fun h7 => ?_)
          · refine ez_aload_n 45 dX12_not_44 rfl rfl ?_
            refine ez_callV 48 [] [] dX12_not_45 rfl rfl ok_X12_added in_X12_added (by decide) (by show 0 < 1; omega) ln_X12_341 (by omega) (Nat.le_of_ble_eq_true rfl) (iS o k _ _ M (d - 1) (by omega) (by omega) hG h1) (fun r45 M45 q45 => ?_)
            obtain ⟨f45, rfl, g45⟩ := q45
            have g45 : MG Tk Pl En N fr n b nm o k1 M45 := g45
            have u45 := (hH.2.1 _ g45.2.1).1
            have w45 := g45.2.1
            show Ez (true, g) mX12_not d 48 [(0, eR 12 0)] [eI (v1 nm)] M45 _
            refine ez_istore_n 49 [(1, eI (v1 nm)), (0, eR 12 0)] dX12_not_48 rfl (by decide) rfl ?_
            refine ez_aload_n 50 dX12_not_49 rfl rfl ?_
            refine ez_bipush 52 dX12_not_50 rfl (nI 60) (by decide) ?_
            refine ez_callV 55 [eI (nI 60)] [] dX12_not_52 rfl rfl ok_X12_isSign in_X12_isSign (by decide) (by show 0 < 1; omega) ln_X12_315 (by omega) (Nat.le_of_ble_eq_true rfl) (c_is_y g (d - 1) 60 M45 g45 (by decide) (by omega)) (fun r52 M52 q52 => ?_)
            obtain ⟨rfl, e52⟩ := q52
            rw [e52]
            show Ez (true, g) mX12_not d 55 [(1, eI (v1 nm)), (0, eR 12 0)] [eI (nI 1)] M45 _
            refine ez_nif_ne 58 69 dX12_not_55 rfl (by decide) (by omega) (fun h55 => ?_) (fun h55 => ?_)
            · refine ez_aload_n 70 dX12_not_69 rfl rfl ?_
              refine ez_getf 73 (eL (M45.2 12 0 25)) dX12_not_70 rfl fl_X12_270 (by show 0 < 1; omega) rfl ?_
              refine ez_topL ((nI 60).toInt64) (((MTk_s g45.2.2.1 (by omega) (by omega)).mpr (show Tk k1 = 60 by omega)).2) ?_
              refine ez_ldc2 76 dX12_not_73 rfl 60 cn_X12_344 ?_
              refine ez_lcmp 77 dX12_not_76 rfl ?_
              refine ez_top (nI 0) (by decide) ?_
              refine ez_nif_ne 80 84 dX12_not_77 rfl (by decide) (by omega) (fun h77 => ?_) (fun h77 => ?_)
              · exact absurd h77 (by decide)
              · refine ez_iconst 81 dX12_not_80 rfl (nI 1) (by decide) ?_
                refine ez_goto 85 dX12_not_81 (by decide) ?_
                refine ez_istore_n 86 [(2, eI (nI 1)), (1, eI (v1 nm)), (0, eR 12 0)] dX12_not_85 rfl (by decide) rfl ?_
                refine ez_aload_n 87 dX12_not_86 rfl rfl ?_
                refine ez_callV 90 [] [] dX12_not_87 rfl rfl ok_X12_next in_X12_next (by decide) (by show 0 < 1; omega) ln_X12_296 (by omega) (Nat.le_of_ble_eq_true rfl) (hN o k1 M45 (d - 1) (by omega) g45 (by omega)) (fun r87 M87 q87 => ?_)
                obtain ⟨rfl, f87, g87⟩ := q87
                have u87 := (hH.2.1 _ g87.2.1).1
                have w87 := g87.2.1
                show Ez (true, g) mX12_not d 90 [(2, eI (nI 1)), (1, eI (v1 nm)), (0, eR 12 0)] [] M87 _
                refine ez_aload_n 91 dX12_not_90 rfl rfl ?_
                refine ez_callV 94 [] [] dX12_not_91 rfl rfl ok_X12_added in_X12_added (by decide) (by show 0 < 1; omega) ln_X12_341 (by omega) (Nat.le_of_ble_eq_true rfl) (iS o (k1 + 1) _ _ M87 (d - 1) (by omega) (by omega) g87 h3) (fun r91 M91 q91 => ?_)
                obtain ⟨f91, ⟨v91, rfl⟩, g91⟩ := q91
                show Ez (true, g) mX12_not d 94 [(2, eI (nI 1)), (1, eI (v1 nm)), (0, eR 12 0)] [eI v91] M91 _
                refine ez_istore_n 95 [(3, eI v91), (2, eI (nI 1)), (1, eI (v1 nm)), (0, eR 12 0)] dX12_not_94 rfl (by decide) rfl ?_
                refine ez_iload_n 96 dX12_not_95 rfl rfl ?_
                refine ez_nif_eq 99 107 dX12_not_96 rfl (by decide) (by omega) (fun h96 => ?_) (fun h96 => ?_)
                · exact absurd h96 (by decide)
                · refine ez_iload_n 100 dX12_not_99 rfl rfl ?_
                  refine ez_iload_n 101 dX12_not_100 rfl rfl ?_
                  refine ez_icmp_ge 104 116 dX12_not_101 rfl (by decide) (fun h101 => ?_) (fun h101 => ?_)
                  · refine ez_iconst 117 dX12_not_116 rfl (nI 0) (by decide) ?_
                    refine ez_iret .int dX12_not_117 rfl rfl ?_
                    exact ⟨(((MF.rf.tr f45).tr f87).tr f91), ⟨_, rfl⟩, g91⟩
                  · refine ez_goto 112 dX12_not_104 (by decide) ?_
                    refine ez_iconst 113 dX12_not_112 rfl (nI 1) (by decide) ?_
                    refine ez_goto 117 dX12_not_113 (by decide) ?_
                    refine ez_iret .int dX12_not_117 rfl rfl ?_
                    exact ⟨(((MF.rf.tr f45).tr f87).tr f91), ⟨_, rfl⟩, g91⟩
            · exact absurd h55 (by decide)
          · exact absurd h7 (by decide)
      rw [if_neg t60] at h2
      by_cases t61 : Tk k1 = 61
      · rw [if_pos t61] at h2
        have hl1 := hH.2.2 k1 p2 (by omega)
        rcases ep_bd_some h2 with ⟨k2, c2, v2, h3, h4⟩ | ⟨e, h3, rfl⟩
        · cases h4
          refine ez_aload_n 1 dX12_not_0 rfl rfl ?_
          refine ez_ldc2 4 dX12_not_1 rfl 10631 cn_X12_336 ?_
          refine ez_callV 7 [eL 10631] [] dX12_not_4 rfl rfl ok_X12_isWord in_X12_isWord (by decide) (by show 0 < 1; omega) ln_X12_301 (by omega) (Nat.le_of_ble_eq_true rfl) (c_iw_n g (d - 1) 21 10631 M hG (by decide) rfl (by omega)) (fun r4 M4 q4 => ?_)
          obtain ⟨rfl, e4⟩ := q4
          rw [e4]
          show Ez (true, g) mX12_not d 7 [(0, eR 12 0)] [eI (nI 0)] M _
          refine ez_nif_eq 10 44 dX12_not_7 rfl (by decide) (by omega) (fun h7 => ?_) (fun h7 => ?_)
          · refine ez_aload_n 45 dX12_not_44 rfl rfl ?_
            refine ez_callV 48 [] [] dX12_not_45 rfl rfl ok_X12_added in_X12_added (by decide) (by show 0 < 1; omega) ln_X12_341 (by omega) (Nat.le_of_ble_eq_true rfl) (iS o k _ _ M (d - 1) (by omega) (by omega) hG h1) (fun r45 M45 q45 => ?_)
            obtain ⟨f45, rfl, g45⟩ := q45
            have g45 : MG Tk Pl En N fr n b nm o k1 M45 := g45
            have u45 := (hH.2.1 _ g45.2.1).1
            have w45 := g45.2.1
            show Ez (true, g) mX12_not d 48 [(0, eR 12 0)] [eI (v1 nm)] M45 _
            refine ez_istore_n 49 [(1, eI (v1 nm)), (0, eR 12 0)] dX12_not_48 rfl (by decide) rfl ?_
            refine ez_aload_n 50 dX12_not_49 rfl rfl ?_
            refine ez_bipush 52 dX12_not_50 rfl (nI 60) (by decide) ?_
            refine ez_callV 55 [eI (nI 60)] [] dX12_not_52 rfl rfl ok_X12_isSign in_X12_isSign (by decide) (by show 0 < 1; omega) ln_X12_315 (by omega) (Nat.le_of_ble_eq_true rfl) (c_is_n g (d - 1) 60 M45 g45 (by decide) (by omega)) (fun r52 M52 q52 => ?_)
            obtain ⟨rfl, e52⟩ := q52
            rw [e52]
            show Ez (true, g) mX12_not d 55 [(1, eI (v1 nm)), (0, eR 12 0)] [eI (nI 0)] M45 _
            refine ez_nif_ne 58 69 dX12_not_55 rfl (by decide) (by omega) (fun h55 => ?_) (fun h55 => ?_)
            · exact absurd h55 (by decide)
            · refine ez_aload_n 59 dX12_not_58 rfl rfl ?_
              refine ez_bipush 61 dX12_not_59 rfl (nI 61) (by decide) ?_
              refine ez_callV 64 [eI (nI 61)] [] dX12_not_61 rfl rfl ok_X12_isSign in_X12_isSign (by decide) (by show 0 < 1; omega) ln_X12_315 (by omega) (Nat.le_of_ble_eq_true rfl) (c_is_y g (d - 1) 61 M45 g45 (by decide) (by omega)) (fun r61 M61 q61 => ?_)
              obtain ⟨rfl, e61⟩ := q61
              rw [e61]
              show Ez (true, g) mX12_not d 64 [(1, eI (v1 nm)), (0, eR 12 0)] [eI (nI 1)] M45 _
              refine ez_nif_ne 67 69 dX12_not_64 rfl (by decide) (by omega) (fun h64 => ?_) (fun h64 => ?_)
              · refine ez_aload_n 70 dX12_not_69 rfl rfl ?_
                refine ez_getf 73 (eL (M45.2 12 0 25)) dX12_not_70 rfl fl_X12_270 (by show 0 < 1; omega) rfl ?_
                refine ez_topL ((nI 61).toInt64) (((MTk_s g45.2.2.1 (by omega) (by omega)).mpr (show Tk k1 = 61 by omega)).2) ?_
                refine ez_ldc2 76 dX12_not_73 rfl 60 cn_X12_344 ?_
                refine ez_lcmp 77 dX12_not_76 rfl ?_
                refine ez_top (nI 1) (by decide) ?_
                refine ez_nif_ne 80 84 dX12_not_77 rfl (by decide) (by omega) (fun h77 => ?_) (fun h77 => ?_)
                · refine ez_iconst 85 dX12_not_84 rfl (nI 0) (by decide) ?_
                  refine ez_istore_n 86 [(2, eI (nI 0)), (1, eI (v1 nm)), (0, eR 12 0)] dX12_not_85 rfl (by decide) rfl ?_
                  refine ez_aload_n 87 dX12_not_86 rfl rfl ?_
                  refine ez_callV 90 [] [] dX12_not_87 rfl rfl ok_X12_next in_X12_next (by decide) (by show 0 < 1; omega) ln_X12_296 (by omega) (Nat.le_of_ble_eq_true rfl) (hN o k1 M45 (d - 1) (by omega) g45 (by omega)) (fun r87 M87 q87 => ?_)
                  obtain ⟨rfl, f87, g87⟩ := q87
                  have u87 := (hH.2.1 _ g87.2.1).1
                  have w87 := g87.2.1
                  show Ez (true, g) mX12_not d 90 [(2, eI (nI 0)), (1, eI (v1 nm)), (0, eR 12 0)] [] M87 _
                  refine ez_aload_n 91 dX12_not_90 rfl rfl ?_
                  refine ez_callV 94 [] [] dX12_not_91 rfl rfl ok_X12_added in_X12_added (by decide) (by show 0 < 1; omega) ln_X12_341 (by omega) (Nat.le_of_ble_eq_true rfl) (iS o (k1 + 1) _ _ M87 (d - 1) (by omega) (by omega) g87 h3) (fun r91 M91 q91 => ?_)
                  obtain ⟨f91, rfl, g91⟩ := q91
                  have g91 : MG Tk Pl En N fr n b nm o k2 M91 := g91
                  have u91 := (hH.2.1 _ g91.2.1).1
                  have w91 := g91.2.1
                  show Ez (true, g) mX12_not d 94 [(2, eI (nI 0)), (1, eI (v1 nm)), (0, eR 12 0)] [eI (v2 nm)] M91 _
                  refine ez_istore_n 95 [(3, eI (v2 nm)), (2, eI (nI 0)), (1, eI (v1 nm)), (0, eR 12 0)] dX12_not_94 rfl (by decide) rfl ?_
                  refine ez_iload_n 96 dX12_not_95 rfl rfl ?_
                  refine ez_nif_eq 99 107 dX12_not_96 rfl (by decide) (by omega) (fun h96 => ?_) (fun h96 => ?_)
                  · refine ez_iload_n 108 dX12_not_107 rfl rfl ?_
                    refine ez_iload_n 109 dX12_not_108 rfl rfl ?_
                    refine ez_icmp_ne 112 116 dX12_not_109 rfl (by decide) (fun h109 => ?_) (fun h109 => ?_)
                    · refine ez_iconst 117 dX12_not_116 rfl (nI 0) (by decide) ?_
                      refine ez_iret .int dX12_not_117 rfl rfl ?_
                      exact ⟨(((MF.rf.tr f45).tr f87).tr f91), by simp [ep_tr, h109], g91⟩
                    · refine ez_iconst 113 dX12_not_112 rfl (nI 1) (by decide) ?_
                      refine ez_goto 117 dX12_not_113 (by decide) ?_
                      refine ez_iret .int dX12_not_117 rfl rfl ?_
                      exact ⟨(((MF.rf.tr f45).tr f87).tr f91), by simp [ep_tr, h109], g91⟩
                  · exact absurd h96 (by decide)
                · exact absurd h77 (by decide)
              · exact absurd h64 (by decide)
          · exact absurd h7 (by decide)
        · refine ez_aload_n 1 dX12_not_0 rfl rfl ?_
          refine ez_ldc2 4 dX12_not_1 rfl 10631 cn_X12_336 ?_
          refine ez_callV 7 [eL 10631] [] dX12_not_4 rfl rfl ok_X12_isWord in_X12_isWord (by decide) (by show 0 < 1; omega) ln_X12_301 (by omega) (Nat.le_of_ble_eq_true rfl) (c_iw_n g (d - 1) 21 10631 M hG (by decide) rfl (by omega)) (fun r4 M4 q4 => ?_)
          obtain ⟨rfl, e4⟩ := q4
          rw [e4]
          show Ez (true, g) mX12_not d 7 [(0, eR 12 0)] [eI (nI 0)] M _
          refine ez_nif_eq 10 44 dX12_not_7 rfl (by decide) (by omega) (fun h7 => ?_) (fun h7 => ?_)
          · refine ez_aload_n 45 dX12_not_44 rfl rfl ?_
            refine ez_callV 48 [] [] dX12_not_45 rfl rfl ok_X12_added in_X12_added (by decide) (by show 0 < 1; omega) ln_X12_341 (by omega) (Nat.le_of_ble_eq_true rfl) (iS o k _ _ M (d - 1) (by omega) (by omega) hG h1) (fun r45 M45 q45 => ?_)
            obtain ⟨f45, rfl, g45⟩ := q45
            have g45 : MG Tk Pl En N fr n b nm o k1 M45 := g45
            have u45 := (hH.2.1 _ g45.2.1).1
            have w45 := g45.2.1
            show Ez (true, g) mX12_not d 48 [(0, eR 12 0)] [eI (v1 nm)] M45 _
            refine ez_istore_n 49 [(1, eI (v1 nm)), (0, eR 12 0)] dX12_not_48 rfl (by decide) rfl ?_
            refine ez_aload_n 50 dX12_not_49 rfl rfl ?_
            refine ez_bipush 52 dX12_not_50 rfl (nI 60) (by decide) ?_
            refine ez_callV 55 [eI (nI 60)] [] dX12_not_52 rfl rfl ok_X12_isSign in_X12_isSign (by decide) (by show 0 < 1; omega) ln_X12_315 (by omega) (Nat.le_of_ble_eq_true rfl) (c_is_n g (d - 1) 60 M45 g45 (by decide) (by omega)) (fun r52 M52 q52 => ?_)
            obtain ⟨rfl, e52⟩ := q52
            rw [e52]
            show Ez (true, g) mX12_not d 55 [(1, eI (v1 nm)), (0, eR 12 0)] [eI (nI 0)] M45 _
            refine ez_nif_ne 58 69 dX12_not_55 rfl (by decide) (by omega) (fun h55 => ?_) (fun h55 => ?_)
            · exact absurd h55 (by decide)
            · refine ez_aload_n 59 dX12_not_58 rfl rfl ?_
              refine ez_bipush 61 dX12_not_59 rfl (nI 61) (by decide) ?_
              refine ez_callV 64 [eI (nI 61)] [] dX12_not_61 rfl rfl ok_X12_isSign in_X12_isSign (by decide) (by show 0 < 1; omega) ln_X12_315 (by omega) (Nat.le_of_ble_eq_true rfl) (c_is_y g (d - 1) 61 M45 g45 (by decide) (by omega)) (fun r61 M61 q61 => ?_)
              obtain ⟨rfl, e61⟩ := q61
              rw [e61]
              show Ez (true, g) mX12_not d 64 [(1, eI (v1 nm)), (0, eR 12 0)] [eI (nI 1)] M45 _
              refine ez_nif_ne 67 69 dX12_not_64 rfl (by decide) (by omega) (fun h64 => ?_) (fun h64 => ?_)
              · refine ez_aload_n 70 dX12_not_69 rfl rfl ?_
                refine ez_getf 73 (eL (M45.2 12 0 25)) dX12_not_70 rfl fl_X12_270 (by show 0 < 1; omega) rfl ?_
                refine ez_topL ((nI 61).toInt64) (((MTk_s g45.2.2.1 (by omega) (by omega)).mpr (show Tk k1 = 61 by omega)).2) ?_
                refine ez_ldc2 76 dX12_not_73 rfl 60 cn_X12_344 ?_
                refine ez_lcmp 77 dX12_not_76 rfl ?_
                refine ez_top (nI 1) (by decide) ?_
                refine ez_nif_ne 80 84 dX12_not_77 rfl (by decide) (by omega) (fun h77 => ?_) (fun h77 => ?_)
                · refine ez_iconst 85 dX12_not_84 rfl (nI 0) (by decide) ?_
                  refine ez_istore_n 86 [(2, eI (nI 0)), (1, eI (v1 nm)), (0, eR 12 0)] dX12_not_85 rfl (by decide) rfl ?_
                  refine ez_aload_n 87 dX12_not_86 rfl rfl ?_
                  refine ez_callV 90 [] [] dX12_not_87 rfl rfl ok_X12_next in_X12_next (by decide) (by show 0 < 1; omega) ln_X12_296 (by omega) (Nat.le_of_ble_eq_true rfl) (hN o k1 M45 (d - 1) (by omega) g45 (by omega)) (fun r87 M87 q87 => ?_)
                  obtain ⟨rfl, f87, g87⟩ := q87
                  have u87 := (hH.2.1 _ g87.2.1).1
                  have w87 := g87.2.1
                  show Ez (true, g) mX12_not d 90 [(2, eI (nI 0)), (1, eI (v1 nm)), (0, eR 12 0)] [] M87 _
                  refine ez_aload_n 91 dX12_not_90 rfl rfl ?_
                  refine ez_callV 94 [] [] dX12_not_91 rfl rfl ok_X12_added in_X12_added (by decide) (by show 0 < 1; omega) ln_X12_341 (by omega) (Nat.le_of_ble_eq_true rfl) (iS o (k1 + 1) _ _ M87 (d - 1) (by omega) (by omega) g87 h3) (fun r91 M91 q91 => ?_)
                  obtain ⟨f91, ⟨v91, rfl⟩, g91⟩ := q91
                  show Ez (true, g) mX12_not d 94 [(2, eI (nI 0)), (1, eI (v1 nm)), (0, eR 12 0)] [eI v91] M91 _
                  refine ez_istore_n 95 [(3, eI v91), (2, eI (nI 0)), (1, eI (v1 nm)), (0, eR 12 0)] dX12_not_94 rfl (by decide) rfl ?_
                  refine ez_iload_n 96 dX12_not_95 rfl rfl ?_
                  refine ez_nif_eq 99 107 dX12_not_96 rfl (by decide) (by omega) (fun h96 => ?_) (fun h96 => ?_)
                  · refine ez_iload_n 108 dX12_not_107 rfl rfl ?_
                    refine ez_iload_n 109 dX12_not_108 rfl rfl ?_
                    refine ez_icmp_ne 112 116 dX12_not_109 rfl (by decide) (fun h109 => ?_) (fun h109 => ?_)
                    · refine ez_iconst 117 dX12_not_116 rfl (nI 0) (by decide) ?_
                      refine ez_iret .int dX12_not_117 rfl rfl ?_
                      exact ⟨(((MF.rf.tr f45).tr f87).tr f91), ⟨_, rfl⟩, g91⟩
                    · refine ez_iconst 113 dX12_not_112 rfl (nI 1) (by decide) ?_
                      refine ez_goto 117 dX12_not_113 (by decide) ?_
                      refine ez_iret .int dX12_not_117 rfl rfl ?_
                      exact ⟨(((MF.rf.tr f45).tr f87).tr f91), ⟨_, rfl⟩, g91⟩
                  · exact absurd h96 (by decide)
                · exact absurd h77 (by decide)
              · exact absurd h64 (by decide)
          · exact absurd h7 (by decide)
      rw [if_neg t61] at h2
      cases h2
      refine ez_aload_n 1 dX12_not_0 rfl rfl ?_
      refine ez_ldc2 4 dX12_not_1 rfl 10631 cn_X12_336 ?_
      refine ez_callV 7 [eL 10631] [] dX12_not_4 rfl rfl ok_X12_isWord in_X12_isWord (by decide) (by show 0 < 1; omega) ln_X12_301 (by omega) (Nat.le_of_ble_eq_true rfl) (c_iw_n g (d - 1) 21 10631 M hG (by decide) rfl (by omega)) (fun r4 M4 q4 => ?_)
      obtain ⟨rfl, e4⟩ := q4
      rw [e4]
      show Ez (true, g) mX12_not d 7 [(0, eR 12 0)] [eI (nI 0)] M _
      refine ez_nif_eq 10 44 dX12_not_7 rfl (by decide) (by omega) (fun h7 => ?_) (fun h7 => ?_)
      · refine ez_aload_n 45 dX12_not_44 rfl rfl ?_
        refine ez_callV 48 [] [] dX12_not_45 rfl rfl ok_X12_added in_X12_added (by decide) (by show 0 < 1; omega) ln_X12_341 (by omega) (Nat.le_of_ble_eq_true rfl) (iS o k _ _ M (d - 1) (by omega) (by omega) hG h1) (fun r45 M45 q45 => ?_)
        obtain ⟨f45, rfl, g45⟩ := q45
        have g45 : MG Tk Pl En N fr n b nm o k1 M45 := g45
        have u45 := (hH.2.1 _ g45.2.1).1
        have w45 := g45.2.1
        show Ez (true, g) mX12_not d 48 [(0, eR 12 0)] [eI (v1 nm)] M45 _
        refine ez_istore_n 49 [(1, eI (v1 nm)), (0, eR 12 0)] dX12_not_48 rfl (by decide) rfl ?_
        refine ez_aload_n 50 dX12_not_49 rfl rfl ?_
        refine ez_bipush 52 dX12_not_50 rfl (nI 60) (by decide) ?_
        refine ez_callV 55 [eI (nI 60)] [] dX12_not_52 rfl rfl ok_X12_isSign in_X12_isSign (by decide) (by show 0 < 1; omega) ln_X12_315 (by omega) (Nat.le_of_ble_eq_true rfl) (c_is_n g (d - 1) 60 M45 g45 (by decide) (by omega)) (fun r52 M52 q52 => ?_)
        obtain ⟨rfl, e52⟩ := q52
        rw [e52]
        show Ez (true, g) mX12_not d 55 [(1, eI (v1 nm)), (0, eR 12 0)] [eI (nI 0)] M45 _
        refine ez_nif_ne 58 69 dX12_not_55 rfl (by decide) (by omega) (fun h55 => ?_) (fun h55 => ?_)
        · exact absurd h55 (by decide)
        · refine ez_aload_n 59 dX12_not_58 rfl rfl ?_
          refine ez_bipush 61 dX12_not_59 rfl (nI 61) (by decide) ?_
          refine ez_callV 64 [eI (nI 61)] [] dX12_not_61 rfl rfl ok_X12_isSign in_X12_isSign (by decide) (by show 0 < 1; omega) ln_X12_315 (by omega) (Nat.le_of_ble_eq_true rfl) (c_is_n g (d - 1) 61 M45 g45 (by decide) (by omega)) (fun r61 M61 q61 => ?_)
          obtain ⟨rfl, e61⟩ := q61
          rw [e61]
          show Ez (true, g) mX12_not d 64 [(1, eI (v1 nm)), (0, eR 12 0)] [eI (nI 0)] M45 _
          refine ez_nif_ne 67 69 dX12_not_64 rfl (by decide) (by omega) (fun h64 => ?_) (fun h64 => ?_)
          · exact absurd h64 (by decide)
          · refine ez_iload_n 68 dX12_not_67 rfl rfl ?_
            refine ez_iret .int dX12_not_68 rfl rfl ?_
            exact ⟨(MF.rf.tr f45), rfl, g45⟩
      · exact absurd h7 (by decide)
    · refine ez_aload_n 1 dX12_not_0 rfl rfl ?_
      refine ez_ldc2 4 dX12_not_1 rfl 10631 cn_X12_336 ?_
      refine ez_callV 7 [eL 10631] [] dX12_not_4 rfl rfl ok_X12_isWord in_X12_isWord (by decide) (by show 0 < 1; omega) ln_X12_301 (by omega) (Nat.le_of_ble_eq_true rfl) (c_iw_n g (d - 1) 21 10631 M hG (by decide) rfl (by omega)) (fun r4 M4 q4 => ?_)
      obtain ⟨rfl, e4⟩ := q4
      rw [e4]
      show Ez (true, g) mX12_not d 7 [(0, eR 12 0)] [eI (nI 0)] M _
      refine ez_nif_eq 10 44 dX12_not_7 rfl (by decide) (by omega) (fun h7 => ?_) (fun h7 => ?_)
      · refine ez_aload_n 45 dX12_not_44 rfl rfl ?_
        refine ez_callV 48 [] [] dX12_not_45 rfl rfl ok_X12_added in_X12_added (by decide) (by show 0 < 1; omega) ln_X12_341 (by omega) (Nat.le_of_ble_eq_true rfl) (iS o k _ _ M (d - 1) (by omega) (by omega) hG h1) (fun r45 M45 q45 => ?_)
        obtain ⟨f45, ⟨v45, rfl⟩, g45⟩ := q45
        show Ez (true, g) mX12_not d 48 [(0, eR 12 0)] [eI v45] M45 _
        refine ez_istore_n 49 [(1, eI v45), (0, eR 12 0)] dX12_not_48 rfl (by decide) rfl ?_
        refine ez_aload_n 50 dX12_not_49 rfl rfl ?_
        refine ez_bipush 52 dX12_not_50 rfl (nI 60) (by decide) ?_
        refine ez_callV 55 [eI (nI 60)] [] dX12_not_52 rfl rfl ok_X12_isSign in_X12_isSign (by decide) (by show 0 < 1; omega) ln_X12_315 (by omega) (Nat.le_of_ble_eq_true rfl) (c_is_b g (d - 1) (nI 60) M45 g45) (fun r52 M52 q52 => ?_)
        obtain ⟨rfl, e52⟩ := q52
        rw [e52]
        show Ez (true, g) mX12_not d 55 [(1, eI v45), (0, eR 12 0)] [eI (nI 0)] M45 _
        refine ez_nif_ne 58 69 dX12_not_55 rfl (by decide) (by omega) (fun h55 => ?_) (fun h55 => ?_)
        · exact absurd h55 (by decide)
        · refine ez_aload_n 59 dX12_not_58 rfl rfl ?_
          refine ez_bipush 61 dX12_not_59 rfl (nI 61) (by decide) ?_
          refine ez_callV 64 [eI (nI 61)] [] dX12_not_61 rfl rfl ok_X12_isSign in_X12_isSign (by decide) (by show 0 < 1; omega) ln_X12_315 (by omega) (Nat.le_of_ble_eq_true rfl) (c_is_b g (d - 1) (nI 61) M45 g45) (fun r61 M61 q61 => ?_)
          obtain ⟨rfl, e61⟩ := q61
          rw [e61]
          show Ez (true, g) mX12_not d 64 [(1, eI v45), (0, eR 12 0)] [eI (nI 0)] M45 _
          refine ez_nif_ne 67 69 dX12_not_64 rfl (by decide) (by omega) (fun h64 => ?_) (fun h64 => ?_)
          · exact absurd h64 (by decide)
          · refine ez_iload_n 68 dX12_not_67 rfl rfl ?_
            refine ez_iret .int dX12_not_68 rfl rfl ?_
            exact ⟨(MF.rf.tr f45), ⟨_, rfl⟩, g45⟩
      · exact absurd h7 (by decide)
theorem MTk_n {t : Nat} {M : EzM} (h : MTk t M) (ht : 1000 ≤ t) : M.1 12 0 23 = nI 2 ∧ M.2 12 0 25 = (nI (t - 1000)).toInt64 := by
  rcases h with ⟨h1, h2⟩ | ⟨h1, h2⟩ | ⟨h1, h2, h3, h4⟩ | ⟨h1, h2, h3, h4⟩ | ⟨h1, h2, h3, h4⟩ <;> first | omega | exact ⟨h3, h4⟩
theorem MTk_1 {t : Nat} {M : EzM} (h : MTk t M) (ht : 10 ≤ t ∧ t < 22) : M.1 12 0 23 = nI 1 := by
  rcases h with ⟨h1, h2⟩ | ⟨h1, h2⟩ | ⟨h1, h2, h3, h4⟩ | ⟨h1, h2, h3, h4⟩ | ⟨h1, h2, h3, h4⟩ <;> first | omega | exact h3
theorem MTk_3 {t : Nat} {M : EzM} (h : MTk t M) (ht : 40 ≤ t ∧ t < 62) : M.1 12 0 23 = nI 3 := by
  rcases h with ⟨h1, h2⟩ | ⟨h1, h2⟩ | ⟨h1, h2, h3, h4⟩ | ⟨h1, h2, h3, h4⟩ | ⟨h1, h2, h3, h4⟩ <;> first | omega | exact h3
theorem MTk_x {t : Nat} {M : EzM} (h : MTk t M) (h1 : ¬ 1000 ≤ t) : M.1 12 0 23 = nI 0 ∨ M.1 12 0 23 = nI 4 ∨ M.1 12 0 23 = nI 3 ∨ M.1 12 0 23 = nI 1 := by
  rcases h with ⟨h1, h2⟩ | ⟨h1, h2 | ⟨h2, h3⟩⟩ | ⟨h1, h2, h3, h4⟩ | ⟨h1, h2, h3, h4⟩ | ⟨h1, h2, h3, h4⟩
  · exact Or.inl h2
  · exact Or.inr (Or.inl h2)
  · exact Or.inr (Or.inr (Or.inr h2))
  · exact Or.inr (Or.inr (Or.inr h3))
  · exact Or.inr (Or.inr (Or.inl h3))
  · omega
theorem ep_l2i {a : Nat} (h : a < 2 ^ 31) : ((nI a).toInt64).toInt32 = nI a := by rw [nI_l h, lN_i]
set_option maxRecDepth 20000 in
theorem mp_one (g : EzH) {Tk Pl En : Nat → Nat} {N fr n : Nat} {b : Nat → Nat} {nm : Nat → Int32} {z : Nat} (hH : HT Tk Pl N) (hN : MNx g Tk Pl En N fr n b nm) (iO : PmM g Tk Pl En N fr n b nm mX12_one 5 9 z) (iR : PmM g Tk Pl En N fr n b nm mX12_either 10 0 z) : PmM g Tk Pl En N fr n b nm mX12_one 5 9 (z + 1) := by
  intro o k v x M d ho hd hG h
  rw [ep_pz_9] at h
  have u0 := (hH.2.1 _ hG.2.1).1
  have w0 := hG.2.1
  refine Ezc.of (by decide +kernel) (Nat.le_of_ble_eq_true rfl) ?_
  show Ez (true, g) mX12_one d 0 [(0, eR 12 0)] [] M _
  by_cases tn : 1000 ≤ Tk k
  · rw [if_pos tn] at h
    have hlt := hH.2.2 k hG.2.1 (by omega)
    cases h
    refine ez_iconst 1 dX12_one_0 rfl (nI 0) (by decide) ?_
    refine ez_istore_n 2 [(1, eI (nI 0)), (0, eR 12 0)] dX12_one_1 rfl (by decide) rfl ?_
    refine ez_aload_n 3 dX12_one_2 rfl rfl ?_
    refine ez_bipush 5 dX12_one_3 rfl (nI 45) (by decide) ?_
    refine ez_callV 8 [eI (nI 45)] [] dX12_one_5 rfl rfl ok_X12_isSign in_X12_isSign (by decide) (by show 0 < 1; omega) ln_X12_315 (by omega) (Nat.le_of_ble_eq_true rfl) (c_is_n g (d - 1) 45 M hG (by decide) (by omega)) (fun r5 M5 q5 => ?_)
    obtain ⟨rfl, e5⟩ := q5
    rw [e5]
    show Ez (true, g) mX12_one d 8 [(1, eI (nI 0)), (0, eR 12 0)] [eI (nI 0)] M _
    refine ez_nif_eq 11 37 dX12_one_8 rfl (by decide) (by omega) (fun h8 => ?_) (fun h8 => ?_)
    · refine ez_aload_n 38 dX12_one_37 rfl rfl ?_
      refine ez_bipush 40 dX12_one_38 rfl (nI 40) (by decide) ?_
      refine ez_callV 43 [eI (nI 40)] [] dX12_one_40 rfl rfl ok_X12_isSign in_X12_isSign (by decide) (by show 0 < 1; omega) ln_X12_315 (by omega) (Nat.le_of_ble_eq_true rfl) (c_is_n g (d - 1) 40 M hG (by decide) (by omega)) (fun r40 M40 q40 => ?_)
      obtain ⟨rfl, e40⟩ := q40
      rw [e40]
      show Ez (true, g) mX12_one d 43 [(1, eI (nI 0)), (0, eR 12 0)] [eI (nI 0)] M _
      refine ez_nif_eq 46 95 dX12_one_43 rfl (by decide) (by omega) (fun h43 => ?_) (fun h43 => ?_)
      · refine ez_aload_n 96 dX12_one_95 rfl rfl ?_
        refine ez_getf 99 (eI (M.1 12 0 28)) dX12_one_96 rfl fl_X12_284 (by show 0 < 1; omega) rfl ?_
        refine ez_top (nI 0) hG.2.2.2.2.2.2 ?_
        refine ez_nif_ne 102 123 dX12_one_99 rfl (by decide) (by omega) (fun h99 => ?_) (fun h99 => ?_)
        · exact absurd h99 (by decide)
        · refine ez_aload_n 103 dX12_one_102 rfl rfl ?_
          refine ez_getf 106 (eI (M.1 12 0 23)) dX12_one_103 rfl fl_X12_265 (by show 0 < 1; omega) rfl ?_
          refine ez_top (nI 2) (MTk_n hG.2.2.1 tn).1 ?_
          refine ez_iconst 107 dX12_one_106 rfl (nI 2) (by decide) ?_
          refine ez_ncmp_ne 110 123 dX12_one_107 rfl (by decide) (by omega) (by omega) (fun h107 => ?_) (fun h107 => ?_)
          · exact absurd h107 (by decide)
          · refine ez_aload_n 111 dX12_one_110 rfl rfl ?_
            refine ez_getf 114 (eL (M.2 12 0 25)) dX12_one_111 rfl fl_X12_270 (by show 0 < 1; omega) rfl ?_
            refine ez_topL ((nI (Tk k - 1000)).toInt64) (MTk_n hG.2.2.1 tn).2 ?_
            refine ez_l2i 115 dX12_one_114 rfl ?_
            refine ez_top (nI (Tk k - 1000)) (ep_l2i (by omega)) ?_
            refine ez_istore_n 116 [(1, eI (nI (Tk k - 1000))), (0, eR 12 0)] dX12_one_115 rfl (by decide) rfl ?_
            refine ez_aload_n 117 dX12_one_116 rfl rfl ?_
            refine ez_callV 120 [] [] dX12_one_117 rfl rfl ok_X12_next in_X12_next (by decide) (by show 0 < 1; omega) ln_X12_296 (by omega) (Nat.le_of_ble_eq_true rfl) (hN o k M (d - 1) (by omega) hG (by omega)) (fun r117 M117 q117 => ?_)
            obtain ⟨rfl, f117, g117⟩ := q117
            have u117 := (hH.2.1 _ g117.2.1).1
            have w117 := g117.2.1
            show Ez (true, g) mX12_one d 120 [(1, eI (nI (Tk k - 1000))), (0, eR 12 0)] [] M117 _
            refine ez_goto 161 dX12_one_120 (by decide) ?_
            refine ez_iload_n 162 dX12_one_161 rfl rfl ?_
            refine ez_iret .int dX12_one_162 rfl rfl ?_
            exact ⟨(MF.rf.tr f117), rfl, g117⟩
      · exact absurd h43 (by decide)
    · exact absurd h8 (by decide)
  rw [if_neg tn] at h
  by_cases ta : 10 ≤ Tk k ∧ Tk k < 16
  · rw [if_pos ta] at h
    have hlt := hH.2.2 k hG.2.1 (by omega)
    cases h
    refine ez_iconst 1 dX12_one_0 rfl (nI 0) (by decide) ?_
    refine ez_istore_n 2 [(1, eI (nI 0)), (0, eR 12 0)] dX12_one_1 rfl (by decide) rfl ?_
    refine ez_aload_n 3 dX12_one_2 rfl rfl ?_
    refine ez_bipush 5 dX12_one_3 rfl (nI 45) (by decide) ?_
    refine ez_callV 8 [eI (nI 45)] [] dX12_one_5 rfl rfl ok_X12_isSign in_X12_isSign (by decide) (by show 0 < 1; omega) ln_X12_315 (by omega) (Nat.le_of_ble_eq_true rfl) (c_is_n g (d - 1) 45 M hG (by decide) (by omega)) (fun r5 M5 q5 => ?_)
    obtain ⟨rfl, e5⟩ := q5
    rw [e5]
    show Ez (true, g) mX12_one d 8 [(1, eI (nI 0)), (0, eR 12 0)] [eI (nI 0)] M _
    refine ez_nif_eq 11 37 dX12_one_8 rfl (by decide) (by omega) (fun h8 => ?_) (fun h8 => ?_)
    · refine ez_aload_n 38 dX12_one_37 rfl rfl ?_
      refine ez_bipush 40 dX12_one_38 rfl (nI 40) (by decide) ?_
      refine ez_callV 43 [eI (nI 40)] [] dX12_one_40 rfl rfl ok_X12_isSign in_X12_isSign (by decide) (by show 0 < 1; omega) ln_X12_315 (by omega) (Nat.le_of_ble_eq_true rfl) (c_is_n g (d - 1) 40 M hG (by decide) (by omega)) (fun r40 M40 q40 => ?_)
      obtain ⟨rfl, e40⟩ := q40
      rw [e40]
      show Ez (true, g) mX12_one d 43 [(1, eI (nI 0)), (0, eR 12 0)] [eI (nI 0)] M _
      refine ez_nif_eq 46 95 dX12_one_43 rfl (by decide) (by omega) (fun h43 => ?_) (fun h43 => ?_)
      · refine ez_aload_n 96 dX12_one_95 rfl rfl ?_
        refine ez_getf 99 (eI (M.1 12 0 28)) dX12_one_96 rfl fl_X12_284 (by show 0 < 1; omega) rfl ?_
        refine ez_top (nI 0) hG.2.2.2.2.2.2 ?_
        refine ez_nif_ne 102 123 dX12_one_99 rfl (by decide) (by omega) (fun h99 => ?_) (fun h99 => ?_)
        · exact absurd h99 (by decide)
        · refine ez_aload_n 103 dX12_one_102 rfl rfl ?_
          refine ez_getf 106 (eI (M.1 12 0 23)) dX12_one_103 rfl fl_X12_265 (by show 0 < 1; omega) rfl ?_
          refine ez_top (nI 1) (MTk_1 hG.2.2.1 (by omega)) ?_
          refine ez_iconst 107 dX12_one_106 rfl (nI 2) (by decide) ?_
          refine ez_ncmp_ne 110 123 dX12_one_107 rfl (by decide) (by omega) (by omega) (fun h107 => ?_) (fun h107 => ?_)
          · refine ez_aload_n 124 dX12_one_123 rfl rfl ?_
            refine ez_getf 127 (eI (M.1 12 0 28)) dX12_one_124 rfl fl_X12_284 (by show 0 < 1; omega) rfl ?_
            refine ez_top (nI 0) hG.2.2.2.2.2.2 ?_
            refine ez_nif_ne 130 157 dX12_one_127 rfl (by decide) (by omega) (fun h127 => ?_) (fun h127 => ?_)
            · exact absurd h127 (by decide)
            · refine ez_aload_n 131 dX12_one_130 rfl rfl ?_
              refine ez_getf 134 (eI (M.1 12 0 23)) dX12_one_131 rfl fl_X12_265 (by show 0 < 1; omega) rfl ?_
              refine ez_top (nI 1) (MTk_1 hG.2.2.1 (by omega)) ?_
              refine ez_iconst 135 dX12_one_134 rfl (nI 1) (by decide) ?_
              refine ez_ncmp_ne 138 157 dX12_one_135 rfl (by decide) (by omega) (by omega) (fun h135 => ?_) (fun h135 => ?_)
              · exact absurd h135 (by decide)
              · refine ez_aload_n 139 dX12_one_138 rfl rfl ?_
                refine ez_callV 142 [] [] dX12_one_139 rfl rfl ok_X12_name in_X12_name (by decide) (by show 0 < 1; omega) ln_X12_328 (by omega) (Nat.le_of_ble_eq_true rfl) (c_name g (d - 1) M (by omega) hG (by omega)) (fun r139 M139 q139 => ?_)
                obtain ⟨rfl, e139⟩ := q139
                rw [e139]
                show Ez (true, g) mX12_one d 142 [(1, eI (nI 0)), (0, eR 12 0)] [eI (nm (Tk k - 10))] M _
                refine ez_istore_n 143 [(1, eI (nm (Tk k - 10))), (0, eR 12 0)] dX12_one_142 rfl (by decide) rfl ?_
                refine ez_aload_n 144 dX12_one_143 rfl rfl ?_
                refine ez_getf 147 (eI (M.1 12 0 28)) dX12_one_144 rfl fl_X12_284 (by show 0 < 1; omega) rfl ?_
                refine ez_top (nI 0) hG.2.2.2.2.2.2 ?_
                refine ez_nif_ne 150 161 dX12_one_147 rfl (by decide) (by omega) (fun h147 => ?_) (fun h147 => ?_)
                · exact absurd h147 (by decide)
                · refine ez_aload_n 151 dX12_one_150 rfl rfl ?_
                  refine ez_callV 154 [] [] dX12_one_151 rfl rfl ok_X12_next in_X12_next (by decide) (by show 0 < 1; omega) ln_X12_296 (by omega) (Nat.le_of_ble_eq_true rfl) (hN o k M (d - 1) (by omega) hG (by omega)) (fun r151 M151 q151 => ?_)
                  obtain ⟨rfl, f151, g151⟩ := q151
                  have u151 := (hH.2.1 _ g151.2.1).1
                  have w151 := g151.2.1
                  show Ez (true, g) mX12_one d 154 [(1, eI (nm (Tk k - 10))), (0, eR 12 0)] [] M151 _
                  refine ez_goto 161 dX12_one_154 (by decide) ?_
                  refine ez_iload_n 162 dX12_one_161 rfl rfl ?_
                  refine ez_iret .int dX12_one_162 rfl rfl ?_
                  exact ⟨(MF.rf.tr f151), rfl, g151⟩
          · exact absurd h107 (by decide)
      · exact absurd h43 (by decide)
    · exact absurd h8 (by decide)
  rw [if_neg ta] at h
  by_cases t45 : Tk k = 45
  · rw [if_pos t45] at h
    have hlt := hH.2.2 k hG.2.1 (by omega)
    by_cases o5 : 5 ≤ o
    · rw [if_pos o5] at h
      cases h
      refine ez_iconst 1 dX12_one_0 rfl (nI 0) (by decide) ?_
      refine ez_istore_n 2 [(1, eI (nI 0)), (0, eR 12 0)] dX12_one_1 rfl (by decide) rfl ?_
      refine ez_aload_n 3 dX12_one_2 rfl rfl ?_
      refine ez_bipush 5 dX12_one_3 rfl (nI 45) (by decide) ?_
      refine ez_callV 8 [eI (nI 45)] [] dX12_one_5 rfl rfl ok_X12_isSign in_X12_isSign (by decide) (by show 0 < 1; omega) ln_X12_315 (by omega) (Nat.le_of_ble_eq_true rfl) (c_is_y g (d - 1) 45 M hG (by decide) (by omega)) (fun r5 M5 q5 => ?_)
      obtain ⟨rfl, e5⟩ := q5
      rw [e5]
      show Ez (true, g) mX12_one d 8 [(1, eI (nI 0)), (0, eR 12 0)] [eI (nI 1)] M _
      refine ez_nif_eq 11 37 dX12_one_8 rfl (by decide) (by omega) (fun h8 => ?_) (fun h8 => ?_)
      · exact absurd h8 (by decide)
      · refine ez_aload_n 12 dX12_one_11 rfl rfl ?_
        refine ez_callV 15 [] [] dX12_one_12 rfl rfl ok_X12_opens in_X12_opens (by decide) (by show 0 < 1; omega) ln_X12_318 (by omega) (Nat.le_of_ble_eq_true rfl) (c_opensn g (d - 1) M (by omega) hH hG (by omega)) (fun r12 M12 q12 => ?_)
        obtain ⟨rfl, f12, g12⟩ := q12
        show Ez (true, g) mX12_one d 15 [(1, eI (nI 0)), (0, eR 12 0)] [eI (nI 0)] M12 _
        refine ez_nif_eq 18 161 dX12_one_15 rfl (by decide) (by omega) (fun h15 => ?_) (fun h15 => ?_)
        · refine ez_iload_n 162 dX12_one_161 rfl rfl ?_
          refine ez_iret .int dX12_one_162 rfl rfl ?_
          exact ⟨(MF.rf.tr f12), ⟨_, rfl⟩, g12⟩
        · exact absurd h15 (by decide)
    · rw [if_neg o5] at h
      rcases ep_bd_some h with ⟨k1, c1, v1, h1, h2⟩ | ⟨e, h1, rfl⟩
      · cases h2
        refine ez_iconst 1 dX12_one_0 rfl (nI 0) (by decide) ?_
        refine ez_istore_n 2 [(1, eI (nI 0)), (0, eR 12 0)] dX12_one_1 rfl (by decide) rfl ?_
        refine ez_aload_n 3 dX12_one_2 rfl rfl ?_
        refine ez_bipush 5 dX12_one_3 rfl (nI 45) (by decide) ?_
        refine ez_callV 8 [eI (nI 45)] [] dX12_one_5 rfl rfl ok_X12_isSign in_X12_isSign (by decide) (by show 0 < 1; omega) ln_X12_315 (by omega) (Nat.le_of_ble_eq_true rfl) (c_is_y g (d - 1) 45 M hG (by decide) (by omega)) (fun r5 M5 q5 => ?_)
        obtain ⟨rfl, e5⟩ := q5
        rw [e5]
        show Ez (true, g) mX12_one d 8 [(1, eI (nI 0)), (0, eR 12 0)] [eI (nI 1)] M _
        refine ez_nif_eq 11 37 dX12_one_8 rfl (by decide) (by omega) (fun h8 => ?_) (fun h8 => ?_)
        · exact absurd h8 (by decide)
        · refine ez_aload_n 12 dX12_one_11 rfl rfl ?_
          refine ez_callV 15 [] [] dX12_one_12 rfl rfl ok_X12_opens in_X12_opens (by decide) (by show 0 < 1; omega) ln_X12_318 (by omega) (Nat.le_of_ble_eq_true rfl) (c_opens g (d - 1) M (by omega) hH hN hG (by omega) (by omega)) (fun r12 M12 q12 => ?_)
          obtain ⟨rfl, f12, g12⟩ := q12
          have u12 := (hH.2.1 _ g12.2.1).1
          have w12 := g12.2.1
          show Ez (true, g) mX12_one d 15 [(1, eI (nI 0)), (0, eR 12 0)] [eI (nI 1)] M12 _
          refine ez_nif_eq 18 161 dX12_one_15 rfl (by decide) (by omega) (fun h15 => ?_) (fun h15 => ?_)
          · exact absurd h15 (by decide)
          · refine ez_aload_n 19 dX12_one_18 rfl rfl ?_
            refine ez_callV 22 [] [] dX12_one_19 rfl rfl ok_X12_one in_X12_one (by decide) (by show 0 < 1; omega) ln_X12_322 (by omega) (Nat.le_of_ble_eq_true rfl) (iO (o + 1) (k + 1) _ _ M12 (d - 1) (by omega) (by omega) g12 h1) (fun r19 M19 q19 => ?_)
            obtain ⟨f19, rfl, g19⟩ := q19
            have g19 : MG Tk Pl En N fr n b nm (o + 1) k1 M19 := g19
            have u19 := (hH.2.1 _ g19.2.1).1
            have w19 := g19.2.1
            show Ez (true, g) mX12_one d 22 [(1, eI (nI 0)), (0, eR 12 0)] [eI (v1 nm)] M19 _
            refine ez_ineg 23 dX12_one_22 rfl ?_
            refine ez_istore_n 24 [(1, eI (-(v1 nm))), (0, eR 12 0)] dX12_one_23 rfl (by decide) rfl ?_
            refine ez_aload_n 25 dX12_one_24 rfl rfl ?_
            refine ez_dup 26 dX12_one_25 rfl rfl ?_
            refine ez_getf 29 (eI (M19.1 12 0 27)) dX12_one_26 rfl fl_X12_290 (by show 0 < 1; omega) rfl ?_
            refine ez_top (nI (o + 1)) g19.2.2.2.2.2.1 ?_
            refine ez_iconst 30 dX12_one_29 rfl (nI 1) (by decide) ?_
            refine ez_isub 31 dX12_one_30 rfl ?_
            refine ez_top (nI o) (by rw [pk_sub (by omega)]; rfl) ?_
            refine ez_putf 34 .int dX12_one_31 rfl fp_X12_290 (by show 0 < 1; omega) rfl (by decide) rfl rfl ?_
            have g34 := MG_op (o' := o) g19
            have f34 : MF M19 (ez_st M19 12 0 27 (nI o)) := MF.s (by decide)
            generalize ez_st M19 12 0 27 (nI o) = M34 at g34 f34 ⊢
            have u34 := (hH.2.1 _ g34.2.1).1
            refine ez_goto 161 dX12_one_34 (by decide) ?_
            refine ez_iload_n 162 dX12_one_161 rfl rfl ?_
            refine ez_iret .int dX12_one_162 rfl rfl ?_
            exact ⟨(((MF.rf.tr f12).tr f19).tr f34), rfl, g34⟩
      · refine ez_iconst 1 dX12_one_0 rfl (nI 0) (by decide) ?_
        refine ez_istore_n 2 [(1, eI (nI 0)), (0, eR 12 0)] dX12_one_1 rfl (by decide) rfl ?_
        refine ez_aload_n 3 dX12_one_2 rfl rfl ?_
        refine ez_bipush 5 dX12_one_3 rfl (nI 45) (by decide) ?_
        refine ez_callV 8 [eI (nI 45)] [] dX12_one_5 rfl rfl ok_X12_isSign in_X12_isSign (by decide) (by show 0 < 1; omega) ln_X12_315 (by omega) (Nat.le_of_ble_eq_true rfl) (c_is_y g (d - 1) 45 M hG (by decide) (by omega)) (fun r5 M5 q5 => ?_)
        obtain ⟨rfl, e5⟩ := q5
        rw [e5]
        show Ez (true, g) mX12_one d 8 [(1, eI (nI 0)), (0, eR 12 0)] [eI (nI 1)] M _
        refine ez_nif_eq 11 37 dX12_one_8 rfl (by decide) (by omega) (fun h8 => ?_) (fun h8 => ?_)
        · exact absurd h8 (by decide)
        · refine ez_aload_n 12 dX12_one_11 rfl rfl ?_
          refine ez_callV 15 [] [] dX12_one_12 rfl rfl ok_X12_opens in_X12_opens (by decide) (by show 0 < 1; omega) ln_X12_318 (by omega) (Nat.le_of_ble_eq_true rfl) (c_opens g (d - 1) M (by omega) hH hN hG (by omega) (by omega)) (fun r12 M12 q12 => ?_)
          obtain ⟨rfl, f12, g12⟩ := q12
          have u12 := (hH.2.1 _ g12.2.1).1
          have w12 := g12.2.1
          show Ez (true, g) mX12_one d 15 [(1, eI (nI 0)), (0, eR 12 0)] [eI (nI 1)] M12 _
          refine ez_nif_eq 18 161 dX12_one_15 rfl (by decide) (by omega) (fun h15 => ?_) (fun h15 => ?_)
          · exact absurd h15 (by decide)
          · refine ez_aload_n 19 dX12_one_18 rfl rfl ?_
            refine ez_callV 22 [] [] dX12_one_19 rfl rfl ok_X12_one in_X12_one (by decide) (by show 0 < 1; omega) ln_X12_322 (by omega) (Nat.le_of_ble_eq_true rfl) (iO (o + 1) (k + 1) _ _ M12 (d - 1) (by omega) (by omega) g12 h1) (fun r19 M19 q19 => ?_)
            obtain ⟨f19, ⟨v19, rfl⟩, g19⟩ := q19
            show Ez (true, g) mX12_one d 22 [(1, eI (nI 0)), (0, eR 12 0)] [eI v19] M19 _
            refine ez_ineg 23 dX12_one_22 rfl ?_
            refine ez_istore_n 24 [(1, eI (-v19)), (0, eR 12 0)] dX12_one_23 rfl (by decide) rfl ?_
            refine ez_aload_n 25 dX12_one_24 rfl rfl ?_
            refine ez_dup 26 dX12_one_25 rfl rfl ?_
            refine ez_getf 29 (eI (M19.1 12 0 27)) dX12_one_26 rfl fl_X12_290 (by show 0 < 1; omega) rfl ?_
            refine ez_top (nI (o + 1)) g19.2.2 ?_
            refine ez_iconst 30 dX12_one_29 rfl (nI 1) (by decide) ?_
            refine ez_isub 31 dX12_one_30 rfl ?_
            refine ez_top (nI o) (by rw [pk_sub (by omega)]; rfl) ?_
            refine ez_putf 34 .int dX12_one_31 rfl fp_X12_290 (by show 0 < 1; omega) rfl (by decide) rfl rfl ?_
            have g34 := MB_op (o' := o) g19
            have f34 : MF M19 (ez_st M19 12 0 27 (nI o)) := MF.s (by decide)
            generalize ez_st M19 12 0 27 (nI o) = M34 at g34 f34 ⊢
            refine ez_goto 161 dX12_one_34 (by decide) ?_
            refine ez_iload_n 162 dX12_one_161 rfl rfl ?_
            refine ez_iret .int dX12_one_162 rfl rfl ?_
            exact ⟨(((MF.rf.tr f12).tr f19).tr f34), ⟨_, rfl⟩, g34⟩
  rw [if_neg t45] at h
  by_cases t40 : Tk k = 40
  · rw [if_pos t40] at h
    have hlt := hH.2.2 k hG.2.1 (by omega)
    by_cases o5 : 5 ≤ o
    · rw [if_pos o5] at h
      cases h
      refine ez_iconst 1 dX12_one_0 rfl (nI 0) (by decide) ?_
      refine ez_istore_n 2 [(1, eI (nI 0)), (0, eR 12 0)] dX12_one_1 rfl (by decide) rfl ?_
      refine ez_aload_n 3 dX12_one_2 rfl rfl ?_
      refine ez_bipush 5 dX12_one_3 rfl (nI 45) (by decide) ?_
      refine ez_callV 8 [eI (nI 45)] [] dX12_one_5 rfl rfl ok_X12_isSign in_X12_isSign (by decide) (by show 0 < 1; omega) ln_X12_315 (by omega) (Nat.le_of_ble_eq_true rfl) (c_is_n g (d - 1) 45 M hG (by decide) (by omega)) (fun r5 M5 q5 => ?_)
      obtain ⟨rfl, e5⟩ := q5
      rw [e5]
      show Ez (true, g) mX12_one d 8 [(1, eI (nI 0)), (0, eR 12 0)] [eI (nI 0)] M _
      refine ez_nif_eq 11 37 dX12_one_8 rfl (by decide) (by omega) (fun h8 => ?_) (fun h8 => ?_)
      · refine ez_aload_n 38 dX12_one_37 rfl rfl ?_
        refine ez_bipush 40 dX12_one_38 rfl (nI 40) (by decide) ?_
        refine ez_callV 43 [eI (nI 40)] [] dX12_one_40 rfl rfl ok_X12_isSign in_X12_isSign (by decide) (by show 0 < 1; omega) ln_X12_315 (by omega) (Nat.le_of_ble_eq_true rfl) (c_is_y g (d - 1) 40 M hG (by decide) (by omega)) (fun r40 M40 q40 => ?_)
        obtain ⟨rfl, e40⟩ := q40
        rw [e40]
        show Ez (true, g) mX12_one d 43 [(1, eI (nI 0)), (0, eR 12 0)] [eI (nI 1)] M _
        refine ez_nif_eq 46 95 dX12_one_43 rfl (by decide) (by omega) (fun h43 => ?_) (fun h43 => ?_)
        · exact absurd h43 (by decide)
        · refine ez_aload_n 47 dX12_one_46 rfl rfl ?_
          refine ez_callV 50 [] [] dX12_one_47 rfl rfl ok_X12_opens in_X12_opens (by decide) (by show 0 < 1; omega) ln_X12_318 (by omega) (Nat.le_of_ble_eq_true rfl) (c_opensn g (d - 1) M (by omega) hH hG (by omega)) (fun r47 M47 q47 => ?_)
          obtain ⟨rfl, f47, g47⟩ := q47
          show Ez (true, g) mX12_one d 50 [(1, eI (nI 0)), (0, eR 12 0)] [eI (nI 0)] M47 _
          refine ez_nif_eq 53 161 dX12_one_50 rfl (by decide) (by omega) (fun h50 => ?_) (fun h50 => ?_)
          · refine ez_iload_n 162 dX12_one_161 rfl rfl ?_
            refine ez_iret .int dX12_one_162 rfl rfl ?_
            exact ⟨(MF.rf.tr f47), ⟨_, rfl⟩, g47⟩
          · exact absurd h50 (by decide)
      · exact absurd h8 (by decide)
    · rw [if_neg o5] at h
      rcases ep_bd_some h with ⟨k1, c1, v1, h1, h2⟩ | ⟨e, h1, rfl⟩
      · obtain ⟨p1, p2, p3⟩ := ep_pz_pk hH.2.2 z _ _ _ _ _ _ (show k + 1 ≤ N from hlt) (Or.inr (Or.inr (Or.inr (Or.inr rfl)))) h1
        have uk := (hH.2.1 k1 p2).1
        by_cases t41 : Tk k1 = 41
        · rw [if_pos t41] at h2
          have hl1 := hH.2.2 k1 p2 (by omega)
          cases h2
          refine ez_iconst 1 dX12_one_0 rfl (nI 0) (by decide) ?_
          refine ez_istore_n 2 [(1, eI (nI 0)), (0, eR 12 0)] dX12_one_1 rfl (by decide) rfl ?_
          refine ez_aload_n 3 dX12_one_2 rfl rfl ?_
          refine ez_bipush 5 dX12_one_3 rfl (nI 45) (by decide) ?_
          refine ez_callV 8 [eI (nI 45)] [] dX12_one_5 rfl rfl ok_X12_isSign in_X12_isSign (by decide) (by show 0 < 1; omega) ln_X12_315 (by omega) (Nat.le_of_ble_eq_true rfl) (c_is_n g (d - 1) 45 M hG (by decide) (by omega)) (fun r5 M5 q5 => ?_)
          obtain ⟨rfl, e5⟩ := q5
          rw [e5]
          show Ez (true, g) mX12_one d 8 [(1, eI (nI 0)), (0, eR 12 0)] [eI (nI 0)] M _
          refine ez_nif_eq 11 37 dX12_one_8 rfl (by decide) (by omega) (fun h8 => ?_) (fun h8 => ?_)
          · refine ez_aload_n 38 dX12_one_37 rfl rfl ?_
            refine ez_bipush 40 dX12_one_38 rfl (nI 40) (by decide) ?_
            refine ez_callV 43 [eI (nI 40)] [] dX12_one_40 rfl rfl ok_X12_isSign in_X12_isSign (by decide) (by show 0 < 1; omega) ln_X12_315 (by omega) (Nat.le_of_ble_eq_true rfl) (c_is_y g (d - 1) 40 M hG (by decide) (by omega)) (fun r40 M40 q40 => ?_)
            obtain ⟨rfl, e40⟩ := q40
            rw [e40]
            show Ez (true, g) mX12_one d 43 [(1, eI (nI 0)), (0, eR 12 0)] [eI (nI 1)] M _
            refine ez_nif_eq 46 95 dX12_one_43 rfl (by decide) (by omega) (fun h43 => ?_) (fun h43 => ?_)
            · exact absurd h43 (by decide)
            · refine ez_aload_n 47 dX12_one_46 rfl rfl ?_
              refine ez_callV 50 [] [] dX12_one_47 rfl rfl ok_X12_opens in_X12_opens (by decide) (by show 0 < 1; omega) ln_X12_318 (by omega) (Nat.le_of_ble_eq_true rfl) (c_opens g (d - 1) M (by omega) hH hN hG (by omega) (by omega)) (fun r47 M47 q47 => ?_)
              obtain ⟨rfl, f47, g47⟩ := q47
              have u47 := (hH.2.1 _ g47.2.1).1
              have w47 := g47.2.1
              show Ez (true, g) mX12_one d 50 [(1, eI (nI 0)), (0, eR 12 0)] [eI (nI 1)] M47 _
              refine ez_nif_eq 53 161 dX12_one_50 rfl (by decide) (by omega) (fun h50 => ?_) (fun h50 => ?_)
              · exact absurd h50 (by decide)
              · refine ez_aload_n 54 dX12_one_53 rfl rfl ?_
                refine ez_callV 57 [] [] dX12_one_54 rfl rfl ok_X12_either in_X12_either (by decide) (by show 0 < 1; omega) ln_X12_325 (by omega) (Nat.le_of_ble_eq_true rfl) (iR (o + 1) (k + 1) _ _ M47 (d - 1) (by omega) (by omega) g47 h1) (fun r54 M54 q54 => ?_)
                obtain ⟨f54, rfl, g54⟩ := q54
                have g54 : MG Tk Pl En N fr n b nm (o + 1) k1 M54 := g54
                have u54 := (hH.2.1 _ g54.2.1).1
                have w54 := g54.2.1
                show Ez (true, g) mX12_one d 57 [(1, eI (nI 0)), (0, eR 12 0)] [eI (v1 nm)] M54 _
                refine ez_istore_n 58 [(1, eI (v1 nm)), (0, eR 12 0)] dX12_one_57 rfl (by decide) rfl ?_
                refine ez_aload_n 59 dX12_one_58 rfl rfl ?_
                refine ez_bipush 61 dX12_one_59 rfl (nI 41) (by decide) ?_
                refine ez_callV 64 [eI (nI 41)] [] dX12_one_61 rfl rfl ok_X12_isSign in_X12_isSign (by decide) (by show 0 < 1; omega) ln_X12_315 (by omega) (Nat.le_of_ble_eq_true rfl) (c_is_y g (d - 1) 41 M54 g54 (by decide) (by omega)) (fun r61 M61 q61 => ?_)
                obtain ⟨rfl, e61⟩ := q61
                rw [e61]
                show Ez (true, g) mX12_one d 64 [(1, eI (v1 nm)), (0, eR 12 0)] [eI (nI 1)] M54 _
                refine ez_nif_ne 67 71 dX12_one_64 rfl (by decide) (by omega) (fun h64 => ?_) (fun h64 => ?_)
                · refine ez_aload_n 72 dX12_one_71 rfl rfl ?_
                  refine ez_dup 73 dX12_one_72 rfl rfl ?_
                  refine ez_getf 76 (eI (M54.1 12 0 27)) dX12_one_73 rfl fl_X12_290 (by show 0 < 1; omega) rfl ?_
                  refine ez_top (nI (o + 1)) g54.2.2.2.2.2.1 ?_
                  refine ez_iconst 77 dX12_one_76 rfl (nI 1) (by decide) ?_
                  refine ez_isub 78 dX12_one_77 rfl ?_
                  refine ez_top (nI o) (by rw [pk_sub (by omega)]; rfl) ?_
                  refine ez_putf 81 .int dX12_one_78 rfl fp_X12_290 (by show 0 < 1; omega) rfl (by decide) rfl rfl ?_
                  have g81 := MG_op (o' := o) g54
                  have f81 : MF M54 (ez_st M54 12 0 27 (nI o)) := MF.s (by decide)
                  generalize ez_st M54 12 0 27 (nI o) = M81 at g81 f81 ⊢
                  have u81 := (hH.2.1 _ g81.2.1).1
                  refine ez_aload_n 82 dX12_one_81 rfl rfl ?_
                  refine ez_getf 85 (eI (M81.1 12 0 28)) dX12_one_82 rfl fl_X12_284 (by show 0 < 1; omega) rfl ?_
                  refine ez_top (nI 0) g81.2.2.2.2.2.2 ?_
                  refine ez_nif_ne 88 161 dX12_one_85 rfl (by decide) (by omega) (fun h85 => ?_) (fun h85 => ?_)
                  · exact absurd h85 (by decide)
                  · refine ez_aload_n 89 dX12_one_88 rfl rfl ?_
                    refine ez_callV 92 [] [] dX12_one_89 rfl rfl ok_X12_next in_X12_next (by decide) (by show 0 < 1; omega) ln_X12_296 (by omega) (Nat.le_of_ble_eq_true rfl) (hN o k1 M81 (d - 1) (by omega) g81 (by omega)) (fun r89 M89 q89 => ?_)
                    obtain ⟨rfl, f89, g89⟩ := q89
                    have u89 := (hH.2.1 _ g89.2.1).1
                    have w89 := g89.2.1
                    show Ez (true, g) mX12_one d 92 [(1, eI (v1 nm)), (0, eR 12 0)] [] M89 _
                    refine ez_goto 161 dX12_one_92 (by decide) ?_
                    refine ez_iload_n 162 dX12_one_161 rfl rfl ?_
                    refine ez_iret .int dX12_one_162 rfl rfl ?_
                    exact ⟨((((MF.rf.tr f47).tr f54).tr f81).tr f89), rfl, g89⟩
                · exact absurd h64 (by decide)
          · exact absurd h8 (by decide)
        · rw [if_neg t41] at h2
          cases h2
          refine ez_iconst 1 dX12_one_0 rfl (nI 0) (by decide) ?_
          refine ez_istore_n 2 [(1, eI (nI 0)), (0, eR 12 0)] dX12_one_1 rfl (by decide) rfl ?_
          refine ez_aload_n 3 dX12_one_2 rfl rfl ?_
          refine ez_bipush 5 dX12_one_3 rfl (nI 45) (by decide) ?_
          refine ez_callV 8 [eI (nI 45)] [] dX12_one_5 rfl rfl ok_X12_isSign in_X12_isSign (by decide) (by show 0 < 1; omega) ln_X12_315 (by omega) (Nat.le_of_ble_eq_true rfl) (c_is_n g (d - 1) 45 M hG (by decide) (by omega)) (fun r5 M5 q5 => ?_)
          obtain ⟨rfl, e5⟩ := q5
          rw [e5]
          show Ez (true, g) mX12_one d 8 [(1, eI (nI 0)), (0, eR 12 0)] [eI (nI 0)] M _
          refine ez_nif_eq 11 37 dX12_one_8 rfl (by decide) (by omega) (fun h8 => ?_) (fun h8 => ?_)
          · refine ez_aload_n 38 dX12_one_37 rfl rfl ?_
            refine ez_bipush 40 dX12_one_38 rfl (nI 40) (by decide) ?_
            refine ez_callV 43 [eI (nI 40)] [] dX12_one_40 rfl rfl ok_X12_isSign in_X12_isSign (by decide) (by show 0 < 1; omega) ln_X12_315 (by omega) (Nat.le_of_ble_eq_true rfl) (c_is_y g (d - 1) 40 M hG (by decide) (by omega)) (fun r40 M40 q40 => ?_)
            obtain ⟨rfl, e40⟩ := q40
            rw [e40]
            show Ez (true, g) mX12_one d 43 [(1, eI (nI 0)), (0, eR 12 0)] [eI (nI 1)] M _
            refine ez_nif_eq 46 95 dX12_one_43 rfl (by decide) (by omega) (fun h43 => ?_) (fun h43 => ?_)
            · exact absurd h43 (by decide)
            · refine ez_aload_n 47 dX12_one_46 rfl rfl ?_
              refine ez_callV 50 [] [] dX12_one_47 rfl rfl ok_X12_opens in_X12_opens (by decide) (by show 0 < 1; omega) ln_X12_318 (by omega) (Nat.le_of_ble_eq_true rfl) (c_opens g (d - 1) M (by omega) hH hN hG (by omega) (by omega)) (fun r47 M47 q47 => ?_)
              obtain ⟨rfl, f47, g47⟩ := q47
              have u47 := (hH.2.1 _ g47.2.1).1
              have w47 := g47.2.1
              show Ez (true, g) mX12_one d 50 [(1, eI (nI 0)), (0, eR 12 0)] [eI (nI 1)] M47 _
              refine ez_nif_eq 53 161 dX12_one_50 rfl (by decide) (by omega) (fun h50 => ?_) (fun h50 => ?_)
              · exact absurd h50 (by decide)
              · refine ez_aload_n 54 dX12_one_53 rfl rfl ?_
                refine ez_callV 57 [] [] dX12_one_54 rfl rfl ok_X12_either in_X12_either (by decide) (by show 0 < 1; omega) ln_X12_325 (by omega) (Nat.le_of_ble_eq_true rfl) (iR (o + 1) (k + 1) _ _ M47 (d - 1) (by omega) (by omega) g47 h1) (fun r54 M54 q54 => ?_)
                obtain ⟨f54, rfl, g54⟩ := q54
                have g54 : MG Tk Pl En N fr n b nm (o + 1) k1 M54 := g54
                have u54 := (hH.2.1 _ g54.2.1).1
                have w54 := g54.2.1
                show Ez (true, g) mX12_one d 57 [(1, eI (nI 0)), (0, eR 12 0)] [eI (v1 nm)] M54 _
                refine ez_istore_n 58 [(1, eI (v1 nm)), (0, eR 12 0)] dX12_one_57 rfl (by decide) rfl ?_
                refine ez_aload_n 59 dX12_one_58 rfl rfl ?_
                refine ez_bipush 61 dX12_one_59 rfl (nI 41) (by decide) ?_
                refine ez_callV 64 [eI (nI 41)] [] dX12_one_61 rfl rfl ok_X12_isSign in_X12_isSign (by decide) (by show 0 < 1; omega) ln_X12_315 (by omega) (Nat.le_of_ble_eq_true rfl) (c_is_n g (d - 1) 41 M54 g54 (by decide) (by omega)) (fun r61 M61 q61 => ?_)
                obtain ⟨rfl, e61⟩ := q61
                rw [e61]
                show Ez (true, g) mX12_one d 64 [(1, eI (v1 nm)), (0, eR 12 0)] [eI (nI 0)] M54 _
                refine ez_nif_ne 67 71 dX12_one_64 rfl (by decide) (by omega) (fun h64 => ?_) (fun h64 => ?_)
                · exact absurd h64 (by decide)
                · refine ez_aload_n 68 dX12_one_67 rfl rfl ?_
                  refine ez_callV 71 [] [] dX12_one_68 rfl rfl ok_X12_fail in_X12_fail (by decide) (by show 0 < 1; omega) ln_X12_293 (by omega) (Nat.le_of_ble_eq_true rfl) (c_fail g (d - 1) M54 g54) (fun r68 M68 q68 => ?_)
                  obtain ⟨rfl, f68, g68⟩ := q68
                  show Ez (true, g) mX12_one d 71 [(1, eI (v1 nm)), (0, eR 12 0)] [] M68 _
                  refine ez_aload_n 72 dX12_one_71 rfl rfl ?_
                  refine ez_dup 73 dX12_one_72 rfl rfl ?_
                  refine ez_getf 76 (eI (M68.1 12 0 27)) dX12_one_73 rfl fl_X12_290 (by show 0 < 1; omega) rfl ?_
                  refine ez_top (nI (o + 1)) g68.2.2 ?_
                  refine ez_iconst 77 dX12_one_76 rfl (nI 1) (by decide) ?_
                  refine ez_isub 78 dX12_one_77 rfl ?_
                  refine ez_top (nI o) (by rw [pk_sub (by omega)]; rfl) ?_
                  refine ez_putf 81 .int dX12_one_78 rfl fp_X12_290 (by show 0 < 1; omega) rfl (by decide) rfl rfl ?_
                  have g81 := MB_op (o' := o) g68
                  have f81 : MF M68 (ez_st M68 12 0 27 (nI o)) := MF.s (by decide)
                  generalize ez_st M68 12 0 27 (nI o) = M81 at g81 f81 ⊢
                  refine ez_aload_n 82 dX12_one_81 rfl rfl ?_
                  refine ez_getf 85 (eI (M81.1 12 0 28)) dX12_one_82 rfl fl_X12_284 (by show 0 < 1; omega) rfl ?_
                  refine ez_top (nI 1) g81.1 ?_
                  refine ez_nif_ne 88 161 dX12_one_85 rfl (by decide) (by omega) (fun h85 => ?_) (fun h85 => ?_)
                  · refine ez_iload_n 162 dX12_one_161 rfl rfl ?_
                    refine ez_iret .int dX12_one_162 rfl rfl ?_
                    exact ⟨((((MF.rf.tr f47).tr f54).tr f68).tr f81), ⟨_, rfl⟩, g81⟩
                  · exact absurd h85 (by decide)
          · exact absurd h8 (by decide)
      · refine ez_iconst 1 dX12_one_0 rfl (nI 0) (by decide) ?_
        refine ez_istore_n 2 [(1, eI (nI 0)), (0, eR 12 0)] dX12_one_1 rfl (by decide) rfl ?_
        refine ez_aload_n 3 dX12_one_2 rfl rfl ?_
        refine ez_bipush 5 dX12_one_3 rfl (nI 45) (by decide) ?_
        refine ez_callV 8 [eI (nI 45)] [] dX12_one_5 rfl rfl ok_X12_isSign in_X12_isSign (by decide) (by show 0 < 1; omega) ln_X12_315 (by omega) (Nat.le_of_ble_eq_true rfl) (c_is_n g (d - 1) 45 M hG (by decide) (by omega)) (fun r5 M5 q5 => ?_)
        obtain ⟨rfl, e5⟩ := q5
        rw [e5]
        show Ez (true, g) mX12_one d 8 [(1, eI (nI 0)), (0, eR 12 0)] [eI (nI 0)] M _
        refine ez_nif_eq 11 37 dX12_one_8 rfl (by decide) (by omega) (fun h8 => ?_) (fun h8 => ?_)
        · refine ez_aload_n 38 dX12_one_37 rfl rfl ?_
          refine ez_bipush 40 dX12_one_38 rfl (nI 40) (by decide) ?_
          refine ez_callV 43 [eI (nI 40)] [] dX12_one_40 rfl rfl ok_X12_isSign in_X12_isSign (by decide) (by show 0 < 1; omega) ln_X12_315 (by omega) (Nat.le_of_ble_eq_true rfl) (c_is_y g (d - 1) 40 M hG (by decide) (by omega)) (fun r40 M40 q40 => ?_)
          obtain ⟨rfl, e40⟩ := q40
          rw [e40]
          show Ez (true, g) mX12_one d 43 [(1, eI (nI 0)), (0, eR 12 0)] [eI (nI 1)] M _
          refine ez_nif_eq 46 95 dX12_one_43 rfl (by decide) (by omega) (fun h43 => ?_) (fun h43 => ?_)
          · exact absurd h43 (by decide)
          · refine ez_aload_n 47 dX12_one_46 rfl rfl ?_
            refine ez_callV 50 [] [] dX12_one_47 rfl rfl ok_X12_opens in_X12_opens (by decide) (by show 0 < 1; omega) ln_X12_318 (by omega) (Nat.le_of_ble_eq_true rfl) (c_opens g (d - 1) M (by omega) hH hN hG (by omega) (by omega)) (fun r47 M47 q47 => ?_)
            obtain ⟨rfl, f47, g47⟩ := q47
            have u47 := (hH.2.1 _ g47.2.1).1
            have w47 := g47.2.1
            show Ez (true, g) mX12_one d 50 [(1, eI (nI 0)), (0, eR 12 0)] [eI (nI 1)] M47 _
            refine ez_nif_eq 53 161 dX12_one_50 rfl (by decide) (by omega) (fun h50 => ?_) (fun h50 => ?_)
            · exact absurd h50 (by decide)
            · refine ez_aload_n 54 dX12_one_53 rfl rfl ?_
              refine ez_callV 57 [] [] dX12_one_54 rfl rfl ok_X12_either in_X12_either (by decide) (by show 0 < 1; omega) ln_X12_325 (by omega) (Nat.le_of_ble_eq_true rfl) (iR (o + 1) (k + 1) _ _ M47 (d - 1) (by omega) (by omega) g47 h1) (fun r54 M54 q54 => ?_)
              obtain ⟨f54, ⟨v54, rfl⟩, g54⟩ := q54
              show Ez (true, g) mX12_one d 57 [(1, eI (nI 0)), (0, eR 12 0)] [eI v54] M54 _
              refine ez_istore_n 58 [(1, eI v54), (0, eR 12 0)] dX12_one_57 rfl (by decide) rfl ?_
              refine ez_aload_n 59 dX12_one_58 rfl rfl ?_
              refine ez_bipush 61 dX12_one_59 rfl (nI 41) (by decide) ?_
              refine ez_callV 64 [eI (nI 41)] [] dX12_one_61 rfl rfl ok_X12_isSign in_X12_isSign (by decide) (by show 0 < 1; omega) ln_X12_315 (by omega) (Nat.le_of_ble_eq_true rfl) (c_is_b g (d - 1) (nI 41) M54 g54) (fun r61 M61 q61 => ?_)
              obtain ⟨rfl, e61⟩ := q61
              rw [e61]
              show Ez (true, g) mX12_one d 64 [(1, eI v54), (0, eR 12 0)] [eI (nI 0)] M54 _
              refine ez_nif_ne 67 71 dX12_one_64 rfl (by decide) (by omega) (fun h64 => ?_) (fun h64 => ?_)
              · exact absurd h64 (by decide)
              · refine ez_aload_n 68 dX12_one_67 rfl rfl ?_
                refine ez_callV 71 [] [] dX12_one_68 rfl rfl ok_X12_fail in_X12_fail (by decide) (by show 0 < 1; omega) ln_X12_293 (by omega) (Nat.le_of_ble_eq_true rfl) (c_failb g (d - 1) M54 g54) (fun r68 M68 q68 => ?_)
                obtain ⟨rfl, f68, g68⟩ := q68
                show Ez (true, g) mX12_one d 71 [(1, eI v54), (0, eR 12 0)] [] M68 _
                refine ez_aload_n 72 dX12_one_71 rfl rfl ?_
                refine ez_dup 73 dX12_one_72 rfl rfl ?_
                refine ez_getf 76 (eI (M68.1 12 0 27)) dX12_one_73 rfl fl_X12_290 (by show 0 < 1; omega) rfl ?_
                refine ez_top (nI (o + 1)) g68.2.2 ?_
                refine ez_iconst 77 dX12_one_76 rfl (nI 1) (by decide) ?_
                refine ez_isub 78 dX12_one_77 rfl ?_
                refine ez_top (nI o) (by rw [pk_sub (by omega)]; rfl) ?_
                refine ez_putf 81 .int dX12_one_78 rfl fp_X12_290 (by show 0 < 1; omega) rfl (by decide) rfl rfl ?_
                have g81 := MB_op (o' := o) g68
                have f81 : MF M68 (ez_st M68 12 0 27 (nI o)) := MF.s (by decide)
                generalize ez_st M68 12 0 27 (nI o) = M81 at g81 f81 ⊢
                refine ez_aload_n 82 dX12_one_81 rfl rfl ?_
                refine ez_getf 85 (eI (M81.1 12 0 28)) dX12_one_82 rfl fl_X12_284 (by show 0 < 1; omega) rfl ?_
                refine ez_top (nI 1) g81.1 ?_
                refine ez_nif_ne 88 161 dX12_one_85 rfl (by decide) (by omega) (fun h85 => ?_) (fun h85 => ?_)
                · refine ez_iload_n 162 dX12_one_161 rfl rfl ?_
                  refine ez_iret .int dX12_one_162 rfl rfl ?_
                  exact ⟨((((MF.rf.tr f47).tr f54).tr f68).tr f81), ⟨_, rfl⟩, g81⟩
                · exact absurd h85 (by decide)
        · exact absurd h8 (by decide)
  rw [if_neg t40] at h
  cases h
  rcases MTk_x hG.2.2.1 tn with tz | tz | tz | tz
  · refine ez_iconst 1 dX12_one_0 rfl (nI 0) (by decide) ?_
    refine ez_istore_n 2 [(1, eI (nI 0)), (0, eR 12 0)] dX12_one_1 rfl (by decide) rfl ?_
    refine ez_aload_n 3 dX12_one_2 rfl rfl ?_
    refine ez_bipush 5 dX12_one_3 rfl (nI 45) (by decide) ?_
    refine ez_callV 8 [eI (nI 45)] [] dX12_one_5 rfl rfl ok_X12_isSign in_X12_isSign (by decide) (by show 0 < 1; omega) ln_X12_315 (by omega) (Nat.le_of_ble_eq_true rfl) (c_is_n g (d - 1) 45 M hG (by decide) (by omega)) (fun r5 M5 q5 => ?_)
    obtain ⟨rfl, e5⟩ := q5
    rw [e5]
    show Ez (true, g) mX12_one d 8 [(1, eI (nI 0)), (0, eR 12 0)] [eI (nI 0)] M _
    refine ez_nif_eq 11 37 dX12_one_8 rfl (by decide) (by omega) (fun h8 => ?_) (fun h8 => ?_)
    · refine ez_aload_n 38 dX12_one_37 rfl rfl ?_
      refine ez_bipush 40 dX12_one_38 rfl (nI 40) (by decide) ?_
      refine ez_callV 43 [eI (nI 40)] [] dX12_one_40 rfl rfl ok_X12_isSign in_X12_isSign (by decide) (by show 0 < 1; omega) ln_X12_315 (by omega) (Nat.le_of_ble_eq_true rfl) (c_is_n g (d - 1) 40 M hG (by decide) (by omega)) (fun r40 M40 q40 => ?_)
      obtain ⟨rfl, e40⟩ := q40
      rw [e40]
      show Ez (true, g) mX12_one d 43 [(1, eI (nI 0)), (0, eR 12 0)] [eI (nI 0)] M _
      refine ez_nif_eq 46 95 dX12_one_43 rfl (by decide) (by omega) (fun h43 => ?_) (fun h43 => ?_)
      · refine ez_aload_n 96 dX12_one_95 rfl rfl ?_
        refine ez_getf 99 (eI (M.1 12 0 28)) dX12_one_96 rfl fl_X12_284 (by show 0 < 1; omega) rfl ?_
        refine ez_top (nI 0) hG.2.2.2.2.2.2 ?_
        refine ez_nif_ne 102 123 dX12_one_99 rfl (by decide) (by omega) (fun h99 => ?_) (fun h99 => ?_)
        · exact absurd h99 (by decide)
        · refine ez_aload_n 103 dX12_one_102 rfl rfl ?_
          refine ez_getf 106 (eI (M.1 12 0 23)) dX12_one_103 rfl fl_X12_265 (by show 0 < 1; omega) rfl ?_
          refine ez_top (nI 0) tz ?_
          refine ez_iconst 107 dX12_one_106 rfl (nI 2) (by decide) ?_
          refine ez_ncmp_ne 110 123 dX12_one_107 rfl (by decide) (by omega) (by omega) (fun h107 => ?_) (fun h107 => ?_)
          · refine ez_aload_n 124 dX12_one_123 rfl rfl ?_
            refine ez_getf 127 (eI (M.1 12 0 28)) dX12_one_124 rfl fl_X12_284 (by show 0 < 1; omega) rfl ?_
            refine ez_top (nI 0) hG.2.2.2.2.2.2 ?_
            refine ez_nif_ne 130 157 dX12_one_127 rfl (by decide) (by omega) (fun h127 => ?_) (fun h127 => ?_)
            · exact absurd h127 (by decide)
            · refine ez_aload_n 131 dX12_one_130 rfl rfl ?_
              refine ez_getf 134 (eI (M.1 12 0 23)) dX12_one_131 rfl fl_X12_265 (by show 0 < 1; omega) rfl ?_
              refine ez_top (nI 0) tz ?_
              refine ez_iconst 135 dX12_one_134 rfl (nI 1) (by decide) ?_
              refine ez_ncmp_ne 138 157 dX12_one_135 rfl (by decide) (by omega) (by omega) (fun h135 => ?_) (fun h135 => ?_)
              · refine ez_aload_n 158 dX12_one_157 rfl rfl ?_
                refine ez_callV 161 [] [] dX12_one_158 rfl rfl ok_X12_fail in_X12_fail (by decide) (by show 0 < 1; omega) ln_X12_293 (by omega) (Nat.le_of_ble_eq_true rfl) (c_fail g (d - 1) M hG) (fun r158 M158 q158 => ?_)
                obtain ⟨rfl, f158, g158⟩ := q158
                show Ez (true, g) mX12_one d 161 [(1, eI (nI 0)), (0, eR 12 0)] [] M158 _
                refine ez_iload_n 162 dX12_one_161 rfl rfl ?_
                refine ez_iret .int dX12_one_162 rfl rfl ?_
                exact ⟨(MF.rf.tr f158), ⟨_, rfl⟩, g158⟩
              · exact absurd h135 (by decide)
          · exact absurd h107 (by decide)
      · exact absurd h43 (by decide)
    · exact absurd h8 (by decide)
  · refine ez_iconst 1 dX12_one_0 rfl (nI 0) (by decide) ?_
    refine ez_istore_n 2 [(1, eI (nI 0)), (0, eR 12 0)] dX12_one_1 rfl (by decide) rfl ?_
    refine ez_aload_n 3 dX12_one_2 rfl rfl ?_
    refine ez_bipush 5 dX12_one_3 rfl (nI 45) (by decide) ?_
    refine ez_callV 8 [eI (nI 45)] [] dX12_one_5 rfl rfl ok_X12_isSign in_X12_isSign (by decide) (by show 0 < 1; omega) ln_X12_315 (by omega) (Nat.le_of_ble_eq_true rfl) (c_is_n g (d - 1) 45 M hG (by decide) (by omega)) (fun r5 M5 q5 => ?_)
    obtain ⟨rfl, e5⟩ := q5
    rw [e5]
    show Ez (true, g) mX12_one d 8 [(1, eI (nI 0)), (0, eR 12 0)] [eI (nI 0)] M _
    refine ez_nif_eq 11 37 dX12_one_8 rfl (by decide) (by omega) (fun h8 => ?_) (fun h8 => ?_)
    · refine ez_aload_n 38 dX12_one_37 rfl rfl ?_
      refine ez_bipush 40 dX12_one_38 rfl (nI 40) (by decide) ?_
      refine ez_callV 43 [eI (nI 40)] [] dX12_one_40 rfl rfl ok_X12_isSign in_X12_isSign (by decide) (by show 0 < 1; omega) ln_X12_315 (by omega) (Nat.le_of_ble_eq_true rfl) (c_is_n g (d - 1) 40 M hG (by decide) (by omega)) (fun r40 M40 q40 => ?_)
      obtain ⟨rfl, e40⟩ := q40
      rw [e40]
      show Ez (true, g) mX12_one d 43 [(1, eI (nI 0)), (0, eR 12 0)] [eI (nI 0)] M _
      refine ez_nif_eq 46 95 dX12_one_43 rfl (by decide) (by omega) (fun h43 => ?_) (fun h43 => ?_)
      · refine ez_aload_n 96 dX12_one_95 rfl rfl ?_
        refine ez_getf 99 (eI (M.1 12 0 28)) dX12_one_96 rfl fl_X12_284 (by show 0 < 1; omega) rfl ?_
        refine ez_top (nI 0) hG.2.2.2.2.2.2 ?_
        refine ez_nif_ne 102 123 dX12_one_99 rfl (by decide) (by omega) (fun h99 => ?_) (fun h99 => ?_)
        · exact absurd h99 (by decide)
        · refine ez_aload_n 103 dX12_one_102 rfl rfl ?_
          refine ez_getf 106 (eI (M.1 12 0 23)) dX12_one_103 rfl fl_X12_265 (by show 0 < 1; omega) rfl ?_
          refine ez_top (nI 4) tz ?_
          refine ez_iconst 107 dX12_one_106 rfl (nI 2) (by decide) ?_
          refine ez_ncmp_ne 110 123 dX12_one_107 rfl (by decide) (by omega) (by omega) (fun h107 => ?_) (fun h107 => ?_)
          · refine ez_aload_n 124 dX12_one_123 rfl rfl ?_
            refine ez_getf 127 (eI (M.1 12 0 28)) dX12_one_124 rfl fl_X12_284 (by show 0 < 1; omega) rfl ?_
            refine ez_top (nI 0) hG.2.2.2.2.2.2 ?_
            refine ez_nif_ne 130 157 dX12_one_127 rfl (by decide) (by omega) (fun h127 => ?_) (fun h127 => ?_)
            · exact absurd h127 (by decide)
            · refine ez_aload_n 131 dX12_one_130 rfl rfl ?_
              refine ez_getf 134 (eI (M.1 12 0 23)) dX12_one_131 rfl fl_X12_265 (by show 0 < 1; omega) rfl ?_
              refine ez_top (nI 4) tz ?_
              refine ez_iconst 135 dX12_one_134 rfl (nI 1) (by decide) ?_
              refine ez_ncmp_ne 138 157 dX12_one_135 rfl (by decide) (by omega) (by omega) (fun h135 => ?_) (fun h135 => ?_)
              · refine ez_aload_n 158 dX12_one_157 rfl rfl ?_
                refine ez_callV 161 [] [] dX12_one_158 rfl rfl ok_X12_fail in_X12_fail (by decide) (by show 0 < 1; omega) ln_X12_293 (by omega) (Nat.le_of_ble_eq_true rfl) (c_fail g (d - 1) M hG) (fun r158 M158 q158 => ?_)
                obtain ⟨rfl, f158, g158⟩ := q158
                show Ez (true, g) mX12_one d 161 [(1, eI (nI 0)), (0, eR 12 0)] [] M158 _
                refine ez_iload_n 162 dX12_one_161 rfl rfl ?_
                refine ez_iret .int dX12_one_162 rfl rfl ?_
                exact ⟨(MF.rf.tr f158), ⟨_, rfl⟩, g158⟩
              · exact absurd h135 (by decide)
          · exact absurd h107 (by decide)
      · exact absurd h43 (by decide)
    · exact absurd h8 (by decide)
  · refine ez_iconst 1 dX12_one_0 rfl (nI 0) (by decide) ?_
    refine ez_istore_n 2 [(1, eI (nI 0)), (0, eR 12 0)] dX12_one_1 rfl (by decide) rfl ?_
    refine ez_aload_n 3 dX12_one_2 rfl rfl ?_
    refine ez_bipush 5 dX12_one_3 rfl (nI 45) (by decide) ?_
    refine ez_callV 8 [eI (nI 45)] [] dX12_one_5 rfl rfl ok_X12_isSign in_X12_isSign (by decide) (by show 0 < 1; omega) ln_X12_315 (by omega) (Nat.le_of_ble_eq_true rfl) (c_is_n g (d - 1) 45 M hG (by decide) (by omega)) (fun r5 M5 q5 => ?_)
    obtain ⟨rfl, e5⟩ := q5
    rw [e5]
    show Ez (true, g) mX12_one d 8 [(1, eI (nI 0)), (0, eR 12 0)] [eI (nI 0)] M _
    refine ez_nif_eq 11 37 dX12_one_8 rfl (by decide) (by omega) (fun h8 => ?_) (fun h8 => ?_)
    · refine ez_aload_n 38 dX12_one_37 rfl rfl ?_
      refine ez_bipush 40 dX12_one_38 rfl (nI 40) (by decide) ?_
      refine ez_callV 43 [eI (nI 40)] [] dX12_one_40 rfl rfl ok_X12_isSign in_X12_isSign (by decide) (by show 0 < 1; omega) ln_X12_315 (by omega) (Nat.le_of_ble_eq_true rfl) (c_is_n g (d - 1) 40 M hG (by decide) (by omega)) (fun r40 M40 q40 => ?_)
      obtain ⟨rfl, e40⟩ := q40
      rw [e40]
      show Ez (true, g) mX12_one d 43 [(1, eI (nI 0)), (0, eR 12 0)] [eI (nI 0)] M _
      refine ez_nif_eq 46 95 dX12_one_43 rfl (by decide) (by omega) (fun h43 => ?_) (fun h43 => ?_)
      · refine ez_aload_n 96 dX12_one_95 rfl rfl ?_
        refine ez_getf 99 (eI (M.1 12 0 28)) dX12_one_96 rfl fl_X12_284 (by show 0 < 1; omega) rfl ?_
        refine ez_top (nI 0) hG.2.2.2.2.2.2 ?_
        refine ez_nif_ne 102 123 dX12_one_99 rfl (by decide) (by omega) (fun h99 => ?_) (fun h99 => ?_)
        · exact absurd h99 (by decide)
        · refine ez_aload_n 103 dX12_one_102 rfl rfl ?_
          refine ez_getf 106 (eI (M.1 12 0 23)) dX12_one_103 rfl fl_X12_265 (by show 0 < 1; omega) rfl ?_
          refine ez_top (nI 3) tz ?_
          refine ez_iconst 107 dX12_one_106 rfl (nI 2) (by decide) ?_
          refine ez_ncmp_ne 110 123 dX12_one_107 rfl (by decide) (by omega) (by omega) (fun h107 => ?_) (fun h107 => ?_)
          · refine ez_aload_n 124 dX12_one_123 rfl rfl ?_
            refine ez_getf 127 (eI (M.1 12 0 28)) dX12_one_124 rfl fl_X12_284 (by show 0 < 1; omega) rfl ?_
            refine ez_top (nI 0) hG.2.2.2.2.2.2 ?_
            refine ez_nif_ne 130 157 dX12_one_127 rfl (by decide) (by omega) (fun h127 => ?_) (fun h127 => ?_)
            · exact absurd h127 (by decide)
            · refine ez_aload_n 131 dX12_one_130 rfl rfl ?_
              refine ez_getf 134 (eI (M.1 12 0 23)) dX12_one_131 rfl fl_X12_265 (by show 0 < 1; omega) rfl ?_
              refine ez_top (nI 3) tz ?_
              refine ez_iconst 135 dX12_one_134 rfl (nI 1) (by decide) ?_
              refine ez_ncmp_ne 138 157 dX12_one_135 rfl (by decide) (by omega) (by omega) (fun h135 => ?_) (fun h135 => ?_)
              · refine ez_aload_n 158 dX12_one_157 rfl rfl ?_
                refine ez_callV 161 [] [] dX12_one_158 rfl rfl ok_X12_fail in_X12_fail (by decide) (by show 0 < 1; omega) ln_X12_293 (by omega) (Nat.le_of_ble_eq_true rfl) (c_fail g (d - 1) M hG) (fun r158 M158 q158 => ?_)
                obtain ⟨rfl, f158, g158⟩ := q158
                show Ez (true, g) mX12_one d 161 [(1, eI (nI 0)), (0, eR 12 0)] [] M158 _
                refine ez_iload_n 162 dX12_one_161 rfl rfl ?_
                refine ez_iret .int dX12_one_162 rfl rfl ?_
                exact ⟨(MF.rf.tr f158), ⟨_, rfl⟩, g158⟩
              · exact absurd h135 (by decide)
          · exact absurd h107 (by decide)
      · exact absurd h43 (by decide)
    · exact absurd h8 (by decide)
  · refine ez_iconst 1 dX12_one_0 rfl (nI 0) (by decide) ?_
    refine ez_istore_n 2 [(1, eI (nI 0)), (0, eR 12 0)] dX12_one_1 rfl (by decide) rfl ?_
    refine ez_aload_n 3 dX12_one_2 rfl rfl ?_
    refine ez_bipush 5 dX12_one_3 rfl (nI 45) (by decide) ?_
    refine ez_callV 8 [eI (nI 45)] [] dX12_one_5 rfl rfl ok_X12_isSign in_X12_isSign (by decide) (by show 0 < 1; omega) ln_X12_315 (by omega) (Nat.le_of_ble_eq_true rfl) (c_is_n g (d - 1) 45 M hG (by decide) (by omega)) (fun r5 M5 q5 => ?_)
    obtain ⟨rfl, e5⟩ := q5
    rw [e5]
    show Ez (true, g) mX12_one d 8 [(1, eI (nI 0)), (0, eR 12 0)] [eI (nI 0)] M _
    refine ez_nif_eq 11 37 dX12_one_8 rfl (by decide) (by omega) (fun h8 => ?_) (fun h8 => ?_)
    · refine ez_aload_n 38 dX12_one_37 rfl rfl ?_
      refine ez_bipush 40 dX12_one_38 rfl (nI 40) (by decide) ?_
      refine ez_callV 43 [eI (nI 40)] [] dX12_one_40 rfl rfl ok_X12_isSign in_X12_isSign (by decide) (by show 0 < 1; omega) ln_X12_315 (by omega) (Nat.le_of_ble_eq_true rfl) (c_is_n g (d - 1) 40 M hG (by decide) (by omega)) (fun r40 M40 q40 => ?_)
      obtain ⟨rfl, e40⟩ := q40
      rw [e40]
      show Ez (true, g) mX12_one d 43 [(1, eI (nI 0)), (0, eR 12 0)] [eI (nI 0)] M _
      refine ez_nif_eq 46 95 dX12_one_43 rfl (by decide) (by omega) (fun h43 => ?_) (fun h43 => ?_)
      · refine ez_aload_n 96 dX12_one_95 rfl rfl ?_
        refine ez_getf 99 (eI (M.1 12 0 28)) dX12_one_96 rfl fl_X12_284 (by show 0 < 1; omega) rfl ?_
        refine ez_top (nI 0) hG.2.2.2.2.2.2 ?_
        refine ez_nif_ne 102 123 dX12_one_99 rfl (by decide) (by omega) (fun h99 => ?_) (fun h99 => ?_)
        · exact absurd h99 (by decide)
        · refine ez_aload_n 103 dX12_one_102 rfl rfl ?_
          refine ez_getf 106 (eI (M.1 12 0 23)) dX12_one_103 rfl fl_X12_265 (by show 0 < 1; omega) rfl ?_
          refine ez_top (nI 1) tz ?_
          refine ez_iconst 107 dX12_one_106 rfl (nI 2) (by decide) ?_
          refine ez_ncmp_ne 110 123 dX12_one_107 rfl (by decide) (by omega) (by omega) (fun h107 => ?_) (fun h107 => ?_)
          · refine ez_aload_n 124 dX12_one_123 rfl rfl ?_
            refine ez_getf 127 (eI (M.1 12 0 28)) dX12_one_124 rfl fl_X12_284 (by show 0 < 1; omega) rfl ?_
            refine ez_top (nI 0) hG.2.2.2.2.2.2 ?_
            refine ez_nif_ne 130 157 dX12_one_127 rfl (by decide) (by omega) (fun h127 => ?_) (fun h127 => ?_)
            · exact absurd h127 (by decide)
            · refine ez_aload_n 131 dX12_one_130 rfl rfl ?_
              refine ez_getf 134 (eI (M.1 12 0 23)) dX12_one_131 rfl fl_X12_265 (by show 0 < 1; omega) rfl ?_
              refine ez_top (nI 1) tz ?_
              refine ez_iconst 135 dX12_one_134 rfl (nI 1) (by decide) ?_
              refine ez_ncmp_ne 138 157 dX12_one_135 rfl (by decide) (by omega) (by omega) (fun h135 => ?_) (fun h135 => ?_)
              · exact absurd h135 (by decide)
              · refine ez_aload_n 139 dX12_one_138 rfl rfl ?_
                refine ez_callV 142 [] [] dX12_one_139 rfl rfl ok_X12_name in_X12_name (by decide) (by show 0 < 1; omega) ln_X12_328 (by omega) (Nat.le_of_ble_eq_true rfl) (c_namen g (d - 1) M (by omega) hG (by omega)) (fun r139 M139 q139 => ?_)
                obtain ⟨rfl, f139, g139⟩ := q139
                show Ez (true, g) mX12_one d 142 [(1, eI (nI 0)), (0, eR 12 0)] [eI (nI 0)] M139 _
                refine ez_istore_n 143 [(1, eI (nI 0)), (0, eR 12 0)] dX12_one_142 rfl (by decide) rfl ?_
                refine ez_aload_n 144 dX12_one_143 rfl rfl ?_
                refine ez_getf 147 (eI (M139.1 12 0 28)) dX12_one_144 rfl fl_X12_284 (by show 0 < 1; omega) rfl ?_
                refine ez_top (nI 1) g139.1 ?_
                refine ez_nif_ne 150 161 dX12_one_147 rfl (by decide) (by omega) (fun h147 => ?_) (fun h147 => ?_)
                · refine ez_iload_n 162 dX12_one_161 rfl rfl ?_
                  refine ez_iret .int dX12_one_162 rfl rfl ?_
                  exact ⟨(MF.rf.tr f139), ⟨_, rfl⟩, g139⟩
                · exact absurd h147 (by decide)
          · exact absurd h107 (by decide)
      · exact absurd h43 (by decide)
    · exact absurd h8 (by decide)
theorem c_pm (g : EzH) {Tk Pl En : Nat → Nat} {N fr n : Nat} {b : Nat → Nat} {nm : Nat → Int32} (hH : HT Tk Pl N) (hN : MNx g Tk Pl En N fr n b nm) : ∀ z : Nat, (PmM g Tk Pl En N fr n b nm mX12_either 10 0 z ∧ PmM g Tk Pl En N fr n b nm mX12_both 9 2 z ∧ PmM g Tk Pl En N fr n b nm mX12_not 8 4 z ∧ PmM g Tk Pl En N fr n b nm mX12_added 7 5 z ∧ PmM g Tk Pl En N fr n b nm mX12_term 6 7 z ∧ PmM g Tk Pl En N fr n b nm mX12_one 5 9 z) ∧ (PmT g Tk Pl En N fr n b nm mX12_either 10 1 z ∧ PmT g Tk Pl En N fr n b nm mX12_both 9 3 z ∧ PmT g Tk Pl En N fr n b nm mX12_added 7 6 z ∧ PmT g Tk Pl En N fr n b nm mX12_term 6 8 z)
  | 0 => ⟨⟨fun _ _ _ _ _ _ _ _ _ h => by (cases h), fun _ _ _ _ _ _ _ _ _ h => by (cases h), fun _ _ _ _ _ _ _ _ _ h => by (cases h), fun _ _ _ _ _ _ _ _ _ h => by (cases h), fun _ _ _ _ _ _ _ _ _ h => by (cases h), fun _ _ _ _ _ _ _ _ _ h => by (cases h)⟩, ⟨fun _ _ _ _ _ _ _ _ _ _ _ _ h => by (cases h), fun _ _ _ _ _ _ _ _ _ _ _ _ h => by (cases h), fun _ _ _ _ _ _ _ _ _ _ _ _ h => by (cases h), fun _ _ _ _ _ _ _ _ _ _ _ _ h => by (cases h)⟩⟩
  | z + 1 => by
    obtain ⟨⟨i0, i2, i4, i5, i7, i9⟩, ⟨i1, i3, i6, i8⟩⟩ := c_pm g hH hN z
    exact ⟨⟨mp_either g hH hN i2 i1, mp_both g hH hN i4 i3, mp_not g hH hN i4 i5, mp_added g hH hN i7 i6, mp_term g hH hN i9 i8, mp_one g hH hN i9 i0⟩, ⟨mt_either g hH hN i2 i1, mt_both g hH hN i4 i3, mt_added g hH hN i7 i6, mt_term g hH hN i9 i8⟩⟩
