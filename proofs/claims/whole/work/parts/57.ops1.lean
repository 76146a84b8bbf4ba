/-! pebbles, leads, taken, count, walker -/
def S_pb (q : EpS) (x y z : Int32) : Int32 × EpS := match ep_ix x q.1.1 with
  | none => (-2, q)
  | some m => match ep_ix y (q.1.2.1 m) with
    | none => (-2, q)
    | some r => match ep_ix z 100 with
      | none => (-2, q)
      | some c => (nI (q.1.2.2.2 m r), (q.1.1, q.1.2.1, q.1.2.2.1, ep_up2 q.1.2.2.2 m r c), q.2)
theorem RC_pb {q : EpS} {M : EzM} {m r c : Nat} (hW : WF q) (hC : RC q M) (hm : m < q.1.1) : RC ((q.1.1, q.1.2.1, q.1.2.2.1, ep_up2 q.1.2.2.2 m r c), q.2) (ez_st M 20 m r (nI c)) ∧ FX CC M (ez_st M 20 m r (nI c)) := by
  obtain ⟨a1, a2, a3, a4, a5, a6, a7⟩ := hC
  obtain ⟨w1, w2, w3, w4, w5, w6⟩ := hW
  have h4 := w1.1
  have h8 := w2.1
  have hF : FX (fun k i s => k = 20 ∧ i = m ∧ s = r) M (ez_st M 20 m r (nI c)) := FX.rf.st (by omega)
  refine ⟨⟨?_, RCw.fx a2 hF h8 ⟨by omega, fun w _ x => ⟨by omega, by omega⟩⟩, RCt.fx a3 hF ⟨by omega, fun i => by omega⟩, RCs.fx a4 hF (fun i _ s => ⟨by omega, by omega⟩), RCx.fx a5 hF w5.2.1 ⟨by omega, by omega, fun i s _ => ⟨by omega, by omega⟩⟩, RCi.fx a6 hF (fun q => ⟨Nat.le_trans (w6.2 q).1 h4, Nat.le_trans (w6.2 q).2.1 h8⟩) ⟨fun s _ => by omega, fun i _ _ s => by omega, fun i _ _ s => ⟨by omega, by omega⟩⟩, by rw [hF _ _ _ (by omega)]; exact a7⟩, hF.up (fun k i s z => by unfold CC; omega)⟩
  refine ⟨by rw [hF _ _ _ (by omega)]; exact a1.1, fun m2 hm2 => ?_, fun m2 g1 g2 r2 hr2 => ?_⟩
  · obtain ⟨b1, b2, b3, b4⟩ := a1.2.1 m2 hm2
    refine ⟨by rw [hF _ _ _ (by omega)]; exact b1, fun x hx => by rw [hF _ _ _ (by omega)]; exact b2 x hx, fun x hx => by rw [hF _ _ _ (by omega)]; exact b3 x hx, fun x hx => ?_⟩
    show _ = nI (if m2 = m ∧ x = r then c else q.1.2.2.2 m2 x)
    rw [ez_rd]
    by_cases e : m2 = m ∧ x = r
    · rw [if_pos ⟨rfl, e⟩, if_pos e]
    · rw [if_neg (fun z => e z.2), if_neg e]; exact b4 x hx
  · have g1' : q.1.1 ≤ m2 := g1
    rw [hF _ _ _ (by omega)]; exact a1.2.2 m2 g1 g2 r2 hr2
theorem RM_pb {q : EpS} {M : EzM} {m r c : Nat} (hC : RM q M) (hr : r < 10) : RM ((q.1.1, q.1.2.1, q.1.2.2.1, ep_up2 q.1.2.2.2 m r c), q.2) (ez_st M 47 0 (10 * m + r) (nI c)) ∧ FX CM M (ez_st M 47 0 (10 * m + r) (nI c)) := by
  obtain ⟨a1, a2, a3, a4, a5, a6, a7⟩ := hC
  have hF : FX (fun k i s => k = 47 ∧ s = 10 * m + r) M (ez_st M 47 0 (10 * m + r) (nI c)) := FX.rf.st (by omega)
  refine ⟨⟨?_, RMw.fx a2 hF ⟨by omega, fun x => ⟨by omega, by omega, by omega, by omega, by omega, by omega, by omega, by omega⟩⟩, RMt.fx a3 hF ⟨by omega, fun i => by omega⟩, RMs.fx a4 hF (fun s => ⟨by omega, by omega, by omega, by omega⟩), RMx.fx a5 hF ⟨by omega, by omega, fun x hx => ⟨by omega, fun i hi => by omega⟩⟩, RMi.fx a6 hF ⟨fun s _ _ => by omega, fun s => ⟨by omega, by omega, by omega⟩⟩, by rw [hF _ _ _ (by omega)]; exact a7⟩, hF.up (fun k i s z => by unfold CM; omega)⟩
  refine ⟨by rw [hF _ _ _ (by omega)]; exact a1.1, fun m2 hm2 => ?_⟩
  obtain ⟨b1, b2, b3⟩ := a1.2 m2 hm2
  refine ⟨by rw [hF _ _ _ (by omega)]; exact b1, fun x hx => by rw [hF _ _ _ (by omega)]; exact b2 x hx, fun x hx => ?_⟩
  show _ = nI (if m2 = m ∧ x = r then c else q.1.2.2.2 m2 x)
  rw [ez_rd]
  by_cases e : m2 = m ∧ x = r
  · rw [if_pos (by omega), if_pos e]
  · rw [if_neg (by omega), if_neg e]; exact b3 x hx
set_option maxRecDepth 20000 in
theorem c_X11_pebbles (G : EzG) (d : Nat) {q : EpS} (x y z : Int32) (M : EzM) (hd : 2 ≤ d) (hW : WF q) (hC : RC q M) : Ezc G mX11_pebbles d [eR 11 0, eI x, eI y, eI z] M (fun r M' => r = some (eI (S_pb q x y z).1) ∧ RC (S_pb q x y z).2 M' ∧ FX CC M M') := by
  refine Ezc.of (by decide +kernel) (Nat.le_of_ble_eq_true rfl) ?_
  have q8 := hW.2.1.1
  have q4 := hW.1.1
  have qx := hW.2.2.2.2.1
  show Ez G mX11_pebbles d 0 [(0, eR 11 0), (1, eI x), (2, eI y), (3, eI z)] [] M _
  refine ez_aload_n 1 dX11_pebbles_0 rfl rfl ?_
  refine ez_iload_n 2 dX11_pebbles_1 rfl rfl ?_
  refine ez_callV 5 [eI x] [] dX11_pebbles_2 rfl rfl ok_X11_mazeAt in_X11_mazeAt (by decide) (by show 0 < 1; omega) ln_X11_141 (by omega) (Nat.le_of_ble_eq_true rfl) (c_X11_mazeAt G (d - 1) x q.1.1 M (by omega) hC.1.1 (by omega)) (fun r2 M2 q2 => ?_)
  obtain ⟨e2, ⟨rfl, i2⟩ | ⟨j2, b2, rfl, rfl⟩⟩ := q2
  · rw [e2]
    show Ez G mX11_pebbles d 5 [(0, eR 11 0), (1, eI x), (2, eI y), (3, eI z)] [eN] M _
    refine ez_astore 7 [(4, eN), (0, eR 11 0), (1, eI x), (2, eI y), (3, eI z)] dX11_pebbles_5 rfl (by decide) rfl ?_
    refine ez_aload 9 dX11_pebbles_7 rfl rfl ?_
    refine ez_ifnull_n 31 dX11_pebbles_9 (by decide) ?_
    refine ez_bipush 33 dX11_pebbles_31 rfl (-2) (by decide) ?_
    refine ez_iret .int dX11_pebbles_33 rfl rfl ?_
    have eS : S_pb q x y z = (-2, q) := by simp [S_pb, i2]
    exact ⟨by rw [eS], by rw [eS]; exact hC, FX.rf⟩
  · rw [e2]
    have i2 : ep_ix (nI j2) q.1.1 = some j2 := ep_ix_nI b2 (by omega)
    show Ez G mX11_pebbles d 5 [(0, eR 11 0), (1, eI (nI j2)), (2, eI y), (3, eI z)] [eR 1 j2] M _
    refine ez_astore 7 [(4, eR 1 j2), (0, eR 11 0), (1, eI (nI j2)), (2, eI y), (3, eI z)] dX11_pebbles_5 rfl (by decide) rfl ?_
    refine ez_aload 9 dX11_pebbles_7 rfl rfl ?_
    refine ez_ifnull_r 12 dX11_pebbles_9 rfl ?_
    refine ez_aload 14 dX11_pebbles_12 rfl rfl ?_
    refine ez_iload_n 15 dX11_pebbles_14 rfl rfl ?_
    refine ez_callV 18 [eI y] [] dX11_pebbles_15 rfl rfl ok_X1_hasRoom in_X1_hasRoom (by decide) (by show j2 < 4; omega) ln_X11_148 (by omega) (Nat.le_of_ble_eq_true rfl) (c_hasRoom_c G (d - 1) j2 y (q.1.2.1 j2) M (by omega) (hC.1.2.1 j2 (by omega)).1 (by have := (hW.1.2 j2 (by omega)).2.1; omega)) (fun r15 M15 q15 => ?_)
    obtain ⟨e15, ⟨rfl, i15⟩ | ⟨j15, b15, rfl, rfl⟩⟩ := q15
    · rw [e15]
      show Ez G mX11_pebbles d 18 [(4, eR 1 j2), (0, eR 11 0), (1, eI (nI j2)), (2, eI y), (3, eI z)] [eI (nI 0)] M _
      refine ez_nif_eq 21 31 dX11_pebbles_18 rfl (by decide) (by omega) (fun h18 => ?_) (fun h18 => ?_)
      · refine ez_bipush 33 dX11_pebbles_31 rfl (-2) (by decide) ?_
        refine ez_iret .int dX11_pebbles_33 rfl rfl ?_
        have eS : S_pb q (nI j2) y z = (-2, q) := by simp [S_pb, i2, i15]
        exact ⟨by rw [eS], by rw [eS]; exact hC, FX.rf⟩
      · exact absurd h18 (by decide)
    · rw [e15]
      have i15 : ep_ix (nI j15) (q.1.2.1 j2) = some j15 := ep_ix_nI b15 (by have := (hW.1.2 j2 (by omega)).2.1; omega)
      show Ez G mX11_pebbles d 18 [(4, eR 1 j2), (0, eR 11 0), (1, eI (nI j2)), (2, eI (nI j15)), (3, eI z)] [eI (nI 1)] M _
      refine ez_nif_eq 21 31 dX11_pebbles_18 rfl (by decide) (by omega) (fun h18 => ?_) (fun h18 => ?_)
      · exact absurd h18 (by decide)
      · refine ez_iload_n 22 dX11_pebbles_21 rfl rfl ?_
        refine ez_if_lt 25 31 dX11_pebbles_22 rfl (by decide) (fun h22 => ?_) (fun h22 => ?_)
        · refine ez_bipush 33 dX11_pebbles_31 rfl (-2) (by decide) ?_
          refine ez_iret .int dX11_pebbles_33 rfl rfl ?_
          have eS : S_pb q (nI j2) (nI j15) z = (-2, q) := by simp [S_pb, i2, i15, show ep_ix z 100 = none from ep_ix_lo h22]
          exact ⟨by rw [eS], by rw [eS]; exact hC, FX.rf⟩
        · refine ez_iload_n 26 dX11_pebbles_25 rfl rfl ?_
          refine ez_bipush 28 dX11_pebbles_26 rfl (nI 99) (by decide) ?_
          refine ez_icmp_le 31 34 dX11_pebbles_28 rfl (by decide) (fun h28 => ?_) (fun h28 => ?_)
          · obtain ⟨c, hc, rfl⟩ := ep_ix_rng (n := 99) h22 h28 (by decide)
            have n10 := (hW.1.2 j2 b2).2.1
            refine ez_aload 36 dX11_pebbles_34 rfl rfl ?_
            refine ez_getf 39 (eR 20 j2) dX11_pebbles_36 rfl fl_X11_156 (by show j2 < 4; omega) rfl ?_
            refine ez_iload_n 40 dX11_pebbles_39 rfl rfl ?_
            refine ez_callS 43 [eR 20 j2, eI (nI j15)] [] dX11_pebbles_40 rfl rfl ok_X11_itemAt st_X11_itemAt ln_X11_159 (by omega) (Nat.le_of_ble_eq_true rfl) (c_itemAt_n G (d - 1) 20 j2 j15 M (by decide) (by show j2 < 9; omega) (by show j15 < 10; omega)) (fun r40 M40 q40 => ?_)
            obtain ⟨rfl, e40⟩ := q40
            rw [e40, show M.1 20 j2 j15 = nI (q.1.2.2.2 j2 j15) from ((hC.1.2.1 j2 (by omega)).2.2.2 j15 (by omega))]
            show Ez G mX11_pebbles d 43 [(4, eR 1 j2), (0, eR 11 0), (1, eI (nI j2)), (2, eI (nI j15)), (3, eI (nI c))] [eI (nI (q.1.2.2.2 j2 j15))] M _
            refine ez_istore 45 [(5, eI (nI (q.1.2.2.2 j2 j15))), (4, eR 1 j2), (0, eR 11 0), (1, eI (nI j2)), (2, eI (nI j15)), (3, eI (nI c))] dX11_pebbles_43 rfl (by decide) rfl ?_
            refine ez_aload 47 dX11_pebbles_45 rfl rfl ?_
            refine ez_getf 50 (eR 20 j2) dX11_pebbles_47 rfl fl_X11_156 (by show j2 < 4; omega) rfl ?_
            refine ez_iload_n 51 dX11_pebbles_50 rfl rfl ?_
            refine ez_iload_n 52 dX11_pebbles_51 rfl rfl ?_
            refine ez_callS 55 [eR 20 j2, eI (nI j15), eI (nI c)] [] dX11_pebbles_52 rfl rfl ok_X11_setItem st_X11_setItem ln_X11_163 (by omega) (Nat.le_of_ble_eq_true rfl) (c_setItem_n G (d - 1) 20 j2 j15 (nI c) M (by decide) (by show j2 < 9; omega) (by show j15 < 10; omega)) (fun r52 M52 q52 => ?_)
            obtain ⟨rfl, e52⟩ := q52
            rw [e52]
            show Ez G mX11_pebbles d 55 [(5, eI (nI (q.1.2.2.2 j2 j15))), (4, eR 1 j2), (0, eR 11 0), (1, eI (nI j2)), (2, eI (nI j15)), (3, eI (nI c))] [] (ez_st M 20 j2 j15 (nI c)) _
            refine ez_iload 57 dX11_pebbles_55 rfl rfl ?_
            refine ez_iret .int dX11_pebbles_57 rfl rfl ?_
            have eS : S_pb q (nI j2) (nI j15) (nI c) = (nI (q.1.2.2.2 j2 j15), (q.1.1, q.1.2.1, q.1.2.2.1, ep_up2 q.1.2.2.2 j2 j15 c), q.2) := by simp [S_pb, i2, i15, ep_ix_nI hc (show 100 < 2 ^ 31 by decide)]
            have k9 := RC_pb (r := j15) (c := c) hW hC b2
            exact ⟨by rw [eS], by rw [eS]; exact k9.1, k9.2⟩
          · refine ez_bipush 33 dX11_pebbles_31 rfl (-2) (by decide) ?_
            refine ez_iret .int dX11_pebbles_33 rfl rfl ?_
            have eS : S_pb q (nI j2) (nI j15) z = (-2, q) := by simp [S_pb, i2, i15, show ep_ix z 100 = none from ep_ix_hi (by decide) h28]
            exact ⟨by rw [eS], by rw [eS]; exact hC, FX.rf⟩
set_option maxRecDepth 20000 in
theorem c_X12_pebbles (g : EzH) (d : Nat) {q : EpS} (x y z : Int32) (M : EzM) (hd : 3 ≤ d) (hW : WF q) (hC : RM q M) : Ezc (true, g) mX12_pebbles d [eR 12 0, eI x, eI y, eI z] M (fun r M' => r = some (eI (S_pb q x y z).1) ∧ RM (S_pb q x y z).2 M' ∧ FX CM M M') := by
  refine Ezc.of (by decide +kernel) (Nat.le_of_ble_eq_true rfl) ?_
  have q8 := hW.2.1.1
  have q4 := hW.1.1
  have qx := hW.2.2.2.2.1
  show Ez (true, g) mX12_pebbles d 0 [(0, eR 12 0), (1, eI x), (2, eI y), (3, eI z)] [] M _
  refine ez_aload_n 1 dX12_pebbles_0 rfl rfl ?_
  refine ez_iload_n 2 dX12_pebbles_1 rfl rfl ?_
  refine ez_iload_n 3 dX12_pebbles_2 rfl rfl ?_
  refine ez_callV 6 [eI x, eI y] [] dX12_pebbles_3 rfl rfl ok_X12_isRoom in_X12_isRoom (by decide) (by show 0 < 1; omega) ln_X12_165 (by omega) (Nat.le_of_ble_eq_true rfl) (c_X12_isRoom g (d - 1) x y M (by omega) hW hC) (fun r3 M3 q3 => ?_)
  obtain ⟨e3, ⟨rfl, i3⟩ | ⟨a3, b3, p3, s3, rfl, rfl, rfl⟩⟩ := q3
  · rw [e3]
    show Ez (true, g) mX12_pebbles d 6 [(0, eR 12 0), (1, eI x), (2, eI y), (3, eI z)] [eI (nI 0)] M _
    refine ez_nif_eq 9 21 dX12_pebbles_6 rfl (by decide) (by omega) (fun h6 => ?_) (fun h6 => ?_)
    · refine ez_bipush 23 dX12_pebbles_21 rfl (-2) (by decide) ?_
      refine ez_iret .int dX12_pebbles_23 rfl rfl ?_
      have eS : S_pb q x y z = (-2, q) := by
        unfold S_pb
        rcases i3 with e9 | e9
        · rw [e9]
        · cases e8 : ep_ix x q.1.1 with
          | none => rfl
          | some m => simp only [e9 m e8]
      exact ⟨by rw [eS], by rw [eS]; exact hC, FX.rf⟩
    · exact absurd h6 (by decide)
  · rw [e3]
    have t3 := (hW.1.2 a3 p3).2.1
    have u3 : ep_ix (nI a3) q.1.1 = some a3 := by exact ep_ix_nI p3 (by omega)
    have v3 : ep_ix (nI b3) (q.1.2.1 a3) = some b3 := by exact ep_ix_nI s3 (by omega)
    show Ez (true, g) mX12_pebbles d 6 [(0, eR 12 0), (1, eI (nI a3)), (2, eI (nI b3)), (3, eI z)] [eI (nI 1)] M _
    refine ez_nif_eq 9 21 dX12_pebbles_6 rfl (by decide) (by omega) (fun h6 => ?_) (fun h6 => ?_)
    · exact absurd h6 (by decide)
    · refine ez_iload_n 10 dX12_pebbles_9 rfl rfl ?_
      refine ez_i2l 11 dX12_pebbles_10 rfl ?_
      refine ez_lconst 12 dX12_pebbles_11 rfl (nI 0).toInt64 (by decide) ?_
      refine ez_ldc2 15 dX12_pebbles_12 rfl 99 cn_X12_174 ?_
      refine ez_topL (nI 99).toInt64 (by decide) ?_
      refine ez_callS 18 [eL z.toInt64, eL ((nI 0).toInt64), eL ((nI 99).toInt64)] [] dX12_pebbles_15 rfl rfl ok_X12_in st_X12_in ln_X12_133 (by omega) (Nat.le_of_ble_eq_true rfl) (c_in_k g (d - 1) z 99 M (by decide)) (fun r15 M15 q15 => ?_)
      obtain ⟨e15, ⟨rfl, i15⟩ | ⟨j15, b15, rfl, rfl⟩⟩ := q15
      · rw [e15]
        show Ez (true, g) mX12_pebbles d 18 [(0, eR 12 0), (1, eI (nI a3)), (2, eI (nI b3)), (3, eI z)] [eI (nI 0)] M _
        refine ez_nif_ne 21 24 dX12_pebbles_18 rfl (by decide) (by omega) (fun h18 => ?_) (fun h18 => ?_)
        · exact absurd h18 (by decide)
        · refine ez_bipush 23 dX12_pebbles_21 rfl (-2) (by decide) ?_
          refine ez_iret .int dX12_pebbles_23 rfl rfl ?_
          have eS : S_pb q (nI a3) (nI b3) z = (-2, q) := by simp [S_pb, u3, v3, i15]
          exact ⟨by rw [eS], by rw [eS]; exact hC, FX.rf⟩
      · rw [e15]
        have i15 : ep_ix (nI j15) 100 = some j15 := ep_ix_nI b15 (by omega)
        show Ez (true, g) mX12_pebbles d 18 [(0, eR 12 0), (1, eI (nI a3)), (2, eI (nI b3)), (3, eI (nI j15))] [eI (nI 1)] M _
        refine ez_nif_ne 21 24 dX12_pebbles_18 rfl (by decide) (by omega) (fun h18 => ?_) (fun h18 => ?_)
        · refine ez_aload_n 25 dX12_pebbles_24 rfl rfl ?_
          refine ez_getf 28 (eR 47 0) dX12_pebbles_25 rfl fl_X12_29 (by show 0 < 1; omega) rfl ?_
          refine ez_bipush 30 dX12_pebbles_28 rfl (nI 10) (by decide) ?_
          refine ez_iload_n 31 dX12_pebbles_30 rfl rfl ?_
          refine ez_imul 32 dX12_pebbles_31 rfl ?_
          refine ez_top (nI (10 * a3)) (pk_mul _ _) ?_
          refine ez_iload_n 33 dX12_pebbles_32 rfl rfl ?_
          refine ez_iadd 34 dX12_pebbles_33 rfl ?_
          refine ez_top (nI (10 * a3 + b3)) (nI_add _ _) ?_
          refine ez_ialdN (10 * a3 + b3) 35 dX12_pebbles_34 rfl (by decide) (by show 0 < 1; omega) (by show 10 * a3 + b3 < 40; omega) ?_
          refine ez_top (nI (q.1.2.2.2 a3 b3)) ((hC.1.2 a3 (by omega)).2.2 b3 (by omega)) ?_
          refine ez_istore 37 [(4, eI (nI (q.1.2.2.2 a3 b3))), (0, eR 12 0), (1, eI (nI a3)), (2, eI (nI b3)), (3, eI (nI j15))] dX12_pebbles_35 rfl (by decide) rfl ?_
          refine ez_aload_n 38 dX12_pebbles_37 rfl rfl ?_
          refine ez_getf 41 (eR 47 0) dX12_pebbles_38 rfl fl_X12_29 (by show 0 < 1; omega) rfl ?_
          refine ez_bipush 43 dX12_pebbles_41 rfl (nI 10) (by decide) ?_
          refine ez_iload_n 44 dX12_pebbles_43 rfl rfl ?_
          refine ez_imul 45 dX12_pebbles_44 rfl ?_
          refine ez_top (nI (10 * a3)) (pk_mul _ _) ?_
          refine ez_iload_n 46 dX12_pebbles_45 rfl rfl ?_
          refine ez_iadd 47 dX12_pebbles_46 rfl ?_
          refine ez_top (nI (10 * a3 + b3)) (nI_add _ _) ?_
          refine ez_iload_n 48 dX12_pebbles_47 rfl rfl ?_
          refine ez_iastN (10 * a3 + b3) 49 dX12_pebbles_48 rfl (by decide) (by show 0 < 1; omega) (by show 10 * a3 + b3 < 40; omega) ?_
          refine ez_iload 51 dX12_pebbles_49 rfl rfl ?_
          refine ez_iret .int dX12_pebbles_51 rfl rfl ?_
          have eS : S_pb q (nI a3) (nI b3) (nI j15) = (nI (q.1.2.2.2 a3 b3), (q.1.1, q.1.2.1, q.1.2.2.1, ep_up2 q.1.2.2.2 a3 b3 j15), q.2) := by simp [S_pb, u3, v3, i15]
          have k9 := RM_pb (m := a3) (r := b3) (c := j15) hC (by omega)
          exact ⟨by rw [eS], by rw [eS]; exact k9.1, k9.2⟩
        · exact absurd h18 (by decide)
set_option maxRecDepth 20000 in
theorem c_X12_leads (g : EzH) (d : Nat) {q : EpS} (x y z : Int32) (M : EzM) (hd : 3 ≤ d) (hW : WF q) (hC : RM q M) : Ezc (true, g) mX12_leads d [eR 12 0, eI x, eI y, eI z] M (fun r M' => r = some (eI (S_leads q.1.1 q.1.2.1 q.1.2.2.1 x y z)) ∧ RM q M' ∧ FX CM M M') := by
  refine Ezc.of (by decide +kernel) (Nat.le_of_ble_eq_true rfl) ?_
  have q8 := hW.2.1.1
  have q4 := hW.1.1
  have qx := hW.2.2.2.2.1
  show Ez (true, g) mX12_leads d 0 [(0, eR 12 0), (1, eI x), (2, eI y), (3, eI z)] [] M _
  refine ez_aload_n 1 dX12_leads_0 rfl rfl ?_
  refine ez_iload_n 2 dX12_leads_1 rfl rfl ?_
  refine ez_callV 5 [eI x] [] dX12_leads_2 rfl rfl ok_X12_isMaze in_X12_isMaze (by decide) (by show 0 < 1; omega) ln_X12_137 (by omega) (Nat.le_of_ble_eq_true rfl) (c_X12_isMaze g (d - 1) x q.1.1 M (by omega) hC.1.1 (by omega)) (fun r2 M2 q2 => ?_)
  obtain ⟨e2, ⟨rfl, i2⟩ | ⟨j2, b2, rfl, rfl⟩⟩ := q2
  · rw [e2]
    show Ez (true, g) mX12_leads d 5 [(0, eR 12 0), (1, eI x), (2, eI y), (3, eI z)] [eI (nI 0)] M _
    refine ez_nif_ne 8 11 dX12_leads_5 rfl (by decide) (by omega) (fun h5 => ?_) (fun h5 => ?_)
    · exact absurd h5 (by decide)
    · refine ez_bipush 10 dX12_leads_8 rfl (-2) (by decide) ?_
      refine ez_iret .int dX12_leads_10 rfl rfl ?_
      exact ⟨by simp [S_leads, i2], hC, FX.rf⟩
  · rw [e2]
    have i2 : ep_ix (nI j2) q.1.1 = some j2 := ep_ix_nI b2 (by omega)
    show Ez (true, g) mX12_leads d 5 [(0, eR 12 0), (1, eI (nI j2)), (2, eI y), (3, eI z)] [eI (nI 1)] M _
    refine ez_nif_ne 8 11 dX12_leads_5 rfl (by decide) (by omega) (fun h5 => ?_) (fun h5 => ?_)
    · refine ez_iload_n 12 dX12_leads_11 rfl rfl ?_
      refine ez_iconst 13 dX12_leads_12 rfl (-1) (by decide) ?_
      refine ez_icmp_ne 16 23 dX12_leads_13 rfl (by decide) (fun h13 => ?_) (fun h13 => ?_)
      · refine ez_aload_n 24 dX12_leads_23 rfl rfl ?_
        refine ez_iload_n 25 dX12_leads_24 rfl rfl ?_
        refine ez_iload_n 26 dX12_leads_25 rfl rfl ?_
        refine ez_callV 29 [eI (nI j2), eI y] [] dX12_leads_26 rfl rfl ok_X12_isRoom in_X12_isRoom (by decide) (by show 0 < 1; omega) ln_X12_165 (by omega) (Nat.le_of_ble_eq_true rfl) (c_X12_isRoom g (d - 1) (nI j2) y M (by omega) hW hC) (fun r26 M26 q26 => ?_)
        obtain ⟨e26, ⟨rfl, i26⟩ | ⟨a26, b26, p26, s26, x26, rfl, rfl⟩⟩ := q26
        · rw [e26]
          show Ez (true, g) mX12_leads d 29 [(0, eR 12 0), (1, eI (nI j2)), (2, eI y), (3, eI z)] [eI (nI 0)] M _
          refine ez_nif_eq 32 54 dX12_leads_29 rfl (by decide) (by omega) (fun h29 => ?_) (fun h29 => ?_)
          · refine ez_bipush 56 dX12_leads_54 rfl (-2) (by decide) ?_
            refine ez_iret .int dX12_leads_56 rfl rfl ?_
            exact ⟨by simp only [S_leads, i2]; rw [if_neg h13, i26.elim (fun z9 => by rw [i2] at z9; cases z9) (fun z9 => z9 j2 i2)], hC, FX.rf⟩
          · exact absurd h29 (by decide)
        · rw [e26]
          have n10 := (hW.1.2 j2 b2).2.1
          have a9 : j2 = a26 := (nI_eq (by omega) (by omega)).mp x26
          subst a9
          have v26 : ep_ix (nI b26) (q.1.2.1 j2) = some b26 := ep_ix_nI s26 (by omega)
          show Ez (true, g) mX12_leads d 29 [(0, eR 12 0), (1, eI (nI j2)), (2, eI (nI b26)), (3, eI z)] [eI (nI 1)] M _
          refine ez_nif_eq 32 54 dX12_leads_29 rfl (by decide) (by omega) (fun h29 => ?_) (fun h29 => ?_)
          · exact absurd h29 (by decide)
          · refine ez_iload_n 33 dX12_leads_32 rfl rfl ?_
            refine ez_i2l 34 dX12_leads_33 rfl ?_
            refine ez_lconst 35 dX12_leads_34 rfl (nI 0).toInt64 (by decide) ?_
            refine ez_ldc2 38 dX12_leads_35 rfl 3 cn_X12_168 ?_
            refine ez_topL (nI 3).toInt64 (by decide) ?_
            refine ez_callS 41 [eL z.toInt64, eL ((nI 0).toInt64), eL ((nI 3).toInt64)] [] dX12_leads_38 rfl rfl ok_X12_in st_X12_in ln_X12_133 (by omega) (Nat.le_of_ble_eq_true rfl) (c_in_k g (d - 1) z 3 M (by decide)) (fun r38 M38 q38 => ?_)
            obtain ⟨e38, ⟨rfl, i38⟩ | ⟨j38, b38, rfl, rfl⟩⟩ := q38
            · rw [e38]
              show Ez (true, g) mX12_leads d 41 [(0, eR 12 0), (1, eI (nI j2)), (2, eI (nI b26)), (3, eI z)] [eI (nI 0)] M _
              refine ez_nif_eq 44 54 dX12_leads_41 rfl (by decide) (by omega) (fun h41 => ?_) (fun h41 => ?_)
              · refine ez_bipush 56 dX12_leads_54 rfl (-2) (by decide) ?_
                refine ez_iret .int dX12_leads_56 rfl rfl ?_
                exact ⟨by simp only [S_leads, i2, v26, i38]; rw [if_neg (ep_m1 (by omega))], hC, FX.rf⟩
              · exact absurd h41 (by decide)
            · rw [e38]
              have i38 : ep_ix (nI j38) 4 = some j38 := ep_ix_nI b38 (by omega)
              show Ez (true, g) mX12_leads d 41 [(0, eR 12 0), (1, eI (nI j2)), (2, eI (nI b26)), (3, eI (nI j38))] [eI (nI 1)] M _
              refine ez_nif_eq 44 54 dX12_leads_41 rfl (by decide) (by omega) (fun h41 => ?_) (fun h41 => ?_)
              · exact absurd h41 (by decide)
              · refine ez_aload_n 45 dX12_leads_44 rfl rfl ?_
                refine ez_iload_n 46 dX12_leads_45 rfl rfl ?_
                refine ez_iload_n 47 dX12_leads_46 rfl rfl ?_
                refine ez_iload_n 48 dX12_leads_47 rfl rfl ?_
                refine ez_callV 51 [eI (nI j2), eI (nI b26), eI (nI j38)] [] dX12_leads_48 rfl rfl ok_X12_to in_X12_to (by decide) (by show 0 < 1; omega) ln_X12_170 (by omega) (Nat.le_of_ble_eq_true rfl) (c_X12_to g (d - 1) j2 b26 j38 M (by omega) (by omega) (by omega)) (fun r48 M48 q48 => ?_)
                obtain ⟨rfl, e48⟩ := q48
                rw [e48, show M.1 45 0 (40 * j2 + (4 * b26 + j38)) = q.1.2.2.1 j2 (4 * b26 + j38) from (hC.1.2 j2 b2).2.1 _ (by omega)]
                show Ez (true, g) mX12_leads d 51 [(0, eR 12 0), (1, eI (nI j2)), (2, eI (nI b26)), (3, eI (nI j38))] [eI (q.1.2.2.1 j2 (4 * b26 + j38))] M _
                refine ez_goto 56 dX12_leads_51 (by decide) ?_
                refine ez_iret .int dX12_leads_56 rfl rfl ?_
                exact ⟨by simp only [S_leads, i2, v26, i38]; rw [if_neg (ep_m1 (by omega))], hC, FX.rf⟩
      · subst h13
        refine ez_aload_n 17 dX12_leads_16 rfl rfl ?_
        refine ez_getf 20 (eR 46 0) dX12_leads_17 rfl fl_X12_26 (by show 0 < 1; omega) rfl ?_
        refine ez_iload_n 21 dX12_leads_20 rfl rfl ?_
        refine ez_ialdN j2 22 dX12_leads_21 rfl (by decide) (by show 0 < 1; omega) (by show j2 < 4; omega) ?_
        refine ez_top (nI (q.1.2.1 j2)) ((hC.1.2 j2 b2).1) ?_
        refine ez_iret .int dX12_leads_22 rfl rfl ?_
        exact ⟨by simp [S_leads, i2], hC, FX.rf⟩
    · exact absurd h5 (by decide)
def er_un (a b : Nat) : Nat := if b = a ∨ b = 0 ∨ (a = 3 ∧ b = 1) ∨ ((a = 4 ∨ a = 5) ∧ b = 2) then 1 else 0
def S_taken (q : EpS) (x y : Int32) : Int32 := match ep_ix y 6 with
  | none => -2
  | some b => match ep_ix x q.2.1.1 with
    | none => -11
    | some w => if er_un (q.2.1.2.1 w 0) b = 1 then nI (q.2.1.2.1 w 4) else -13
set_option maxRecDepth 20000 in
theorem c_itemAtK (G : EzG) (d : Nat) (a : Nat) (M : EzM) (ha : a < 6) : Ezc G mX11_itemAt d [eR 102 0, eI (nI a)] M (fun r M' => r = some (eI (ez_ka a)) ∧ M' = M) := by
  refine Ezc.of (by decide +kernel) (Nat.le_of_ble_eq_true rfl) ?_
  show Ez G mX11_itemAt d 0 [(0, eR 102 0), (1, eI (nI a))] [] M _
  refine ez_iload_n 1 dX11_itemAt_0 rfl rfl ?_
  refine ez_nif_lt 4 dX11_itemAt_1 rfl (by omega) ?_
  refine ez_iload_n 5 dX11_itemAt_4 rfl rfl ?_
  refine ez_aload_n 6 dX11_itemAt_5 rfl rfl ?_
  refine ez_alenX 7 dX11_itemAt_6 rfl ez_ktab ?_
  refine ez_ncmp_ge 10 16 dX11_itemAt_7 rfl (by decide) (by omega) (by omega) (fun h7 => ?_) (fun h7 => ?_)
  · refine ez_iconst 17 dX11_itemAt_16 rfl (-1) (by decide) ?_
    refine ez_iret .int dX11_itemAt_17 rfl rfl ?_
    omega
  · refine ez_aload_n 11 dX11_itemAt_10 rfl rfl ?_
    refine ez_iload_n 12 dX11_itemAt_11 rfl rfl ?_
    refine ez_ialdX 13 dX11_itemAt_12 rfl ez_ktab (by show a < 6; omega) (by decide) ?_
    refine ez_goto 17 dX11_itemAt_13 (by decide) ?_
    refine ez_iret .int dX11_itemAt_17 rfl rfl ?_
    exact ⟨rfl, rfl⟩
set_option maxRecDepth 20000 in
theorem c_under_0 (G : EzG) (d : Nat) (b : Nat) (M : EzM) (hd : 1 ≤ d) (hb : b < 6) : Ezc G mX11_isUnder d [eI (nI 0), eI (nI b)] M (fun r M' => r = some (eI (nI (er_un 0 b))) ∧ M' = M) := by
  refine Ezc.of (by decide +kernel) (Nat.le_of_ble_eq_true rfl) ?_
  show Ez G mX11_isUnder d 0 [(0, eI (nI 0)), (1, eI (nI b))] [] M _
  refine ez_iload_n 1 dX11_isUnder_0 rfl rfl ?_
  refine ez_istore_n 2 [(2, eI (nI 0)), (0, eI (nI 0)), (1, eI (nI b))] dX11_isUnder_1 rfl (by decide) rfl ?_
  refine ez_iconst 3 dX11_isUnder_2 rfl (nI 0) (by decide) ?_
  refine ez_istore_n 4 [(3, eI (nI 0)), (2, eI (nI 0)), (0, eI (nI 0)), (1, eI (nI b))] dX11_isUnder_3 rfl (by decide) rfl ?_
  refine ez_iload_n 5 dX11_isUnder_4 rfl rfl ?_
  refine ez_bipush 7 dX11_isUnder_5 rfl (nI 6) (by decide) ?_
  refine ez_ncmp_ge 10 36 dX11_isUnder_7 rfl (by decide) (by omega) (by omega) (fun h7 => ?_) (fun h7 => ?_)
  · exact absurd h7 (by decide)
  · refine ez_iload_n 11 dX11_isUnder_10 rfl rfl ?_
    refine ez_iconst 12 dX11_isUnder_11 rfl (-1) (by decide) ?_
    refine ez_icmp_eq 15 36 dX11_isUnder_12 rfl (by decide) (fun h12 => ?_) (fun h12 => ?_)
    · exact absurd h12 (by decide)
    · refine ez_iload_n 16 dX11_isUnder_15 rfl rfl ?_
      refine ez_iload_n 17 dX11_isUnder_16 rfl rfl ?_
      refine ez_ncmp_ne 20 22 dX11_isUnder_17 rfl (by decide) (by omega) (by omega) (fun h17 => ?_) (fun h17 => ?_)
      · refine ez_gets 25 (eR 102 0) "ElevenPebbles" "KIND_ABOVE" "[I" dX11_isUnder_22 rfl fx_X11_333 ez_kref ?_
        refine ez_iload_n 26 dX11_isUnder_25 rfl rfl ?_
        refine ez_callS 29 [eR 102 0, eI (nI 0)] [] dX11_isUnder_26 rfl rfl ok_X11_itemAt st_X11_itemAt ln_X11_159 (by omega) (Nat.le_of_ble_eq_true rfl) (c_itemAtK G (d - 1) 0 M (by omega)) (fun r26 M26 q26 => ?_)
        obtain ⟨rfl, e26⟩ := q26
        rw [e26]
        show Ez G mX11_isUnder d 29 [(3, eI (nI 0)), (2, eI (nI 0)), (0, eI (nI 0)), (1, eI (nI b))] [eI (-1)] M _
        refine ez_istore_n 30 [(2, eI (-1)), (3, eI (nI 0)), (0, eI (nI 0)), (1, eI (nI b))] dX11_isUnder_29 rfl (by decide) rfl ?_
        refine ez_iinc 33 (nI 1) [(3, eI (nI 1)), (2, eI (-1)), (0, eI (nI 0)), (1, eI (nI b))] dX11_isUnder_30 rfl rfl (by decide) (by decide) rfl ?_
        refine ez_goto 4 dX11_isUnder_33 (by decide) ?_
        refine ez_iload_n 5 dX11_isUnder_4 rfl rfl ?_
        refine ez_bipush 7 dX11_isUnder_5 rfl (nI 6) (by decide) ?_
        refine ez_ncmp_ge 10 36 dX11_isUnder_7 rfl (by decide) (by omega) (by omega) (fun h7' => ?_) (fun h7' => ?_)
        · exact absurd h7' (by decide)
        · refine ez_iload_n 11 dX11_isUnder_10 rfl rfl ?_
          refine ez_iconst 12 dX11_isUnder_11 rfl (-1) (by decide) ?_
          refine ez_icmp_eq 15 36 dX11_isUnder_12 rfl (by decide) (fun h12' => ?_) (fun h12' => ?_)
          · refine ez_iconst 37 dX11_isUnder_36 rfl (nI 0) (by decide) ?_
            refine ez_iret .boolean dX11_isUnder_37 rfl (by decide) ?_
            exact ⟨by unfold er_un; rw [if_neg (by omega)], rfl⟩
          · exact absurd rfl h12'
      · refine ez_iconst 21 dX11_isUnder_20 rfl (nI 1) (by decide) ?_
        refine ez_iret .boolean dX11_isUnder_21 rfl (by decide) ?_
        exact ⟨by unfold er_un; rw [if_pos (by omega)], rfl⟩
set_option maxRecDepth 20000 in
theorem c_under_1 (G : EzG) (d : Nat) (b : Nat) (M : EzM) (hd : 1 ≤ d) (hb : b < 6) : Ezc G mX11_isUnder d [eI (nI 1), eI (nI b)] M (fun r M' => r = some (eI (nI (er_un 1 b))) ∧ M' = M) := by
  refine Ezc.of (by decide +kernel) (Nat.le_of_ble_eq_true rfl) ?_
  show Ez G mX11_isUnder d 0 [(0, eI (nI 1)), (1, eI (nI b))] [] M _
  refine ez_iload_n 1 dX11_isUnder_0 rfl rfl ?_
  refine ez_istore_n 2 [(2, eI (nI 1)), (0, eI (nI 1)), (1, eI (nI b))] dX11_isUnder_1 rfl (by decide) rfl ?_
  refine ez_iconst 3 dX11_isUnder_2 rfl (nI 0) (by decide) ?_
  refine ez_istore_n 4 [(3, eI (nI 0)), (2, eI (nI 1)), (0, eI (nI 1)), (1, eI (nI b))] dX11_isUnder_3 rfl (by decide) rfl ?_
  refine ez_iload_n 5 dX11_isUnder_4 rfl rfl ?_
  refine ez_bipush 7 dX11_isUnder_5 rfl (nI 6) (by decide) ?_
  refine ez_ncmp_ge 10 36 dX11_isUnder_7 rfl (by decide) (by omega) (by omega) (fun h7 => ?_) (fun h7 => ?_)
  · exact absurd h7 (by decide)
  · refine ez_iload_n 11 dX11_isUnder_10 rfl rfl ?_
    refine ez_iconst 12 dX11_isUnder_11 rfl (-1) (by decide) ?_
    refine ez_icmp_eq 15 36 dX11_isUnder_12 rfl (by decide) (fun h12 => ?_) (fun h12 => ?_)
    · exact absurd h12 (by decide)
    · refine ez_iload_n 16 dX11_isUnder_15 rfl rfl ?_
      refine ez_iload_n 17 dX11_isUnder_16 rfl rfl ?_
      refine ez_ncmp_ne 20 22 dX11_isUnder_17 rfl (by decide) (by omega) (by omega) (fun h17 => ?_) (fun h17 => ?_)
      · refine ez_gets 25 (eR 102 0) "ElevenPebbles" "KIND_ABOVE" "[I" dX11_isUnder_22 rfl fx_X11_333 ez_kref ?_
        refine ez_iload_n 26 dX11_isUnder_25 rfl rfl ?_
        refine ez_callS 29 [eR 102 0, eI (nI 1)] [] dX11_isUnder_26 rfl rfl ok_X11_itemAt st_X11_itemAt ln_X11_159 (by omega) (Nat.le_of_ble_eq_true rfl) (c_itemAtK G (d - 1) 1 M (by omega)) (fun r26 M26 q26 => ?_)
        obtain ⟨rfl, e26⟩ := q26
        rw [e26]
        show Ez G mX11_isUnder d 29 [(3, eI (nI 0)), (2, eI (nI 1)), (0, eI (nI 1)), (1, eI (nI b))] [eI (nI 0)] M _
        refine ez_istore_n 30 [(2, eI (nI 0)), (3, eI (nI 0)), (0, eI (nI 1)), (1, eI (nI b))] dX11_isUnder_29 rfl (by decide) rfl ?_
        refine ez_iinc 33 (nI 1) [(3, eI (nI 1)), (2, eI (nI 0)), (0, eI (nI 1)), (1, eI (nI b))] dX11_isUnder_30 rfl rfl (by decide) (by decide) rfl ?_
        refine ez_goto 4 dX11_isUnder_33 (by decide) ?_
        refine ez_iload_n 5 dX11_isUnder_4 rfl rfl ?_
        refine ez_bipush 7 dX11_isUnder_5 rfl (nI 6) (by decide) ?_
        refine ez_ncmp_ge 10 36 dX11_isUnder_7 rfl (by decide) (by omega) (by omega) (fun h7' => ?_) (fun h7' => ?_)
        · exact absurd h7' (by decide)
        · refine ez_iload_n 11 dX11_isUnder_10 rfl rfl ?_
          refine ez_iconst 12 dX11_isUnder_11 rfl (-1) (by decide) ?_
          refine ez_icmp_eq 15 36 dX11_isUnder_12 rfl (by decide) (fun h12' => ?_) (fun h12' => ?_)
          · exact absurd h12' (by decide)
          · refine ez_iload_n 16 dX11_isUnder_15 rfl rfl ?_
            refine ez_iload_n 17 dX11_isUnder_16 rfl rfl ?_
            refine ez_ncmp_ne 20 22 dX11_isUnder_17 rfl (by decide) (by omega) (by omega) (fun h17' => ?_) (fun h17' => ?_)
            · refine ez_gets 25 (eR 102 0) "ElevenPebbles" "KIND_ABOVE" "[I" dX11_isUnder_22 rfl fx_X11_333 ez_kref ?_
              refine ez_iload_n 26 dX11_isUnder_25 rfl rfl ?_
              refine ez_callS 29 [eR 102 0, eI (nI 0)] [] dX11_isUnder_26 rfl rfl ok_X11_itemAt st_X11_itemAt ln_X11_159 (by omega) (Nat.le_of_ble_eq_true rfl) (c_itemAtK G (d - 1) 0 M (by omega)) (fun r26 M26 q26 => ?_)
              obtain ⟨rfl, e26⟩ := q26
              rw [e26]
              show Ez G mX11_isUnder d 29 [(3, eI (nI 1)), (2, eI (nI 0)), (0, eI (nI 1)), (1, eI (nI b))] [eI (-1)] M _
              refine ez_istore_n 30 [(2, eI (-1)), (3, eI (nI 1)), (0, eI (nI 1)), (1, eI (nI b))] dX11_isUnder_29 rfl (by decide) rfl ?_
              refine ez_iinc 33 (nI 2) [(3, eI (nI 2)), (2, eI (-1)), (0, eI (nI 1)), (1, eI (nI b))] dX11_isUnder_30 rfl rfl (by decide) (by decide) rfl ?_
              refine ez_goto 4 dX11_isUnder_33 (by decide) ?_
              refine ez_iload_n 5 dX11_isUnder_4 rfl rfl ?_
              refine ez_bipush 7 dX11_isUnder_5 rfl (nI 6) (by decide) ?_
              refine ez_ncmp_ge 10 36 dX11_isUnder_7 rfl (by decide) (by omega) (by omega) (fun h7'' => ?_) (fun h7'' => ?_)
              · exact absurd h7'' (by decide)
              · refine ez_iload_n 11 dX11_isUnder_10 rfl rfl ?_
                refine ez_iconst 12 dX11_isUnder_11 rfl (-1) (by decide) ?_
                refine ez_icmp_eq 15 36 dX11_isUnder_12 rfl (by decide) (fun h12'' => ?_) (fun h12'' => ?_)
                · refine ez_iconst 37 dX11_isUnder_36 rfl (nI 0) (by decide) ?_
                  refine ez_iret .boolean dX11_isUnder_37 rfl (by decide) ?_
                  exact ⟨by unfold er_un; rw [if_neg (by omega)], rfl⟩
                · exact absurd rfl h12''
            · refine ez_iconst 21 dX11_isUnder_20 rfl (nI 1) (by decide) ?_
              refine ez_iret .boolean dX11_isUnder_21 rfl (by decide) ?_
              exact ⟨by unfold er_un; rw [if_pos (by omega)], rfl⟩
      · refine ez_iconst 21 dX11_isUnder_20 rfl (nI 1) (by decide) ?_
        refine ez_iret .boolean dX11_isUnder_21 rfl (by decide) ?_
        exact ⟨by unfold er_un; rw [if_pos (by omega)], rfl⟩
set_option maxRecDepth 20000 in
theorem c_under_2 (G : EzG) (d : Nat) (b : Nat) (M : EzM) (hd : 1 ≤ d) (hb : b < 6) : Ezc G mX11_isUnder d [eI (nI 2), eI (nI b)] M (fun r M' => r = some (eI (nI (er_un 2 b))) ∧ M' = M) := by
  refine Ezc.of (by decide +kernel) (Nat.le_of_ble_eq_true rfl) ?_
  show Ez G mX11_isUnder d 0 [(0, eI (nI 2)), (1, eI (nI b))] [] M _
  refine ez_iload_n 1 dX11_isUnder_0 rfl rfl ?_
  refine ez_istore_n 2 [(2, eI (nI 2)), (0, eI (nI 2)), (1, eI (nI b))] dX11_isUnder_1 rfl (by decide) rfl ?_
  refine ez_iconst 3 dX11_isUnder_2 rfl (nI 0) (by decide) ?_
  refine ez_istore_n 4 [(3, eI (nI 0)), (2, eI (nI 2)), (0, eI (nI 2)), (1, eI (nI b))] dX11_isUnder_3 rfl (by decide) rfl ?_
  refine ez_iload_n 5 dX11_isUnder_4 rfl rfl ?_
  refine ez_bipush 7 dX11_isUnder_5 rfl (nI 6) (by decide) ?_
  refine ez_ncmp_ge 10 36 dX11_isUnder_7 rfl (by decide) (by omega) (by omega) (fun h7 => ?_) (fun h7 => ?_)
  · exact absurd h7 (by decide)
  · refine ez_iload_n 11 dX11_isUnder_10 rfl rfl ?_
    refine ez_iconst 12 dX11_isUnder_11 rfl (-1) (by decide) ?_
    refine ez_icmp_eq 15 36 dX11_isUnder_12 rfl (by decide) (fun h12 => ?_) (fun h12 => ?_)
    · exact absurd h12 (by decide)
    · refine ez_iload_n 16 dX11_isUnder_15 rfl rfl ?_
      refine ez_iload_n 17 dX11_isUnder_16 rfl rfl ?_
      refine ez_ncmp_ne 20 22 dX11_isUnder_17 rfl (by decide) (by omega) (by omega) (fun h17 => ?_) (fun h17 => ?_)
      · refine ez_gets 25 (eR 102 0) "ElevenPebbles" "KIND_ABOVE" "[I" dX11_isUnder_22 rfl fx_X11_333 ez_kref ?_
        refine ez_iload_n 26 dX11_isUnder_25 rfl rfl ?_
        refine ez_callS 29 [eR 102 0, eI (nI 2)] [] dX11_isUnder_26 rfl rfl ok_X11_itemAt st_X11_itemAt ln_X11_159 (by omega) (Nat.le_of_ble_eq_true rfl) (c_itemAtK G (d - 1) 2 M (by omega)) (fun r26 M26 q26 => ?_)
        obtain ⟨rfl, e26⟩ := q26
        rw [e26]
        show Ez G mX11_isUnder d 29 [(3, eI (nI 0)), (2, eI (nI 2)), (0, eI (nI 2)), (1, eI (nI b))] [eI (nI 0)] M _
        refine ez_istore_n 30 [(2, eI (nI 0)), (3, eI (nI 0)), (0, eI (nI 2)), (1, eI (nI b))] dX11_isUnder_29 rfl (by decide) rfl ?_
        refine ez_iinc 33 (nI 1) [(3, eI (nI 1)), (2, eI (nI 0)), (0, eI (nI 2)), (1, eI (nI b))] dX11_isUnder_30 rfl rfl (by decide) (by decide) rfl ?_
        refine ez_goto 4 dX11_isUnder_33 (by decide) ?_
        refine ez_iload_n 5 dX11_isUnder_4 rfl rfl ?_
        refine ez_bipush 7 dX11_isUnder_5 rfl (nI 6) (by decide) ?_
        refine ez_ncmp_ge 10 36 dX11_isUnder_7 rfl (by decide) (by omega) (by omega) (fun h7' => ?_) (fun h7' => ?_)
        · exact absurd h7' (by decide)
        · refine ez_iload_n 11 dX11_isUnder_10 rfl rfl ?_
          refine ez_iconst 12 dX11_isUnder_11 rfl (-1) (by decide) ?_
          refine ez_icmp_eq 15 36 dX11_isUnder_12 rfl (by decide) (fun h12' => ?_) (fun h12' => ?_)
          · exact absurd h12' (by decide)
          · refine ez_iload_n 16 dX11_isUnder_15 rfl rfl ?_
            refine ez_iload_n 17 dX11_isUnder_16 rfl rfl ?_
            refine ez_ncmp_ne 20 22 dX11_isUnder_17 rfl (by decide) (by omega) (by omega) (fun h17' => ?_) (fun h17' => ?_)
            · refine ez_gets 25 (eR 102 0) "ElevenPebbles" "KIND_ABOVE" "[I" dX11_isUnder_22 rfl fx_X11_333 ez_kref ?_
              refine ez_iload_n 26 dX11_isUnder_25 rfl rfl ?_
              refine ez_callS 29 [eR 102 0, eI (nI 0)] [] dX11_isUnder_26 rfl rfl ok_X11_itemAt st_X11_itemAt ln_X11_159 (by omega) (Nat.le_of_ble_eq_true rfl) (c_itemAtK G (d - 1) 0 M (by omega)) (fun r26 M26 q26 => ?_)
              obtain ⟨rfl, e26⟩ := q26
              rw [e26]
              show Ez G mX11_isUnder d 29 [(3, eI (nI 1)), (2, eI (nI 0)), (0, eI (nI 2)), (1, eI (nI b))] [eI (-1)] M _
              refine ez_istore_n 30 [(2, eI (-1)), (3, eI (nI 1)), (0, eI (nI 2)), (1, eI (nI b))] dX11_isUnder_29 rfl (by decide) rfl ?_
              refine ez_iinc 33 (nI 2) [(3, eI (nI 2)), (2, eI (-1)), (0, eI (nI 2)), (1, eI (nI b))] dX11_isUnder_30 rfl rfl (by decide) (by decide) rfl ?_
              refine ez_goto 4 dX11_isUnder_33 (by decide) ?_
              refine ez_iload_n 5 dX11_isUnder_4 rfl rfl ?_
              refine ez_bipush 7 dX11_isUnder_5 rfl (nI 6) (by decide) ?_
              refine ez_ncmp_ge 10 36 dX11_isUnder_7 rfl (by decide) (by omega) (by omega) (fun h7'' => ?_) (fun h7'' => ?_)
              · exact absurd h7'' (by decide)
              · refine ez_iload_n 11 dX11_isUnder_10 rfl rfl ?_
                refine ez_iconst 12 dX11_isUnder_11 rfl (-1) (by decide) ?_
                refine ez_icmp_eq 15 36 dX11_isUnder_12 rfl (by decide) (fun h12'' => ?_) (fun h12'' => ?_)
                · refine ez_iconst 37 dX11_isUnder_36 rfl (nI 0) (by decide) ?_
                  refine ez_iret .boolean dX11_isUnder_37 rfl (by decide) ?_
                  exact ⟨by unfold er_un; rw [if_neg (by omega)], rfl⟩
                · exact absurd rfl h12''
            · refine ez_iconst 21 dX11_isUnder_20 rfl (nI 1) (by decide) ?_
              refine ez_iret .boolean dX11_isUnder_21 rfl (by decide) ?_
              exact ⟨by unfold er_un; rw [if_pos (by omega)], rfl⟩
      · refine ez_iconst 21 dX11_isUnder_20 rfl (nI 1) (by decide) ?_
        refine ez_iret .boolean dX11_isUnder_21 rfl (by decide) ?_
        exact ⟨by unfold er_un; rw [if_pos (by omega)], rfl⟩
set_option maxRecDepth 20000 in
theorem c_under_3 (G : EzG) (d : Nat) (b : Nat) (M : EzM) (hd : 1 ≤ d) (hb : b < 6) : Ezc G mX11_isUnder d [eI (nI 3), eI (nI b)] M (fun r M' => r = some (eI (nI (er_un 3 b))) ∧ M' = M) := by
  refine Ezc.of (by decide +kernel) (Nat.le_of_ble_eq_true rfl) ?_
  show Ez G mX11_isUnder d 0 [(0, eI (nI 3)), (1, eI (nI b))] [] M _
  refine ez_iload_n 1 dX11_isUnder_0 rfl rfl ?_
  refine ez_istore_n 2 [(2, eI (nI 3)), (0, eI (nI 3)), (1, eI (nI b))] dX11_isUnder_1 rfl (by decide) rfl ?_
  refine ez_iconst 3 dX11_isUnder_2 rfl (nI 0) (by decide) ?_
  refine ez_istore_n 4 [(3, eI (nI 0)), (2, eI (nI 3)), (0, eI (nI 3)), (1, eI (nI b))] dX11_isUnder_3 rfl (by decide) rfl ?_
  refine ez_iload_n 5 dX11_isUnder_4 rfl rfl ?_
  refine ez_bipush 7 dX11_isUnder_5 rfl (nI 6) (by decide) ?_
  refine ez_ncmp_ge 10 36 dX11_isUnder_7 rfl (by decide) (by omega) (by omega) (fun h7 => ?_) (fun h7 => ?_)
  · exact absurd h7 (by decide)
  · refine ez_iload_n 11 dX11_isUnder_10 rfl rfl ?_
    refine ez_iconst 12 dX11_isUnder_11 rfl (-1) (by decide) ?_
    refine ez_icmp_eq 15 36 dX11_isUnder_12 rfl (by decide) (fun h12 => ?_) (fun h12 => ?_)
    · exact absurd h12 (by decide)
    · refine ez_iload_n 16 dX11_isUnder_15 rfl rfl ?_
      refine ez_iload_n 17 dX11_isUnder_16 rfl rfl ?_
      refine ez_ncmp_ne 20 22 dX11_isUnder_17 rfl (by decide) (by omega) (by omega) (fun h17 => ?_) (fun h17 => ?_)
      · refine ez_gets 25 (eR 102 0) "ElevenPebbles" "KIND_ABOVE" "[I" dX11_isUnder_22 rfl fx_X11_333 ez_kref ?_
        refine ez_iload_n 26 dX11_isUnder_25 rfl rfl ?_
        refine ez_callS 29 [eR 102 0, eI (nI 3)] [] dX11_isUnder_26 rfl rfl ok_X11_itemAt st_X11_itemAt ln_X11_159 (by omega) (Nat.le_of_ble_eq_true rfl) (c_itemAtK G (d - 1) 3 M (by omega)) (fun r26 M26 q26 => ?_)
        obtain ⟨rfl, e26⟩ := q26
        rw [e26]
        show Ez G mX11_isUnder d 29 [(3, eI (nI 0)), (2, eI (nI 3)), (0, eI (nI 3)), (1, eI (nI b))] [eI (nI 1)] M _
        refine ez_istore_n 30 [(2, eI (nI 1)), (3, eI (nI 0)), (0, eI (nI 3)), (1, eI (nI b))] dX11_isUnder_29 rfl (by decide) rfl ?_
        refine ez_iinc 33 (nI 1) [(3, eI (nI 1)), (2, eI (nI 1)), (0, eI (nI 3)), (1, eI (nI b))] dX11_isUnder_30 rfl rfl (by decide) (by decide) rfl ?_
        refine ez_goto 4 dX11_isUnder_33 (by decide) ?_
        refine ez_iload_n 5 dX11_isUnder_4 rfl rfl ?_
        refine ez_bipush 7 dX11_isUnder_5 rfl (nI 6) (by decide) ?_
        refine ez_ncmp_ge 10 36 dX11_isUnder_7 rfl (by decide) (by omega) (by omega) (fun h7' => ?_) (fun h7' => ?_)
        · exact absurd h7' (by decide)
        · refine ez_iload_n 11 dX11_isUnder_10 rfl rfl ?_
          refine ez_iconst 12 dX11_isUnder_11 rfl (-1) (by decide) ?_
          refine ez_icmp_eq 15 36 dX11_isUnder_12 rfl (by decide) (fun h12' => ?_) (fun h12' => ?_)
          · exact absurd h12' (by decide)
          · refine ez_iload_n 16 dX11_isUnder_15 rfl rfl ?_
            refine ez_iload_n 17 dX11_isUnder_16 rfl rfl ?_
            refine ez_ncmp_ne 20 22 dX11_isUnder_17 rfl (by decide) (by omega) (by omega) (fun h17' => ?_) (fun h17' => ?_)
            · refine ez_gets 25 (eR 102 0) "ElevenPebbles" "KIND_ABOVE" "[I" dX11_isUnder_22 rfl fx_X11_333 ez_kref ?_
              refine ez_iload_n 26 dX11_isUnder_25 rfl rfl ?_
              refine ez_callS 29 [eR 102 0, eI (nI 1)] [] dX11_isUnder_26 rfl rfl ok_X11_itemAt st_X11_itemAt ln_X11_159 (by omega) (Nat.le_of_ble_eq_true rfl) (c_itemAtK G (d - 1) 1 M (by omega)) (fun r26 M26 q26 => ?_)
              obtain ⟨rfl, e26⟩ := q26
              rw [e26]
              show Ez G mX11_isUnder d 29 [(3, eI (nI 1)), (2, eI (nI 1)), (0, eI (nI 3)), (1, eI (nI b))] [eI (nI 0)] M _
              refine ez_istore_n 30 [(2, eI (nI 0)), (3, eI (nI 1)), (0, eI (nI 3)), (1, eI (nI b))] dX11_isUnder_29 rfl (by decide) rfl ?_
              refine ez_iinc 33 (nI 2) [(3, eI (nI 2)), (2, eI (nI 0)), (0, eI (nI 3)), (1, eI (nI b))] dX11_isUnder_30 rfl rfl (by decide) (by decide) rfl ?_
              refine ez_goto 4 dX11_isUnder_33 (by decide) ?_
              refine ez_iload_n 5 dX11_isUnder_4 rfl rfl ?_
              refine ez_bipush 7 dX11_isUnder_5 rfl (nI 6) (by decide) ?_
              refine ez_ncmp_ge 10 36 dX11_isUnder_7 rfl (by decide) (by omega) (by omega) (fun h7'' => ?_) (fun h7'' => ?_)
              · exact absurd h7'' (by decide)
              · refine ez_iload_n 11 dX11_isUnder_10 rfl rfl ?_
                refine ez_iconst 12 dX11_isUnder_11 rfl (-1) (by decide) ?_
                refine ez_icmp_eq 15 36 dX11_isUnder_12 rfl (by decide) (fun h12'' => ?_) (fun h12'' => ?_)
                · exact absurd h12'' (by decide)
                · refine ez_iload_n 16 dX11_isUnder_15 rfl rfl ?_
                  refine ez_iload_n 17 dX11_isUnder_16 rfl rfl ?_
                  refine ez_ncmp_ne 20 22 dX11_isUnder_17 rfl (by decide) (by omega) (by omega) (fun h17'' => ?_) (fun h17'' => ?_)
                  · refine ez_gets 25 (eR 102 0) "ElevenPebbles" "KIND_ABOVE" "[I" dX11_isUnder_22 rfl fx_X11_333 ez_kref ?_
                    refine ez_iload_n 26 dX11_isUnder_25 rfl rfl ?_
                    refine ez_callS 29 [eR 102 0, eI (nI 0)] [] dX11_isUnder_26 rfl rfl ok_X11_itemAt st_X11_itemAt ln_X11_159 (by omega) (Nat.le_of_ble_eq_true rfl) (c_itemAtK G (d - 1) 0 M (by omega)) (fun r26 M26 q26 => ?_)
                    obtain ⟨rfl, e26⟩ := q26
                    rw [e26]
                    show Ez G mX11_isUnder d 29 [(3, eI (nI 2)), (2, eI (nI 0)), (0, eI (nI 3)), (1, eI (nI b))] [eI (-1)] M _
                    refine ez_istore_n 30 [(2, eI (-1)), (3, eI (nI 2)), (0, eI (nI 3)), (1, eI (nI b))] dX11_isUnder_29 rfl (by decide) rfl ?_
                    refine ez_iinc 33 (nI 3) [(3, eI (nI 3)), (2, eI (-1)), (0, eI (nI 3)), (1, eI (nI b))] dX11_isUnder_30 rfl rfl (by decide) (by decide) rfl ?_
                    refine ez_goto 4 dX11_isUnder_33 (by decide) ?_
                    refine ez_iload_n 5 dX11_isUnder_4 rfl rfl ?_
                    refine ez_bipush 7 dX11_isUnder_5 rfl (nI 6) (by decide) ?_
                    refine ez_ncmp_ge 10 36 dX11_isUnder_7 rfl (by decide) (by omega) (by omega) (fun h7''' => ?_) (fun h7''' => ?_)
                    · exact absurd h7''' (by decide)
                    · refine ez_iload_n 11 dX11_isUnder_10 rfl rfl ?_
                      refine ez_iconst 12 dX11_isUnder_11 rfl (-1) (by decide) ?_
                      refine ez_icmp_eq 15 36 dX11_isUnder_12 rfl (by decide) (fun h12''' => ?_) (fun h12''' => ?_)
                      · refine ez_iconst 37 dX11_isUnder_36 rfl (nI 0) (by decide) ?_
                        refine ez_iret .boolean dX11_isUnder_37 rfl (by decide) ?_
                        exact ⟨by unfold er_un; rw [if_neg (by omega)], rfl⟩
                      · exact absurd rfl h12'''
                  · refine ez_iconst 21 dX11_isUnder_20 rfl (nI 1) (by decide) ?_
                    refine ez_iret .boolean dX11_isUnder_21 rfl (by decide) ?_
                    exact ⟨by unfold er_un; rw [if_pos (by omega)], rfl⟩
            · refine ez_iconst 21 dX11_isUnder_20 rfl (nI 1) (by decide) ?_
              refine ez_iret .boolean dX11_isUnder_21 rfl (by decide) ?_
              exact ⟨by unfold er_un; rw [if_pos (by omega)], rfl⟩
      · refine ez_iconst 21 dX11_isUnder_20 rfl (nI 1) (by decide) ?_
        refine ez_iret .boolean dX11_isUnder_21 rfl (by decide) ?_
        exact ⟨by unfold er_un; rw [if_pos (by omega)], rfl⟩
set_option maxRecDepth 20000 in
theorem c_under_4 (G : EzG) (d : Nat) (b : Nat) (M : EzM) (hd : 1 ≤ d) (hb : b < 6) : Ezc G mX11_isUnder d [eI (nI 4), eI (nI b)] M (fun r M' => r = some (eI (nI (er_un 4 b))) ∧ M' = M) := by
  refine Ezc.of (by decide +kernel) (Nat.le_of_ble_eq_true rfl) ?_
  show Ez G mX11_isUnder d 0 [(0, eI (nI 4)), (1, eI (nI b))] [] M _
  refine ez_iload_n 1 dX11_isUnder_0 rfl rfl ?_
  refine ez_istore_n 2 [(2, eI (nI 4)), (0, eI (nI 4)), (1, eI (nI b))] dX11_isUnder_1 rfl (by decide) rfl ?_
  refine ez_iconst 3 dX11_isUnder_2 rfl (nI 0) (by decide) ?_
  refine ez_istore_n 4 [(3, eI (nI 0)), (2, eI (nI 4)), (0, eI (nI 4)), (1, eI (nI b))] dX11_isUnder_3 rfl (by decide) rfl ?_
  refine ez_iload_n 5 dX11_isUnder_4 rfl rfl ?_
  refine ez_bipush 7 dX11_isUnder_5 rfl (nI 6) (by decide) ?_
  refine ez_ncmp_ge 10 36 dX11_isUnder_7 rfl (by decide) (by omega) (by omega) (fun h7 => ?_) (fun h7 => ?_)
  · exact absurd h7 (by decide)
  · refine ez_iload_n 11 dX11_isUnder_10 rfl rfl ?_
    refine ez_iconst 12 dX11_isUnder_11 rfl (-1) (by decide) ?_
    refine ez_icmp_eq 15 36 dX11_isUnder_12 rfl (by decide) (fun h12 => ?_) (fun h12 => ?_)
    · exact absurd h12 (by decide)
    · refine ez_iload_n 16 dX11_isUnder_15 rfl rfl ?_
      refine ez_iload_n 17 dX11_isUnder_16 rfl rfl ?_
      refine ez_ncmp_ne 20 22 dX11_isUnder_17 rfl (by decide) (by omega) (by omega) (fun h17 => ?_) (fun h17 => ?_)
      · refine ez_gets 25 (eR 102 0) "ElevenPebbles" "KIND_ABOVE" "[I" dX11_isUnder_22 rfl fx_X11_333 ez_kref ?_
        refine ez_iload_n 26 dX11_isUnder_25 rfl rfl ?_
        refine ez_callS 29 [eR 102 0, eI (nI 4)] [] dX11_isUnder_26 rfl rfl ok_X11_itemAt st_X11_itemAt ln_X11_159 (by omega) (Nat.le_of_ble_eq_true rfl) (c_itemAtK G (d - 1) 4 M (by omega)) (fun r26 M26 q26 => ?_)
        obtain ⟨rfl, e26⟩ := q26
        rw [e26]
        show Ez G mX11_isUnder d 29 [(3, eI (nI 0)), (2, eI (nI 4)), (0, eI (nI 4)), (1, eI (nI b))] [eI (nI 2)] M _
        refine ez_istore_n 30 [(2, eI (nI 2)), (3, eI (nI 0)), (0, eI (nI 4)), (1, eI (nI b))] dX11_isUnder_29 rfl (by decide) rfl ?_
        refine ez_iinc 33 (nI 1) [(3, eI (nI 1)), (2, eI (nI 2)), (0, eI (nI 4)), (1, eI (nI b))] dX11_isUnder_30 rfl rfl (by decide) (by decide) rfl ?_
        refine ez_goto 4 dX11_isUnder_33 (by decide) ?_
        refine ez_iload_n 5 dX11_isUnder_4 rfl rfl ?_
        refine ez_bipush 7 dX11_isUnder_5 rfl (nI 6) (by decide) ?_
        refine ez_ncmp_ge 10 36 dX11_isUnder_7 rfl (by decide) (by omega) (by omega) (fun h7' => ?_) (fun h7' => ?_)
        · exact absurd h7' (by decide)
        · refine ez_iload_n 11 dX11_isUnder_10 rfl rfl ?_
          refine ez_iconst 12 dX11_isUnder_11 rfl (-1) (by decide) ?_
          refine ez_icmp_eq 15 36 dX11_isUnder_12 rfl (by decide) (fun h12' => ?_) (fun h12' => ?_)
          · exact absurd h12' (by decide)
          · refine ez_iload_n 16 dX11_isUnder_15 rfl rfl ?_
            refine ez_iload_n 17 dX11_isUnder_16 rfl rfl ?_
            refine ez_ncmp_ne 20 22 dX11_isUnder_17 rfl (by decide) (by omega) (by omega) (fun h17' => ?_) (fun h17' => ?_)
            · refine ez_gets 25 (eR 102 0) "ElevenPebbles" "KIND_ABOVE" "[I" dX11_isUnder_22 rfl fx_X11_333 ez_kref ?_
              refine ez_iload_n 26 dX11_isUnder_25 rfl rfl ?_
              refine ez_callS 29 [eR 102 0, eI (nI 2)] [] dX11_isUnder_26 rfl rfl ok_X11_itemAt st_X11_itemAt ln_X11_159 (by omega) (Nat.le_of_ble_eq_true rfl) (c_itemAtK G (d - 1) 2 M (by omega)) (fun r26 M26 q26 => ?_)
              obtain ⟨rfl, e26⟩ := q26
              rw [e26]
              show Ez G mX11_isUnder d 29 [(3, eI (nI 1)), (2, eI (nI 2)), (0, eI (nI 4)), (1, eI (nI b))] [eI (nI 0)] M _
              refine ez_istore_n 30 [(2, eI (nI 0)), (3, eI (nI 1)), (0, eI (nI 4)), (1, eI (nI b))] dX11_isUnder_29 rfl (by decide) rfl ?_
              refine ez_iinc 33 (nI 2) [(3, eI (nI 2)), (2, eI (nI 0)), (0, eI (nI 4)), (1, eI (nI b))] dX11_isUnder_30 rfl rfl (by decide) (by decide) rfl ?_
              refine ez_goto 4 dX11_isUnder_33 (by decide) ?_
              refine ez_iload_n 5 dX11_isUnder_4 rfl rfl ?_
              refine ez_bipush 7 dX11_isUnder_5 rfl (nI 6) (by decide) ?_
              refine ez_ncmp_ge 10 36 dX11_isUnder_7 rfl (by decide) (by omega) (by omega) (fun h7'' => ?_) (fun h7'' => ?_)
              · exact absurd h7'' (by decide)
              · refine ez_iload_n 11 dX11_isUnder_10 rfl rfl ?_
                refine ez_iconst 12 dX11_isUnder_11 rfl (-1) (by decide) ?_
                refine ez_icmp_eq 15 36 dX11_isUnder_12 rfl (by decide) (fun h12'' => ?_) (fun h12'' => ?_)
                · exact absurd h12'' (by decide)
                · refine ez_iload_n 16 dX11_isUnder_15 rfl rfl ?_
                  refine ez_iload_n 17 dX11_isUnder_16 rfl rfl ?_
                  refine ez_ncmp_ne 20 22 dX11_isUnder_17 rfl (by decide) (by omega) (by omega) (fun h17'' => ?_) (fun h17'' => ?_)
                  · refine ez_gets 25 (eR 102 0) "ElevenPebbles" "KIND_ABOVE" "[I" dX11_isUnder_22 rfl fx_X11_333 ez_kref ?_
                    refine ez_iload_n 26 dX11_isUnder_25 rfl rfl ?_
                    refine ez_callS 29 [eR 102 0, eI (nI 0)] [] dX11_isUnder_26 rfl rfl ok_X11_itemAt st_X11_itemAt ln_X11_159 (by omega) (Nat.le_of_ble_eq_true rfl) (c_itemAtK G (d - 1) 0 M (by omega)) (fun r26 M26 q26 => ?_)
                    obtain ⟨rfl, e26⟩ := q26
                    rw [e26]
                    show Ez G mX11_isUnder d 29 [(3, eI (nI 2)), (2, eI (nI 0)), (0, eI (nI 4)), (1, eI (nI b))] [eI (-1)] M _
                    refine ez_istore_n 30 [(2, eI (-1)), (3, eI (nI 2)), (0, eI (nI 4)), (1, eI (nI b))] dX11_isUnder_29 rfl (by decide) rfl ?_
                    refine ez_iinc 33 (nI 3) [(3, eI (nI 3)), (2, eI (-1)), (0, eI (nI 4)), (1, eI (nI b))] dX11_isUnder_30 rfl rfl (by decide) (by decide) rfl ?_
                    refine ez_goto 4 dX11_isUnder_33 (by decide) ?_
                    refine ez_iload_n 5 dX11_isUnder_4 rfl rfl ?_
                    refine ez_bipush 7 dX11_isUnder_5 rfl (nI 6) (by decide) ?_
                    refine ez_ncmp_ge 10 36 dX11_isUnder_7 rfl (by decide) (by omega) (by omega) (fun h7''' => ?_) (fun h7''' => ?_)
                    · exact absurd h7''' (by decide)
                    · refine ez_iload_n 11 dX11_isUnder_10 rfl rfl ?_
                      refine ez_iconst 12 dX11_isUnder_11 rfl (-1) (by decide) ?_
                      refine ez_icmp_eq 15 36 dX11_isUnder_12 rfl (by decide) (fun h12''' => ?_) (fun h12''' => ?_)
                      · refine ez_iconst 37 dX11_isUnder_36 rfl (nI 0) (by decide) ?_
                        refine ez_iret .boolean dX11_isUnder_37 rfl (by decide) ?_
                        exact ⟨by unfold er_un; rw [if_neg (by omega)], rfl⟩
                      · exact absurd rfl h12'''
                  · refine ez_iconst 21 dX11_isUnder_20 rfl (nI 1) (by decide) ?_
                    refine ez_iret .boolean dX11_isUnder_21 rfl (by decide) ?_
                    exact ⟨by unfold er_un; rw [if_pos (by omega)], rfl⟩
            · refine ez_iconst 21 dX11_isUnder_20 rfl (nI 1) (by decide) ?_
              refine ez_iret .boolean dX11_isUnder_21 rfl (by decide) ?_
              exact ⟨by unfold er_un; rw [if_pos (by omega)], rfl⟩
      · refine ez_iconst 21 dX11_isUnder_20 rfl (nI 1) (by decide) ?_
        refine ez_iret .boolean dX11_isUnder_21 rfl (by decide) ?_
        exact ⟨by unfold er_un; rw [if_pos (by omega)], rfl⟩
set_option maxRecDepth 20000 in
theorem c_under_5 (G : EzG) (d : Nat) (b : Nat) (M : EzM) (hd : 1 ≤ d) (hb : b < 6) : Ezc G mX11_isUnder d [eI (nI 5), eI (nI b)] M (fun r M' => r = some (eI (nI (er_un 5 b))) ∧ M' = M) := by
  refine Ezc.of (by decide +kernel) (Nat.le_of_ble_eq_true rfl) ?_
  show Ez G mX11_isUnder d 0 [(0, eI (nI 5)), (1, eI (nI b))] [] M _
  refine ez_iload_n 1 dX11_isUnder_0 rfl rfl ?_
  refine ez_istore_n 2 [(2, eI (nI 5)), (0, eI (nI 5)), (1, eI (nI b))] dX11_isUnder_1 rfl (by decide) rfl ?_
  refine ez_iconst 3 dX11_isUnder_2 rfl (nI 0) (by decide) ?_
  refine ez_istore_n 4 [(3, eI (nI 0)), (2, eI (nI 5)), (0, eI (nI 5)), (1, eI (nI b))] dX11_isUnder_3 rfl (by decide) rfl ?_
  refine ez_iload_n 5 dX11_isUnder_4 rfl rfl ?_
  refine ez_bipush 7 dX11_isUnder_5 rfl (nI 6) (by decide) ?_
  refine ez_ncmp_ge 10 36 dX11_isUnder_7 rfl (by decide) (by omega) (by omega) (fun h7 => ?_) (fun h7 => ?_)
  · exact absurd h7 (by decide)
  · refine ez_iload_n 11 dX11_isUnder_10 rfl rfl ?_
    refine ez_iconst 12 dX11_isUnder_11 rfl (-1) (by decide) ?_
    refine ez_icmp_eq 15 36 dX11_isUnder_12 rfl (by decide) (fun h12 => ?_) (fun h12 => ?_)
    · exact absurd h12 (by decide)
    · refine ez_iload_n 16 dX11_isUnder_15 rfl rfl ?_
      refine ez_iload_n 17 dX11_isUnder_16 rfl rfl ?_
      refine ez_ncmp_ne 20 22 dX11_isUnder_17 rfl (by decide) (by omega) (by omega) (fun h17 => ?_) (fun h17 => ?_)
      · refine ez_gets 25 (eR 102 0) "ElevenPebbles" "KIND_ABOVE" "[I" dX11_isUnder_22 rfl fx_X11_333 ez_kref ?_
        refine ez_iload_n 26 dX11_isUnder_25 rfl rfl ?_
        refine ez_callS 29 [eR 102 0, eI (nI 5)] [] dX11_isUnder_26 rfl rfl ok_X11_itemAt st_X11_itemAt ln_X11_159 (by omega) (Nat.le_of_ble_eq_true rfl) (c_itemAtK G (d - 1) 5 M (by omega)) (fun r26 M26 q26 => ?_)
        obtain ⟨rfl, e26⟩ := q26
        rw [e26]
        show Ez G mX11_isUnder d 29 [(3, eI (nI 0)), (2, eI (nI 5)), (0, eI (nI 5)), (1, eI (nI b))] [eI (nI 2)] M _
        refine ez_istore_n 30 [(2, eI (nI 2)), (3, eI (nI 0)), (0, eI (nI 5)), (1, eI (nI b))] dX11_isUnder_29 rfl (by decide) rfl ?_
        refine ez_iinc 33 (nI 1) [(3, eI (nI 1)), (2, eI (nI 2)), (0, eI (nI 5)), (1, eI (nI b))] dX11_isUnder_30 rfl rfl (by decide) (by decide) rfl ?_
        refine ez_goto 4 dX11_isUnder_33 (by decide) ?_
        refine ez_iload_n 5 dX11_isUnder_4 rfl rfl ?_
        refine ez_bipush 7 dX11_isUnder_5 rfl (nI 6) (by decide) ?_
        refine ez_ncmp_ge 10 36 dX11_isUnder_7 rfl (by decide) (by omega) (by omega) (fun h7' => ?_) (fun h7' => ?_)
        · exact absurd h7' (by decide)
        · refine ez_iload_n 11 dX11_isUnder_10 rfl rfl ?_
          refine ez_iconst 12 dX11_isUnder_11 rfl (-1) (by decide) ?_
          refine ez_icmp_eq 15 36 dX11_isUnder_12 rfl (by decide) (fun h12' => ?_) (fun h12' => ?_)
          · exact absurd h12' (by decide)
          · refine ez_iload_n 16 dX11_isUnder_15 rfl rfl ?_
            refine ez_iload_n 17 dX11_isUnder_16 rfl rfl ?_
            refine ez_ncmp_ne 20 22 dX11_isUnder_17 rfl (by decide) (by omega) (by omega) (fun h17' => ?_) (fun h17' => ?_)
            · refine ez_gets 25 (eR 102 0) "ElevenPebbles" "KIND_ABOVE" "[I" dX11_isUnder_22 rfl fx_X11_333 ez_kref ?_
              refine ez_iload_n 26 dX11_isUnder_25 rfl rfl ?_
              refine ez_callS 29 [eR 102 0, eI (nI 2)] [] dX11_isUnder_26 rfl rfl ok_X11_itemAt st_X11_itemAt ln_X11_159 (by omega) (Nat.le_of_ble_eq_true rfl) (c_itemAtK G (d - 1) 2 M (by omega)) (fun r26 M26 q26 => ?_)
              obtain ⟨rfl, e26⟩ := q26
              rw [e26]
              show Ez G mX11_isUnder d 29 [(3, eI (nI 1)), (2, eI (nI 2)), (0, eI (nI 5)), (1, eI (nI b))] [eI (nI 0)] M _
              refine ez_istore_n 30 [(2, eI (nI 0)), (3, eI (nI 1)), (0, eI (nI 5)), (1, eI (nI b))] dX11_isUnder_29 rfl (by decide) rfl ?_
              refine ez_iinc 33 (nI 2) [(3, eI (nI 2)), (2, eI (nI 0)), (0, eI (nI 5)), (1, eI (nI b))] dX11_isUnder_30 rfl rfl (by decide) (by decide) rfl ?_
              refine ez_goto 4 dX11_isUnder_33 (by decide) ?_
              refine ez_iload_n 5 dX11_isUnder_4 rfl rfl ?_
              refine ez_bipush 7 dX11_isUnder_5 rfl (nI 6) (by decide) ?_
              refine ez_ncmp_ge 10 36 dX11_isUnder_7 rfl (by decide) (by omega) (by omega) (fun h7'' => ?_) (fun h7'' => ?_)
              · exact absurd h7'' (by decide)
              · refine ez_iload_n 11 dX11_isUnder_10 rfl rfl ?_
                refine ez_iconst 12 dX11_isUnder_11 rfl (-1) (by decide) ?_
                refine ez_icmp_eq 15 36 dX11_isUnder_12 rfl (by decide) (fun h12'' => ?_) (fun h12'' => ?_)
                · exact absurd h12'' (by decide)
                · refine ez_iload_n 16 dX11_isUnder_15 rfl rfl ?_
                  refine ez_iload_n 17 dX11_isUnder_16 rfl rfl ?_
                  refine ez_ncmp_ne 20 22 dX11_isUnder_17 rfl (by decide) (by omega) (by omega) (fun h17'' => ?_) (fun h17'' => ?_)
                  · refine ez_gets 25 (eR 102 0) "ElevenPebbles" "KIND_ABOVE" "[I" dX11_isUnder_22 rfl fx_X11_333 ez_kref ?_
                    refine ez_iload_n 26 dX11_isUnder_25 rfl rfl ?_
                    refine ez_callS 29 [eR 102 0, eI (nI 0)] [] dX11_isUnder_26 rfl rfl ok_X11_itemAt st_X11_itemAt ln_X11_159 (by omega) (Nat.le_of_ble_eq_true rfl) (c_itemAtK G (d - 1) 0 M (by omega)) (fun r26 M26 q26 => ?_)
                    obtain ⟨rfl, e26⟩ := q26
                    rw [e26]
                    show Ez G mX11_isUnder d 29 [(3, eI (nI 2)), (2, eI (nI 0)), (0, eI (nI 5)), (1, eI (nI b))] [eI (-1)] M _
                    refine ez_istore_n 30 [(2, eI (-1)), (3, eI (nI 2)), (0, eI (nI 5)), (1, eI (nI b))] dX11_isUnder_29 rfl (by decide) rfl ?_
                    refine ez_iinc 33 (nI 3) [(3, eI (nI 3)), (2, eI (-1)), (0, eI (nI 5)), (1, eI (nI b))] dX11_isUnder_30 rfl rfl (by decide) (by decide) rfl ?_
                    refine ez_goto 4 dX11_isUnder_33 (by decide) ?_
                    refine ez_iload_n 5 dX11_isUnder_4 rfl rfl ?_
                    refine ez_bipush 7 dX11_isUnder_5 rfl (nI 6) (by decide) ?_
                    refine ez_ncmp_ge 10 36 dX11_isUnder_7 rfl (by decide) (by omega) (by omega) (fun h7''' => ?_) (fun h7''' => ?_)
                    · exact absurd h7''' (by decide)
                    · refine ez_iload_n 11 dX11_isUnder_10 rfl rfl ?_
                      refine ez_iconst 12 dX11_isUnder_11 rfl (-1) (by decide) ?_
                      refine ez_icmp_eq 15 36 dX11_isUnder_12 rfl (by decide) (fun h12''' => ?_) (fun h12''' => ?_)
                      · refine ez_iconst 37 dX11_isUnder_36 rfl (nI 0) (by decide) ?_
                        refine ez_iret .boolean dX11_isUnder_37 rfl (by decide) ?_
                        exact ⟨by unfold er_un; rw [if_neg (by omega)], rfl⟩
                      · exact absurd rfl h12'''
                  · refine ez_iconst 21 dX11_isUnder_20 rfl (nI 1) (by decide) ?_
                    refine ez_iret .boolean dX11_isUnder_21 rfl (by decide) ?_
                    exact ⟨by unfold er_un; rw [if_pos (by omega)], rfl⟩
            · refine ez_iconst 21 dX11_isUnder_20 rfl (nI 1) (by decide) ?_
              refine ez_iret .boolean dX11_isUnder_21 rfl (by decide) ?_
              exact ⟨by unfold er_un; rw [if_pos (by omega)], rfl⟩
      · refine ez_iconst 21 dX11_isUnder_20 rfl (nI 1) (by decide) ?_
        refine ez_iret .boolean dX11_isUnder_21 rfl (by decide) ?_
        exact ⟨by unfold er_un; rw [if_pos (by omega)], rfl⟩
theorem c_isUnder (G : EzG) (d : Nat) (a b : Nat) (M : EzM) (hd : 1 ≤ d) (ha : a < 6) (hb : b < 6) : Ezc G mX11_isUnder d [eI (nI a), eI (nI b)] M (fun r M' => r = some (eI (nI (er_un a b))) ∧ M' = M) := by
  rcases (show a = 0 ∨ a = 1 ∨ a = 2 ∨ a = 3 ∨ a = 4 ∨ a = 5 by omega) with rfl | rfl | rfl | rfl | rfl | rfl
  · exact c_under_0 G d b M hd hb
  · exact c_under_1 G d b M hd hb
  · exact c_under_2 G d b M hd hb
  · exact c_under_3 G d b M hd hb
  · exact c_under_4 G d b M hd hb
  · exact c_under_5 G d b M hd hb
theorem er_un2 (a b : Nat) : er_un a b < 2 := by unfold er_un; split <;> omega
set_option maxRecDepth 20000 in
theorem c_X11_taken (G : EzG) (d : Nat) {q : EpS} (x y : Int32) (M : EzM) (hd : 3 ≤ d) (hW : WF q) (hC : RC q M) : Ezc G mX11_taken d [eR 11 0, eI x, eI y] M (fun r M' => r = some (eI (S_taken q x y)) ∧ RC q M' ∧ FX CC M M') := by
  refine Ezc.of (by decide +kernel) (Nat.le_of_ble_eq_true rfl) ?_
  have q8 := hW.2.1.1
  have q4 := hW.1.1
  have qx := hW.2.2.2.2.1
  show Ez G mX11_taken d 0 [(0, eR 11 0), (1, eI x), (2, eI y)] [] M _
  refine ez_iload_n 1 dX11_taken_0 rfl rfl ?_
  refine ez_bipush 3 dX11_taken_1 rfl (nI 6) (by decide) ?_
  refine ez_callS 6 [eI y, eI (nI 6)] [] dX11_taken_3 rfl rfl ok_X11_isInside st_X11_isInside ln_X11_134 (by omega) (Nat.le_of_ble_eq_true rfl) (c_isInside_c G (d - 1) y 6 M (by omega)) (fun r3 M3 q3 => ?_)
  obtain ⟨e3, ⟨rfl, i3⟩ | ⟨j3, b3, rfl, rfl⟩⟩ := q3
  · rw [e3]
    show Ez G mX11_taken d 6 [(0, eR 11 0), (1, eI x), (2, eI y)] [eI (nI 0)] M _
    refine ez_nif_ne 9 12 dX11_taken_6 rfl (by decide) (by omega) (fun h6 => ?_) (fun h6 => ?_)
    · exact absurd h6 (by decide)
    · refine ez_bipush 11 dX11_taken_9 rfl (-2) (by decide) ?_
      refine ez_iret .int dX11_taken_11 rfl rfl ?_
      exact ⟨by simp [S_taken, i3], hC, FX.rf⟩
  · rw [e3]
    have i3 : ep_ix (nI j3) 6 = some j3 := ep_ix_nI b3 (by omega)
    show Ez G mX11_taken d 6 [(0, eR 11 0), (1, eI x), (2, eI (nI j3))] [eI (nI 1)] M _
    refine ez_nif_ne 9 12 dX11_taken_6 rfl (by decide) (by omega) (fun h6 => ?_) (fun h6 => ?_)
    · refine ez_aload_n 13 dX11_taken_12 rfl rfl ?_
      refine ez_iload_n 14 dX11_taken_13 rfl rfl ?_
      refine ez_callV 17 [eI x] [] dX11_taken_14 rfl rfl ok_X11_walkerAt in_X11_walkerAt (by decide) (by show 0 < 1; omega) ln_X11_185 (by omega) (Nat.le_of_ble_eq_true rfl) (c_X11_walkerAt G (d - 1) x q.2.1.1 M (by omega) hC.2.1.1 (by omega)) (fun r14 M14 q14 => ?_)
      obtain ⟨e14, ⟨rfl, i14⟩ | ⟨j14, b14, rfl, rfl⟩⟩ := q14
      · rw [e14]
        show Ez G mX11_taken d 17 [(0, eR 11 0), (1, eI x), (2, eI (nI j3))] [eN] M _
        refine ez_astore_n 18 [(3, eN), (0, eR 11 0), (1, eI x), (2, eI (nI j3))] dX11_taken_17 rfl (by decide) rfl ?_
        refine ez_aload_n 19 dX11_taken_18 rfl rfl ?_
        refine ez_ifnonnull_n 22 dX11_taken_19 rfl ?_
        refine ez_bipush 24 dX11_taken_22 rfl (-11) (by decide) ?_
        refine ez_iret .int dX11_taken_24 rfl rfl ?_
        exact ⟨by simp [S_taken, i3, i14], hC, FX.rf⟩
      · rw [e14]
        have i14 : ep_ix (nI j14) q.2.1.1 = some j14 := ep_ix_nI b14 (by omega)
        obtain ⟨k0, k1, k2, k3, k4, k5⟩ := hW.2.1.2 j14 b14
        have gz := g_WFz hW.1 k1
        have gS := g_WFS hW b14
        have gZ := g_RCz hC.1 k1
        have gR := g_RCW hC.1 hC.2.1 b14 k1
        have n10 := gz.2.1
        have gX := hC.2.2.2.2.1
        show Ez G mX11_taken d 17 [(0, eR 11 0), (1, eI (nI j14)), (2, eI (nI j3))] [eR 10 j14] M _
        refine ez_astore_n 18 [(3, eR 10 j14), (0, eR 11 0), (1, eI (nI j14)), (2, eI (nI j3))] dX11_taken_17 rfl (by decide) rfl ?_
        refine ez_aload_n 19 dX11_taken_18 rfl rfl ?_
        refine ez_ifnonnull_r 25 dX11_taken_19 (by decide) ?_
        refine ez_aload_n 26 dX11_taken_25 rfl rfl ?_
        refine ez_getf 29 (eI (M.1 10 j14 0)) dX11_taken_26 rfl fl_X11_170 (by show j14 < 18; omega) rfl ?_
        refine ez_top (nI (q.2.1.2.1 j14 0)) gR.1 ?_
        refine ez_iload_n 30 dX11_taken_29 rfl rfl ?_
        refine ez_callS 33 [eI (nI (q.2.1.2.1 j14 0)), eI (nI j3)] [] dX11_taken_30 rfl rfl ok_X11_isUnder st_X11_isUnder ln_X11_330 (by omega) (Nat.le_of_ble_eq_true rfl) (c_isUnder G (d - 1) (q.2.1.2.1 j14 0) j3 M (by omega) k0 b3) (fun r30 M30 q30 => ?_)
        obtain ⟨rfl, e30⟩ := q30
        rw [e30]
        show Ez G mX11_taken d 33 [(3, eR 10 j14), (0, eR 11 0), (1, eI (nI j14)), (2, eI (nI j3))] [eI (nI (er_un (q.2.1.2.1 j14 0) j3))] M _
        have u9 := er_un2 (q.2.1.2.1 j14 0) j3
        refine ez_nif_eq 36 43 dX11_taken_33 rfl (by decide) (by omega) (fun h33 => ?_) (fun h33 => ?_)
        · refine ez_bipush 45 dX11_taken_43 rfl (-13) (by decide) ?_
          refine ez_iret .int dX11_taken_45 rfl rfl ?_
          exact ⟨by simp only [S_taken, i3, i14]; rw [if_neg (by omega)], hC, FX.rf⟩
        · refine ez_aload_n 37 dX11_taken_36 rfl rfl ?_
          refine ez_getf 40 (eI (M.1 10 j14 4)) dX11_taken_37 rfl fl_X11_179 (by show j14 < 18; omega) rfl ?_
          refine ez_top (nI (q.2.1.2.1 j14 4)) gR.2.2.2.2.1 ?_
          refine ez_goto 45 dX11_taken_40 (by decide) ?_
          refine ez_iret .int dX11_taken_45 rfl rfl ?_
          exact ⟨by simp only [S_taken, i3, i14]; rw [if_pos (by omega)], hC, FX.rf⟩
    · exact absurd h6 (by decide)
set_option maxRecDepth 20000 in
theorem c_over_0 (g : EzH) (d : Nat)  (M : EzM)  : Ezc (true, g) mX12_over d [eI (nI 0)] M (fun r M' => r = some (eI (ez_ka 0)) ∧ M' = M) := by
  refine Ezc.of (by decide +kernel) (Nat.le_of_ble_eq_true rfl) ?_
  show Ez (true, g) mX12_over d 0 [(0, eI (nI 0))] [] M _
  refine ez_iload_n 1 dX12_over_0 rfl rfl ?_
  refine ez_nif_ne 4 8 dX12_over_1 rfl (by decide) (by omega) (fun h1 => ?_) (fun h1 => ?_)
  · exact absurd h1 (by decide)
  · refine ez_iconst 5 dX12_over_4 rfl (-1) (by decide) ?_
    refine ez_goto 32 dX12_over_5 (by decide) ?_
    refine ez_iret .int dX12_over_32 rfl rfl ?_
    exact ⟨by rfl, rfl⟩
set_option maxRecDepth 20000 in
theorem c_over_1 (g : EzH) (d : Nat)  (M : EzM)  : Ezc (true, g) mX12_over d [eI (nI 1)] M (fun r M' => r = some (eI (ez_ka 1)) ∧ M' = M) := by
  refine Ezc.of (by decide +kernel) (Nat.le_of_ble_eq_true rfl) ?_
  show Ez (true, g) mX12_over d 0 [(0, eI (nI 1))] [] M _
  refine ez_iload_n 1 dX12_over_0 rfl rfl ?_
  refine ez_nif_ne 4 8 dX12_over_1 rfl (by decide) (by omega) (fun h1 => ?_) (fun h1 => ?_)
  · refine ez_iload_n 9 dX12_over_8 rfl rfl ?_
    refine ez_iconst 10 dX12_over_9 rfl (nI 3) (by decide) ?_
    refine ez_ncmp_ne 13 17 dX12_over_10 rfl (by decide) (by omega) (by omega) (fun h10 => ?_) (fun h10 => ?_)
    · refine ez_iload_n 18 dX12_over_17 rfl rfl ?_
      refine ez_iconst 19 dX12_over_18 rfl (nI 4) (by decide) ?_
      refine ez_ncmp_eq 22 27 dX12_over_19 rfl (by decide) (by omega) (by omega) (fun h19 => ?_) (fun h19 => ?_)
      · exact absurd h19 (by decide)
      · refine ez_iload_n 23 dX12_over_22 rfl rfl ?_
        refine ez_iconst 24 dX12_over_23 rfl (nI 5) (by decide) ?_
        refine ez_ncmp_ne 27 31 dX12_over_24 rfl (by decide) (by omega) (by omega) (fun h24 => ?_) (fun h24 => ?_)
        · refine ez_iconst 32 dX12_over_31 rfl (nI 0) (by decide) ?_
          refine ez_iret .int dX12_over_32 rfl rfl ?_
          exact ⟨by rfl, rfl⟩
        · exact absurd h24 (by decide)
    · exact absurd h10 (by decide)
  · exact absurd h1 (by decide)
set_option maxRecDepth 20000 in
theorem c_over_2 (g : EzH) (d : Nat)  (M : EzM)  : Ezc (true, g) mX12_over d [eI (nI 2)] M (fun r M' => r = some (eI (ez_ka 2)) ∧ M' = M) := by
  refine Ezc.of (by decide +kernel) (Nat.le_of_ble_eq_true rfl) ?_
  show Ez (true, g) mX12_over d 0 [(0, eI (nI 2))] [] M _
  refine ez_iload_n 1 dX12_over_0 rfl rfl ?_
  refine ez_nif_ne 4 8 dX12_over_1 rfl (by decide) (by omega) (fun h1 => ?_) (fun h1 => ?_)
  · refine ez_iload_n 9 dX12_over_8 rfl rfl ?_
    refine ez_iconst 10 dX12_over_9 rfl (nI 3) (by decide) ?_
    refine ez_ncmp_ne 13 17 dX12_over_10 rfl (by decide) (by omega) (by omega) (fun h10 => ?_) (fun h10 => ?_)
    · refine ez_iload_n 18 dX12_over_17 rfl rfl ?_
      refine ez_iconst 19 dX12_over_18 rfl (nI 4) (by decide) ?_
      refine ez_ncmp_eq 22 27 dX12_over_19 rfl (by decide) (by omega) (by omega) (fun h19 => ?_) (fun h19 => ?_)
      · exact absurd h19 (by decide)
      · refine ez_iload_n 23 dX12_over_22 rfl rfl ?_
        refine ez_iconst 24 dX12_over_23 rfl (nI 5) (by decide) ?_
        refine ez_ncmp_ne 27 31 dX12_over_24 rfl (by decide) (by omega) (by omega) (fun h24 => ?_) (fun h24 => ?_)
        · refine ez_iconst 32 dX12_over_31 rfl (nI 0) (by decide) ?_
          refine ez_iret .int dX12_over_32 rfl rfl ?_
          exact ⟨by rfl, rfl⟩
        · exact absurd h24 (by decide)
    · exact absurd h10 (by decide)
  · exact absurd h1 (by decide)
set_option maxRecDepth 20000 in
theorem c_over_3 (g : EzH) (d : Nat)  (M : EzM)  : Ezc (true, g) mX12_over d [eI (nI 3)] M (fun r M' => r = some (eI (ez_ka 3)) ∧ M' = M) := by
  refine Ezc.of (by decide +kernel) (Nat.le_of_ble_eq_true rfl) ?_
  show Ez (true, g) mX12_over d 0 [(0, eI (nI 3))] [] M _
  refine ez_iload_n 1 dX12_over_0 rfl rfl ?_
  refine ez_nif_ne 4 8 dX12_over_1 rfl (by decide) (by omega) (fun h1 => ?_) (fun h1 => ?_)
  · refine ez_iload_n 9 dX12_over_8 rfl rfl ?_
    refine ez_iconst 10 dX12_over_9 rfl (nI 3) (by decide) ?_
    refine ez_ncmp_ne 13 17 dX12_over_10 rfl (by decide) (by omega) (by omega) (fun h10 => ?_) (fun h10 => ?_)
    · exact absurd h10 (by decide)
    · refine ez_iconst 14 dX12_over_13 rfl (nI 1) (by decide) ?_
      refine ez_goto 32 dX12_over_14 (by decide) ?_
      refine ez_iret .int dX12_over_32 rfl rfl ?_
      exact ⟨by rfl, rfl⟩
  · exact absurd h1 (by decide)
set_option maxRecDepth 20000 in
theorem c_over_4 (g : EzH) (d : Nat)  (M : EzM)  : Ezc (true, g) mX12_over d [eI (nI 4)] M (fun r M' => r = some (eI (ez_ka 4)) ∧ M' = M) := by
  refine Ezc.of (by decide +kernel) (Nat.le_of_ble_eq_true rfl) ?_
  show Ez (true, g) mX12_over d 0 [(0, eI (nI 4))] [] M _
  refine ez_iload_n 1 dX12_over_0 rfl rfl ?_
  refine ez_nif_ne 4 8 dX12_over_1 rfl (by decide) (by omega) (fun h1 => ?_) (fun h1 => ?_)
  · refine ez_iload_n 9 dX12_over_8 rfl rfl ?_
    refine ez_iconst 10 dX12_over_9 rfl (nI 3) (by decide) ?_
    refine ez_ncmp_ne 13 17 dX12_over_10 rfl (by decide) (by omega) (by omega) (fun h10 => ?_) (fun h10 => ?_)
    · refine ez_iload_n 18 dX12_over_17 rfl rfl ?_
      refine ez_iconst 19 dX12_over_18 rfl (nI 4) (by decide) ?_
      refine ez_ncmp_eq 22 27 dX12_over_19 rfl (by decide) (by omega) (by omega) (fun h19 => ?_) (fun h19 => ?_)
      · refine ez_iconst 28 dX12_over_27 rfl (nI 2) (by decide) ?_
        refine ez_goto 32 dX12_over_28 (by decide) ?_
        refine ez_iret .int dX12_over_32 rfl rfl ?_
        exact ⟨by rfl, rfl⟩
      · exact absurd h19 (by decide)
    · exact absurd h10 (by decide)
  · exact absurd h1 (by decide)
set_option maxRecDepth 20000 in
theorem c_over_5 (g : EzH) (d : Nat)  (M : EzM)  : Ezc (true, g) mX12_over d [eI (nI 5)] M (fun r M' => r = some (eI (ez_ka 5)) ∧ M' = M) := by
  refine Ezc.of (by decide +kernel) (Nat.le_of_ble_eq_true rfl) ?_
  show Ez (true, g) mX12_over d 0 [(0, eI (nI 5))] [] M _
  refine ez_iload_n 1 dX12_over_0 rfl rfl ?_
  refine ez_nif_ne 4 8 dX12_over_1 rfl (by decide) (by omega) (fun h1 => ?_) (fun h1 => ?_)
  · refine ez_iload_n 9 dX12_over_8 rfl rfl ?_
    refine ez_iconst 10 dX12_over_9 rfl (nI 3) (by decide) ?_
    refine ez_ncmp_ne 13 17 dX12_over_10 rfl (by decide) (by omega) (by omega) (fun h10 => ?_) (fun h10 => ?_)
    · refine ez_iload_n 18 dX12_over_17 rfl rfl ?_
      refine ez_iconst 19 dX12_over_18 rfl (nI 4) (by decide) ?_
      refine ez_ncmp_eq 22 27 dX12_over_19 rfl (by decide) (by omega) (by omega) (fun h19 => ?_) (fun h19 => ?_)
      · exact absurd h19 (by decide)
      · refine ez_iload_n 23 dX12_over_22 rfl rfl ?_
        refine ez_iconst 24 dX12_over_23 rfl (nI 5) (by decide) ?_
        refine ez_ncmp_ne 27 31 dX12_over_24 rfl (by decide) (by omega) (by omega) (fun h24 => ?_) (fun h24 => ?_)
        · exact absurd h24 (by decide)
        · refine ez_iconst 28 dX12_over_27 rfl (nI 2) (by decide) ?_
          refine ez_goto 32 dX12_over_28 (by decide) ?_
          refine ez_iret .int dX12_over_32 rfl rfl ?_
          exact ⟨by rfl, rfl⟩
    · exact absurd h10 (by decide)
  · exact absurd h1 (by decide)
set_option maxRecDepth 20000 in
theorem taken_0 (g : EzH) (d : Nat) (w b nu : Nat) (M : EzM) (hd : 1 ≤ d) (hw : w < 8) (hb : b < 6) (hn : M.1 52 0 w = nI nu) : Ez (true, g) mX12_taken d 33 [(3, eI (nI 0)), (0, eR 12 0), (1, eI (nI w)), (2, eI (nI b))] [] M (fun r M' => r = some (eI (if er_un 0 b = 1 then nI nu else -13)) ∧ M' = M) := by
  refine ez_iload_n 34 dX12_taken_33 rfl rfl ?_
  refine ez_iconst 35 dX12_taken_34 rfl (-1) (by decide) ?_
  refine ez_icmp_eq 38 51 dX12_taken_35 rfl (by decide) (fun h35 => ?_) (fun h35 => ?_)
  · exact absurd h35 (by decide)
  · refine ez_iload_n 39 dX12_taken_38 rfl rfl ?_
    refine ez_iload_n 40 dX12_taken_39 rfl rfl ?_
    refine ez_ncmp_eq 43 51 dX12_taken_40 rfl (by decide) (by omega) (by omega) (fun h40 => ?_) (fun h40 => ?_)
    · refine ez_iload_n 52 dX12_taken_51 rfl rfl ?_
      refine ez_iload_n 53 dX12_taken_52 rfl rfl ?_
      refine ez_ncmp_ne 56 65 dX12_taken_53 rfl (by decide) (by omega) (by omega) (fun h53 => ?_) (fun h53 => ?_)
      · omega
      · refine ez_aload_n 57 dX12_taken_56 rfl rfl ?_
        refine ez_getf 60 (eR 52 0) dX12_taken_57 rfl fl_X12_44 (by show 0 < 1; omega) rfl ?_
        refine ez_iload_n 61 dX12_taken_60 rfl rfl ?_
        refine ez_ialdN w 62 dX12_taken_61 rfl (by decide) (by show 0 < 1; omega) (by show w < 8; omega) ?_
        refine ez_top (nI nu) hn ?_
        refine ez_goto 67 dX12_taken_62 (by decide) ?_
        refine ez_iret .int dX12_taken_67 rfl rfl ?_
        exact ⟨by rw [if_pos (show er_un 0 b = 1 by unfold er_un; rw [if_pos (by omega)])], rfl⟩
    · refine ez_iload_n 44 dX12_taken_43 rfl rfl ?_
      refine ez_callS 47 [eI (nI 0)] [] dX12_taken_44 rfl rfl ok_X12_over st_X12_over ln_X12_402 (by omega) (Nat.le_of_ble_eq_true rfl) (c_over_0 g (d - 1) M) (fun r44 M44 q44 => ?_)
      obtain ⟨rfl, e44⟩ := q44
      rw [e44]
      show Ez (true, g) mX12_taken d 47 [(3, eI (nI 0)), (0, eR 12 0), (1, eI (nI w)), (2, eI (nI b))] [eI (-1)] M _
      refine ez_istore_n 48 [(3, eI (-1)), (0, eR 12 0), (1, eI (nI w)), (2, eI (nI b))] dX12_taken_47 rfl (by decide) rfl ?_
      refine ez_goto 33 dX12_taken_48 (by decide) ?_
      refine ez_iload_n 34 dX12_taken_33 rfl rfl ?_
      refine ez_iconst 35 dX12_taken_34 rfl (-1) (by decide) ?_
      refine ez_icmp_eq 38 51 dX12_taken_35 rfl (by decide) (fun h35' => ?_) (fun h35' => ?_)
      · refine ez_iload_n 52 dX12_taken_51 rfl rfl ?_
        refine ez_iload_n 53 dX12_taken_52 rfl rfl ?_
        refine ez_icmp_ne 56 65 dX12_taken_53 rfl (by decide) (fun h53 => ?_) (fun h53 => ?_)
        · refine ez_bipush 67 dX12_taken_65 rfl (-13) (by decide) ?_
          refine ez_iret .int dX12_taken_67 rfl rfl ?_
          exact ⟨by rw [if_neg (show ¬ er_un 0 b = 1 by unfold er_un; rw [if_neg (by omega)]; decide)], rfl⟩
        · exact absurd h53.symm (ep_m1 (by omega))
      · exact absurd rfl h35'
set_option maxRecDepth 20000 in
theorem taken_1 (g : EzH) (d : Nat) (w b nu : Nat) (M : EzM) (hd : 1 ≤ d) (hw : w < 8) (hb : b < 6) (hn : M.1 52 0 w = nI nu) : Ez (true, g) mX12_taken d 33 [(3, eI (nI 1)), (0, eR 12 0), (1, eI (nI w)), (2, eI (nI b))] [] M (fun r M' => r = some (eI (if er_un 1 b = 1 then nI nu else -13)) ∧ M' = M) := by
  refine ez_iload_n 34 dX12_taken_33 rfl rfl ?_
  refine ez_iconst 35 dX12_taken_34 rfl (-1) (by decide) ?_
  refine ez_icmp_eq 38 51 dX12_taken_35 rfl (by decide) (fun h35 => ?_) (fun h35 => ?_)
  · exact absurd h35 (by decide)
  · refine ez_iload_n 39 dX12_taken_38 rfl rfl ?_
    refine ez_iload_n 40 dX12_taken_39 rfl rfl ?_
    refine ez_ncmp_eq 43 51 dX12_taken_40 rfl (by decide) (by omega) (by omega) (fun h40 => ?_) (fun h40 => ?_)
    · refine ez_iload_n 52 dX12_taken_51 rfl rfl ?_
      refine ez_iload_n 53 dX12_taken_52 rfl rfl ?_
      refine ez_ncmp_ne 56 65 dX12_taken_53 rfl (by decide) (by omega) (by omega) (fun h53 => ?_) (fun h53 => ?_)
      · omega
      · refine ez_aload_n 57 dX12_taken_56 rfl rfl ?_
        refine ez_getf 60 (eR 52 0) dX12_taken_57 rfl fl_X12_44 (by show 0 < 1; omega) rfl ?_
        refine ez_iload_n 61 dX12_taken_60 rfl rfl ?_
        refine ez_ialdN w 62 dX12_taken_61 rfl (by decide) (by show 0 < 1; omega) (by show w < 8; omega) ?_
        refine ez_top (nI nu) hn ?_
        refine ez_goto 67 dX12_taken_62 (by decide) ?_
        refine ez_iret .int dX12_taken_67 rfl rfl ?_
        exact ⟨by rw [if_pos (show er_un 1 b = 1 by unfold er_un; rw [if_pos (by omega)])], rfl⟩
    · refine ez_iload_n 44 dX12_taken_43 rfl rfl ?_
      refine ez_callS 47 [eI (nI 1)] [] dX12_taken_44 rfl rfl ok_X12_over st_X12_over ln_X12_402 (by omega) (Nat.le_of_ble_eq_true rfl) (c_over_1 g (d - 1) M) (fun r44 M44 q44 => ?_)
      obtain ⟨rfl, e44⟩ := q44
      rw [e44]
      show Ez (true, g) mX12_taken d 47 [(3, eI (nI 1)), (0, eR 12 0), (1, eI (nI w)), (2, eI (nI b))] [eI (nI 0)] M _
      refine ez_istore_n 48 [(3, eI (nI 0)), (0, eR 12 0), (1, eI (nI w)), (2, eI (nI b))] dX12_taken_47 rfl (by decide) rfl ?_
      refine ez_goto 33 dX12_taken_48 (by decide) ?_
      refine ez_iload_n 34 dX12_taken_33 rfl rfl ?_
      refine ez_iconst 35 dX12_taken_34 rfl (-1) (by decide) ?_
      refine ez_icmp_eq 38 51 dX12_taken_35 rfl (by decide) (fun h35' => ?_) (fun h35' => ?_)
      · exact absurd h35' (by decide)
      · refine ez_iload_n 39 dX12_taken_38 rfl rfl ?_
        refine ez_iload_n 40 dX12_taken_39 rfl rfl ?_
        refine ez_ncmp_eq 43 51 dX12_taken_40 rfl (by decide) (by omega) (by omega) (fun h40' => ?_) (fun h40' => ?_)
        · refine ez_iload_n 52 dX12_taken_51 rfl rfl ?_
          refine ez_iload_n 53 dX12_taken_52 rfl rfl ?_
          refine ez_ncmp_ne 56 65 dX12_taken_53 rfl (by decide) (by omega) (by omega) (fun h53 => ?_) (fun h53 => ?_)
          · omega
          · refine ez_aload_n 57 dX12_taken_56 rfl rfl ?_
            refine ez_getf 60 (eR 52 0) dX12_taken_57 rfl fl_X12_44 (by show 0 < 1; omega) rfl ?_
            refine ez_iload_n 61 dX12_taken_60 rfl rfl ?_
            refine ez_ialdN w 62 dX12_taken_61 rfl (by decide) (by show 0 < 1; omega) (by show w < 8; omega) ?_
            refine ez_top (nI nu) hn ?_
            refine ez_goto 67 dX12_taken_62 (by decide) ?_
            refine ez_iret .int dX12_taken_67 rfl rfl ?_
            exact ⟨by rw [if_pos (show er_un 1 b = 1 by unfold er_un; rw [if_pos (by omega)])], rfl⟩
        · refine ez_iload_n 44 dX12_taken_43 rfl rfl ?_
          refine ez_callS 47 [eI (nI 0)] [] dX12_taken_44 rfl rfl ok_X12_over st_X12_over ln_X12_402 (by omega) (Nat.le_of_ble_eq_true rfl) (c_over_0 g (d - 1) M) (fun r44 M44 q44 => ?_)
          obtain ⟨rfl, e44⟩ := q44
          rw [e44]
          show Ez (true, g) mX12_taken d 47 [(3, eI (nI 0)), (0, eR 12 0), (1, eI (nI w)), (2, eI (nI b))] [eI (-1)] M _
          refine ez_istore_n 48 [(3, eI (-1)), (0, eR 12 0), (1, eI (nI w)), (2, eI (nI b))] dX12_taken_47 rfl (by decide) rfl ?_
          refine ez_goto 33 dX12_taken_48 (by decide) ?_
          refine ez_iload_n 34 dX12_taken_33 rfl rfl ?_
          refine ez_iconst 35 dX12_taken_34 rfl (-1) (by decide) ?_
          refine ez_icmp_eq 38 51 dX12_taken_35 rfl (by decide) (fun h35'' => ?_) (fun h35'' => ?_)
          · refine ez_iload_n 52 dX12_taken_51 rfl rfl ?_
            refine ez_iload_n 53 dX12_taken_52 rfl rfl ?_
            refine ez_icmp_ne 56 65 dX12_taken_53 rfl (by decide) (fun h53 => ?_) (fun h53 => ?_)
            · refine ez_bipush 67 dX12_taken_65 rfl (-13) (by decide) ?_
              refine ez_iret .int dX12_taken_67 rfl rfl ?_
              exact ⟨by rw [if_neg (show ¬ er_un 1 b = 1 by unfold er_un; rw [if_neg (by omega)]; decide)], rfl⟩
            · exact absurd h53.symm (ep_m1 (by omega))
          · exact absurd rfl h35''
set_option maxRecDepth 20000 in
theorem taken_2 (g : EzH) (d : Nat) (w b nu : Nat) (M : EzM) (hd : 1 ≤ d) (hw : w < 8) (hb : b < 6) (hn : M.1 52 0 w = nI nu) : Ez (true, g) mX12_taken d 33 [(3, eI (nI 2)), (0, eR 12 0), (1, eI (nI w)), (2, eI (nI b))] [] M (fun r M' => r = some (eI (if er_un 2 b = 1 then nI nu else -13)) ∧ M' = M) := by
  refine ez_iload_n 34 dX12_taken_33 rfl rfl ?_
  refine ez_iconst 35 dX12_taken_34 rfl (-1) (by decide) ?_
  refine ez_icmp_eq 38 51 dX12_taken_35 rfl (by decide) (fun h35 => ?_) (fun h35 => ?_)
  · exact absurd h35 (by decide)
  · refine ez_iload_n 39 dX12_taken_38 rfl rfl ?_
    refine ez_iload_n 40 dX12_taken_39 rfl rfl ?_
    refine ez_ncmp_eq 43 51 dX12_taken_40 rfl (by decide) (by omega) (by omega) (fun h40 => ?_) (fun h40 => ?_)
    · refine ez_iload_n 52 dX12_taken_51 rfl rfl ?_
      refine ez_iload_n 53 dX12_taken_52 rfl rfl ?_
      refine ez_ncmp_ne 56 65 dX12_taken_53 rfl (by decide) (by omega) (by omega) (fun h53 => ?_) (fun h53 => ?_)
      · omega
      · refine ez_aload_n 57 dX12_taken_56 rfl rfl ?_
        refine ez_getf 60 (eR 52 0) dX12_taken_57 rfl fl_X12_44 (by show 0 < 1; omega) rfl ?_
        refine ez_iload_n 61 dX12_taken_60 rfl rfl ?_
        refine ez_ialdN w 62 dX12_taken_61 rfl (by decide) (by show 0 < 1; omega) (by show w < 8; omega) ?_
        refine ez_top (nI nu) hn ?_
        refine ez_goto 67 dX12_taken_62 (by decide) ?_
        refine ez_iret .int dX12_taken_67 rfl rfl ?_
        exact ⟨by rw [if_pos (show er_un 2 b = 1 by unfold er_un; rw [if_pos (by omega)])], rfl⟩
    · refine ez_iload_n 44 dX12_taken_43 rfl rfl ?_
      refine ez_callS 47 [eI (nI 2)] [] dX12_taken_44 rfl rfl ok_X12_over st_X12_over ln_X12_402 (by omega) (Nat.le_of_ble_eq_true rfl) (c_over_2 g (d - 1) M) (fun r44 M44 q44 => ?_)
      obtain ⟨rfl, e44⟩ := q44
      rw [e44]
      show Ez (true, g) mX12_taken d 47 [(3, eI (nI 2)), (0, eR 12 0), (1, eI (nI w)), (2, eI (nI b))] [eI (nI 0)] M _
      refine ez_istore_n 48 [(3, eI (nI 0)), (0, eR 12 0), (1, eI (nI w)), (2, eI (nI b))] dX12_taken_47 rfl (by decide) rfl ?_
      refine ez_goto 33 dX12_taken_48 (by decide) ?_
      refine ez_iload_n 34 dX12_taken_33 rfl rfl ?_
      refine ez_iconst 35 dX12_taken_34 rfl (-1) (by decide) ?_
      refine ez_icmp_eq 38 51 dX12_taken_35 rfl (by decide) (fun h35' => ?_) (fun h35' => ?_)
      · exact absurd h35' (by decide)
      · refine ez_iload_n 39 dX12_taken_38 rfl rfl ?_
        refine ez_iload_n 40 dX12_taken_39 rfl rfl ?_
        refine ez_ncmp_eq 43 51 dX12_taken_40 rfl (by decide) (by omega) (by omega) (fun h40' => ?_) (fun h40' => ?_)
        · refine ez_iload_n 52 dX12_taken_51 rfl rfl ?_
          refine ez_iload_n 53 dX12_taken_52 rfl rfl ?_
          refine ez_ncmp_ne 56 65 dX12_taken_53 rfl (by decide) (by omega) (by omega) (fun h53 => ?_) (fun h53 => ?_)
          · omega
          · refine ez_aload_n 57 dX12_taken_56 rfl rfl ?_
            refine ez_getf 60 (eR 52 0) dX12_taken_57 rfl fl_X12_44 (by show 0 < 1; omega) rfl ?_
            refine ez_iload_n 61 dX12_taken_60 rfl rfl ?_
            refine ez_ialdN w 62 dX12_taken_61 rfl (by decide) (by show 0 < 1; omega) (by show w < 8; omega) ?_
            refine ez_top (nI nu) hn ?_
            refine ez_goto 67 dX12_taken_62 (by decide) ?_
            refine ez_iret .int dX12_taken_67 rfl rfl ?_
            exact ⟨by rw [if_pos (show er_un 2 b = 1 by unfold er_un; rw [if_pos (by omega)])], rfl⟩
        · refine ez_iload_n 44 dX12_taken_43 rfl rfl ?_
          refine ez_callS 47 [eI (nI 0)] [] dX12_taken_44 rfl rfl ok_X12_over st_X12_over ln_X12_402 (by omega) (Nat.le_of_ble_eq_true rfl) (c_over_0 g (d - 1) M) (fun r44 M44 q44 => ?_)
          obtain ⟨rfl, e44⟩ := q44
          rw [e44]
          show Ez (true, g) mX12_taken d 47 [(3, eI (nI 0)), (0, eR 12 0), (1, eI (nI w)), (2, eI (nI b))] [eI (-1)] M _
          refine ez_istore_n 48 [(3, eI (-1)), (0, eR 12 0), (1, eI (nI w)), (2, eI (nI b))] dX12_taken_47 rfl (by decide) rfl ?_
          refine ez_goto 33 dX12_taken_48 (by decide) ?_
          refine ez_iload_n 34 dX12_taken_33 rfl rfl ?_
          refine ez_iconst 35 dX12_taken_34 rfl (-1) (by decide) ?_
          refine ez_icmp_eq 38 51 dX12_taken_35 rfl (by decide) (fun h35'' => ?_) (fun h35'' => ?_)
          · refine ez_iload_n 52 dX12_taken_51 rfl rfl ?_
            refine ez_iload_n 53 dX12_taken_52 rfl rfl ?_
            refine ez_icmp_ne 56 65 dX12_taken_53 rfl (by decide) (fun h53 => ?_) (fun h53 => ?_)
            · refine ez_bipush 67 dX12_taken_65 rfl (-13) (by decide) ?_
              refine ez_iret .int dX12_taken_67 rfl rfl ?_
              exact ⟨by rw [if_neg (show ¬ er_un 2 b = 1 by unfold er_un; rw [if_neg (by omega)]; decide)], rfl⟩
            · exact absurd h53.symm (ep_m1 (by omega))
          · exact absurd rfl h35''
set_option maxRecDepth 20000 in
theorem taken_3 (g : EzH) (d : Nat) (w b nu : Nat) (M : EzM) (hd : 1 ≤ d) (hw : w < 8) (hb : b < 6) (hn : M.1 52 0 w = nI nu) : Ez (true, g) mX12_taken d 33 [(3, eI (nI 3)), (0, eR 12 0), (1, eI (nI w)), (2, eI (nI b))] [] M (fun r M' => r = some (eI (if er_un 3 b = 1 then nI nu else -13)) ∧ M' = M) := by
  refine ez_iload_n 34 dX12_taken_33 rfl rfl ?_
  refine ez_iconst 35 dX12_taken_34 rfl (-1) (by decide) ?_
  refine ez_icmp_eq 38 51 dX12_taken_35 rfl (by decide) (fun h35 => ?_) (fun h35 => ?_)
  · exact absurd h35 (by decide)
  · refine ez_iload_n 39 dX12_taken_38 rfl rfl ?_
    refine ez_iload_n 40 dX12_taken_39 rfl rfl ?_
    refine ez_ncmp_eq 43 51 dX12_taken_40 rfl (by decide) (by omega) (by omega) (fun h40 => ?_) (fun h40 => ?_)
    · refine ez_iload_n 52 dX12_taken_51 rfl rfl ?_
      refine ez_iload_n 53 dX12_taken_52 rfl rfl ?_
      refine ez_ncmp_ne 56 65 dX12_taken_53 rfl (by decide) (by omega) (by omega) (fun h53 => ?_) (fun h53 => ?_)
      · omega
      · refine ez_aload_n 57 dX12_taken_56 rfl rfl ?_
        refine ez_getf 60 (eR 52 0) dX12_taken_57 rfl fl_X12_44 (by show 0 < 1; omega) rfl ?_
        refine ez_iload_n 61 dX12_taken_60 rfl rfl ?_
        refine ez_ialdN w 62 dX12_taken_61 rfl (by decide) (by show 0 < 1; omega) (by show w < 8; omega) ?_
        refine ez_top (nI nu) hn ?_
        refine ez_goto 67 dX12_taken_62 (by decide) ?_
        refine ez_iret .int dX12_taken_67 rfl rfl ?_
        exact ⟨by rw [if_pos (show er_un 3 b = 1 by unfold er_un; rw [if_pos (by omega)])], rfl⟩
    · refine ez_iload_n 44 dX12_taken_43 rfl rfl ?_
      refine ez_callS 47 [eI (nI 3)] [] dX12_taken_44 rfl rfl ok_X12_over st_X12_over ln_X12_402 (by omega) (Nat.le_of_ble_eq_true rfl) (c_over_3 g (d - 1) M) (fun r44 M44 q44 => ?_)
      obtain ⟨rfl, e44⟩ := q44
      rw [e44]
      show Ez (true, g) mX12_taken d 47 [(3, eI (nI 3)), (0, eR 12 0), (1, eI (nI w)), (2, eI (nI b))] [eI (nI 1)] M _
      refine ez_istore_n 48 [(3, eI (nI 1)), (0, eR 12 0), (1, eI (nI w)), (2, eI (nI b))] dX12_taken_47 rfl (by decide) rfl ?_
      refine ez_goto 33 dX12_taken_48 (by decide) ?_
      refine ez_iload_n 34 dX12_taken_33 rfl rfl ?_
      refine ez_iconst 35 dX12_taken_34 rfl (-1) (by decide) ?_
      refine ez_icmp_eq 38 51 dX12_taken_35 rfl (by decide) (fun h35' => ?_) (fun h35' => ?_)
      · exact absurd h35' (by decide)
      · refine ez_iload_n 39 dX12_taken_38 rfl rfl ?_
        refine ez_iload_n 40 dX12_taken_39 rfl rfl ?_
        refine ez_ncmp_eq 43 51 dX12_taken_40 rfl (by decide) (by omega) (by omega) (fun h40' => ?_) (fun h40' => ?_)
        · refine ez_iload_n 52 dX12_taken_51 rfl rfl ?_
          refine ez_iload_n 53 dX12_taken_52 rfl rfl ?_
          refine ez_ncmp_ne 56 65 dX12_taken_53 rfl (by decide) (by omega) (by omega) (fun h53 => ?_) (fun h53 => ?_)
          · omega
          · refine ez_aload_n 57 dX12_taken_56 rfl rfl ?_
            refine ez_getf 60 (eR 52 0) dX12_taken_57 rfl fl_X12_44 (by show 0 < 1; omega) rfl ?_
            refine ez_iload_n 61 dX12_taken_60 rfl rfl ?_
            refine ez_ialdN w 62 dX12_taken_61 rfl (by decide) (by show 0 < 1; omega) (by show w < 8; omega) ?_
            refine ez_top (nI nu) hn ?_
            refine ez_goto 67 dX12_taken_62 (by decide) ?_
            refine ez_iret .int dX12_taken_67 rfl rfl ?_
            exact ⟨by rw [if_pos (show er_un 3 b = 1 by unfold er_un; rw [if_pos (by omega)])], rfl⟩
        · refine ez_iload_n 44 dX12_taken_43 rfl rfl ?_
          refine ez_callS 47 [eI (nI 1)] [] dX12_taken_44 rfl rfl ok_X12_over st_X12_over ln_X12_402 (by omega) (Nat.le_of_ble_eq_true rfl) (c_over_1 g (d - 1) M) (fun r44 M44 q44 => ?_)
          obtain ⟨rfl, e44⟩ := q44
          rw [e44]
          show Ez (true, g) mX12_taken d 47 [(3, eI (nI 1)), (0, eR 12 0), (1, eI (nI w)), (2, eI (nI b))] [eI (nI 0)] M _
          refine ez_istore_n 48 [(3, eI (nI 0)), (0, eR 12 0), (1, eI (nI w)), (2, eI (nI b))] dX12_taken_47 rfl (by decide) rfl ?_
          refine ez_goto 33 dX12_taken_48 (by decide) ?_
          refine ez_iload_n 34 dX12_taken_33 rfl rfl ?_
          refine ez_iconst 35 dX12_taken_34 rfl (-1) (by decide) ?_
          refine ez_icmp_eq 38 51 dX12_taken_35 rfl (by decide) (fun h35'' => ?_) (fun h35'' => ?_)
          · exact absurd h35'' (by decide)
          · refine ez_iload_n 39 dX12_taken_38 rfl rfl ?_
            refine ez_iload_n 40 dX12_taken_39 rfl rfl ?_
            refine ez_ncmp_eq 43 51 dX12_taken_40 rfl (by decide) (by omega) (by omega) (fun h40'' => ?_) (fun h40'' => ?_)
            · refine ez_iload_n 52 dX12_taken_51 rfl rfl ?_
              refine ez_iload_n 53 dX12_taken_52 rfl rfl ?_
              refine ez_ncmp_ne 56 65 dX12_taken_53 rfl (by decide) (by omega) (by omega) (fun h53 => ?_) (fun h53 => ?_)
              · omega
              · refine ez_aload_n 57 dX12_taken_56 rfl rfl ?_
                refine ez_getf 60 (eR 52 0) dX12_taken_57 rfl fl_X12_44 (by show 0 < 1; omega) rfl ?_
                refine ez_iload_n 61 dX12_taken_60 rfl rfl ?_
                refine ez_ialdN w 62 dX12_taken_61 rfl (by decide) (by show 0 < 1; omega) (by show w < 8; omega) ?_
                refine ez_top (nI nu) hn ?_
                refine ez_goto 67 dX12_taken_62 (by decide) ?_
                refine ez_iret .int dX12_taken_67 rfl rfl ?_
                exact ⟨by rw [if_pos (show er_un 3 b = 1 by unfold er_un; rw [if_pos (by omega)])], rfl⟩
            · refine ez_iload_n 44 dX12_taken_43 rfl rfl ?_
              refine ez_callS 47 [eI (nI 0)] [] dX12_taken_44 rfl rfl ok_X12_over st_X12_over ln_X12_402 (by omega) (Nat.le_of_ble_eq_true rfl) (c_over_0 g (d - 1) M) (fun r44 M44 q44 => ?_)
              obtain ⟨rfl, e44⟩ := q44
              rw [e44]
              show Ez (true, g) mX12_taken d 47 [(3, eI (nI 0)), (0, eR 12 0), (1, eI (nI w)), (2, eI (nI b))] [eI (-1)] M _
              refine ez_istore_n 48 [(3, eI (-1)), (0, eR 12 0), (1, eI (nI w)), (2, eI (nI b))] dX12_taken_47 rfl (by decide) rfl ?_
              refine ez_goto 33 dX12_taken_48 (by decide) ?_
              refine ez_iload_n 34 dX12_taken_33 rfl rfl ?_
              refine ez_iconst 35 dX12_taken_34 rfl (-1) (by decide) ?_
              refine ez_icmp_eq 38 51 dX12_taken_35 rfl (by decide) (fun h35''' => ?_) (fun h35''' => ?_)
              · refine ez_iload_n 52 dX12_taken_51 rfl rfl ?_
                refine ez_iload_n 53 dX12_taken_52 rfl rfl ?_
                refine ez_icmp_ne 56 65 dX12_taken_53 rfl (by decide) (fun h53 => ?_) (fun h53 => ?_)
                · refine ez_bipush 67 dX12_taken_65 rfl (-13) (by decide) ?_
                  refine ez_iret .int dX12_taken_67 rfl rfl ?_
                  exact ⟨by rw [if_neg (show ¬ er_un 3 b = 1 by unfold er_un; rw [if_neg (by omega)]; decide)], rfl⟩
                · exact absurd h53.symm (ep_m1 (by omega))
              · exact absurd rfl h35'''
set_option maxRecDepth 20000 in
theorem taken_4 (g : EzH) (d : Nat) (w b nu : Nat) (M : EzM) (hd : 1 ≤ d) (hw : w < 8) (hb : b < 6) (hn : M.1 52 0 w = nI nu) : Ez (true, g) mX12_taken d 33 [(3, eI (nI 4)), (0, eR 12 0), (1, eI (nI w)), (2, eI (nI b))] [] M (fun r M' => r = some (eI (if er_un 4 b = 1 then nI nu else -13)) ∧ M' = M) := by
  refine ez_iload_n 34 dX12_taken_33 rfl rfl ?_
  refine ez_iconst 35 dX12_taken_34 rfl (-1) (by decide) ?_
  refine ez_icmp_eq 38 51 dX12_taken_35 rfl (by decide) (fun h35 => ?_) (fun h35 => ?_)
  · exact absurd h35 (by decide)
  · refine ez_iload_n 39 dX12_taken_38 rfl rfl ?_
    refine ez_iload_n 40 dX12_taken_39 rfl rfl ?_
    refine ez_ncmp_eq 43 51 dX12_taken_40 rfl (by decide) (by omega) (by omega) (fun h40 => ?_) (fun h40 => ?_)
    · refine ez_iload_n 52 dX12_taken_51 rfl rfl ?_
      refine ez_iload_n 53 dX12_taken_52 rfl rfl ?_
      refine ez_ncmp_ne 56 65 dX12_taken_53 rfl (by decide) (by omega) (by omega) (fun h53 => ?_) (fun h53 => ?_)
      · omega
      · refine ez_aload_n 57 dX12_taken_56 rfl rfl ?_
        refine ez_getf 60 (eR 52 0) dX12_taken_57 rfl fl_X12_44 (by show 0 < 1; omega) rfl ?_
        refine ez_iload_n 61 dX12_taken_60 rfl rfl ?_
        refine ez_ialdN w 62 dX12_taken_61 rfl (by decide) (by show 0 < 1; omega) (by show w < 8; omega) ?_
        refine ez_top (nI nu) hn ?_
        refine ez_goto 67 dX12_taken_62 (by decide) ?_
        refine ez_iret .int dX12_taken_67 rfl rfl ?_
        exact ⟨by rw [if_pos (show er_un 4 b = 1 by unfold er_un; rw [if_pos (by omega)])], rfl⟩
    · refine ez_iload_n 44 dX12_taken_43 rfl rfl ?_
      refine ez_callS 47 [eI (nI 4)] [] dX12_taken_44 rfl rfl ok_X12_over st_X12_over ln_X12_402 (by omega) (Nat.le_of_ble_eq_true rfl) (c_over_4 g (d - 1) M) (fun r44 M44 q44 => ?_)
      obtain ⟨rfl, e44⟩ := q44
      rw [e44]
      show Ez (true, g) mX12_taken d 47 [(3, eI (nI 4)), (0, eR 12 0), (1, eI (nI w)), (2, eI (nI b))] [eI (nI 2)] M _
      refine ez_istore_n 48 [(3, eI (nI 2)), (0, eR 12 0), (1, eI (nI w)), (2, eI (nI b))] dX12_taken_47 rfl (by decide) rfl ?_
      refine ez_goto 33 dX12_taken_48 (by decide) ?_
      refine ez_iload_n 34 dX12_taken_33 rfl rfl ?_
      refine ez_iconst 35 dX12_taken_34 rfl (-1) (by decide) ?_
      refine ez_icmp_eq 38 51 dX12_taken_35 rfl (by decide) (fun h35' => ?_) (fun h35' => ?_)
      · exact absurd h35' (by decide)
      · refine ez_iload_n 39 dX12_taken_38 rfl rfl ?_
        refine ez_iload_n 40 dX12_taken_39 rfl rfl ?_
        refine ez_ncmp_eq 43 51 dX12_taken_40 rfl (by decide) (by omega) (by omega) (fun h40' => ?_) (fun h40' => ?_)
        · refine ez_iload_n 52 dX12_taken_51 rfl rfl ?_
          refine ez_iload_n 53 dX12_taken_52 rfl rfl ?_
          refine ez_ncmp_ne 56 65 dX12_taken_53 rfl (by decide) (by omega) (by omega) (fun h53 => ?_) (fun h53 => ?_)
          · omega
          · refine ez_aload_n 57 dX12_taken_56 rfl rfl ?_
            refine ez_getf 60 (eR 52 0) dX12_taken_57 rfl fl_X12_44 (by show 0 < 1; omega) rfl ?_
            refine ez_iload_n 61 dX12_taken_60 rfl rfl ?_
            refine ez_ialdN w 62 dX12_taken_61 rfl (by decide) (by show 0 < 1; omega) (by show w < 8; omega) ?_
            refine ez_top (nI nu) hn ?_
            refine ez_goto 67 dX12_taken_62 (by decide) ?_
            refine ez_iret .int dX12_taken_67 rfl rfl ?_
            exact ⟨by rw [if_pos (show er_un 4 b = 1 by unfold er_un; rw [if_pos (by omega)])], rfl⟩
        · refine ez_iload_n 44 dX12_taken_43 rfl rfl ?_
          refine ez_callS 47 [eI (nI 2)] [] dX12_taken_44 rfl rfl ok_X12_over st_X12_over ln_X12_402 (by omega) (Nat.le_of_ble_eq_true rfl) (c_over_2 g (d - 1) M) (fun r44 M44 q44 => ?_)
          obtain ⟨rfl, e44⟩ := q44
          rw [e44]
          show Ez (true, g) mX12_taken d 47 [(3, eI (nI 2)), (0, eR 12 0), (1, eI (nI w)), (2, eI (nI b))] [eI (nI 0)] M _
          refine ez_istore_n 48 [(3, eI (nI 0)), (0, eR 12 0), (1, eI (nI w)), (2, eI (nI b))] dX12_taken_47 rfl (by decide) rfl ?_
          refine ez_goto 33 dX12_taken_48 (by decide) ?_
          refine ez_iload_n 34 dX12_taken_33 rfl rfl ?_
          refine ez_iconst 35 dX12_taken_34 rfl (-1) (by decide) ?_
          refine ez_icmp_eq 38 51 dX12_taken_35 rfl (by decide) (fun h35'' => ?_) (fun h35'' => ?_)
          · exact absurd h35'' (by decide)
          · refine ez_iload_n 39 dX12_taken_38 rfl rfl ?_
            refine ez_iload_n 40 dX12_taken_39 rfl rfl ?_
            refine ez_ncmp_eq 43 51 dX12_taken_40 rfl (by decide) (by omega) (by omega) (fun h40'' => ?_) (fun h40'' => ?_)
            · refine ez_iload_n 52 dX12_taken_51 rfl rfl ?_
              refine ez_iload_n 53 dX12_taken_52 rfl rfl ?_
              refine ez_ncmp_ne 56 65 dX12_taken_53 rfl (by decide) (by omega) (by omega) (fun h53 => ?_) (fun h53 => ?_)
              · omega
              · refine ez_aload_n 57 dX12_taken_56 rfl rfl ?_
                refine ez_getf 60 (eR 52 0) dX12_taken_57 rfl fl_X12_44 (by show 0 < 1; omega) rfl ?_
                refine ez_iload_n 61 dX12_taken_60 rfl rfl ?_
                refine ez_ialdN w 62 dX12_taken_61 rfl (by decide) (by show 0 < 1; omega) (by show w < 8; omega) ?_
                refine ez_top (nI nu) hn ?_
                refine ez_goto 67 dX12_taken_62 (by decide) ?_
                refine ez_iret .int dX12_taken_67 rfl rfl ?_
                exact ⟨by rw [if_pos (show er_un 4 b = 1 by unfold er_un; rw [if_pos (by omega)])], rfl⟩
            · refine ez_iload_n 44 dX12_taken_43 rfl rfl ?_
              refine ez_callS 47 [eI (nI 0)] [] dX12_taken_44 rfl rfl ok_X12_over st_X12_over ln_X12_402 (by omega) (Nat.le_of_ble_eq_true rfl) (c_over_0 g (d - 1) M) (fun r44 M44 q44 => ?_)
              obtain ⟨rfl, e44⟩ := q44
              rw [e44]
              show Ez (true, g) mX12_taken d 47 [(3, eI (nI 0)), (0, eR 12 0), (1, eI (nI w)), (2, eI (nI b))] [eI (-1)] M _
              refine ez_istore_n 48 [(3, eI (-1)), (0, eR 12 0), (1, eI (nI w)), (2, eI (nI b))] dX12_taken_47 rfl (by decide) rfl ?_
              refine ez_goto 33 dX12_taken_48 (by decide) ?_
              refine ez_iload_n 34 dX12_taken_33 rfl rfl ?_
              refine ez_iconst 35 dX12_taken_34 rfl (-1) (by decide) ?_
              refine ez_icmp_eq 38 51 dX12_taken_35 rfl (by decide) (fun h35''' => ?_) (fun h35''' => ?_)
              · refine ez_iload_n 52 dX12_taken_51 rfl rfl ?_
                refine ez_iload_n 53 dX12_taken_52 rfl rfl ?_
                refine ez_icmp_ne 56 65 dX12_taken_53 rfl (by decide) (fun h53 => ?_) (fun h53 => ?_)
                · refine ez_bipush 67 dX12_taken_65 rfl (-13) (by decide) ?_
                  refine ez_iret .int dX12_taken_67 rfl rfl ?_
                  exact ⟨by rw [if_neg (show ¬ er_un 4 b = 1 by unfold er_un; rw [if_neg (by omega)]; decide)], rfl⟩
                · exact absurd h53.symm (ep_m1 (by omega))
              · exact absurd rfl h35'''
set_option maxRecDepth 20000 in
theorem taken_5 (g : EzH) (d : Nat) (w b nu : Nat) (M : EzM) (hd : 1 ≤ d) (hw : w < 8) (hb : b < 6) (hn : M.1 52 0 w = nI nu) : Ez (true, g) mX12_taken d 33 [(3, eI (nI 5)), (0, eR 12 0), (1, eI (nI w)), (2, eI (nI b))] [] M (fun r M' => r = some (eI (if er_un 5 b = 1 then nI nu else -13)) ∧ M' = M) := by
  refine ez_iload_n 34 dX12_taken_33 rfl rfl ?_
  refine ez_iconst 35 dX12_taken_34 rfl (-1) (by decide) ?_
  refine ez_icmp_eq 38 51 dX12_taken_35 rfl (by decide) (fun h35 => ?_) (fun h35 => ?_)
  · exact absurd h35 (by decide)
  · refine ez_iload_n 39 dX12_taken_38 rfl rfl ?_
    refine ez_iload_n 40 dX12_taken_39 rfl rfl ?_
    refine ez_ncmp_eq 43 51 dX12_taken_40 rfl (by decide) (by omega) (by omega) (fun h40 => ?_) (fun h40 => ?_)
    · refine ez_iload_n 52 dX12_taken_51 rfl rfl ?_
      refine ez_iload_n 53 dX12_taken_52 rfl rfl ?_
      refine ez_ncmp_ne 56 65 dX12_taken_53 rfl (by decide) (by omega) (by omega) (fun h53 => ?_) (fun h53 => ?_)
      · omega
      · refine ez_aload_n 57 dX12_taken_56 rfl rfl ?_
        refine ez_getf 60 (eR 52 0) dX12_taken_57 rfl fl_X12_44 (by show 0 < 1; omega) rfl ?_
        refine ez_iload_n 61 dX12_taken_60 rfl rfl ?_
        refine ez_ialdN w 62 dX12_taken_61 rfl (by decide) (by show 0 < 1; omega) (by show w < 8; omega) ?_
        refine ez_top (nI nu) hn ?_
        refine ez_goto 67 dX12_taken_62 (by decide) ?_
        refine ez_iret .int dX12_taken_67 rfl rfl ?_
        exact ⟨by rw [if_pos (show er_un 5 b = 1 by unfold er_un; rw [if_pos (by omega)])], rfl⟩
    · refine ez_iload_n 44 dX12_taken_43 rfl rfl ?_
      refine ez_callS 47 [eI (nI 5)] [] dX12_taken_44 rfl rfl ok_X12_over st_X12_over ln_X12_402 (by omega) (Nat.le_of_ble_eq_true rfl) (c_over_5 g (d - 1) M) (fun r44 M44 q44 => ?_)
      obtain ⟨rfl, e44⟩ := q44
      rw [e44]
      show Ez (true, g) mX12_taken d 47 [(3, eI (nI 5)), (0, eR 12 0), (1, eI (nI w)), (2, eI (nI b))] [eI (nI 2)] M _
      refine ez_istore_n 48 [(3, eI (nI 2)), (0, eR 12 0), (1, eI (nI w)), (2, eI (nI b))] dX12_taken_47 rfl (by decide) rfl ?_
      refine ez_goto 33 dX12_taken_48 (by decide) ?_
      refine ez_iload_n 34 dX12_taken_33 rfl rfl ?_
      refine ez_iconst 35 dX12_taken_34 rfl (-1) (by decide) ?_
      refine ez_icmp_eq 38 51 dX12_taken_35 rfl (by decide) (fun h35' => ?_) (fun h35' => ?_)
      · exact absurd h35' (by decide)
      · refine ez_iload_n 39 dX12_taken_38 rfl rfl ?_
        refine ez_iload_n 40 dX12_taken_39 rfl rfl ?_
        refine ez_ncmp_eq 43 51 dX12_taken_40 rfl (by decide) (by omega) (by omega) (fun h40' => ?_) (fun h40' => ?_)
        · refine ez_iload_n 52 dX12_taken_51 rfl rfl ?_
          refine ez_iload_n 53 dX12_taken_52 rfl rfl ?_
          refine ez_ncmp_ne 56 65 dX12_taken_53 rfl (by decide) (by omega) (by omega) (fun h53 => ?_) (fun h53 => ?_)
          · omega
          · refine ez_aload_n 57 dX12_taken_56 rfl rfl ?_
            refine ez_getf 60 (eR 52 0) dX12_taken_57 rfl fl_X12_44 (by show 0 < 1; omega) rfl ?_
            refine ez_iload_n 61 dX12_taken_60 rfl rfl ?_
            refine ez_ialdN w 62 dX12_taken_61 rfl (by decide) (by show 0 < 1; omega) (by show w < 8; omega) ?_
            refine ez_top (nI nu) hn ?_
            refine ez_goto 67 dX12_taken_62 (by decide) ?_
            refine ez_iret .int dX12_taken_67 rfl rfl ?_
            exact ⟨by rw [if_pos (show er_un 5 b = 1 by unfold er_un; rw [if_pos (by omega)])], rfl⟩
        · refine ez_iload_n 44 dX12_taken_43 rfl rfl ?_
          refine ez_callS 47 [eI (nI 2)] [] dX12_taken_44 rfl rfl ok_X12_over st_X12_over ln_X12_402 (by omega) (Nat.le_of_ble_eq_true rfl) (c_over_2 g (d - 1) M) (fun r44 M44 q44 => ?_)
          obtain ⟨rfl, e44⟩ := q44
          rw [e44]
          show Ez (true, g) mX12_taken d 47 [(3, eI (nI 2)), (0, eR 12 0), (1, eI (nI w)), (2, eI (nI b))] [eI (nI 0)] M _
          refine ez_istore_n 48 [(3, eI (nI 0)), (0, eR 12 0), (1, eI (nI w)), (2, eI (nI b))] dX12_taken_47 rfl (by decide) rfl ?_
          refine ez_goto 33 dX12_taken_48 (by decide) ?_
          refine ez_iload_n 34 dX12_taken_33 rfl rfl ?_
          refine ez_iconst 35 dX12_taken_34 rfl (-1) (by decide) ?_
          refine ez_icmp_eq 38 51 dX12_taken_35 rfl (by decide) (fun h35'' => ?_) (fun h35'' => ?_)
          · exact absurd h35'' (by decide)
          · refine ez_iload_n 39 dX12_taken_38 rfl rfl ?_
            refine ez_iload_n 40 dX12_taken_39 rfl rfl ?_
            refine ez_ncmp_eq 43 51 dX12_taken_40 rfl (by decide) (by omega) (by omega) (fun h40'' => ?_) (fun h40'' => ?_)
            · refine ez_iload_n 52 dX12_taken_51 rfl rfl ?_
              refine ez_iload_n 53 dX12_taken_52 rfl rfl ?_
              refine ez_ncmp_ne 56 65 dX12_taken_53 rfl (by decide) (by omega) (by omega) (fun h53 => ?_) (fun h53 => ?_)
              · omega
              · refine ez_aload_n 57 dX12_taken_56 rfl rfl ?_
                refine ez_getf 60 (eR 52 0) dX12_taken_57 rfl fl_X12_44 (by show 0 < 1; omega) rfl ?_
                refine ez_iload_n 61 dX12_taken_60 rfl rfl ?_
                refine ez_ialdN w 62 dX12_taken_61 rfl (by decide) (by show 0 < 1; omega) (by show w < 8; omega) ?_
                refine ez_top (nI nu) hn ?_
                refine ez_goto 67 dX12_taken_62 (by decide) ?_
                refine ez_iret .int dX12_taken_67 rfl rfl ?_
                exact ⟨by rw [if_pos (show er_un 5 b = 1 by unfold er_un; rw [if_pos (by omega)])], rfl⟩
            · refine ez_iload_n 44 dX12_taken_43 rfl rfl ?_
              refine ez_callS 47 [eI (nI 0)] [] dX12_taken_44 rfl rfl ok_X12_over st_X12_over ln_X12_402 (by omega) (Nat.le_of_ble_eq_true rfl) (c_over_0 g (d - 1) M) (fun r44 M44 q44 => ?_)
              obtain ⟨rfl, e44⟩ := q44
              rw [e44]
              show Ez (true, g) mX12_taken d 47 [(3, eI (nI 0)), (0, eR 12 0), (1, eI (nI w)), (2, eI (nI b))] [eI (-1)] M _
              refine ez_istore_n 48 [(3, eI (-1)), (0, eR 12 0), (1, eI (nI w)), (2, eI (nI b))] dX12_taken_47 rfl (by decide) rfl ?_
              refine ez_goto 33 dX12_taken_48 (by decide) ?_
              refine ez_iload_n 34 dX12_taken_33 rfl rfl ?_
              refine ez_iconst 35 dX12_taken_34 rfl (-1) (by decide) ?_
              refine ez_icmp_eq 38 51 dX12_taken_35 rfl (by decide) (fun h35''' => ?_) (fun h35''' => ?_)
              · refine ez_iload_n 52 dX12_taken_51 rfl rfl ?_
                refine ez_iload_n 53 dX12_taken_52 rfl rfl ?_
                refine ez_icmp_ne 56 65 dX12_taken_53 rfl (by decide) (fun h53 => ?_) (fun h53 => ?_)
                · refine ez_bipush 67 dX12_taken_65 rfl (-13) (by decide) ?_
                  refine ez_iret .int dX12_taken_67 rfl rfl ?_
                  exact ⟨by rw [if_neg (show ¬ er_un 5 b = 1 by unfold er_un; rw [if_neg (by omega)]; decide)], rfl⟩
                · exact absurd h53.symm (ep_m1 (by omega))
              · exact absurd rfl h35'''
set_option maxRecDepth 20000 in
theorem c_X12_taken (g : EzH) (d : Nat) {q : EpS} (x y : Int32) (M : EzM) (hd : 3 ≤ d) (hW : WF q) (hC : RM q M) : Ezc (true, g) mX12_taken d [eR 12 0, eI x, eI y] M (fun r M' => r = some (eI (S_taken q x y)) ∧ RM q M' ∧ FX CM M M') := by
  refine Ezc.of (by decide +kernel) (Nat.le_of_ble_eq_true rfl) ?_
  have q8 := hW.2.1.1
  have q4 := hW.1.1
  have qx := hW.2.2.2.2.1
  show Ez (true, g) mX12_taken d 0 [(0, eR 12 0), (1, eI x), (2, eI y)] [] M _
  refine ez_iload_n 1 dX12_taken_0 rfl rfl ?_
  refine ez_i2l 2 dX12_taken_1 rfl ?_
  refine ez_lconst 3 dX12_taken_2 rfl (nI 0).toInt64 (by decide) ?_
  refine ez_ldc2 6 dX12_taken_3 rfl 5 cn_X12_179 ?_
  refine ez_topL (nI 5).toInt64 (by decide) ?_
  refine ez_callS 9 [eL y.toInt64, eL ((nI 0).toInt64), eL ((nI 5).toInt64)] [] dX12_taken_6 rfl rfl ok_X12_in st_X12_in ln_X12_133 (by omega) (Nat.le_of_ble_eq_true rfl) (c_in_k g (d - 1) y 5 M (by decide)) (fun r6 M6 q6 => ?_)
  obtain ⟨e6, ⟨rfl, i6⟩ | ⟨j6, b6, rfl, rfl⟩⟩ := q6
  · rw [e6]
    show Ez (true, g) mX12_taken d 9 [(0, eR 12 0), (1, eI x), (2, eI y)] [eI (nI 0)] M _
    refine ez_nif_ne 12 15 dX12_taken_9 rfl (by decide) (by omega) (fun h9 => ?_) (fun h9 => ?_)
    · exact absurd h9 (by decide)
    · refine ez_bipush 14 dX12_taken_12 rfl (-2) (by decide) ?_
      refine ez_iret .int dX12_taken_14 rfl rfl ?_
      exact ⟨by simp [S_taken, i6], hC, FX.rf⟩
  · rw [e6]
    have i6 : ep_ix (nI j6) 6 = some j6 := ep_ix_nI b6 (by omega)
    show Ez (true, g) mX12_taken d 9 [(0, eR 12 0), (1, eI x), (2, eI (nI j6))] [eI (nI 1)] M _
    refine ez_nif_ne 12 15 dX12_taken_9 rfl (by decide) (by omega) (fun h9 => ?_) (fun h9 => ?_)
    · refine ez_aload_n 16 dX12_taken_15 rfl rfl ?_
      refine ez_iload_n 17 dX12_taken_16 rfl rfl ?_
      refine ez_callV 20 [eI x] [] dX12_taken_17 rfl rfl ok_X12_isWalker in_X12_isWalker (by decide) (by show 0 < 1; omega) ln_X12_236 (by omega) (Nat.le_of_ble_eq_true rfl) (c_X12_isWalker g (d - 1) x q.2.1.1 M (by omega) hC.2.1.1 (by omega)) (fun r17 M17 q17 => ?_)
      obtain ⟨e17, ⟨rfl, i17⟩ | ⟨j17, b17, rfl, rfl⟩⟩ := q17
      · rw [e17]
        show Ez (true, g) mX12_taken d 20 [(0, eR 12 0), (1, eI x), (2, eI (nI j6))] [eI (nI 0)] M _
        refine ez_nif_ne 23 26 dX12_taken_20 rfl (by decide) (by omega) (fun h20 => ?_) (fun h20 => ?_)
        · exact absurd h20 (by decide)
        · refine ez_bipush 25 dX12_taken_23 rfl (-11) (by decide) ?_
          refine ez_iret .int dX12_taken_25 rfl rfl ?_
          exact ⟨by simp [S_taken, i6, i17], hC, FX.rf⟩
      · rw [e17]
        have i17 : ep_ix (nI j17) q.2.1.1 = some j17 := ep_ix_nI b17 (by omega)
        obtain ⟨k0, k1, k2, k3, k4, k5⟩ := hW.2.1.2 j17 b17
        have gz := g_WFz hW.1 k1
        have gS := g_WFS hW b17
        have gZ := g_RMz hC.1 k1
        have gR := g_RMW hC.1 hC.2.1 b17 k1
        have n10 := gz.2.1
        have gX := hC.2.2.2.2.1
        show Ez (true, g) mX12_taken d 20 [(0, eR 12 0), (1, eI (nI j17)), (2, eI (nI j6))] [eI (nI 1)] M _
        refine ez_nif_ne 23 26 dX12_taken_20 rfl (by decide) (by omega) (fun h20 => ?_) (fun h20 => ?_)
        · refine ez_aload_n 27 dX12_taken_26 rfl rfl ?_
          refine ez_getf 30 (eR 48 0) dX12_taken_27 rfl fl_X12_32 (by show 0 < 1; omega) rfl ?_
          refine ez_iload_n 31 dX12_taken_30 rfl rfl ?_
          refine ez_ialdN j17 32 dX12_taken_31 rfl (by decide) (by show 0 < 1; omega) (by show j17 < 8; omega) ?_
          refine ez_top (nI (q.2.1.2.1 j17 0)) gR.1 ?_
          refine ez_istore_n 33 [(3, eI (nI (q.2.1.2.1 j17 0))), (0, eR 12 0), (1, eI (nI j17)), (2, eI (nI j6))] dX12_taken_32 rfl (by decide) rfl ?_
          have k00 := k0
          generalize hkk : q.2.1.2.1 j17 0 = kk at k00 ⊢
          have S9 : S_taken q (nI j17) (nI j6) = if er_un kk j6 = 1 then nI (q.2.1.2.1 j17 4) else -13 := by simp only [S_taken, i6, i17]; rw [hkk]
          rw [S9]
          refine ez_drop [(3, eI (nI kk)), (0, eR 12 0), (1, eI (nI j17)), (2, eI (nI j6))] (by simp) ?_
          rcases (show kk = 0 ∨ kk = 1 ∨ kk = 2 ∨ kk = 3 ∨ kk = 4 ∨ kk = 5 by omega) with e9 | e9 | e9 | e9 | e9 | e9 <;> rw [e9]
          · exact ez_wk (fun r M' z9 => ⟨z9.1, by rw [z9.2]; exact hC, by rw [z9.2]; exact FX.rf⟩) (taken_0 g d j17 j6 _ M (by omega) (by omega) b6 gR.2.2.2.2.1)
          · exact ez_wk (fun r M' z9 => ⟨z9.1, by rw [z9.2]; exact hC, by rw [z9.2]; exact FX.rf⟩) (taken_1 g d j17 j6 _ M (by omega) (by omega) b6 gR.2.2.2.2.1)
          · exact ez_wk (fun r M' z9 => ⟨z9.1, by rw [z9.2]; exact hC, by rw [z9.2]; exact FX.rf⟩) (taken_2 g d j17 j6 _ M (by omega) (by omega) b6 gR.2.2.2.2.1)
          · exact ez_wk (fun r M' z9 => ⟨z9.1, by rw [z9.2]; exact hC, by rw [z9.2]; exact FX.rf⟩) (taken_3 g d j17 j6 _ M (by omega) (by omega) b6 gR.2.2.2.2.1)
          · exact ez_wk (fun r M' z9 => ⟨z9.1, by rw [z9.2]; exact hC, by rw [z9.2]; exact FX.rf⟩) (taken_4 g d j17 j6 _ M (by omega) (by omega) b6 gR.2.2.2.2.1)
          · exact ez_wk (fun r M' z9 => ⟨z9.1, by rw [z9.2]; exact hC, by rw [z9.2]; exact FX.rf⟩) (taken_5 g d j17 j6 _ M (by omega) (by omega) b6 gR.2.2.2.2.1)
        · exact absurd h20 (by decide)
    · exact absurd h9 (by decide)
