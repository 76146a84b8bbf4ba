/-! the model's readers, by the grammar -/
def MXr (Tk Pl En : Nat → Nat) (N fr n : Nat) (b : Nat → Nat) (nm : Nat → Int32) (x : EpR) (o : Nat) (r : Option EzV) (M : EzM) : Prop := match x with
  | .inl q => r = some (eI (q.2.2 nm)) ∧ MG Tk Pl En N fr n b nm o q.1 M
  | .inr e => (∃ w : Int32, r = some (eI w)) ∧ MB (Pl e) o M
set_option maxRecDepth 20000 in
theorem c_opens (g : EzH) (d : Nat) {Tk Pl En : Nat → Nat} {N fr n : Nat} {b : Nat → Nat} {nm : Nat → Int32} {o k : Nat} (M : EzM) (hd : 4 ≤ d) (hH : HT Tk Pl N) (hN : MNx g Tk Pl En N fr n b nm) (hG : MG Tk Pl En N fr n b nm o k M) (ht : 10 ≤ Tk k) (ho : o < 5) : Ezc (true, g) mX12_opens d [eR 12 0] M (fun r M' => r = some (eI (nI 1)) ∧ MF M M' ∧ MG Tk Pl En N fr n b nm (o + 1) (k + 1) M') := by
  refine Ezc.of (by decide +kernel) (Nat.le_of_ble_eq_true rfl) ?_
  have u0 := (hH.2.1 _ hG.2.1).1
  have w0 := hG.2.1
  show Ez (true, g) mX12_opens d 0 [(0, eR 12 0)] [] M _
  refine ez_aload_n 1 dX12_opens_0 rfl rfl ?_
  refine ez_getf 4 (eI (M.1 12 0 27)) dX12_opens_1 rfl fl_X12_290 (by show 0 < 1; omega) rfl ?_
  refine ez_top (nI o) hG.2.2.2.2.2.1 ?_
  refine ez_iconst 5 dX12_opens_4 rfl (nI 5) (by decide) ?_
  refine ez_ncmp_ne 8 14 dX12_opens_5 rfl (by decide) (by omega) (by omega) (fun h5 => ?_) (fun h5 => ?_)
  · refine ez_aload_n 15 dX12_opens_14 rfl rfl ?_
    refine ez_dup 16 dX12_opens_15 rfl rfl ?_
    refine ez_getf 19 (eI (M.1 12 0 27)) dX12_opens_16 rfl fl_X12_290 (by show 0 < 1; omega) rfl ?_
    refine ez_top (nI o) hG.2.2.2.2.2.1 ?_
    refine ez_iconst 20 dX12_opens_19 rfl (nI 1) (by decide) ?_
    refine ez_iadd 21 dX12_opens_20 rfl ?_
    refine ez_top (nI (o + 1)) (nI_add _ _) ?_
    refine ez_putf 24 .int dX12_opens_21 rfl fp_X12_290 (by show 0 < 1; omega) rfl (by decide) rfl rfl ?_
    have g24 := MG_op (o' := o + 1) hG
    have f24 : MF M (ez_st M 12 0 27 (nI (o + 1))) := MF.s (by decide)
    generalize ez_st M 12 0 27 (nI (o + 1)) = M24 at g24 f24 ⊢
    refine ez_aload_n 25 dX12_opens_24 rfl rfl ?_
    refine ez_callV 28 [] [] dX12_opens_25 rfl rfl ok_X12_next in_X12_next (by decide) (by show 0 < 1; omega) ln_X12_296 (by omega) (Nat.le_of_ble_eq_true rfl) (hN (o + 1) k M24 (d - 1) (by omega) g24 (by omega)) (fun r25 M25 q25 => ?_)
    obtain ⟨rfl, f25, g25⟩ := q25
    have u25 := (hH.2.1 _ g25.2.1).1
    have w25 := g25.2.1
    show Ez (true, g) mX12_opens d 28 [(0, eR 12 0)] [] M25 _
    refine ez_iconst 29 dX12_opens_28 rfl (nI 1) (by decide) ?_
    refine ez_iret .boolean dX12_opens_29 rfl (by decide) ?_
    exact ⟨rfl, ((MF.rf.tr f24).tr f25), g25⟩
  · exfalso; omega
set_option maxRecDepth 20000 in
theorem c_opensn (g : EzH) (d : Nat) {Tk Pl En : Nat → Nat} {N fr n : Nat} {b : Nat → Nat} {nm : Nat → Int32} {o k : Nat} (M : EzM) (hd : 4 ≤ d) (hH : HT Tk Pl N) (hG : MG Tk Pl En N fr n b nm o k M) (ho : o = 5) : Ezc (true, g) mX12_opens d [eR 12 0] M (fun r M' => r = some (eI (nI 0)) ∧ MF M M' ∧ MB (Pl k) o M') := by
  refine Ezc.of (by decide +kernel) (Nat.le_of_ble_eq_true rfl) ?_
  have u0 := (hH.2.1 _ hG.2.1).1
  have w0 := hG.2.1
  show Ez (true, g) mX12_opens d 0 [(0, eR 12 0)] [] M _
  refine ez_aload_n 1 dX12_opens_0 rfl rfl ?_
  refine ez_getf 4 (eI (M.1 12 0 27)) dX12_opens_1 rfl fl_X12_290 (by show 0 < 1; omega) rfl ?_
  refine ez_top (nI o) hG.2.2.2.2.2.1 ?_
  refine ez_iconst 5 dX12_opens_4 rfl (nI 5) (by decide) ?_
  refine ez_ncmp_ne 8 14 dX12_opens_5 rfl (by decide) (by omega) (by omega) (fun h5 => ?_) (fun h5 => ?_)
  · exfalso; omega
  · refine ez_aload_n 9 dX12_opens_8 rfl rfl ?_
    refine ez_callV 12 [] [] dX12_opens_9 rfl rfl ok_X12_fail in_X12_fail (by decide) (by show 0 < 1; omega) ln_X12_293 (by omega) (Nat.le_of_ble_eq_true rfl) (c_fail g (d - 1) M hG) (fun r9 M9 q9 => ?_)
    obtain ⟨rfl, f9, g9⟩ := q9
    show Ez (true, g) mX12_opens d 12 [(0, eR 12 0)] [] M9 _
    refine ez_iconst 13 dX12_opens_12 rfl (nI 0) (by decide) ?_
    refine ez_iret .boolean dX12_opens_13 rfl (by decide) ?_
    exact ⟨rfl, (MF.rf.tr f9), g9⟩
set_option maxRecDepth 20000 in
theorem c_name10 (g : EzH) (d : Nat) {Tk Pl En : Nat → Nat} {N fr n : Nat} {b : Nat → Nat} {nm : Nat → Int32} {o k : Nat} (M : EzM) (hd : 2 ≤ d) (hG : MG Tk Pl En N fr n b nm o k M) (ht : Tk k = 10) : Ezc (true, g) mX12_name d [eR 12 0] M (fun r M' => r = some (eI (nm 0)) ∧ M' = M) := by
  refine Ezc.of (by decide +kernel) (Nat.le_of_ble_eq_true rfl) ?_
  show Ez (true, g) mX12_name d 0 [(0, eR 12 0)] [] M _
  refine ez_aload_n 1 dX12_name_0 rfl rfl ?_
  refine ez_ldc2 4 dX12_name_1 rfl 60134 cn_X12_299 ?_
  refine ez_callV 7 [eL 60134] [] dX12_name_4 rfl rfl ok_X12_isWord in_X12_isWord (by decide) (by show 0 < 1; omega) ln_X12_301 (by omega) (Nat.le_of_ble_eq_true rfl) (c_iw_y g (d - 1) 10 60134 M hG (by decide) rfl (by omega)) (fun r4 M4 q4 => ?_)
  obtain ⟨rfl, e4⟩ := q4
  rw [e4]
  show Ez (true, g) mX12_name d 7 [(0, eR 12 0)] [eI (nI 1)] M _
  refine ez_nif_eq 10 15 dX12_name_7 rfl (by decide) (by omega) (fun h7 => ?_) (fun h7 => ?_)
  · exact absurd h7 (by decide)
  · refine ez_aload_n 11 dX12_name_10 rfl rfl ?_
    refine ez_getf 14 (eI (M.1 12 0 30)) dX12_name_11 rfl fl_X12_202 (by show 0 < 1; omega) rfl ?_
    refine ez_top (nm 0) (hG.1.2.2.2 0 (by decide)) ?_
    refine ez_iret .int dX12_name_14 rfl rfl ?_
    exact ⟨rfl, rfl⟩
set_option maxRecDepth 20000 in
theorem c_name11 (g : EzH) (d : Nat) {Tk Pl En : Nat → Nat} {N fr n : Nat} {b : Nat → Nat} {nm : Nat → Int32} {o k : Nat} (M : EzM) (hd : 2 ≤ d) (hG : MG Tk Pl En N fr n b nm o k M) (ht : Tk k = 11) : Ezc (true, g) mX12_name d [eR 12 0] M (fun r M' => r = some (eI (nm 1)) ∧ M' = M) := by
  refine Ezc.of (by decide +kernel) (Nat.le_of_ble_eq_true rfl) ?_
  show Ez (true, g) mX12_name d 0 [(0, eR 12 0)] [] M _
  refine ez_aload_n 1 dX12_name_0 rfl rfl ?_
  refine ez_ldc2 4 dX12_name_1 rfl 60134 cn_X12_299 ?_
  refine ez_callV 7 [eL 60134] [] dX12_name_4 rfl rfl ok_X12_isWord in_X12_isWord (by decide) (by show 0 < 1; omega) ln_X12_301 (by omega) (Nat.le_of_ble_eq_true rfl) (c_iw_n g (d - 1) 10 60134 M hG (by decide) rfl (by omega)) (fun r4 M4 q4 => ?_)
  obtain ⟨rfl, e4⟩ := q4
  rw [e4]
  show Ez (true, g) mX12_name d 7 [(0, eR 12 0)] [eI (nI 0)] M _
  refine ez_nif_eq 10 15 dX12_name_7 rfl (by decide) (by omega) (fun h7 => ?_) (fun h7 => ?_)
  · refine ez_aload_n 16 dX12_name_15 rfl rfl ?_
    refine ez_ldc2 19 dX12_name_16 rfl 2432449 cn_X12_305 ?_
    refine ez_callV 22 [eL 2432449] [] dX12_name_19 rfl rfl ok_X12_isWord in_X12_isWord (by decide) (by show 0 < 1; omega) ln_X12_301 (by omega) (Nat.le_of_ble_eq_true rfl) (c_iw_y g (d - 1) 11 2432449 M hG (by decide) rfl (by omega)) (fun r19 M19 q19 => ?_)
    obtain ⟨rfl, e19⟩ := q19
    rw [e19]
    show Ez (true, g) mX12_name d 22 [(0, eR 12 0)] [eI (nI 1)] M _
    refine ez_nif_eq 25 30 dX12_name_22 rfl (by decide) (by omega) (fun h22 => ?_) (fun h22 => ?_)
    · exact absurd h22 (by decide)
    · refine ez_aload_n 26 dX12_name_25 rfl rfl ?_
      refine ez_getf 29 (eI (M.1 12 0 31)) dX12_name_26 rfl fl_X12_208 (by show 0 < 1; omega) rfl ?_
      refine ez_top (nm 1) (hG.1.2.2.2 1 (by decide)) ?_
      refine ez_iret .int dX12_name_29 rfl rfl ?_
      exact ⟨rfl, rfl⟩
  · exact absurd h7 (by decide)
set_option maxRecDepth 20000 in
theorem c_name12 (g : EzH) (d : Nat) {Tk Pl En : Nat → Nat} {N fr n : Nat} {b : Nat → Nat} {nm : Nat → Int32} {o k : Nat} (M : EzM) (hd : 2 ≤ d) (hG : MG Tk Pl En N fr n b nm o k M) (ht : Tk k = 12) : Ezc (true, g) mX12_name d [eR 12 0] M (fun r M' => r = some (eI (nm 2)) ∧ M' = M) := by
  refine Ezc.of (by decide +kernel) (Nat.le_of_ble_eq_true rfl) ?_
  show Ez (true, g) mX12_name d 0 [(0, eR 12 0)] [] M _
  refine ez_aload_n 1 dX12_name_0 rfl rfl ?_
  refine ez_ldc2 4 dX12_name_1 rfl 60134 cn_X12_299 ?_
  refine ez_callV 7 [eL 60134] [] dX12_name_4 rfl rfl ok_X12_isWord in_X12_isWord (by decide) (by show 0 < 1; omega) ln_X12_301 (by omega) (Nat.le_of_ble_eq_true rfl) (c_iw_n g (d - 1) 10 60134 M hG (by decide) rfl (by omega)) (fun r4 M4 q4 => ?_)
  obtain ⟨rfl, e4⟩ := q4
  rw [e4]
  show Ez (true, g) mX12_name d 7 [(0, eR 12 0)] [eI (nI 0)] M _
  refine ez_nif_eq 10 15 dX12_name_7 rfl (by decide) (by omega) (fun h7 => ?_) (fun h7 => ?_)
  · refine ez_aload_n 16 dX12_name_15 rfl rfl ?_
    refine ez_ldc2 19 dX12_name_16 rfl 2432449 cn_X12_305 ?_
    refine ez_callV 22 [eL 2432449] [] dX12_name_19 rfl rfl ok_X12_isWord in_X12_isWord (by decide) (by show 0 < 1; omega) ln_X12_301 (by omega) (Nat.le_of_ble_eq_true rfl) (c_iw_n g (d - 1) 11 2432449 M hG (by decide) rfl (by omega)) (fun r19 M19 q19 => ?_)
    obtain ⟨rfl, e19⟩ := q19
    rw [e19]
    show Ez (true, g) mX12_name d 22 [(0, eR 12 0)] [eI (nI 0)] M _
    refine ez_nif_eq 25 30 dX12_name_22 rfl (by decide) (by omega) (fun h22 => ?_) (fun h22 => ?_)
    · refine ez_aload_n 31 dX12_name_30 rfl rfl ?_
      refine ez_ldc2 34 dX12_name_31 rfl 6271583509 cn_X12_307 ?_
      refine ez_callV 37 [eL 6271583509] [] dX12_name_34 rfl rfl ok_X12_isWord in_X12_isWord (by decide) (by show 0 < 1; omega) ln_X12_301 (by omega) (Nat.le_of_ble_eq_true rfl) (c_iw_y g (d - 1) 12 6271583509 M hG (by decide) rfl (by omega)) (fun r34 M34 q34 => ?_)
      obtain ⟨rfl, e34⟩ := q34
      rw [e34]
      show Ez (true, g) mX12_name d 37 [(0, eR 12 0)] [eI (nI 1)] M _
      refine ez_nif_eq 40 45 dX12_name_37 rfl (by decide) (by omega) (fun h37 => ?_) (fun h37 => ?_)
      · exact absurd h37 (by decide)
      · refine ez_aload_n 41 dX12_name_40 rfl rfl ?_
        refine ez_getf 44 (eI (M.1 12 0 32)) dX12_name_41 rfl fl_X12_211 (by show 0 < 1; omega) rfl ?_
        refine ez_top (nm 2) (hG.1.2.2.2 2 (by decide)) ?_
        refine ez_iret .int dX12_name_44 rfl rfl ?_
        exact ⟨rfl, rfl⟩
    · exact absurd h22 (by decide)
  · exact absurd h7 (by decide)
set_option maxRecDepth 20000 in
theorem c_name13 (g : EzH) (d : Nat) {Tk Pl En : Nat → Nat} {N fr n : Nat} {b : Nat → Nat} {nm : Nat → Int32} {o k : Nat} (M : EzM) (hd : 2 ≤ d) (hG : MG Tk Pl En N fr n b nm o k M) (ht : Tk k = 13) : Ezc (true, g) mX12_name d [eR 12 0] M (fun r M' => r = some (eI (nm 3)) ∧ M' = M) := by
  refine Ezc.of (by decide +kernel) (Nat.le_of_ble_eq_true rfl) ?_
  show Ez (true, g) mX12_name d 0 [(0, eR 12 0)] [] M _
  refine ez_aload_n 1 dX12_name_0 rfl rfl ?_
  refine ez_ldc2 4 dX12_name_1 rfl 60134 cn_X12_299 ?_
  refine ez_callV 7 [eL 60134] [] dX12_name_4 rfl rfl ok_X12_isWord in_X12_isWord (by decide) (by show 0 < 1; omega) ln_X12_301 (by omega) (Nat.le_of_ble_eq_true rfl) (c_iw_n g (d - 1) 10 60134 M hG (by decide) rfl (by omega)) (fun r4 M4 q4 => ?_)
  obtain ⟨rfl, e4⟩ := q4
  rw [e4]
  show Ez (true, g) mX12_name d 7 [(0, eR 12 0)] [eI (nI 0)] M _
  refine ez_nif_eq 10 15 dX12_name_7 rfl (by decide) (by omega) (fun h7 => ?_) (fun h7 => ?_)
  · refine ez_aload_n 16 dX12_name_15 rfl rfl ?_
    refine ez_ldc2 19 dX12_name_16 rfl 2432449 cn_X12_305 ?_
    refine ez_callV 22 [eL 2432449] [] dX12_name_19 rfl rfl ok_X12_isWord in_X12_isWord (by decide) (by show 0 < 1; omega) ln_X12_301 (by omega) (Nat.le_of_ble_eq_true rfl) (c_iw_n g (d - 1) 11 2432449 M hG (by decide) rfl (by omega)) (fun r19 M19 q19 => ?_)
    obtain ⟨rfl, e19⟩ := q19
    rw [e19]
    show Ez (true, g) mX12_name d 22 [(0, eR 12 0)] [eI (nI 0)] M _
    refine ez_nif_eq 25 30 dX12_name_22 rfl (by decide) (by omega) (fun h22 => ?_) (fun h22 => ?_)
    · refine ez_aload_n 31 dX12_name_30 rfl rfl ?_
      refine ez_ldc2 34 dX12_name_31 rfl 6271583509 cn_X12_307 ?_
      refine ez_callV 37 [eL 6271583509] [] dX12_name_34 rfl rfl ok_X12_isWord in_X12_isWord (by decide) (by show 0 < 1; omega) ln_X12_301 (by omega) (Nat.le_of_ble_eq_true rfl) (c_iw_n g (d - 1) 12 6271583509 M hG (by decide) rfl (by omega)) (fun r34 M34 q34 => ?_)
      obtain ⟨rfl, e34⟩ := q34
      rw [e34]
      show Ez (true, g) mX12_name d 37 [(0, eR 12 0)] [eI (nI 0)] M _
      refine ez_nif_eq 40 45 dX12_name_37 rfl (by decide) (by omega) (fun h37 => ?_) (fun h37 => ?_)
      · refine ez_aload_n 46 dX12_name_45 rfl rfl ?_
        refine ez_ldc2 49 dX12_name_46 rfl 1492 cn_X12_309 ?_
        refine ez_callV 52 [eL 1492] [] dX12_name_49 rfl rfl ok_X12_isWord in_X12_isWord (by decide) (by show 0 < 1; omega) ln_X12_301 (by omega) (Nat.le_of_ble_eq_true rfl) (c_iw_y g (d - 1) 13 1492 M hG (by decide) rfl (by omega)) (fun r49 M49 q49 => ?_)
        obtain ⟨rfl, e49⟩ := q49
        rw [e49]
        show Ez (true, g) mX12_name d 52 [(0, eR 12 0)] [eI (nI 1)] M _
        refine ez_nif_eq 55 60 dX12_name_52 rfl (by decide) (by omega) (fun h52 => ?_) (fun h52 => ?_)
        · exact absurd h52 (by decide)
        · refine ez_aload_n 56 dX12_name_55 rfl rfl ?_
          refine ez_getf 59 (eI (M.1 12 0 33)) dX12_name_56 rfl fl_X12_214 (by show 0 < 1; omega) rfl ?_
          refine ez_top (nm 3) (hG.1.2.2.2 3 (by decide)) ?_
          refine ez_iret .int dX12_name_59 rfl rfl ?_
          exact ⟨rfl, rfl⟩
      · exact absurd h37 (by decide)
    · exact absurd h22 (by decide)
  · exact absurd h7 (by decide)
set_option maxRecDepth 20000 in
theorem c_name14 (g : EzH) (d : Nat) {Tk Pl En : Nat → Nat} {N fr n : Nat} {b : Nat → Nat} {nm : Nat → Int32} {o k : Nat} (M : EzM) (hd : 2 ≤ d) (hG : MG Tk Pl En N fr n b nm o k M) (ht : Tk k = 14) : Ezc (true, g) mX12_name d [eR 12 0] M (fun r M' => r = some (eI (nm 4)) ∧ M' = M) := by
  refine Ezc.of (by decide +kernel) (Nat.le_of_ble_eq_true rfl) ?_
  show Ez (true, g) mX12_name d 0 [(0, eR 12 0)] [] M _
  refine ez_aload_n 1 dX12_name_0 rfl rfl ?_
  refine ez_ldc2 4 dX12_name_1 rfl 60134 cn_X12_299 ?_
  refine ez_callV 7 [eL 60134] [] dX12_name_4 rfl rfl ok_X12_isWord in_X12_isWord (by decide) (by show 0 < 1; omega) ln_X12_301 (by omega) (Nat.le_of_ble_eq_true rfl) (c_iw_n g (d - 1) 10 60134 M hG (by decide) rfl (by omega)) (fun r4 M4 q4 => ?_)
  obtain ⟨rfl, e4⟩ := q4
  rw [e4]
  show Ez (true, g) mX12_name d 7 [(0, eR 12 0)] [eI (nI 0)] M _
  refine ez_nif_eq 10 15 dX12_name_7 rfl (by decide) (by omega) (fun h7 => ?_) (fun h7 => ?_)
  · refine ez_aload_n 16 dX12_name_15 rfl rfl ?_
    refine ez_ldc2 19 dX12_name_16 rfl 2432449 cn_X12_305 ?_
    refine ez_callV 22 [eL 2432449] [] dX12_name_19 rfl rfl ok_X12_isWord in_X12_isWord (by decide) (by show 0 < 1; omega) ln_X12_301 (by omega) (Nat.le_of_ble_eq_true rfl) (c_iw_n g (d - 1) 11 2432449 M hG (by decide) rfl (by omega)) (fun r19 M19 q19 => ?_)
    obtain ⟨rfl, e19⟩ := q19
    rw [e19]
    show Ez (true, g) mX12_name d 22 [(0, eR 12 0)] [eI (nI 0)] M _
    refine ez_nif_eq 25 30 dX12_name_22 rfl (by decide) (by omega) (fun h22 => ?_) (fun h22 => ?_)
    · refine ez_aload_n 31 dX12_name_30 rfl rfl ?_
      refine ez_ldc2 34 dX12_name_31 rfl 6271583509 cn_X12_307 ?_
      refine ez_callV 37 [eL 6271583509] [] dX12_name_34 rfl rfl ok_X12_isWord in_X12_isWord (by decide) (by show 0 < 1; omega) ln_X12_301 (by omega) (Nat.le_of_ble_eq_true rfl) (c_iw_n g (d - 1) 12 6271583509 M hG (by decide) rfl (by omega)) (fun r34 M34 q34 => ?_)
      obtain ⟨rfl, e34⟩ := q34
      rw [e34]
      show Ez (true, g) mX12_name d 37 [(0, eR 12 0)] [eI (nI 0)] M _
      refine ez_nif_eq 40 45 dX12_name_37 rfl (by decide) (by omega) (fun h37 => ?_) (fun h37 => ?_)
      · refine ez_aload_n 46 dX12_name_45 rfl rfl ?_
        refine ez_ldc2 49 dX12_name_46 rfl 1492 cn_X12_309 ?_
        refine ez_callV 52 [eL 1492] [] dX12_name_49 rfl rfl ok_X12_isWord in_X12_isWord (by decide) (by show 0 < 1; omega) ln_X12_301 (by omega) (Nat.le_of_ble_eq_true rfl) (c_iw_n g (d - 1) 13 1492 M hG (by decide) rfl (by omega)) (fun r49 M49 q49 => ?_)
        obtain ⟨rfl, e49⟩ := q49
        rw [e49]
        show Ez (true, g) mX12_name d 52 [(0, eR 12 0)] [eI (nI 0)] M _
        refine ez_nif_eq 55 60 dX12_name_52 rfl (by decide) (by omega) (fun h52 => ?_) (fun h52 => ?_)
        · refine ez_aload_n 61 dX12_name_60 rfl rfl ?_
          refine ez_ldc2 64 dX12_name_61 rfl 388708 cn_X12_311 ?_
          refine ez_callV 67 [eL 388708] [] dX12_name_64 rfl rfl ok_X12_isWord in_X12_isWord (by decide) (by show 0 < 1; omega) ln_X12_301 (by omega) (Nat.le_of_ble_eq_true rfl) (c_iw_y g (d - 1) 14 388708 M hG (by decide) rfl (by omega)) (fun r64 M64 q64 => ?_)
          obtain ⟨rfl, e64⟩ := q64
          rw [e64]
          show Ez (true, g) mX12_name d 67 [(0, eR 12 0)] [eI (nI 1)] M _
          refine ez_nif_eq 70 75 dX12_name_67 rfl (by decide) (by omega) (fun h67 => ?_) (fun h67 => ?_)
          · exact absurd h67 (by decide)
          · refine ez_aload_n 71 dX12_name_70 rfl rfl ?_
            refine ez_getf 74 (eI (M.1 12 0 34)) dX12_name_71 rfl fl_X12_221 (by show 0 < 1; omega) rfl ?_
            refine ez_top (nm 4) (hG.1.2.2.2 4 (by decide)) ?_
            refine ez_iret .int dX12_name_74 rfl rfl ?_
            exact ⟨rfl, rfl⟩
        · exact absurd h52 (by decide)
      · exact absurd h37 (by decide)
    · exact absurd h22 (by decide)
  · exact absurd h7 (by decide)
set_option maxRecDepth 20000 in
theorem c_name15 (g : EzH) (d : Nat) {Tk Pl En : Nat → Nat} {N fr n : Nat} {b : Nat → Nat} {nm : Nat → Int32} {o k : Nat} (M : EzM) (hd : 2 ≤ d) (hG : MG Tk Pl En N fr n b nm o k M) (ht : Tk k = 15) : Ezc (true, g) mX12_name d [eR 12 0] M (fun r M' => r = some (eI (nm 5)) ∧ M' = M) := by
  refine Ezc.of (by decide +kernel) (Nat.le_of_ble_eq_true rfl) ?_
  show Ez (true, g) mX12_name d 0 [(0, eR 12 0)] [] M _
  refine ez_aload_n 1 dX12_name_0 rfl rfl ?_
  refine ez_ldc2 4 dX12_name_1 rfl 60134 cn_X12_299 ?_
  refine ez_callV 7 [eL 60134] [] dX12_name_4 rfl rfl ok_X12_isWord in_X12_isWord (by decide) (by show 0 < 1; omega) ln_X12_301 (by omega) (Nat.le_of_ble_eq_true rfl) (c_iw_n g (d - 1) 10 60134 M hG (by decide) rfl (by omega)) (fun r4 M4 q4 => ?_)
  obtain ⟨rfl, e4⟩ := q4
  rw [e4]
  show Ez (true, g) mX12_name d 7 [(0, eR 12 0)] [eI (nI 0)] M _
  refine ez_nif_eq 10 15 dX12_name_7 rfl (by decide) (by omega) (fun h7 => ?_) (fun h7 => ?_)
  · refine ez_aload_n 16 dX12_name_15 rfl rfl ?_
    refine ez_ldc2 19 dX12_name_16 rfl 2432449 cn_X12_305 ?_
    refine ez_callV 22 [eL 2432449] [] dX12_name_19 rfl rfl ok_X12_isWord in_X12_isWord (by decide) (by show 0 < 1; omega) ln_X12_301 (by omega) (Nat.le_of_ble_eq_true rfl) (c_iw_n g (d - 1) 11 2432449 M hG (by decide) rfl (by omega)) (fun r19 M19 q19 => ?_)
    obtain ⟨rfl, e19⟩ := q19
    rw [e19]
    show Ez (true, g) mX12_name d 22 [(0, eR 12 0)] [eI (nI 0)] M _
    refine ez_nif_eq 25 30 dX12_name_22 rfl (by decide) (by omega) (fun h22 => ?_) (fun h22 => ?_)
    · refine ez_aload_n 31 dX12_name_30 rfl rfl ?_
      refine ez_ldc2 34 dX12_name_31 rfl 6271583509 cn_X12_307 ?_
      refine ez_callV 37 [eL 6271583509] [] dX12_name_34 rfl rfl ok_X12_isWord in_X12_isWord (by decide) (by show 0 < 1; omega) ln_X12_301 (by omega) (Nat.le_of_ble_eq_true rfl) (c_iw_n g (d - 1) 12 6271583509 M hG (by decide) rfl (by omega)) (fun r34 M34 q34 => ?_)
      obtain ⟨rfl, e34⟩ := q34
      rw [e34]
      show Ez (true, g) mX12_name d 37 [(0, eR 12 0)] [eI (nI 0)] M _
      refine ez_nif_eq 40 45 dX12_name_37 rfl (by decide) (by omega) (fun h37 => ?_) (fun h37 => ?_)
      · refine ez_aload_n 46 dX12_name_45 rfl rfl ?_
        refine ez_ldc2 49 dX12_name_46 rfl 1492 cn_X12_309 ?_
        refine ez_callV 52 [eL 1492] [] dX12_name_49 rfl rfl ok_X12_isWord in_X12_isWord (by decide) (by show 0 < 1; omega) ln_X12_301 (by omega) (Nat.le_of_ble_eq_true rfl) (c_iw_n g (d - 1) 13 1492 M hG (by decide) rfl (by omega)) (fun r49 M49 q49 => ?_)
        obtain ⟨rfl, e49⟩ := q49
        rw [e49]
        show Ez (true, g) mX12_name d 52 [(0, eR 12 0)] [eI (nI 0)] M _
        refine ez_nif_eq 55 60 dX12_name_52 rfl (by decide) (by omega) (fun h52 => ?_) (fun h52 => ?_)
        · refine ez_aload_n 61 dX12_name_60 rfl rfl ?_
          refine ez_ldc2 64 dX12_name_61 rfl 388708 cn_X12_311 ?_
          refine ez_callV 67 [eL 388708] [] dX12_name_64 rfl rfl ok_X12_isWord in_X12_isWord (by decide) (by show 0 < 1; omega) ln_X12_301 (by omega) (Nat.le_of_ble_eq_true rfl) (c_iw_n g (d - 1) 14 388708 M hG (by decide) rfl (by omega)) (fun r64 M64 q64 => ?_)
          obtain ⟨rfl, e64⟩ := q64
          rw [e64]
          show Ez (true, g) mX12_name d 67 [(0, eR 12 0)] [eI (nI 0)] M _
          refine ez_nif_eq 70 75 dX12_name_67 rfl (by decide) (by omega) (fun h67 => ?_) (fun h67 => ?_)
          · refine ez_aload_n 76 dX12_name_75 rfl rfl ?_
            refine ez_ldc2 79 dX12_name_76 rfl 212302449 cn_X12_313 ?_
            refine ez_callV 82 [eL 212302449] [] dX12_name_79 rfl rfl ok_X12_isWord in_X12_isWord (by decide) (by show 0 < 1; omega) ln_X12_301 (by omega) (Nat.le_of_ble_eq_true rfl) (c_iw_y g (d - 1) 15 212302449 M hG (by decide) rfl (by omega)) (fun r79 M79 q79 => ?_)
            obtain ⟨rfl, e79⟩ := q79
            rw [e79]
            show Ez (true, g) mX12_name d 82 [(0, eR 12 0)] [eI (nI 1)] M _
            refine ez_nif_eq 85 90 dX12_name_82 rfl (by decide) (by omega) (fun h82 => ?_) (fun h82 => ?_)
            · exact absurd h82 (by decide)
            · refine ez_aload_n 86 dX12_name_85 rfl rfl ?_
              refine ez_getf 89 (eI (M.1 12 0 35)) dX12_name_86 rfl fl_X12_224 (by show 0 < 1; omega) rfl ?_
              refine ez_top (nm 5) (hG.1.2.2.2 5 (by decide)) ?_
              refine ez_iret .int dX12_name_89 rfl rfl ?_
              exact ⟨rfl, rfl⟩
          · exact absurd h67 (by decide)
        · exact absurd h52 (by decide)
      · exact absurd h37 (by decide)
    · exact absurd h22 (by decide)
  · exact absurd h7 (by decide)
set_option maxRecDepth 20000 in
theorem c_namen (g : EzH) (d : Nat) {Tk Pl En : Nat → Nat} {N fr n : Nat} {b : Nat → Nat} {nm : Nat → Int32} {o k : Nat} (M : EzM) (hd : 2 ≤ d) (hG : MG Tk Pl En N fr n b nm o k M) (ht : ¬ (10 ≤ Tk k ∧ Tk k < 16)) : Ezc (true, g) mX12_name d [eR 12 0] M (fun r M' => r = some (eI (nI 0)) ∧ MF M M' ∧ MB (Pl k) o M') := by
  refine Ezc.of (by decide +kernel) (Nat.le_of_ble_eq_true rfl) ?_
  show Ez (true, g) mX12_name d 0 [(0, eR 12 0)] [] M _
  refine ez_aload_n 1 dX12_name_0 rfl rfl ?_
  refine ez_ldc2 4 dX12_name_1 rfl 60134 cn_X12_299 ?_
  refine ez_callV 7 [eL 60134] [] dX12_name_4 rfl rfl ok_X12_isWord in_X12_isWord (by decide) (by show 0 < 1; omega) ln_X12_301 (by omega) (Nat.le_of_ble_eq_true rfl) (c_iw_n g (d - 1) 10 60134 M hG (by decide) rfl (by omega)) (fun r4 M4 q4 => ?_)
  obtain ⟨rfl, e4⟩ := q4
  rw [e4]
  show Ez (true, g) mX12_name d 7 [(0, eR 12 0)] [eI (nI 0)] M _
  refine ez_nif_eq 10 15 dX12_name_7 rfl (by decide) (by omega) (fun h7 => ?_) (fun h7 => ?_)
  · refine ez_aload_n 16 dX12_name_15 rfl rfl ?_
    refine ez_ldc2 19 dX12_name_16 rfl 2432449 cn_X12_305 ?_
    refine ez_callV 22 [eL 2432449] [] dX12_name_19 rfl rfl ok_X12_isWord in_X12_isWord (by decide) (by show 0 < 1; omega) ln_X12_301 (by omega) (Nat.le_of_ble_eq_true rfl) (c_iw_n g (d - 1) 11 2432449 M hG (by decide) rfl (by omega)) (fun r19 M19 q19 => ?_)
    obtain ⟨rfl, e19⟩ := q19
    rw [e19]
    show Ez (true, g) mX12_name d 22 [(0, eR 12 0)] [eI (nI 0)] M _
    refine ez_nif_eq 25 30 dX12_name_22 rfl (by decide) (by omega) (fun h22 => ?_) (fun h22 => ?_)
    · refine ez_aload_n 31 dX12_name_30 rfl rfl ?_
      refine ez_ldc2 34 dX12_name_31 rfl 6271583509 cn_X12_307 ?_
      refine ez_callV 37 [eL 6271583509] [] dX12_name_34 rfl rfl ok_X12_isWord in_X12_isWord (by decide) (by show 0 < 1; omega) ln_X12_301 (by omega) (Nat.le_of_ble_eq_true rfl) (c_iw_n g (d - 1) 12 6271583509 M hG (by decide) rfl (by omega)) (fun r34 M34 q34 => ?_)
      obtain ⟨rfl, e34⟩ := q34
      rw [e34]
      show Ez (true, g) mX12_name d 37 [(0, eR 12 0)] [eI (nI 0)] M _
      refine ez_nif_eq 40 45 dX12_name_37 rfl (by decide) (by omega) (fun h37 => ?_) (fun h37 => ?_)
      · refine ez_aload_n 46 dX12_name_45 rfl rfl ?_
        refine ez_ldc2 49 dX12_name_46 rfl 1492 cn_X12_309 ?_
        refine ez_callV 52 [eL 1492] [] dX12_name_49 rfl rfl ok_X12_isWord in_X12_isWord (by decide) (by show 0 < 1; omega) ln_X12_301 (by omega) (Nat.le_of_ble_eq_true rfl) (c_iw_n g (d - 1) 13 1492 M hG (by decide) rfl (by omega)) (fun r49 M49 q49 => ?_)
        obtain ⟨rfl, e49⟩ := q49
        rw [e49]
        show Ez (true, g) mX12_name d 52 [(0, eR 12 0)] [eI (nI 0)] M _
        refine ez_nif_eq 55 60 dX12_name_52 rfl (by decide) (by omega) (fun h52 => ?_) (fun h52 => ?_)
        · refine ez_aload_n 61 dX12_name_60 rfl rfl ?_
          refine ez_ldc2 64 dX12_name_61 rfl 388708 cn_X12_311 ?_
          refine ez_callV 67 [eL 388708] [] dX12_name_64 rfl rfl ok_X12_isWord in_X12_isWord (by decide) (by show 0 < 1; omega) ln_X12_301 (by omega) (Nat.le_of_ble_eq_true rfl) (c_iw_n g (d - 1) 14 388708 M hG (by decide) rfl (by omega)) (fun r64 M64 q64 => ?_)
          obtain ⟨rfl, e64⟩ := q64
          rw [e64]
          show Ez (true, g) mX12_name d 67 [(0, eR 12 0)] [eI (nI 0)] M _
          refine ez_nif_eq 70 75 dX12_name_67 rfl (by decide) (by omega) (fun h67 => ?_) (fun h67 => ?_)
          · refine ez_aload_n 76 dX12_name_75 rfl rfl ?_
            refine ez_ldc2 79 dX12_name_76 rfl 212302449 cn_X12_313 ?_
            refine ez_callV 82 [eL 212302449] [] dX12_name_79 rfl rfl ok_X12_isWord in_X12_isWord (by decide) (by show 0 < 1; omega) ln_X12_301 (by omega) (Nat.le_of_ble_eq_true rfl) (c_iw_n g (d - 1) 15 212302449 M hG (by decide) rfl (by omega)) (fun r79 M79 q79 => ?_)
            obtain ⟨rfl, e79⟩ := q79
            rw [e79]
            show Ez (true, g) mX12_name d 82 [(0, eR 12 0)] [eI (nI 0)] M _
            refine ez_nif_eq 85 90 dX12_name_82 rfl (by decide) (by omega) (fun h82 => ?_) (fun h82 => ?_)
            · refine ez_aload_n 91 dX12_name_90 rfl rfl ?_
              refine ez_callV 94 [] [] dX12_name_91 rfl rfl ok_X12_fail in_X12_fail (by decide) (by show 0 < 1; omega) ln_X12_293 (by omega) (Nat.le_of_ble_eq_true rfl) (c_fail g (d - 1) M hG) (fun r91 M91 q91 => ?_)
              obtain ⟨rfl, f91, g91⟩ := q91
              show Ez (true, g) mX12_name d 94 [(0, eR 12 0)] [] M91 _
              refine ez_iconst 95 dX12_name_94 rfl (nI 0) (by decide) ?_
              refine ez_iret .int dX12_name_95 rfl rfl ?_
              exact ⟨rfl, (MF.rf.tr f91), g91⟩
            · exact absurd h82 (by decide)
          · exact absurd h67 (by decide)
        · exact absurd h52 (by decide)
      · exact absurd h37 (by decide)
    · exact absurd h22 (by decide)
  · exact absurd h7 (by decide)
theorem c_name (g : EzH) (d : Nat) {Tk Pl En : Nat → Nat} {N fr n : Nat} {b : Nat → Nat} {nm : Nat → Int32} {o k : Nat} (M : EzM) (hd : 2 ≤ d) (hG : MG Tk Pl En N fr n b nm o k M) (ht : 10 ≤ Tk k ∧ Tk k < 16) : Ezc (true, g) mX12_name d [eR 12 0] M (fun r M' => r = some (eI (nm (Tk k - 10))) ∧ M' = M) := by
  rcases (show Tk k = 10 ∨ Tk k = 11 ∨ Tk k = 12 ∨ Tk k = 13 ∨ Tk k = 14 ∨ Tk k = 15 by omega) with h | h | h | h | h | h
  · rw [h]; exact c_name10 g d M hd hG h
  · rw [h]; exact c_name11 g d M hd hG h
  · rw [h]; exact c_name12 g d M hd hG h
  · rw [h]; exact c_name13 g d M hd hG h
  · rw [h]; exact c_name14 g d M hd hG h
  · rw [h]; exact c_name15 g d M hd hG h
set_option maxRecDepth 20000 in
theorem mb_one (g : EzH) (d : Nat) {f o : Nat} (M : EzM) (hd : 2 ≤ d) (hB : MB f o M) : Ezc (true, g) mX12_one d [eR 12 0] M (fun r M' => MF M M' ∧ (∃ w : Int32, r = some (eI w)) ∧ MB f o M') := by
  refine Ezc.of (by decide +kernel) (Nat.le_of_ble_eq_true rfl) ?_
  show Ez (true, g) mX12_one d 0 [(0, eR 12 0)] [] M _
  refine ez_iconst 1 dX12_one_0 rfl (nI 0) (by decide) ?_
  refine ez_istore_n 2 [(1, eI (nI 0)), (0, eR 12 0)] dX12_one_1 rfl (by decide) rfl ?_
  refine ez_aload_n 3 dX12_one_2 rfl rfl ?_
  refine ez_bipush 5 dX12_one_3 rfl (nI 45) (by decide) ?_
  refine ez_callV 8 [eI (nI 45)] [] dX12_one_5 rfl rfl ok_X12_isSign in_X12_isSign (by decide) (by show 0 < 1; omega) ln_X12_315 (by omega) (Nat.le_of_ble_eq_true rfl) (c_is_b g (d - 1) (nI 45) M hB) (fun r5 M5 q5 => ?_)
  obtain ⟨rfl, e5⟩ := q5
  rw [e5]
  show Ez (true, g) mX12_one d 8 [(1, eI (nI 0)), (0, eR 12 0)] [eI (nI 0)] M _
  refine ez_nif_eq 11 37 dX12_one_8 rfl (by decide) (by omega) (fun h8 => ?_) (fun h8 => ?_)
  · refine ez_aload_n 38 dX12_one_37 rfl rfl ?_
    refine ez_bipush 40 dX12_one_38 rfl (nI 40) (by decide) ?_
    refine ez_callV 43 [eI (nI 40)] [] dX12_one_40 rfl rfl ok_X12_isSign in_X12_isSign (by decide) (by show 0 < 1; omega) ln_X12_315 (by omega) (Nat.le_of_ble_eq_true rfl) (c_is_b g (d - 1) (nI 40) M hB) (fun r40 M40 q40 => ?_)
    obtain ⟨rfl, e40⟩ := q40
    rw [e40]
    show Ez (true, g) mX12_one d 43 [(1, eI (nI 0)), (0, eR 12 0)] [eI (nI 0)] M _
    refine ez_nif_eq 46 95 dX12_one_43 rfl (by decide) (by omega) (fun h43 => ?_) (fun h43 => ?_)
    · refine ez_aload_n 96 dX12_one_95 rfl rfl ?_
      refine ez_getf 99 (eI (M.1 12 0 28)) dX12_one_96 rfl fl_X12_284 (by show 0 < 1; omega) rfl ?_
      refine ez_top (nI 1) hB.1 ?_
      refine ez_nif_ne 102 123 dX12_one_99 rfl (by decide) (by omega) (fun h99 => ?_) (fun h99 => ?_)
      · refine ez_aload_n 124 dX12_one_123 rfl rfl ?_
        refine ez_getf 127 (eI (M.1 12 0 28)) dX12_one_124 rfl fl_X12_284 (by show 0 < 1; omega) rfl ?_
        refine ez_top (nI 1) hB.1 ?_
        refine ez_nif_ne 130 157 dX12_one_127 rfl (by decide) (by omega) (fun h127 => ?_) (fun h127 => ?_)
        · refine ez_aload_n 158 dX12_one_157 rfl rfl ?_
          refine ez_callV 161 [] [] dX12_one_158 rfl rfl ok_X12_fail in_X12_fail (by decide) (by show 0 < 1; omega) ln_X12_293 (by omega) (Nat.le_of_ble_eq_true rfl) (c_failb g (d - 1) M hB) (fun r158 M158 q158 => ?_)
          obtain ⟨rfl, f158, g158⟩ := q158
          show Ez (true, g) mX12_one d 161 [(1, eI (nI 0)), (0, eR 12 0)] [] M158 _
          refine ez_iload_n 162 dX12_one_161 rfl rfl ?_
          refine ez_iret .int dX12_one_162 rfl rfl ?_
          exact ⟨(MF.rf.tr f158), ⟨_, rfl⟩, g158⟩
        · exact absurd h127 (by decide)
      · exact absurd h99 (by decide)
    · exact absurd h43 (by decide)
  · exact absurd h8 (by decide)
set_option maxRecDepth 20000 in
theorem ml_term (g : EzH) (d : Nat) (f o : Nat) (y : Int32) (M0 M : EzM) (hd : 1 ≤ d) (hF : MF M0 M) (hB : MB f o M) : Ez (true, g) mX12_term d 5 [(1, eI y), (0, eR 12 0)] [] M (fun r M' => MF M0 M' ∧ (∃ w : Int32, r = some (eI w)) ∧ MB f o M') := by
  refine ez_aload_n 6 dX12_term_5 rfl rfl ?_
  refine ez_bipush 8 dX12_term_6 rfl (nI 42) (by decide) ?_
  refine ez_callV 11 [eI (nI 42)] [] dX12_term_8 rfl rfl ok_X12_isSign in_X12_isSign (by decide) (by show 0 < 1; omega) ln_X12_315 (by omega) (Nat.le_of_ble_eq_true rfl) (c_is_b g (d - 1) (nI 42) M hB) (fun r8 M8 q8 => ?_)
  obtain ⟨rfl, e8⟩ := q8
  rw [e8]
  show Ez (true, g) mX12_term d 11 [(1, eI y), (0, eR 12 0)] [eI (nI 0)] M _
  refine ez_nif_eq 14 28 dX12_term_11 rfl (by decide) (by omega) (fun h11 => ?_) (fun h11 => ?_)
  · refine ez_iload_n 29 dX12_term_28 rfl rfl ?_
    refine ez_iret .int dX12_term_29 rfl rfl ?_
    exact ⟨hF, ⟨_, rfl⟩, hB⟩
  · exact absurd h11 (by decide)
set_option maxRecDepth 20000 in
theorem mb_term (g : EzH) (d : Nat) {f o : Nat} (M : EzM) (hd : 3 ≤ d) (hB : MB f o M) : Ezc (true, g) mX12_term d [eR 12 0] M (fun r M' => MF M M' ∧ (∃ w : Int32, r = some (eI w)) ∧ MB f o M') := by
  refine Ezc.of (by decide +kernel) (Nat.le_of_ble_eq_true rfl) ?_
  show Ez (true, g) mX12_term d 0 [(0, eR 12 0)] [] M _
  refine ez_aload_n 1 dX12_term_0 rfl rfl ?_
  refine ez_callV 4 [] [] dX12_term_1 rfl rfl ok_X12_one in_X12_one (by decide) (by show 0 < 1; omega) ln_X12_322 (by omega) (Nat.le_of_ble_eq_true rfl) (mb_one g (d - 1) M (by omega) hB) (fun r1 M1 q1 => ?_)
  obtain ⟨f1, ⟨v1, rfl⟩, g1⟩ := q1
  show Ez (true, g) mX12_term d 4 [(0, eR 12 0)] [eI v1] M1 _
  refine ez_istore_n 5 [(1, eI v1), (0, eR 12 0)] dX12_term_4 rfl (by decide) rfl ?_
  exact ml_term g d f o _ M _ (by omega) (MF.rf.tr f1) g1
set_option maxRecDepth 20000 in
theorem ml_added (g : EzH) (d : Nat) (f o : Nat) (y : Int32) (M0 M : EzM) (hd : 1 ≤ d) (hF : MF M0 M) (hB : MB f o M) : Ez (true, g) mX12_added d 5 [(1, eI y), (0, eR 12 0)] [] M (fun r M' => MF M0 M' ∧ (∃ w : Int32, r = some (eI w)) ∧ MB f o M') := by
  refine ez_aload_n 6 dX12_added_5 rfl rfl ?_
  refine ez_bipush 8 dX12_added_6 rfl (nI 43) (by decide) ?_
  refine ez_callV 11 [eI (nI 43)] [] dX12_added_8 rfl rfl ok_X12_isSign in_X12_isSign (by decide) (by show 0 < 1; omega) ln_X12_315 (by omega) (Nat.le_of_ble_eq_true rfl) (c_is_b g (d - 1) (nI 43) M hB) (fun r8 M8 q8 => ?_)
  obtain ⟨rfl, e8⟩ := q8
  rw [e8]
  show Ez (true, g) mX12_added d 11 [(1, eI y), (0, eR 12 0)] [eI (nI 0)] M _
  refine ez_nif_ne 14 23 dX12_added_11 rfl (by decide) (by omega) (fun h11 => ?_) (fun h11 => ?_)
  · exact absurd h11 (by decide)
  · refine ez_aload_n 15 dX12_added_14 rfl rfl ?_
    refine ez_bipush 17 dX12_added_15 rfl (nI 45) (by decide) ?_
    refine ez_callV 20 [eI (nI 45)] [] dX12_added_17 rfl rfl ok_X12_isSign in_X12_isSign (by decide) (by show 0 < 1; omega) ln_X12_315 (by omega) (Nat.le_of_ble_eq_true rfl) (c_is_b g (d - 1) (nI 45) M hB) (fun r17 M17 q17 => ?_)
    obtain ⟨rfl, e17⟩ := q17
    rw [e17]
    show Ez (true, g) mX12_added d 20 [(1, eI y), (0, eR 12 0)] [eI (nI 0)] M _
    refine ez_nif_eq 23 66 dX12_added_20 rfl (by decide) (by omega) (fun h20 => ?_) (fun h20 => ?_)
    · refine ez_iload_n 67 dX12_added_66 rfl rfl ?_
      refine ez_iret .int dX12_added_67 rfl rfl ?_
      exact ⟨hF, ⟨_, rfl⟩, hB⟩
    · exact absurd h20 (by decide)
set_option maxRecDepth 20000 in
theorem mb_added (g : EzH) (d : Nat) {f o : Nat} (M : EzM) (hd : 4 ≤ d) (hB : MB f o M) : Ezc (true, g) mX12_added d [eR 12 0] M (fun r M' => MF M M' ∧ (∃ w : Int32, r = some (eI w)) ∧ MB f o M') := by
  refine Ezc.of (by decide +kernel) (Nat.le_of_ble_eq_true rfl) ?_
  show Ez (true, g) mX12_added d 0 [(0, eR 12 0)] [] M _
  refine ez_aload_n 1 dX12_added_0 rfl rfl ?_
  refine ez_callV 4 [] [] dX12_added_1 rfl rfl ok_X12_term in_X12_term (by decide) (by show 0 < 1; omega) ln_X12_331 (by omega) (Nat.le_of_ble_eq_true rfl) (mb_term g (d - 1) M (by omega) hB) (fun r1 M1 q1 => ?_)
  obtain ⟨f1, ⟨v1, rfl⟩, g1⟩ := q1
  show Ez (true, g) mX12_added d 4 [(0, eR 12 0)] [eI v1] M1 _
  refine ez_istore_n 5 [(1, eI v1), (0, eR 12 0)] dX12_added_4 rfl (by decide) rfl ?_
  exact ml_added g d f o _ M _ (by omega) (MF.rf.tr f1) g1
set_option maxRecDepth 20000 in
theorem mb_not (g : EzH) (d : Nat) {f o : Nat} (M : EzM) (hd : 5 ≤ d) (hB : MB f o M) : Ezc (true, g) mX12_not d [eR 12 0] M (fun r M' => MF M M' ∧ (∃ w : Int32, r = some (eI w)) ∧ MB f o M') := by
  refine Ezc.of (by decide +kernel) (Nat.le_of_ble_eq_true rfl) ?_
  show Ez (true, g) mX12_not d 0 [(0, eR 12 0)] [] M _
  refine ez_aload_n 1 dX12_not_0 rfl rfl ?_
  refine ez_ldc2 4 dX12_not_1 rfl 10631 cn_X12_336 ?_
  refine ez_callV 7 [eL 10631] [] dX12_not_4 rfl rfl ok_X12_isWord in_X12_isWord (by decide) (by show 0 < 1; omega) ln_X12_301 (by omega) (Nat.le_of_ble_eq_true rfl) (c_iw_b g (d - 1) 10631 M hB) (fun r4 M4 q4 => ?_)
  obtain ⟨rfl, e4⟩ := q4
  rw [e4]
  show Ez (true, g) mX12_not d 7 [(0, eR 12 0)] [eI (nI 0)] M _
  refine ez_nif_eq 10 44 dX12_not_7 rfl (by decide) (by omega) (fun h7 => ?_) (fun h7 => ?_)
  · refine ez_aload_n 45 dX12_not_44 rfl rfl ?_
    refine ez_callV 48 [] [] dX12_not_45 rfl rfl ok_X12_added in_X12_added (by decide) (by show 0 < 1; omega) ln_X12_341 (by omega) (Nat.le_of_ble_eq_true rfl) (mb_added g (d - 1) M (by omega) hB) (fun r45 M45 q45 => ?_)
    obtain ⟨f45, ⟨v45, rfl⟩, g45⟩ := q45
    show Ez (true, g) mX12_not d 48 [(0, eR 12 0)] [eI v45] M45 _
    refine ez_istore_n 49 [(1, eI v45), (0, eR 12 0)] dX12_not_48 rfl (by decide) rfl ?_
    refine ez_aload_n 50 dX12_not_49 rfl rfl ?_
    refine ez_bipush 52 dX12_not_50 rfl (nI 60) (by decide) ?_
    refine ez_callV 55 [eI (nI 60)] [] dX12_not_52 rfl rfl ok_X12_isSign in_X12_isSign (by decide) (by show 0 < 1; omega) ln_X12_315 (by omega) (Nat.le_of_ble_eq_true rfl) (c_is_b g (d - 1) (nI 60) M45 g45) (fun r52 M52 q52 => ?_)
    obtain ⟨rfl, e52⟩ := q52
    rw [e52]
    show Ez (true, g) mX12_not d 55 [(1, eI v45), (0, eR 12 0)] [eI (nI 0)] M45 _
    refine ez_nif_ne 58 69 dX12_not_55 rfl (by decide) (by omega) (fun h55 => ?_) (fun h55 => ?_)
    · exact absurd h55 (by decide)
    · refine ez_aload_n 59 dX12_not_58 rfl rfl ?_
      refine ez_bipush 61 dX12_not_59 rfl (nI 61) (by decide) ?_
      refine ez_callV 64 [eI (nI 61)] [] dX12_not_61 rfl rfl ok_X12_isSign in_X12_isSign (by decide) (by show 0 < 1; omega) ln_X12_315 (by omega) (Nat.le_of_ble_eq_true rfl) (c_is_b g (d - 1) (nI 61) M45 g45) (fun r61 M61 q61 => ?_)
      obtain ⟨rfl, e61⟩ := q61
      rw [e61]
      show Ez (true, g) mX12_not d 64 [(1, eI v45), (0, eR 12 0)] [eI (nI 0)] M45 _
      refine ez_nif_ne 67 69 dX12_not_64 rfl (by decide) (by omega) (fun h64 => ?_) (fun h64 => ?_)
      · exact absurd h64 (by decide)
      · refine ez_iload_n 68 dX12_not_67 rfl rfl ?_
        refine ez_iret .int dX12_not_68 rfl rfl ?_
        exact ⟨(MF.rf.tr f45), ⟨_, rfl⟩, g45⟩
  · exact absurd h7 (by decide)
set_option maxRecDepth 20000 in
theorem ml_both (g : EzH) (d : Nat) (f o : Nat) (y : Int32) (M0 M : EzM) (hd : 1 ≤ d) (hF : MF M0 M) (hB : MB f o M) : Ez (true, g) mX12_both d 5 [(1, eI y), (0, eR 12 0)] [] M (fun r M' => MF M0 M' ∧ (∃ w : Int32, r = some (eI w)) ∧ MB f o M') := by
  refine ez_aload_n 6 dX12_both_5 rfl rfl ?_
  refine ez_ldc2 9 dX12_both_6 rfl 1111 cn_X12_346 ?_
  refine ez_callV 12 [eL 1111] [] dX12_both_9 rfl rfl ok_X12_isWord in_X12_isWord (by decide) (by show 0 < 1; omega) ln_X12_301 (by omega) (Nat.le_of_ble_eq_true rfl) (c_iw_b g (d - 1) 1111 M hB) (fun r9 M9 q9 => ?_)
  obtain ⟨rfl, e9⟩ := q9
  rw [e9]
  show Ez (true, g) mX12_both d 12 [(1, eI y), (0, eR 12 0)] [eI (nI 0)] M _
  refine ez_nif_eq 15 41 dX12_both_12 rfl (by decide) (by omega) (fun h12 => ?_) (fun h12 => ?_)
  · refine ez_iload_n 42 dX12_both_41 rfl rfl ?_
    refine ez_iret .int dX12_both_42 rfl rfl ?_
    exact ⟨hF, ⟨_, rfl⟩, hB⟩
  · exact absurd h12 (by decide)
set_option maxRecDepth 20000 in
theorem mb_both (g : EzH) (d : Nat) {f o : Nat} (M : EzM) (hd : 6 ≤ d) (hB : MB f o M) : Ezc (true, g) mX12_both d [eR 12 0] M (fun r M' => MF M M' ∧ (∃ w : Int32, r = some (eI w)) ∧ MB f o M') := by
  refine Ezc.of (by decide +kernel) (Nat.le_of_ble_eq_true rfl) ?_
  show Ez (true, g) mX12_both d 0 [(0, eR 12 0)] [] M _
  refine ez_aload_n 1 dX12_both_0 rfl rfl ?_
  refine ez_callV 4 [] [] dX12_both_1 rfl rfl ok_X12_not in_X12_not (by decide) (by show 0 < 1; omega) ln_X12_338 (by omega) (Nat.le_of_ble_eq_true rfl) (mb_not g (d - 1) M (by omega) hB) (fun r1 M1 q1 => ?_)
  obtain ⟨f1, ⟨v1, rfl⟩, g1⟩ := q1
  show Ez (true, g) mX12_both d 4 [(0, eR 12 0)] [eI v1] M1 _
  refine ez_istore_n 5 [(1, eI v1), (0, eR 12 0)] dX12_both_4 rfl (by decide) rfl ?_
  exact ml_both g d f o _ M _ (by omega) (MF.rf.tr f1) g1
set_option maxRecDepth 20000 in
theorem ml_either (g : EzH) (d : Nat) (f o : Nat) (y : Int32) (M0 M : EzM) (hd : 1 ≤ d) (hF : MF M0 M) (hB : MB f o M) : Ez (true, g) mX12_either d 5 [(1, eI y), (0, eR 12 0)] [] M (fun r M' => MF M0 M' ∧ (∃ w : Int32, r = some (eI w)) ∧ MB f o M') := by
  refine ez_aload_n 6 dX12_either_5 rfl rfl ?_
  refine ez_ldc2 9 dX12_either_6 rfl 423 cn_X12_351 ?_
  refine ez_callV 12 [eL 423] [] dX12_either_9 rfl rfl ok_X12_isWord in_X12_isWord (by decide) (by show 0 < 1; omega) ln_X12_301 (by omega) (Nat.le_of_ble_eq_true rfl) (c_iw_b g (d - 1) 423 M hB) (fun r9 M9 q9 => ?_)
  obtain ⟨rfl, e9⟩ := q9
  rw [e9]
  show Ez (true, g) mX12_either d 12 [(1, eI y), (0, eR 12 0)] [eI (nI 0)] M _
  refine ez_nif_eq 15 41 dX12_either_12 rfl (by decide) (by omega) (fun h12 => ?_) (fun h12 => ?_)
  · refine ez_iload_n 42 dX12_either_41 rfl rfl ?_
    refine ez_iret .int dX12_either_42 rfl rfl ?_
    exact ⟨hF, ⟨_, rfl⟩, hB⟩
  · exact absurd h12 (by decide)
set_option maxRecDepth 20000 in
theorem mb_either (g : EzH) (d : Nat) {f o : Nat} (M : EzM) (hd : 7 ≤ d) (hB : MB f o M) : Ezc (true, g) mX12_either d [eR 12 0] M (fun r M' => MF M M' ∧ (∃ w : Int32, r = some (eI w)) ∧ MB f o M') := by
  refine Ezc.of (by decide +kernel) (Nat.le_of_ble_eq_true rfl) ?_
  show Ez (true, g) mX12_either d 0 [(0, eR 12 0)] [] M _
  refine ez_aload_n 1 dX12_either_0 rfl rfl ?_
  refine ez_callV 4 [] [] dX12_either_1 rfl rfl ok_X12_both in_X12_both (by decide) (by show 0 < 1; omega) ln_X12_348 (by omega) (Nat.le_of_ble_eq_true rfl) (mb_both g (d - 1) M (by omega) hB) (fun r1 M1 q1 => ?_)
  obtain ⟨f1, ⟨v1, rfl⟩, g1⟩ := q1
  show Ez (true, g) mX12_either d 4 [(0, eR 12 0)] [eI v1] M1 _
  refine ez_istore_n 5 [(1, eI v1), (0, eR 12 0)] dX12_either_4 rfl (by decide) rfl ?_
  exact ml_either g d f o _ M _ (by omega) (MF.rf.tr f1) g1
def PmM (g : EzH) (Tk Pl En : Nat → Nat) (N fr n : Nat) (b : Nat → Nat) (nm : Nat → Int32) (Y : EzY) (r mode z : Nat) : Prop := ∀ (o k : Nat) (v : EpV) (x : EpR) (M : EzM) (d : Nat), o ≤ 5 → 8 * (6 - o) + r ≤ d → MG Tk Pl En N fr n b nm o k M → ep_pz Tk z mode o k [] v = some x → Ezc (true, g) Y d [eR 12 0] M (fun q M' => MF M M' ∧ MXr Tk Pl En N fr n b nm x o q M')
def PmT (g : EzH) (Tk Pl En : Nat → Nat) (N fr n : Nat) (b : Nat → Nat) (nm : Nat → Int32) (Y : EzY) (r mode z : Nat) : Prop := ∀ (o k : Nat) (c : List Int32) (v : EpV) (x : EpR) (M0 M : EzM) (d : Nat), o ≤ 5 → 8 * (6 - o) + r ≤ d → MF M0 M → MG Tk Pl En N fr n b nm o k M → ep_pz Tk z mode o k c v = some x → Ez (true, g) Y d 5 [(1, eI (v nm)), (0, eR 12 0)] [] M (fun q M' => MF M0 M' ∧ MXr Tk Pl En N fr n b nm x o q M')
set_option maxRecDepth 20000 in
theorem mp_either (g : EzH) {Tk Pl En : Nat → Nat} {N fr n : Nat} {b : Nat → Nat} {nm : Nat → Int32} {z : Nat} (hH : HT Tk Pl N) (hN : MNx g Tk Pl En N fr n b nm) (iA : PmM g Tk Pl En N fr n b nm mX12_both 9 2 z) (iT : PmT g Tk Pl En N fr n b nm mX12_either 10 1 z) : PmM g Tk Pl En N fr n b nm mX12_either 10 0 (z + 1) := by
  intro o k v x M d ho hd hG h
  rw [ep_pz_0] at h
  have w0 := hG.2.1
  refine Ezc.of (by decide +kernel) (Nat.le_of_ble_eq_true rfl) ?_
  show Ez (true, g) mX12_either d 0 [(0, eR 12 0)] [] M _
  rcases ep_bd_some h with ⟨k1, c1, v1, h1, h2⟩ | ⟨e, h1, rfl⟩
  · refine ez_aload_n 1 dX12_either_0 rfl rfl ?_
    refine ez_callV 4 [] [] dX12_either_1 rfl rfl ok_X12_both in_X12_both (by decide) (by show 0 < 1; omega) ln_X12_348 (by omega) (Nat.le_of_ble_eq_true rfl) (iA o k _ _ M (d - 1) (by omega) (by omega) hG h1) (fun r1 M1 q1 => ?_)
    obtain ⟨f1, rfl, g1⟩ := q1
    have g1 : MG Tk Pl En N fr n b nm o k1 M1 := g1
    have u1 := (hH.2.1 _ g1.2.1).1
    have w1 := g1.2.1
    show Ez (true, g) mX12_either d 4 [(0, eR 12 0)] [eI (v1 nm)] M1 _
    refine ez_istore_n 5 [(1, eI (v1 nm)), (0, eR 12 0)] dX12_either_4 rfl (by decide) rfl ?_
    exact iT o k1 c1 v1 x M _ d ho (by omega) (MF.rf.tr f1) g1 h2
  · refine ez_aload_n 1 dX12_either_0 rfl rfl ?_
    refine ez_callV 4 [] [] dX12_either_1 rfl rfl ok_X12_both in_X12_both (by decide) (by show 0 < 1; omega) ln_X12_348 (by omega) (Nat.le_of_ble_eq_true rfl) (iA o k _ _ M (d - 1) (by omega) (by omega) hG h1) (fun r1 M1 q1 => ?_)
    obtain ⟨f1, ⟨v1, rfl⟩, g1⟩ := q1
    show Ez (true, g) mX12_either d 4 [(0, eR 12 0)] [eI v1] M1 _
    refine ez_istore_n 5 [(1, eI v1), (0, eR 12 0)] dX12_either_4 rfl (by decide) rfl ?_
    exact ml_either g d (Pl e) o _ M _ (by omega) (MF.rf.tr f1) g1
set_option maxRecDepth 20000 in
theorem mp_both (g : EzH) {Tk Pl En : Nat → Nat} {N fr n : Nat} {b : Nat → Nat} {nm : Nat → Int32} {z : Nat} (hH : HT Tk Pl N) (hN : MNx g Tk Pl En N fr n b nm) (iA : PmM g Tk Pl En N fr n b nm mX12_not 8 4 z) (iT : PmT g Tk Pl En N fr n b nm mX12_both 9 3 z) : PmM g Tk Pl En N fr n b nm mX12_both 9 2 (z + 1) := by
  intro o k v x M d ho hd hG h
  rw [ep_pz_2] at h
  have w0 := hG.2.1
  refine Ezc.of (by decide +kernel) (Nat.le_of_ble_eq_true rfl) ?_
  show Ez (true, g) mX12_both d 0 [(0, eR 12 0)] [] M _
  rcases ep_bd_some h with ⟨k1, c1, v1, h1, h2⟩ | ⟨e, h1, rfl⟩
  · refine ez_aload_n 1 dX12_both_0 rfl rfl ?_
    refine ez_callV 4 [] [] dX12_both_1 rfl rfl ok_X12_not in_X12_not (by decide) (by show 0 < 1; omega) ln_X12_338 (by omega) (Nat.le_of_ble_eq_true rfl) (iA o k _ _ M (d - 1) (by omega) (by omega) hG h1) (fun r1 M1 q1 => ?_)
    obtain ⟨f1, rfl, g1⟩ := q1
    have g1 : MG Tk Pl En N fr n b nm o k1 M1 := g1
    have u1 := (hH.2.1 _ g1.2.1).1
    have w1 := g1.2.1
    show Ez (true, g) mX12_both d 4 [(0, eR 12 0)] [eI (v1 nm)] M1 _
    refine ez_istore_n 5 [(1, eI (v1 nm)), (0, eR 12 0)] dX12_both_4 rfl (by decide) rfl ?_
    exact iT o k1 c1 v1 x M _ d ho (by omega) (MF.rf.tr f1) g1 h2
  · refine ez_aload_n 1 dX12_both_0 rfl rfl ?_
    refine ez_callV 4 [] [] dX12_both_1 rfl rfl ok_X12_not in_X12_not (by decide) (by show 0 < 1; omega) ln_X12_338 (by omega) (Nat.le_of_ble_eq_true rfl) (iA o k _ _ M (d - 1) (by omega) (by omega) hG h1) (fun r1 M1 q1 => ?_)
    obtain ⟨f1, ⟨v1, rfl⟩, g1⟩ := q1
    show Ez (true, g) mX12_both d 4 [(0, eR 12 0)] [eI v1] M1 _
    refine ez_istore_n 5 [(1, eI v1), (0, eR 12 0)] dX12_both_4 rfl (by decide) rfl ?_
    exact ml_both g d (Pl e) o _ M _ (by omega) (MF.rf.tr f1) g1
set_option maxRecDepth 20000 in
theorem mp_added (g : EzH) {Tk Pl En : Nat → Nat} {N fr n : Nat} {b : Nat → Nat} {nm : Nat → Int32} {z : Nat} (hH : HT Tk Pl N) (hN : MNx g Tk Pl En N fr n b nm) (iA : PmM g Tk Pl En N fr n b nm mX12_term 6 7 z) (iT : PmT g Tk Pl En N fr n b nm mX12_added 7 6 z) : PmM g Tk Pl En N fr n b nm mX12_added 7 5 (z + 1) := by
  intro o k v x M d ho hd hG h
  rw [ep_pz_5] at h
  have w0 := hG.2.1
  refine Ezc.of (by decide +kernel) (Nat.le_of_ble_eq_true rfl) ?_
  show Ez (true, g) mX12_added d 0 [(0, eR 12 0)] [] M _
  rcases ep_bd_some h with ⟨k1, c1, v1, h1, h2⟩ | ⟨e, h1, rfl⟩
  · refine ez_aload_n 1 dX12_added_0 rfl rfl ?_
    refine ez_callV 4 [] [] dX12_added_1 rfl rfl ok_X12_term in_X12_term (by decide) (by show 0 < 1; omega) ln_X12_331 (by omega) (Nat.le_of_ble_eq_true rfl) (iA o k _ _ M (d - 1) (by omega) (by omega) hG h1) (fun r1 M1 q1 => ?_)
    obtain ⟨f1, rfl, g1⟩ := q1
    have g1 : MG Tk Pl En N fr n b nm o k1 M1 := g1
    have u1 := (hH.2.1 _ g1.2.1).1
    have w1 := g1.2.1
    show Ez (true, g) mX12_added d 4 [(0, eR 12 0)] [eI (v1 nm)] M1 _
    refine ez_istore_n 5 [(1, eI (v1 nm)), (0, eR 12 0)] dX12_added_4 rfl (by decide) rfl ?_
    exact iT o k1 c1 v1 x M _ d ho (by omega) (MF.rf.tr f1) g1 h2
  · refine ez_aload_n 1 dX12_added_0 rfl rfl ?_
    refine ez_callV 4 [] [] dX12_added_1 rfl rfl ok_X12_term in_X12_term (by decide) (by show 0 < 1; omega) ln_X12_331 (by omega) (Nat.le_of_ble_eq_true rfl) (iA o k _ _ M (d - 1) (by omega) (by omega) hG h1) (fun r1 M1 q1 => ?_)
    obtain ⟨f1, ⟨v1, rfl⟩, g1⟩ := q1
    show Ez (true, g) mX12_added d 4 [(0, eR 12 0)] [eI v1] M1 _
    refine ez_istore_n 5 [(1, eI v1), (0, eR 12 0)] dX12_added_4 rfl (by decide) rfl ?_
    exact ml_added g d (Pl e) o _ M _ (by omega) (MF.rf.tr f1) g1
set_option maxRecDepth 20000 in
theorem mp_term (g : EzH) {Tk Pl En : Nat → Nat} {N fr n : Nat} {b : Nat → Nat} {nm : Nat → Int32} {z : Nat} (hH : HT Tk Pl N) (hN : MNx g Tk Pl En N fr n b nm) (iA : PmM g Tk Pl En N fr n b nm mX12_one 5 9 z) (iT : PmT g Tk Pl En N fr n b nm mX12_term 6 8 z) : PmM g Tk Pl En N fr n b nm mX12_term 6 7 (z + 1) := by
  intro o k v x M d ho hd hG h
  rw [ep_pz_7] at h
  have w0 := hG.2.1
  refine Ezc.of (by decide +kernel) (Nat.le_of_ble_eq_true rfl) ?_
  show Ez (true, g) mX12_term d 0 [(0, eR 12 0)] [] M _
  rcases ep_bd_some h with ⟨k1, c1, v1, h1, h2⟩ | ⟨e, h1, rfl⟩
  · refine ez_aload_n 1 dX12_term_0 rfl rfl ?_
    refine ez_callV 4 [] [] dX12_term_1 rfl rfl ok_X12_one in_X12_one (by decide) (by show 0 < 1; omega) ln_X12_322 (by omega) (Nat.le_of_ble_eq_true rfl) (iA o k _ _ M (d - 1) (by omega) (by omega) hG h1) (fun r1 M1 q1 => ?_)
    obtain ⟨f1, rfl, g1⟩ := q1
    have g1 : MG Tk Pl En N fr n b nm o k1 M1 := g1
    have u1 := (hH.2.1 _ g1.2.1).1
    have w1 := g1.2.1
    show Ez (true, g) mX12_term d 4 [(0, eR 12 0)] [eI (v1 nm)] M1 _
    refine ez_istore_n 5 [(1, eI (v1 nm)), (0, eR 12 0)] dX12_term_4 rfl (by decide) rfl ?_
    exact iT o k1 c1 v1 x M _ d ho (by omega) (MF.rf.tr f1) g1 h2
  · refine ez_aload_n 1 dX12_term_0 rfl rfl ?_
    refine ez_callV 4 [] [] dX12_term_1 rfl rfl ok_X12_one in_X12_one (by decide) (by show 0 < 1; omega) ln_X12_322 (by omega) (Nat.le_of_ble_eq_true rfl) (iA o k _ _ M (d - 1) (by omega) (by omega) hG h1) (fun r1 M1 q1 => ?_)
    obtain ⟨f1, ⟨v1, rfl⟩, g1⟩ := q1
    show Ez (true, g) mX12_term d 4 [(0, eR 12 0)] [eI v1] M1 _
    refine ez_istore_n 5 [(1, eI v1), (0, eR 12 0)] dX12_term_4 rfl (by decide) rfl ?_
    exact ml_term g d (Pl e) o _ M _ (by omega) (MF.rf.tr f1) g1
set_option maxRecDepth 20000 in
theorem mt_either (g : EzH) {Tk Pl En : Nat → Nat} {N fr n : Nat} {b : Nat → Nat} {nm : Nat → Int32} {z : Nat} (hH : HT Tk Pl N) (hN : MNx g Tk Pl En N fr n b nm) (iA : PmM g Tk Pl En N fr n b nm mX12_both 9 2 z) (iT : PmT g Tk Pl En N fr n b nm mX12_either 10 1 z) : PmT g Tk Pl En N fr n b nm mX12_either 10 1 (z + 1) := by
  intro o k c v x M0 M d ho hd hF hG h
  rw [ep_pz_1] at h
  have u0 := (hH.2.1 _ hG.2.1).1
  have w0 := hG.2.1
  by_cases t19 : Tk k = 19
  · rw [if_pos t19] at h
    rcases ep_bd_some h with ⟨k1, c1, v1, h1, h2⟩ | ⟨e, h1, rfl⟩
    · have hlt := hH.2.2 k hG.2.1 (by omega)
      refine ez_aload_n 6 dX12_either_5 rfl rfl ?_
      refine ez_ldc2 9 dX12_either_6 rfl 423 cn_X12_351 ?_
      refine ez_callV 12 [eL 423] [] dX12_either_9 rfl rfl ok_X12_isWord in_X12_isWord (by decide) (by show 0 < 1; omega) ln_X12_301 (by omega) (Nat.le_of_ble_eq_true rfl) (c_iw_y g (d - 1) 19 423 M hG (by decide) rfl (by omega)) (fun r9 M9 q9 => ?_)
      obtain ⟨rfl, e9⟩ := q9
      rw [e9]
      show Ez (true, g) mX12_either d 12 [(1, eI (v nm)), (0, eR 12 0)] [eI (nI 1)] M _
      refine ez_nif_eq 15 41 dX12_either_12 rfl (by decide) (by omega) (fun h12 => ?_) (fun h12 => ?_)
      · exact absurd h12 (by decide)
      · refine ez_aload_n 16 dX12_either_15 rfl rfl ?_
        refine ez_callV 19 [] [] dX12_either_16 rfl rfl ok_X12_next in_X12_next (by decide) (by show 0 < 1; omega) ln_X12_296 (by omega) (Nat.le_of_ble_eq_true rfl) (hN o k M (d - 1) (by omega) hG (by omega)) (fun r16 M16 q16 => ?_)
        obtain ⟨rfl, f16, g16⟩ := q16
        have u16 := (hH.2.1 _ g16.2.1).1
        have w16 := g16.2.1
        show Ez (true, g) mX12_either d 19 [(1, eI (v nm)), (0, eR 12 0)] [] M16 _
        refine ez_aload_n 20 dX12_either_19 rfl rfl ?_
        refine ez_callV 23 [] [] dX12_either_20 rfl rfl ok_X12_both in_X12_both (by decide) (by show 0 < 1; omega) ln_X12_348 (by omega) (Nat.le_of_ble_eq_true rfl) (iA o (k + 1) _ _ M16 (d - 1) (by omega) (by omega) g16 h1) (fun r20 M20 q20 => ?_)
        obtain ⟨f20, rfl, g20⟩ := q20
        have g20 : MG Tk Pl En N fr n b nm o k1 M20 := g20
        have u20 := (hH.2.1 _ g20.2.1).1
        have w20 := g20.2.1
        show Ez (true, g) mX12_either d 23 [(1, eI (v nm)), (0, eR 12 0)] [eI (v1 nm)] M20 _
        refine ez_istore_n 24 [(2, eI (v1 nm)), (1, eI (v nm)), (0, eR 12 0)] dX12_either_23 rfl (by decide) rfl ?_
        refine ez_iload_n 25 dX12_either_24 rfl rfl ?_
        refine ez_if_ne 28 32 dX12_either_25 rfl (by decide) (fun h25 => ?_) (fun h25 => ?_)
        · refine ez_iconst 33 dX12_either_32 rfl (nI 1) (by decide) ?_
          refine ez_goto 37 dX12_either_33 (by decide) ?_
          refine ez_istore_n 38 [(1, eI (nI 1)), (2, eI (v1 nm)), (0, eR 12 0)] dX12_either_37 rfl (by decide) rfl ?_
          refine ez_goto 5 dX12_either_38 (by decide) ?_
          refine ez_drop [(1, eI (ep_tr (¬ v nm = 0 ∨ ¬ v1 nm = 0))), (0, eR 12 0)] (by simp [ep_tr, h25]) ?_
          exact iT o k1 _ (fun nm => ep_tr (¬ v nm = 0 ∨ ¬ v1 nm = 0)) x M0 _ d ho (by omega) ((hF.tr f16).tr f20) g20 h2
        · refine ez_iload_n 29 dX12_either_28 rfl rfl ?_
          refine ez_if_eq 32 36 dX12_either_29 rfl (by decide) (fun h29 => ?_) (fun h29 => ?_)
          · refine ez_iconst 37 dX12_either_36 rfl (nI 0) (by decide) ?_
            refine ez_istore_n 38 [(1, eI (nI 0)), (2, eI (v1 nm)), (0, eR 12 0)] dX12_either_37 rfl (by decide) rfl ?_
            refine ez_goto 5 dX12_either_38 (by decide) ?_
            refine ez_drop [(1, eI (ep_tr (¬ v nm = 0 ∨ ¬ v1 nm = 0))), (0, eR 12 0)] (by simp [ep_tr, h25, h29]) ?_
            exact iT o k1 _ (fun nm => ep_tr (¬ v nm = 0 ∨ ¬ v1 nm = 0)) x M0 _ d ho (by omega) ((hF.tr f16).tr f20) g20 h2
          · refine ez_iconst 33 dX12_either_32 rfl (nI 1) (by decide) ?_
            refine ez_goto 37 dX12_either_33 (by decide) ?_
            refine ez_istore_n 38 [(1, eI (nI 1)), (2, eI (v1 nm)), (0, eR 12 0)] dX12_either_37 rfl (by decide) rfl ?_
            refine ez_goto 5 dX12_either_38 (by decide) ?_
            refine ez_drop [(1, eI (ep_tr (¬ v nm = 0 ∨ ¬ v1 nm = 0))), (0, eR 12 0)] (by simp [ep_tr, h25, h29]) ?_
            exact iT o k1 _ (fun nm => ep_tr (¬ v nm = 0 ∨ ¬ v1 nm = 0)) x M0 _ d ho (by omega) ((hF.tr f16).tr f20) g20 h2
    · have hlt := hH.2.2 k hG.2.1 (by omega)
      refine ez_aload_n 6 dX12_either_5 rfl rfl ?_
      refine ez_ldc2 9 dX12_either_6 rfl 423 cn_X12_351 ?_
      refine ez_callV 12 [eL 423] [] dX12_either_9 rfl rfl ok_X12_isWord in_X12_isWord (by decide) (by show 0 < 1; omega) ln_X12_301 (by omega) (Nat.le_of_ble_eq_true rfl) (c_iw_y g (d - 1) 19 423 M hG (by decide) rfl (by omega)) (fun r9 M9 q9 => ?_)
      obtain ⟨rfl, e9⟩ := q9
      rw [e9]
      show Ez (true, g) mX12_either d 12 [(1, eI (v nm)), (0, eR 12 0)] [eI (nI 1)] M _
      refine ez_nif_eq 15 41 dX12_either_12 rfl (by decide) (by omega) (fun h12 => ?_) (fun h12 => ?_)
      · exact absurd h12 (by decide)
      · refine ez_aload_n 16 dX12_either_15 rfl rfl ?_
        refine ez_callV 19 [] [] dX12_either_16 rfl rfl ok_X12_next in_X12_next (by decide) (by show 0 < 1; omega) ln_X12_296 (by omega) (Nat.le_of_ble_eq_true rfl) (hN o k M (d - 1) (by omega) hG (by omega)) (fun r16 M16 q16 => ?_)
        obtain ⟨rfl, f16, g16⟩ := q16
        have u16 := (hH.2.1 _ g16.2.1).1
        have w16 := g16.2.1
        show Ez (true, g) mX12_either d 19 [(1, eI (v nm)), (0, eR 12 0)] [] M16 _
        refine ez_aload_n 20 dX12_either_19 rfl rfl ?_
        refine ez_callV 23 [] [] dX12_either_20 rfl rfl ok_X12_both in_X12_both (by decide) (by show 0 < 1; omega) ln_X12_348 (by omega) (Nat.le_of_ble_eq_true rfl) (iA o (k + 1) _ _ M16 (d - 1) (by omega) (by omega) g16 h1) (fun r20 M20 q20 => ?_)
        obtain ⟨f20, ⟨v20, rfl⟩, g20⟩ := q20
        show Ez (true, g) mX12_either d 23 [(1, eI (v nm)), (0, eR 12 0)] [eI v20] M20 _
        refine ez_istore_n 24 [(2, eI v20), (1, eI (v nm)), (0, eR 12 0)] dX12_either_23 rfl (by decide) rfl ?_
        refine ez_iload_n 25 dX12_either_24 rfl rfl ?_
        refine ez_if_ne 28 32 dX12_either_25 rfl (by decide) (fun h25 => ?_) (fun h25 => ?_)
        · refine ez_iconst 33 dX12_either_32 rfl (nI 1) (by decide) ?_
          refine ez_goto 37 dX12_either_33 (by decide) ?_
          refine ez_istore_n 38 [(1, eI (nI 1)), (2, eI v20), (0, eR 12 0)] dX12_either_37 rfl (by decide) rfl ?_
          refine ez_goto 5 dX12_either_38 (by decide) ?_
          refine ez_drop [(1, eI (nI 1)), (0, eR 12 0)] (by simp) ?_
          exact ml_either g d (Pl e) o _ M0 _ (by omega) ((hF.tr f16).tr f20) g20
        · refine ez_iload_n 29 dX12_either_28 rfl rfl ?_
          refine ez_if_eq 32 36 dX12_either_29 rfl (by decide) (fun h29 => ?_) (fun h29 => ?_)
          · refine ez_iconst 37 dX12_either_36 rfl (nI 0) (by decide) ?_
            refine ez_istore_n 38 [(1, eI (nI 0)), (2, eI v20), (0, eR 12 0)] dX12_either_37 rfl (by decide) rfl ?_
            refine ez_goto 5 dX12_either_38 (by decide) ?_
            refine ez_drop [(1, eI (nI 0)), (0, eR 12 0)] (by simp) ?_
            exact ml_either g d (Pl e) o _ M0 _ (by omega) ((hF.tr f16).tr f20) g20
          · refine ez_iconst 33 dX12_either_32 rfl (nI 1) (by decide) ?_
            refine ez_goto 37 dX12_either_33 (by decide) ?_
            refine ez_istore_n 38 [(1, eI (nI 1)), (2, eI v20), (0, eR 12 0)] dX12_either_37 rfl (by decide) rfl ?_
            refine ez_goto 5 dX12_either_38 (by decide) ?_
            refine ez_drop [(1, eI (nI 1)), (0, eR 12 0)] (by simp) ?_
            exact ml_either g d (Pl e) o _ M0 _ (by omega) ((hF.tr f16).tr f20) g20
  rw [if_neg t19] at h
  cases h
  refine ez_aload_n 6 dX12_either_5 rfl rfl ?_
  refine ez_ldc2 9 dX12_either_6 rfl 423 cn_X12_351 ?_
  refine ez_callV 12 [eL 423] [] dX12_either_9 rfl rfl ok_X12_isWord in_X12_isWord (by decide) (by show 0 < 1; omega) ln_X12_301 (by omega) (Nat.le_of_ble_eq_true rfl) (c_iw_n g (d - 1) 19 423 M hG (by decide) rfl (by omega)) (fun r9 M9 q9 => ?_)
  obtain ⟨rfl, e9⟩ := q9
  rw [e9]
  show Ez (true, g) mX12_either d 12 [(1, eI (v nm)), (0, eR 12 0)] [eI (nI 0)] M _
  refine ez_nif_eq 15 41 dX12_either_12 rfl (by decide) (by omega) (fun h12 => ?_) (fun h12 => ?_)
  · refine ez_iload_n 42 dX12_either_41 rfl rfl ?_
    refine ez_iret .int dX12_either_42 rfl rfl ?_
    exact ⟨hF, rfl, hG⟩
  · exact absurd h12 (by decide)
set_option maxRecDepth 20000 in
theorem mt_both (g : EzH) {Tk Pl En : Nat → Nat} {N fr n : Nat} {b : Nat → Nat} {nm : Nat → Int32} {z : Nat} (hH : HT Tk Pl N) (hN : MNx g Tk Pl En N fr n b nm) (iA : PmM g Tk Pl En N fr n b nm mX12_not 8 4 z) (iT : PmT g Tk Pl En N fr n b nm mX12_both 9 3 z) : PmT g Tk Pl En N fr n b nm mX12_both 9 3 (z + 1) := by
  intro o k c v x M0 M d ho hd hF hG h
  rw [ep_pz_3] at h
  have u0 := (hH.2.1 _ hG.2.1).1
  have w0 := hG.2.1
  by_cases t20 : Tk k = 20
  · rw [if_pos t20] at h
    rcases ep_bd_some h with ⟨k1, c1, v1, h1, h2⟩ | ⟨e, h1, rfl⟩
    · have hlt := hH.2.2 k hG.2.1 (by omega)
      refine ez_aload_n 6 dX12_both_5 rfl rfl ?_
      refine ez_ldc2 9 dX12_both_6 rfl 1111 cn_X12_346 ?_
      refine ez_callV 12 [eL 1111] [] dX12_both_9 rfl rfl ok_X12_isWord in_X12_isWord (by decide) (by show 0 < 1; omega) ln_X12_301 (by omega) (Nat.le_of_ble_eq_true rfl) (c_iw_y g (d - 1) 20 1111 M hG (by decide) rfl (by omega)) (fun r9 M9 q9 => ?_)
      obtain ⟨rfl, e9⟩ := q9
      rw [e9]
      show Ez (true, g) mX12_both d 12 [(1, eI (v nm)), (0, eR 12 0)] [eI (nI 1)] M _
      refine ez_nif_eq 15 41 dX12_both_12 rfl (by decide) (by omega) (fun h12 => ?_) (fun h12 => ?_)
      · exact absurd h12 (by decide)
      · refine ez_aload_n 16 dX12_both_15 rfl rfl ?_
        refine ez_callV 19 [] [] dX12_both_16 rfl rfl ok_X12_next in_X12_next (by decide) (by show 0 < 1; omega) ln_X12_296 (by omega) (Nat.le_of_ble_eq_true rfl) (hN o k M (d - 1) (by omega) hG (by omega)) (fun r16 M16 q16 => ?_)
        obtain ⟨rfl, f16, g16⟩ := q16
        have u16 := (hH.2.1 _ g16.2.1).1
        have w16 := g16.2.1
        show Ez (true, g) mX12_both d 19 [(1, eI (v nm)), (0, eR 12 0)] [] M16 _
        refine ez_aload_n 20 dX12_both_19 rfl rfl ?_
        refine ez_callV 23 [] [] dX12_both_20 rfl rfl ok_X12_not in_X12_not (by decide) (by show 0 < 1; omega) ln_X12_338 (by omega) (Nat.le_of_ble_eq_true rfl) (iA o (k + 1) _ _ M16 (d - 1) (by omega) (by omega) g16 h1) (fun r20 M20 q20 => ?_)
        obtain ⟨f20, rfl, g20⟩ := q20
        have g20 : MG Tk Pl En N fr n b nm o k1 M20 := g20
        have u20 := (hH.2.1 _ g20.2.1).1
        have w20 := g20.2.1
        show Ez (true, g) mX12_both d 23 [(1, eI (v nm)), (0, eR 12 0)] [eI (v1 nm)] M20 _
        refine ez_istore_n 24 [(2, eI (v1 nm)), (1, eI (v nm)), (0, eR 12 0)] dX12_both_23 rfl (by decide) rfl ?_
        refine ez_iload_n 25 dX12_both_24 rfl rfl ?_
        refine ez_if_eq 28 36 dX12_both_25 rfl (by decide) (fun h25 => ?_) (fun h25 => ?_)
        · refine ez_iconst 37 dX12_both_36 rfl (nI 0) (by decide) ?_
          refine ez_istore_n 38 [(1, eI (nI 0)), (2, eI (v1 nm)), (0, eR 12 0)] dX12_both_37 rfl (by decide) rfl ?_
          refine ez_goto 5 dX12_both_38 (by decide) ?_
          refine ez_drop [(1, eI (ep_tr (¬ v nm = 0 ∧ ¬ v1 nm = 0))), (0, eR 12 0)] (by simp [ep_tr, h25]) ?_
          exact iT o k1 _ (fun nm => ep_tr (¬ v nm = 0 ∧ ¬ v1 nm = 0)) x M0 _ d ho (by omega) ((hF.tr f16).tr f20) g20 h2
        · refine ez_iload_n 29 dX12_both_28 rfl rfl ?_
          refine ez_if_eq 32 36 dX12_both_29 rfl (by decide) (fun h29 => ?_) (fun h29 => ?_)
          · refine ez_iconst 37 dX12_both_36 rfl (nI 0) (by decide) ?_
            refine ez_istore_n 38 [(1, eI (nI 0)), (2, eI (v1 nm)), (0, eR 12 0)] dX12_both_37 rfl (by decide) rfl ?_
            refine ez_goto 5 dX12_both_38 (by decide) ?_
            refine ez_drop [(1, eI (ep_tr (¬ v nm = 0 ∧ ¬ v1 nm = 0))), (0, eR 12 0)] (by simp [ep_tr, h25, h29]) ?_
            exact iT o k1 _ (fun nm => ep_tr (¬ v nm = 0 ∧ ¬ v1 nm = 0)) x M0 _ d ho (by omega) ((hF.tr f16).tr f20) g20 h2
          · refine ez_iconst 33 dX12_both_32 rfl (nI 1) (by decide) ?_
            refine ez_goto 37 dX12_both_33 (by decide) ?_
            refine ez_istore_n 38 [(1, eI (nI 1)), (2, eI (v1 nm)), (0, eR 12 0)] dX12_both_37 rfl (by decide) rfl ?_
            refine ez_goto 5 dX12_both_38 (by decide) ?_
            refine ez_drop [(1, eI (ep_tr (¬ v nm = 0 ∧ ¬ v1 nm = 0))), (0, eR 12 0)] (by simp [ep_tr, h25, h29]) ?_
            exact iT o k1 _ (fun nm => ep_tr (¬ v nm = 0 ∧ ¬ v1 nm = 0)) x M0 _ d ho (by omega) ((hF.tr f16).tr f20) g20 h2
    · have hlt := hH.2.2 k hG.2.1 (by omega)
      refine ez_aload_n 6 dX12_both_5 rfl rfl ?_
      refine ez_ldc2 9 dX12_both_6 rfl 1111 cn_X12_346 ?_
      refine ez_callV 12 [eL 1111] [] dX12_both_9 rfl rfl ok_X12_isWord in_X12_isWord (by decide) (by show 0 < 1; omega) ln_X12_301 (by omega) (Nat.le_of_ble_eq_true rfl) (c_iw_y g (d - 1) 20 1111 M hG (by decide) rfl (by omega)) (fun r9 M9 q9 => ?_)
      obtain ⟨rfl, e9⟩ := q9
      rw [e9]
      show Ez (true, g) mX12_both d 12 [(1, eI (v nm)), (0, eR 12 0)] [eI (nI 1)] M _
      refine ez_nif_eq 15 41 dX12_both_12 rfl (by decide) (by omega) (fun h12 => ?_) (fun h12 => ?_)
      · exact absurd h12 (by decide)
      · refine ez_aload_n 16 dX12_both_15 rfl rfl ?_
        refine ez_callV 19 [] [] dX12_both_16 rfl rfl ok_X12_next in_X12_next (by decide) (by show 0 < 1; omega) ln_X12_296 (by omega) (Nat.le_of_ble_eq_true rfl) (hN o k M (d - 1) (by omega) hG (by omega)) (fun r16 M16 q16 => ?_)
        obtain ⟨rfl, f16, g16⟩ := q16
        have u16 := (hH.2.1 _ g16.2.1).1
        have w16 := g16.2.1
        show Ez (true, g) mX12_both d 19 [(1, eI (v nm)), (0, eR 12 0)] [] M16 _
        refine ez_aload_n 20 dX12_both_19 rfl rfl ?_
        refine ez_callV 23 [] [] dX12_both_20 rfl rfl ok_X12_not in_X12_not (by decide) (by show 0 < 1; omega) ln_X12_338 (by omega) (Nat.le_of_ble_eq_true rfl) (iA o (k + 1) _ _ M16 (d - 1) (by omega) (by omega) g16 h1) (fun r20 M20 q20 => ?_)
        obtain ⟨f20, ⟨v20, rfl⟩, g20⟩ := q20
        show Ez (true, g) mX12_both d 23 [(1, eI (v nm)), (0, eR 12 0)] [eI v20] M20 _
        refine ez_istore_n 24 [(2, eI v20), (1, eI (v nm)), (0, eR 12 0)] dX12_both_23 rfl (by decide) rfl ?_
        refine ez_iload_n 25 dX12_both_24 rfl rfl ?_
        refine ez_if_eq 28 36 dX12_both_25 rfl (by decide) (fun h25 => ?_) (fun h25 => ?_)
        · refine ez_iconst 37 dX12_both_36 rfl (nI 0) (by decide) ?_
          refine ez_istore_n 38 [(1, eI (nI 0)), (2, eI v20), (0, eR 12 0)] dX12_both_37 rfl (by decide) rfl ?_
          refine ez_goto 5 dX12_both_38 (by decide) ?_
          refine ez_drop [(1, eI (nI 0)), (0, eR 12 0)] (by simp) ?_
          exact ml_both g d (Pl e) o _ M0 _ (by omega) ((hF.tr f16).tr f20) g20
        · refine ez_iload_n 29 dX12_both_28 rfl rfl ?_
          refine ez_if_eq 32 36 dX12_both_29 rfl (by decide) (fun h29 => ?_) (fun h29 => ?_)
          · refine ez_iconst 37 dX12_both_36 rfl (nI 0) (by decide) ?_
            refine ez_istore_n 38 [(1, eI (nI 0)), (2, eI v20), (0, eR 12 0)] dX12_both_37 rfl (by decide) rfl ?_
            refine ez_goto 5 dX12_both_38 (by decide) ?_
            refine ez_drop [(1, eI (nI 0)), (0, eR 12 0)] (by simp) ?_
            exact ml_both g d (Pl e) o _ M0 _ (by omega) ((hF.tr f16).tr f20) g20
          · refine ez_iconst 33 dX12_both_32 rfl (nI 1) (by decide) ?_
            refine ez_goto 37 dX12_both_33 (by decide) ?_
            refine ez_istore_n 38 [(1, eI (nI 1)), (2, eI v20), (0, eR 12 0)] dX12_both_37 rfl (by decide) rfl ?_
            refine ez_goto 5 dX12_both_38 (by decide) ?_
            refine ez_drop [(1, eI (nI 1)), (0, eR 12 0)] (by simp) ?_
            exact ml_both g d (Pl e) o _ M0 _ (by omega) ((hF.tr f16).tr f20) g20
  rw [if_neg t20] at h
  cases h
  refine ez_aload_n 6 dX12_both_5 rfl rfl ?_
  refine ez_ldc2 9 dX12_both_6 rfl 1111 cn_X12_346 ?_
  refine ez_callV 12 [eL 1111] [] dX12_both_9 rfl rfl ok_X12_isWord in_X12_isWord (by decide) (by show 0 < 1; omega) ln_X12_301 (by omega) (Nat.le_of_ble_eq_true rfl) (c_iw_n g (d - 1) 20 1111 M hG (by decide) rfl (by omega)) (fun r9 M9 q9 => ?_)
  obtain ⟨rfl, e9⟩ := q9
  rw [e9]
  show Ez (true, g) mX12_both d 12 [(1, eI (v nm)), (0, eR 12 0)] [eI (nI 0)] M _
  refine ez_nif_eq 15 41 dX12_both_12 rfl (by decide) (by omega) (fun h12 => ?_) (fun h12 => ?_)
  · refine ez_iload_n 42 dX12_both_41 rfl rfl ?_
    refine ez_iret .int dX12_both_42 rfl rfl ?_
    exact ⟨hF, rfl, hG⟩
  · exact absurd h12 (by decide)
set_option maxRecDepth 20000 in
theorem mt_added (g : EzH) {Tk Pl En : Nat → Nat} {N fr n : Nat} {b : Nat → Nat} {nm : Nat → Int32} {z : Nat} (hH : HT Tk Pl N) (hN : MNx g Tk Pl En N fr n b nm) (iA : PmM g Tk Pl En N fr n b nm mX12_term 6 7 z) (iT : PmT g Tk Pl En N fr n b nm mX12_added 7 6 z) : PmT g Tk Pl En N fr n b nm mX12_added 7 6 (z + 1) := by
  intro o k c v x M0 M d ho hd hF hG h
  rw [ep_pz_6] at h
  have u0 := (hH.2.1 _ hG.2.1).1
  have w0 := hG.2.1
  by_cases t43 : Tk k = 43
  · rw [if_pos t43] at h
    rcases ep_bd_some h with ⟨k1, c1, v1, h1, h2⟩ | ⟨e, h1, rfl⟩
    · have hlt := hH.2.2 k hG.2.1 (by omega)
      refine ez_aload_n 6 dX12_added_5 rfl rfl ?_
      refine ez_bipush 8 dX12_added_6 rfl (nI 43) (by decide) ?_
      refine ez_callV 11 [eI (nI 43)] [] dX12_added_8 rfl rfl ok_X12_isSign in_X12_isSign (by decide) (by show 0 < 1; omega) ln_X12_315 (by omega) (Nat.le_of_ble_eq_true rfl) (c_is_y g (d - 1) 43 M hG (by decide) (by omega)) (fun r8 M8 q8 => ?_)
      obtain ⟨rfl, e8⟩ := q8
      rw [e8]
      show Ez (true, g) mX12_added d 11 [(1, eI (v nm)), (0, eR 12 0)] [eI (nI 1)] M _
      refine ez_nif_ne 14 23 dX12_added_11 rfl (by decide) (by omega) (fun h11 => ?_) (fun h11 => ?_)
      · refine ez_aload_n 24 dX12_added_23 rfl rfl ?_
        refine ez_getf 27 (eL (M.2 12 0 25)) dX12_added_24 rfl fl_X12_270 (by show 0 < 1; omega) rfl ?_
        refine ez_topL ((nI 43).toInt64) (((MTk_s hG.2.2.1 (by omega) (by omega)).mpr (show Tk k = 43 by omega)).2) ?_
        refine ez_ldc2 30 dX12_added_27 rfl 43 cn_X12_334 ?_
        refine ez_lcmp 31 dX12_added_30 rfl ?_
        refine ez_top (nI 0) (by decide) ?_
        refine ez_nif_ne 34 38 dX12_added_31 rfl (by decide) (by omega) (fun h31 => ?_) (fun h31 => ?_)
        · exact absurd h31 (by decide)
        · refine ez_iconst 35 dX12_added_34 rfl (nI 1) (by decide) ?_
          refine ez_goto 39 dX12_added_35 (by decide) ?_
          refine ez_istore_n 40 [(2, eI (nI 1)), (1, eI (v nm)), (0, eR 12 0)] dX12_added_39 rfl (by decide) rfl ?_
          refine ez_aload_n 41 dX12_added_40 rfl rfl ?_
          refine ez_callV 44 [] [] dX12_added_41 rfl rfl ok_X12_next in_X12_next (by decide) (by show 0 < 1; omega) ln_X12_296 (by omega) (Nat.le_of_ble_eq_true rfl) (hN o k M (d - 1) (by omega) hG (by omega)) (fun r41 M41 q41 => ?_)
          obtain ⟨rfl, f41, g41⟩ := q41
          have u41 := (hH.2.1 _ g41.2.1).1
          have w41 := g41.2.1
          show Ez (true, g) mX12_added d 44 [(2, eI (nI 1)), (1, eI (v nm)), (0, eR 12 0)] [] M41 _
          refine ez_aload_n 45 dX12_added_44 rfl rfl ?_
          refine ez_callV 48 [] [] dX12_added_45 rfl rfl ok_X12_term in_X12_term (by decide) (by show 0 < 1; omega) ln_X12_331 (by omega) (Nat.le_of_ble_eq_true rfl) (iA o (k + 1) _ _ M41 (d - 1) (by omega) (by omega) g41 h1) (fun r45 M45 q45 => ?_)
          obtain ⟨f45, rfl, g45⟩ := q45
          have g45 : MG Tk Pl En N fr n b nm o k1 M45 := g45
          have u45 := (hH.2.1 _ g45.2.1).1
          have w45 := g45.2.1
          show Ez (true, g) mX12_added d 48 [(2, eI (nI 1)), (1, eI (v nm)), (0, eR 12 0)] [eI (v1 nm)] M45 _
          refine ez_istore_n 49 [(3, eI (v1 nm)), (2, eI (nI 1)), (1, eI (v nm)), (0, eR 12 0)] dX12_added_48 rfl (by decide) rfl ?_
          refine ez_iload_n 50 dX12_added_49 rfl rfl ?_
          refine ez_nif_eq 53 59 dX12_added_50 rfl (by decide) (by omega) (fun h50 => ?_) (fun h50 => ?_)
          · exact absurd h50 (by decide)
          · refine ez_iload_n 54 dX12_added_53 rfl rfl ?_
            refine ez_iload_n 55 dX12_added_54 rfl rfl ?_
            refine ez_iadd 56 dX12_added_55 rfl ?_
            refine ez_goto 62 dX12_added_56 (by decide) ?_
            refine ez_istore_n 63 [(1, eI ((v nm) + (v1 nm))), (3, eI (v1 nm)), (2, eI (nI 1)), (0, eR 12 0)] dX12_added_62 rfl (by decide) rfl ?_
            refine ez_goto 5 dX12_added_63 (by decide) ?_
            refine ez_drop [(1, eI (v nm + v1 nm)), (0, eR 12 0)] (by simp [ep_tr]) ?_
            exact iT o k1 _ (fun nm => v nm + v1 nm) x M0 _ d ho (by omega) ((hF.tr f41).tr f45) g45 h2
      · exact absurd h11 (by decide)
    · have hlt := hH.2.2 k hG.2.1 (by omega)
      refine ez_aload_n 6 dX12_added_5 rfl rfl ?_
      refine ez_bipush 8 dX12_added_6 rfl (nI 43) (by decide) ?_
      refine ez_callV 11 [eI (nI 43)] [] dX12_added_8 rfl rfl ok_X12_isSign in_X12_isSign (by decide) (by show 0 < 1; omega) ln_X12_315 (by omega) (Nat.le_of_ble_eq_true rfl) (c_is_y g (d - 1) 43 M hG (by decide) (by omega)) (fun r8 M8 q8 => ?_)
      obtain ⟨rfl, e8⟩ := q8
      rw [e8]
      show Ez (true, g) mX12_added d 11 [(1, eI (v nm)), (0, eR 12 0)] [eI (nI 1)] M _
      refine ez_nif_ne 14 23 dX12_added_11 rfl (by decide) (by omega) (fun h11 => ?_) (fun h11 => ?_)
      · refine ez_aload_n 24 dX12_added_23 rfl rfl ?_
        refine ez_getf 27 (eL (M.2 12 0 25)) dX12_added_24 rfl fl_X12_270 (by show 0 < 1; omega) rfl ?_
        refine ez_topL ((nI 43).toInt64) (((MTk_s hG.2.2.1 (by omega) (by omega)).mpr (show Tk k = 43 by omega)).2) ?_
        refine ez_ldc2 30 dX12_added_27 rfl 43 cn_X12_334 ?_
        refine ez_lcmp 31 dX12_added_30 rfl ?_
        refine ez_top (nI 0) (by decide) ?_
        refine ez_nif_ne 34 38 dX12_added_31 rfl (by decide) (by omega) (fun h31 => ?_) (fun h31 => ?_)
        · exact absurd h31 (by decide)
        · refine ez_iconst 35 dX12_added_34 rfl (nI 1) (by decide) ?_
          refine ez_goto 39 dX12_added_35 (by decide) ?_
          refine ez_istore_n 40 [(2, eI (nI 1)), (1, eI (v nm)), (0, eR 12 0)] dX12_added_39 rfl (by decide) rfl ?_
          refine ez_aload_n 41 dX12_added_40 rfl rfl ?_
          refine ez_callV 44 [] [] dX12_added_41 rfl rfl ok_X12_next in_X12_next (by decide) (by show 0 < 1; omega) ln_X12_296 (by omega) (Nat.le_of_ble_eq_true rfl) (hN o k M (d - 1) (by omega) hG (by omega)) (fun r41 M41 q41 => ?_)
          obtain ⟨rfl, f41, g41⟩ := q41
          have u41 := (hH.2.1 _ g41.2.1).1
          have w41 := g41.2.1
          show Ez (true, g) mX12_added d 44 [(2, eI (nI 1)), (1, eI (v nm)), (0, eR 12 0)] [] M41 _
          refine ez_aload_n 45 dX12_added_44 rfl rfl ?_
          refine ez_callV 48 [] [] dX12_added_45 rfl rfl ok_X12_term in_X12_term (by decide) (by show 0 < 1; omega) ln_X12_331 (by omega) (Nat.le_of_ble_eq_true rfl) (iA o (k + 1) _ _ M41 (d - 1) (by omega) (by omega) g41 h1) (fun r45 M45 q45 => ?_)
          obtain ⟨f45, ⟨v45, rfl⟩, g45⟩ := q45
          show Ez (true, g) mX12_added d 48 [(2, eI (nI 1)), (1, eI (v nm)), (0, eR 12 0)] [eI v45] M45 _
          refine ez_istore_n 49 [(3, eI v45), (2, eI (nI 1)), (1, eI (v nm)), (0, eR 12 0)] dX12_added_48 rfl (by decide) rfl ?_
          refine ez_iload_n 50 dX12_added_49 rfl rfl ?_
          refine ez_nif_eq 53 59 dX12_added_50 rfl (by decide) (by omega) (fun h50 => ?_) (fun h50 => ?_)
          · exact absurd h50 (by decide)
          · refine ez_iload_n 54 dX12_added_53 rfl rfl ?_
            refine ez_iload_n 55 dX12_added_54 rfl rfl ?_
            refine ez_iadd 56 dX12_added_55 rfl ?_
            refine ez_goto 62 dX12_added_56 (by decide) ?_
            refine ez_istore_n 63 [(1, eI ((v nm) + v45)), (3, eI v45), (2, eI (nI 1)), (0, eR 12 0)] dX12_added_62 rfl (by decide) rfl ?_
            refine ez_goto 5 dX12_added_63 (by decide) ?_
            refine ez_drop [(1, eI ((v nm) + v45)), (0, eR 12 0)] (by simp) ?_
            exact ml_added g d (Pl e) o _ M0 _ (by omega) ((hF.tr f41).tr f45) g45
      · exact absurd h11 (by decide)
  rw [if_neg t43] at h
  by_cases t45 : Tk k = 45
  · rw [if_pos t45] at h
    rcases ep_bd_some h with ⟨k1, c1, v1, h1, h2⟩ | ⟨e, h1, rfl⟩
    · have hlt := hH.2.2 k hG.2.1 (by omega)
      refine ez_aload_n 6 dX12_added_5 rfl rfl ?_
      refine ez_bipush 8 dX12_added_6 rfl (nI 43) (by decide) ?_
      refine ez_callV 11 [eI (nI 43)] [] dX12_added_8 rfl rfl ok_X12_isSign in_X12_isSign (by decide) (by show 0 < 1; omega) ln_X12_315 (by omega) (Nat.le_of_ble_eq_true rfl) (c_is_n g (d - 1) 43 M hG (by decide) (by omega)) (fun r8 M8 q8 => ?_)
      obtain ⟨rfl, e8⟩ := q8
      rw [e8]
      show Ez (true, g) mX12_added d 11 [(1, eI (v nm)), (0, eR 12 0)] [eI (nI 0)] M _
      refine ez_nif_ne 14 23 dX12_added_11 rfl (by decide) (by omega) (fun h11 => ?_) (fun h11 => ?_)
      · exact absurd h11 (by decide)
      · refine ez_aload_n 15 dX12_added_14 rfl rfl ?_
        refine ez_bipush 17 dX12_added_15 rfl (nI 45) (by decide) ?_
        refine ez_callV 20 [eI (nI 45)] [] dX12_added_17 rfl rfl ok_X12_isSign in_X12_isSign (by decide) (by show 0 < 1; omega) ln_X12_315 (by omega) (Nat.le_of_ble_eq_true rfl) (c_is_y g (d - 1) 45 M hG (by decide) (by omega)) (fun r17 M17 q17 => ?_)
        obtain ⟨rfl, e17⟩ := q17
        rw [e17]
        show Ez (true, g) mX12_added d 20 [(1, eI (v nm)), (0, eR 12 0)] [eI (nI 1)] M _
        refine ez_nif_eq 23 66 dX12_added_20 rfl (by decide) (by omega) (fun h20 => ?_) (fun h20 => ?_)
        · exact absurd h20 (by decide)
        · refine ez_aload_n 24 dX12_added_23 rfl rfl ?_
          refine ez_getf 27 (eL (M.2 12 0 25)) dX12_added_24 rfl fl_X12_270 (by show 0 < 1; omega) rfl ?_
          refine ez_topL ((nI 45).toInt64) (((MTk_s hG.2.2.1 (by omega) (by omega)).mpr (show Tk k = 45 by omega)).2) ?_
          refine ez_ldc2 30 dX12_added_27 rfl 43 cn_X12_334 ?_
          refine ez_lcmp 31 dX12_added_30 rfl ?_
          refine ez_top (nI 1) (by decide) ?_
          refine ez_nif_ne 34 38 dX12_added_31 rfl (by decide) (by omega) (fun h31 => ?_) (fun h31 => ?_)
          · refine ez_iconst 39 dX12_added_38 rfl (nI 0) (by decide) ?_
            refine ez_istore_n 40 [(2, eI (nI 0)), (1, eI (v nm)), (0, eR 12 0)] dX12_added_39 rfl (by decide) rfl ?_
            refine ez_aload_n 41 dX12_added_40 rfl rfl ?_
            refine ez_callV 44 [] [] dX12_added_41 rfl rfl ok_X12_next in_X12_next (by decide) (by show 0 < 1; omega) ln_X12_296 (by omega) (Nat.le_of_ble_eq_true rfl) (hN o k M (d - 1) (by omega) hG (by omega)) (fun r41 M41 q41 => ?_)
            obtain ⟨rfl, f41, g41⟩ := q41
            have u41 := (hH.2.1 _ g41.2.1).1
            have w41 := g41.2.1
            show Ez (true, g) mX12_added d 44 [(2, eI (nI 0)), (1, eI (v nm)), (0, eR 12 0)] [] M41 _
            refine ez_aload_n 45 dX12_added_44 rfl rfl ?_
            refine ez_callV 48 [] [] dX12_added_45 rfl rfl ok_X12_term in_X12_term (by decide) (by show 0 < 1; omega) ln_X12_331 (by omega) (Nat.le_of_ble_eq_true rfl) (iA o (k + 1) _ _ M41 (d - 1) (by omega) (by omega) g41 h1) (fun r45 M45 q45 => ?_)
            obtain ⟨f45, rfl, g45⟩ := q45
            have g45 : MG Tk Pl En N fr n b nm o k1 M45 := g45
            have u45 := (hH.2.1 _ g45.2.1).1
            have w45 := g45.2.1
            show Ez (true, g) mX12_added d 48 [(2, eI (nI 0)), (1, eI (v nm)), (0, eR 12 0)] [eI (v1 nm)] M45 _
            refine ez_istore_n 49 [(3, eI (v1 nm)), (2, eI (nI 0)), (1, eI (v nm)), (0, eR 12 0)] dX12_added_48 rfl (by decide) rfl ?_
            refine ez_iload_n 50 dX12_added_49 rfl rfl ?_
            refine ez_nif_eq 53 59 dX12_added_50 rfl (by decide) (by omega) (fun h50 => ?_) (fun h50 => ?_)
            · refine ez_iload_n 60 dX12_added_59 rfl rfl ?_
              refine ez_iload_n 61 dX12_added_60 rfl rfl ?_
              refine ez_isub 62 dX12_added_61 rfl ?_
              refine ez_istore_n 63 [(1, eI ((v nm) - (v1 nm))), (3, eI (v1 nm)), (2, eI (nI 0)), (0, eR 12 0)] dX12_added_62 rfl (by decide) rfl ?_
              refine ez_goto 5 dX12_added_63 (by decide) ?_
              refine ez_drop [(1, eI (v nm - v1 nm)), (0, eR 12 0)] (by simp [ep_tr]) ?_
              exact iT o k1 _ (fun nm => v nm - v1 nm) x M0 _ d ho (by omega) ((hF.tr f41).tr f45) g45 h2
            · exact absurd h50 (by decide)
          · exact absurd h31 (by decide)
    · have hlt := hH.2.2 k hG.2.1 (by omega)
      refine ez_aload_n 6 dX12_added_5 rfl rfl ?_
      refine ez_bipush 8 dX12_added_6 rfl (nI 43) (by decide) ?_
      refine ez_callV 11 [eI (nI 43)] [] dX12_added_8 rfl rfl ok_X12_isSign in_X12_isSign (by decide) (by show 0 < 1; omega) ln_X12_315 (by omega) (Nat.le_of_ble_eq_true rfl) (c_is_n g (d - 1) 43 M hG (by decide) (by omega)) (fun r8 M8 q8 => ?_)
      obtain ⟨rfl, e8⟩ := q8
      rw [e8]
      show Ez (true, g) mX12_added d 11 [(1, eI (v nm)), (0, eR 12 0)] [eI (nI 0)] M _
      refine ez_nif_ne 14 23 dX12_added_11 rfl (by decide) (by omega) (fun h11 => ?_) (fun h11 => ?_)
      · exact absurd h11 (by decide)
      · refine ez_aload_n 15 dX12_added_14 rfl rfl ?_
        refine ez_bipush 17 dX12_added_15 rfl (nI 45) (by decide) ?_
        refine ez_callV 20 [eI (nI 45)] [] dX12_added_17 rfl rfl ok_X12_isSign in_X12_isSign (by decide) (by show 0 < 1; omega) ln_X12_315 (by omega) (Nat.le_of_ble_eq_true rfl) (c_is_y g (d - 1) 45 M hG (by decide) (by omega)) (fun r17 M17 q17 => ?_)
        obtain ⟨rfl, e17⟩ := q17
        rw [e17]
        show Ez (true, g) mX12_added d 20 [(1, eI (v nm)), (0, eR 12 0)] [eI (nI 1)] M _
        refine ez_nif_eq 23 66 dX12_added_20 rfl (by decide) (by omega) (fun h20 => ?_) (fun h20 => ?_)
        · exact absurd h20 (by decide)
        · refine ez_aload_n 24 dX12_added_23 rfl rfl ?_
          refine ez_getf 27 (eL (M.2 12 0 25)) dX12_added_24 rfl fl_X12_270 (by show 0 < 1; omega) rfl ?_
          refine ez_topL ((nI 45).toInt64) (((MTk_s hG.2.2.1 (by omega) (by omega)).mpr (show Tk k = 45 by omega)).2) ?_
          refine ez_ldc2 30 dX12_added_27 rfl 43 cn_X12_334 ?_
          refine ez_lcmp 31 dX12_added_30 rfl ?_
          refine ez_top (nI 1) (by decide) ?_
          refine ez_nif_ne 34 38 dX12_added_31 rfl (by decide) (by omega) (fun h31 => ?_) (fun h31 => ?_)
          · refine ez_iconst 39 dX12_added_38 rfl (nI 0) (by decide) ?_
            refine ez_istore_n 40 [(2, eI (nI 0)), (1, eI (v nm)), (0, eR 12 0)] dX12_added_39 rfl (by decide) rfl ?_
            refine ez_aload_n 41 dX12_added_40 rfl rfl ?_
            refine ez_callV 44 [] [] dX12_added_41 rfl rfl ok_X12_next in_X12_next (by decide) (by show 0 < 1; omega) ln_X12_296 (by omega) (Nat.le_of_ble_eq_true rfl) (hN o k M (d - 1) (by omega) hG (by omega)) (fun r41 M41 q41 => ?_)
            obtain ⟨rfl, f41, g41⟩ := q41
            have u41 := (hH.2.1 _ g41.2.1).1
            have w41 := g41.2.1
            show Ez (true, g) mX12_added d 44 [(2, eI (nI 0)), (1, eI (v nm)), (0, eR 12 0)] [] M41 _
            refine ez_aload_n 45 dX12_added_44 rfl rfl ?_
            refine ez_callV 48 [] [] dX12_added_45 rfl rfl ok_X12_term in_X12_term (by decide) (by show 0 < 1; omega) ln_X12_331 (by omega) (Nat.le_of_ble_eq_true rfl) (iA o (k + 1) _ _ M41 (d - 1) (by omega) (by omega) g41 h1) (fun r45 M45 q45 => ?_)
            obtain ⟨f45, ⟨v45, rfl⟩, g45⟩ := q45
            show Ez (true, g) mX12_added d 48 [(2, eI (nI 0)), (1, eI (v nm)), (0, eR 12 0)] [eI v45] M45 _
            refine ez_istore_n 49 [(3, eI v45), (2, eI (nI 0)), (1, eI (v nm)), (0, eR 12 0)] dX12_added_48 rfl (by decide) rfl ?_
            refine ez_iload_n 50 dX12_added_49 rfl rfl ?_
            refine ez_nif_eq 53 59 dX12_added_50 rfl (by decide) (by omega) (fun h50 => ?_) (fun h50 => ?_)
            · refine ez_iload_n 60 dX12_added_59 rfl rfl ?_
              refine ez_iload_n 61 dX12_added_60 rfl rfl ?_
              refine ez_isub 62 dX12_added_61 rfl ?_
              refine ez_istore_n 63 [(1, eI ((v nm) - v45)), (3, eI v45), (2, eI (nI 0)), (0, eR 12 0)] dX12_added_62 rfl (by decide) rfl ?_
              refine ez_goto 5 dX12_added_63 (by decide) ?_
              refine ez_drop [(1, eI ((v nm) - v45)), (0, eR 12 0)] (by simp) ?_
              exact ml_added g d (Pl e) o _ M0 _ (by omega) ((hF.tr f41).tr f45) g45
            · exact absurd h50 (by decide)
          · exact absurd h31 (by decide)
  rw [if_neg t45] at h
  cases h
  refine ez_aload_n 6 dX12_added_5 rfl rfl ?_
  refine ez_bipush 8 dX12_added_6 rfl (nI 43) (by decide) ?_
  refine ez_callV 11 [eI (nI 43)] [] dX12_added_8 rfl rfl ok_X12_isSign in_X12_isSign (by decide) (by show 0 < 1; omega) ln_X12_315 (by omega) (Nat.le_of_ble_eq_true rfl) (c_is_n g (d - 1) 43 M hG (by decide) (by omega)) (fun r8 M8 q8 => ?_)
  obtain ⟨rfl, e8⟩ := q8
  rw [e8]
  show Ez (true, g) mX12_added d 11 [(1, eI (v nm)), (0, eR 12 0)] [eI (nI 0)] M _
  refine ez_nif_ne 14 23 dX12_added_11 rfl (by decide) (by omega) (fun h11 => ?_) (fun h11 => ?_)
  · exact absurd h11 (by decide)
  · refine ez_aload_n 15 dX12_added_14 rfl rfl ?_
    refine ez_bipush 17 dX12_added_15 rfl (nI 45) (by decide) ?_
    refine ez_callV 20 [eI (nI 45)] [] dX12_added_17 rfl rfl ok_X12_isSign in_X12_isSign (by decide) (by show 0 < 1; omega) ln_X12_315 (by omega) (Nat.le_of_ble_eq_true rfl) (c_is_n g (d - 1) 45 M hG (by decide) (by omega)) (fun r17 M17 q17 => ?_)
    obtain ⟨rfl, e17⟩ := q17
    rw [e17]
    show Ez (true, g) mX12_added d 20 [(1, eI (v nm)), (0, eR 12 0)] [eI (nI 0)] M _
    refine ez_nif_eq 23 66 dX12_added_20 rfl (by decide) (by omega) (fun h20 => ?_) (fun h20 => ?_)
    · refine ez_iload_n 67 dX12_added_66 rfl rfl ?_
      refine ez_iret .int dX12_added_67 rfl rfl ?_
      exact ⟨hF, rfl, hG⟩
    · exact absurd h20 (by decide)
set_option maxRecDepth 20000 in
theorem mt_term (g : EzH) {Tk Pl En : Nat → Nat} {N fr n : Nat} {b : Nat → Nat} {nm : Nat → Int32} {z : Nat} (hH : HT Tk Pl N) (hN : MNx g Tk Pl En N fr n b nm) (iA : PmM g Tk Pl En N fr n b nm mX12_one 5 9 z) (iT : PmT g Tk Pl En N fr n b nm mX12_term 6 8 z) : PmT g Tk Pl En N fr n b nm mX12_term 6 8 (z + 1) := by
  intro o k c v x M0 M d ho hd hF hG h
  rw [ep_pz_8] at h
  have u0 := (hH.2.1 _ hG.2.1).1
  have w0 := hG.2.1
  by_cases t42 : Tk k = 42
  · rw [if_pos t42] at h
    rcases ep_bd_some h with ⟨k1, c1, v1, h1, h2⟩ | ⟨e, h1, rfl⟩
    · have hlt := hH.2.2 k hG.2.1 (by omega)
      refine ez_aload_n 6 dX12_term_5 rfl rfl ?_
      refine ez_bipush 8 dX12_term_6 rfl (nI 42) (by decide) ?_
      refine ez_callV 11 [eI (nI 42)] [] dX12_term_8 rfl rfl ok_X12_isSign in_X12_isSign (by decide) (by show 0 < 1; omega) ln_X12_315 (by omega) (Nat.le_of_ble_eq_true rfl) (c_is_y g (d - 1) 42 M hG (by decide) (by omega)) (fun r8 M8 q8 => ?_)
      obtain ⟨rfl, e8⟩ := q8
      rw [e8]
      show Ez (true, g) mX12_term d 11 [(1, eI (v nm)), (0, eR 12 0)] [eI (nI 1)] M _
      refine ez_nif_eq 14 28 dX12_term_11 rfl (by decide) (by omega) (fun h11 => ?_) (fun h11 => ?_)
      · exact absurd h11 (by decide)
      · refine ez_aload_n 15 dX12_term_14 rfl rfl ?_
        refine ez_callV 18 [] [] dX12_term_15 rfl rfl ok_X12_next in_X12_next (by decide) (by show 0 < 1; omega) ln_X12_296 (by omega) (Nat.le_of_ble_eq_true rfl) (hN o k M (d - 1) (by omega) hG (by omega)) (fun r15 M15 q15 => ?_)
        obtain ⟨rfl, f15, g15⟩ := q15
        have u15 := (hH.2.1 _ g15.2.1).1
        have w15 := g15.2.1
        show Ez (true, g) mX12_term d 18 [(1, eI (v nm)), (0, eR 12 0)] [] M15 _
        refine ez_iload_n 19 dX12_term_18 rfl rfl ?_
        refine ez_aload_n 20 dX12_term_19 rfl rfl ?_
        refine ez_callV 23 [] [eI (v nm)] dX12_term_20 rfl rfl ok_X12_one in_X12_one (by decide) (by show 0 < 1; omega) ln_X12_322 (by omega) (Nat.le_of_ble_eq_true rfl) (iA o (k + 1) _ _ M15 (d - 1) (by omega) (by omega) g15 h1) (fun r20 M20 q20 => ?_)
        obtain ⟨f20, rfl, g20⟩ := q20
        have g20 : MG Tk Pl En N fr n b nm o k1 M20 := g20
        have u20 := (hH.2.1 _ g20.2.1).1
        have w20 := g20.2.1
        show Ez (true, g) mX12_term d 23 [(1, eI (v nm)), (0, eR 12 0)] [eI (v1 nm), eI (v nm)] M20 _
        refine ez_imul 24 dX12_term_23 rfl ?_
        refine ez_istore_n 25 [(1, eI ((v nm) * (v1 nm))), (0, eR 12 0)] dX12_term_24 rfl (by decide) rfl ?_
        refine ez_goto 5 dX12_term_25 (by decide) ?_
        refine ez_drop [(1, eI (v nm * v1 nm)), (0, eR 12 0)] (by simp [ep_tr]) ?_
        exact iT o k1 _ (fun nm => v nm * v1 nm) x M0 _ d ho (by omega) ((hF.tr f15).tr f20) g20 h2
    · have hlt := hH.2.2 k hG.2.1 (by omega)
      refine ez_aload_n 6 dX12_term_5 rfl rfl ?_
      refine ez_bipush 8 dX12_term_6 rfl (nI 42) (by decide) ?_
      refine ez_callV 11 [eI (nI 42)] [] dX12_term_8 rfl rfl ok_X12_isSign in_X12_isSign (by decide) (by show 0 < 1; omega) ln_X12_315 (by omega) (Nat.le_of_ble_eq_true rfl) (c_is_y g (d - 1) 42 M hG (by decide) (by omega)) (fun r8 M8 q8 => ?_)
      obtain ⟨rfl, e8⟩ := q8
      rw [e8]
      show Ez (true, g) mX12_term d 11 [(1, eI (v nm)), (0, eR 12 0)] [eI (nI 1)] M _
      refine ez_nif_eq 14 28 dX12_term_11 rfl (by decide) (by omega) (fun h11 => ?_) (fun h11 => ?_)
      · exact absurd h11 (by decide)
      · refine ez_aload_n 15 dX12_term_14 rfl rfl ?_
        refine ez_callV 18 [] [] dX12_term_15 rfl rfl ok_X12_next in_X12_next (by decide) (by show 0 < 1; omega) ln_X12_296 (by omega) (Nat.le_of_ble_eq_true rfl) (hN o k M (d - 1) (by omega) hG (by omega)) (fun r15 M15 q15 => ?_)
        obtain ⟨rfl, f15, g15⟩ := q15
        have u15 := (hH.2.1 _ g15.2.1).1
        have w15 := g15.2.1
        show Ez (true, g) mX12_term d 18 [(1, eI (v nm)), (0, eR 12 0)] [] M15 _
        refine ez_iload_n 19 dX12_term_18 rfl rfl ?_
        refine ez_aload_n 20 dX12_term_19 rfl rfl ?_
        refine ez_callV 23 [] [eI (v nm)] dX12_term_20 rfl rfl ok_X12_one in_X12_one (by decide) (by show 0 < 1; omega) ln_X12_322 (by omega) (Nat.le_of_ble_eq_true rfl) (iA o (k + 1) _ _ M15 (d - 1) (by omega) (by omega) g15 h1) (fun r20 M20 q20 => ?_)
        obtain ⟨f20, ⟨v20, rfl⟩, g20⟩ := q20
        show Ez (true, g) mX12_term d 23 [(1, eI (v nm)), (0, eR 12 0)] [eI v20, eI (v nm)] M20 _
        refine ez_imul 24 dX12_term_23 rfl ?_
        refine ez_istore_n 25 [(1, eI ((v nm) * v20)), (0, eR 12 0)] dX12_term_24 rfl (by decide) rfl ?_
        refine ez_goto 5 dX12_term_25 (by decide) ?_
        refine ez_drop [(1, eI ((v nm) * v20)), (0, eR 12 0)] (by simp) ?_
        exact ml_term g d (Pl e) o _ M0 _ (by omega) ((hF.tr f15).tr f20) g20
  rw [if_neg t42] at h
  cases h
  refine ez_aload_n 6 dX12_term_5 rfl rfl ?_
  refine ez_bipush 8 dX12_term_6 rfl (nI 42) (by decide) ?_
  refine ez_callV 11 [eI (nI 42)] [] dX12_term_8 rfl rfl ok_X12_isSign in_X12_isSign (by decide) (by show 0 < 1; omega) ln_X12_315 (by omega) (Nat.le_of_ble_eq_true rfl) (c_is_n g (d - 1) 42 M hG (by decide) (by omega)) (fun r8 M8 q8 => ?_)
  obtain ⟨rfl, e8⟩ := q8
  rw [e8]
  show Ez (true, g) mX12_term d 11 [(1, eI (v nm)), (0, eR 12 0)] [eI (nI 0)] M _
  refine ez_nif_eq 14 28 dX12_term_11 rfl (by decide) (by omega) (fun h11 => ?_) (fun h11 => ?_)
  · refine ez_iload_n 29 dX12_term_28 rfl rfl ?_
    refine ez_iret .int dX12_term_29 rfl rfl ?_
    exact ⟨hF, rfl, hG⟩
  · exact absurd h11 (by decide)
