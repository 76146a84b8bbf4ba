/-! the model's reader: its state while it reads; isWord, isSign, fail, opens, name -/
def ep_wd : Nat → Int64
  | 10 => 60134
  | 11 => 2432449
  | 12 => 6271583509
  | 13 => 1492
  | 14 => 388708
  | 15 => 212302449
  | 16 => 204
  | 17 => 12251
  | 18 => 394691
  | 19 => 423
  | 20 => 1111
  | _ => 10631
theorem ep_wd_inj : ∀ a, a < 22 → 10 ≤ a → ∀ b, b < 22 → 10 ≤ b → ep_wd a = ep_wd b → a = b := by decide +kernel
def MTk (t : Nat) (M : EzM) : Prop := (t = 0 ∧ M.1 12 0 23 = nI 0) ∨ (t = 1 ∧ (M.1 12 0 23 = nI 4 ∨ (M.1 12 0 23 = nI 1 ∧ ∀ c, 10 ≤ c → c < 22 → ¬ M.2 12 0 25 = ep_wd c))) ∨ (10 ≤ t ∧ t < 22 ∧ M.1 12 0 23 = nI 1 ∧ M.2 12 0 25 = ep_wd t) ∨ (40 ≤ t ∧ t < 62 ∧ M.1 12 0 23 = nI 3 ∧ M.2 12 0 25 = (nI t).toInt64) ∨ (1000 ≤ t ∧ t < 11000 ∧ M.1 12 0 23 = nI 2 ∧ M.2 12 0 25 = (nI (t - 1000)).toInt64)
def MF (M M' : EzM) : Prop := ez_fm [12] M M' ∧ ∀ f, f < 23 ∨ 30 ≤ f → M'.1 12 0 f = M.1 12 0 f
theorem MF.rf {M : EzM} : MF M M := ⟨ez_fm.rfl, fun _ _ => rfl⟩
theorem MF.tr {M M1 M2 : EzM} (h : MF M M1) (h2 : MF M1 M2) : MF M M2 := ⟨h.1.tr h2.1, fun f hf => (h2.2 f hf).trans (h.2 f hf)⟩
theorem MF.s {M : EzM} {s : Nat} {v : Int32} (hs : 23 ≤ s ∧ s < 30) : MF M (ez_st M 12 0 s v) := ⟨ez_fm.rfl.st (by decide), fun f hf => by rw [ez_rd, if_neg (by omega)]⟩
theorem MF.sL {M : EzM} {s : Nat} {v : Int64} : MF M (ez_stL M 12 0 s v) := ⟨ez_fm.rfl.stL (by decide), fun f hf => rfl⟩
/-- the text: size n at from fr, bytes b -/
def MX (fr n : Nat) (b : Nat → Nat) (nm : Nat → Int32) (M : EzM) : Prop := M.1 12 0 21 = nI fr ∧ M.1 12 0 22 = nI n ∧ (∀ i, i < n → M.1 42 0 (fr + i) = nI (b i)) ∧ ∀ f, f < 6 → M.1 12 0 (30 + f) = nm f
theorem MX.mf {fr n : Nat} {b : Nat → Nat} {nm : Nat → Int32} {M M' : EzM} (h : MX fr n b nm M) (hf : MF M M') : MX fr n b nm M' := by
  refine ⟨by rw [hf.2 21 (by omega)]; exact h.1, by rw [hf.2 22 (by omega)]; exact h.2.1, fun i hi => ?_, fun f hf' => by rw [hf.2 _ (by omega)]; exact h.2.2.2 f hf'⟩
  rw [(hf.1 42 (by decide)).1]
  exact h.2.2.1 i hi
def MG (Tk Pl En : Nat → Nat) (N fr n : Nat) (b : Nat → Nat) (nm : Nat → Int32) (o k : Nat) (M : EzM) : Prop := MX fr n b nm M ∧ k ≤ N ∧ MTk (Tk k) M ∧ M.1 12 0 24 = nI (Pl k) ∧ M.1 12 0 26 = nI (En k) ∧ M.1 12 0 27 = nI o ∧ M.1 12 0 28 = nI 0
def MB (f o : Nat) (M : EzM) : Prop := M.1 12 0 28 = nI 1 ∧ M.1 12 0 29 = nI f ∧ M.1 12 0 27 = nI o
theorem ep_lg0 {x y : Int64} : lg_cmp x y = 0 ↔ x = y := by
  unfold lg_cmp
  by_cases h1 : x > y
  · rw [if_pos h1]
    refine ⟨fun h => absurd h (by decide), fun h => ?_⟩
    rw [h] at h1
    exact absurd (Int64.lt_iff_toInt_lt.mp h1) (by omega)
  · rw [if_neg h1]
    by_cases h2 : x = y
    · rw [if_pos h2]
      exact ⟨fun _ => h2, fun _ => rfl⟩
    · rw [if_neg h2]
      exact ⟨fun h => absurd h (by decide), fun h => absurd h h2⟩
set_option maxRecDepth 20000 in
theorem c_X12_isWord (g : EzH) (d : Nat) (w : Int64) (M : EzM)  : Ezc (true, g) mX12_isWord d [eR 12 0, eL w] M (fun r M' => r = some (eI (if M.1 12 0 28 = 0 ∧ M.1 12 0 23 = nI 1 ∧ M.2 12 0 25 = w then nI 1 else nI 0)) ∧ M' = M) := by
  refine Ezc.of (by decide +kernel) (Nat.le_of_ble_eq_true rfl) ?_
  show Ez (true, g) mX12_isWord d 0 [(0, eR 12 0), (1, eL w)] [] M _
  refine ez_aload_n 1 dX12_isWord_0 rfl rfl ?_
  refine ez_getf 4 (eI (M.1 12 0 28)) dX12_isWord_1 rfl fl_X12_284 (by show 0 < 1; omega) rfl ?_
  refine ez_if_ne 7 28 dX12_isWord_4 rfl (by decide) (fun h4 => ?_) (fun h4 => ?_)
  · refine ez_iconst 29 dX12_isWord_28 rfl (nI 0) (by decide) ?_
    refine ez_iret .boolean dX12_isWord_29 rfl (by decide) ?_
    exact ⟨by rw [if_neg (fun q => h4 q.1)], rfl⟩
  · refine ez_aload_n 8 dX12_isWord_7 rfl rfl ?_
    refine ez_getf 11 (eI (M.1 12 0 23)) dX12_isWord_8 rfl fl_X12_265 (by show 0 < 1; omega) rfl ?_
    refine ez_iconst 12 dX12_isWord_11 rfl (nI 1) (by decide) ?_
    refine ez_icmp_ne 15 28 dX12_isWord_12 rfl (by decide) (fun h12 => ?_) (fun h12 => ?_)
    · refine ez_iconst 29 dX12_isWord_28 rfl (nI 0) (by decide) ?_
      refine ez_iret .boolean dX12_isWord_29 rfl (by decide) ?_
      exact ⟨by rw [if_neg (fun q => h12 q.2.1)], rfl⟩
    · refine ez_aload_n 16 dX12_isWord_15 rfl rfl ?_
      refine ez_getf 19 (eL (M.2 12 0 25)) dX12_isWord_16 rfl fl_X12_270 (by show 0 < 1; omega) rfl ?_
      refine ez_lload_n 20 dX12_isWord_19 rfl rfl ?_
      refine ez_lcmp 21 dX12_isWord_20 rfl ?_
      refine ez_if_ne 24 28 dX12_isWord_21 rfl (by decide) (fun h21 => ?_) (fun h21 => ?_)
      · refine ez_iconst 29 dX12_isWord_28 rfl (nI 0) (by decide) ?_
        refine ez_iret .boolean dX12_isWord_29 rfl (by decide) ?_
        exact ⟨by rw [if_neg (fun q => h21 (ep_lg0.mpr q.2.2))], rfl⟩
      · refine ez_iconst 25 dX12_isWord_24 rfl (nI 1) (by decide) ?_
        refine ez_goto 29 dX12_isWord_25 (by decide) ?_
        refine ez_iret .boolean dX12_isWord_29 rfl (by decide) ?_
        exact ⟨by rw [if_pos ⟨h4, h12, ep_lg0.mp h21⟩], rfl⟩
set_option maxRecDepth 20000 in
theorem c_X12_isSign (g : EzH) (d : Nat) (s : Int32) (M : EzM)  : Ezc (true, g) mX12_isSign d [eR 12 0, eI s] M (fun r M' => r = some (eI (if M.1 12 0 28 = 0 ∧ M.1 12 0 23 = nI 3 ∧ M.2 12 0 25 = s.toInt64 then nI 1 else nI 0)) ∧ M' = M) := by
  refine Ezc.of (by decide +kernel) (Nat.le_of_ble_eq_true rfl) ?_
  show Ez (true, g) mX12_isSign d 0 [(0, eR 12 0), (1, eI s)] [] M _
  refine ez_aload_n 1 dX12_isSign_0 rfl rfl ?_
  refine ez_getf 4 (eI (M.1 12 0 28)) dX12_isSign_1 rfl fl_X12_284 (by show 0 < 1; omega) rfl ?_
  refine ez_if_ne 7 29 dX12_isSign_4 rfl (by decide) (fun h4 => ?_) (fun h4 => ?_)
  · refine ez_iconst 30 dX12_isSign_29 rfl (nI 0) (by decide) ?_
    refine ez_iret .boolean dX12_isSign_30 rfl (by decide) ?_
    exact ⟨by rw [if_neg (fun q => h4 q.1)], rfl⟩
  · refine ez_aload_n 8 dX12_isSign_7 rfl rfl ?_
    refine ez_getf 11 (eI (M.1 12 0 23)) dX12_isSign_8 rfl fl_X12_265 (by show 0 < 1; omega) rfl ?_
    refine ez_iconst 12 dX12_isSign_11 rfl (nI 3) (by decide) ?_
    refine ez_icmp_ne 15 29 dX12_isSign_12 rfl (by decide) (fun h12 => ?_) (fun h12 => ?_)
    · refine ez_iconst 30 dX12_isSign_29 rfl (nI 0) (by decide) ?_
      refine ez_iret .boolean dX12_isSign_30 rfl (by decide) ?_
      exact ⟨by rw [if_neg (fun q => h12 q.2.1)], rfl⟩
    · refine ez_aload_n 16 dX12_isSign_15 rfl rfl ?_
      refine ez_getf 19 (eL (M.2 12 0 25)) dX12_isSign_16 rfl fl_X12_270 (by show 0 < 1; omega) rfl ?_
      refine ez_iload_n 20 dX12_isSign_19 rfl rfl ?_
      refine ez_i2l 21 dX12_isSign_20 rfl ?_
      refine ez_lcmp 22 dX12_isSign_21 rfl ?_
      refine ez_if_ne 25 29 dX12_isSign_22 rfl (by decide) (fun h22 => ?_) (fun h22 => ?_)
      · refine ez_iconst 30 dX12_isSign_29 rfl (nI 0) (by decide) ?_
        refine ez_iret .boolean dX12_isSign_30 rfl (by decide) ?_
        exact ⟨by rw [if_neg (fun q => h22 (ep_lg0.mpr q.2.2))], rfl⟩
      · refine ez_iconst 26 dX12_isSign_25 rfl (nI 1) (by decide) ?_
        refine ez_goto 30 dX12_isSign_26 (by decide) ?_
        refine ez_iret .boolean dX12_isSign_30 rfl (by decide) ?_
        exact ⟨by rw [if_pos ⟨h4, h12, ep_lg0.mp h22⟩], rfl⟩
theorem MTk_w {t c : Nat} {M : EzM} (h : MTk t M) (hc : 10 ≤ c) (hc2 : c < 22) : (M.1 12 0 23 = nI 1 ∧ M.2 12 0 25 = ep_wd c) ↔ t = c := by
  rcases h with ⟨h1, h2⟩ | ⟨h1, h2 | ⟨h2, h3⟩⟩ | ⟨h1, h2, h3, h4⟩ | ⟨h1, h2, h3, h4⟩ | ⟨h1, h2, h3, h4⟩
  · refine ⟨fun q => absurd (h2.symm.trans q.1) (by decide), fun q => by omega⟩
  · refine ⟨fun q => absurd (h2.symm.trans q.1) (by decide), fun q => by omega⟩
  · refine ⟨fun q => absurd q.2 (h3 c hc hc2), fun q => by omega⟩
  · refine ⟨fun q => ep_wd_inj t h2 h1 c hc2 hc (h4.symm.trans q.2), fun q => by rw [← q]; exact ⟨h3, h4⟩⟩
  · refine ⟨fun q => absurd (h3.symm.trans q.1) (by decide), fun q => by omega⟩
  · refine ⟨fun q => absurd (h3.symm.trans q.1) (by decide), fun q => by omega⟩
theorem ep_w64 {a b : Nat} (ha : a < 2 ^ 31) (hb : b < 2 ^ 31) : (nI a).toInt64 = (nI b).toInt64 ↔ a = b := by
  rw [nI_l ha, nI_l hb]
  exact lN_eq ha hb
theorem MTk_s {t c : Nat} {M : EzM} (h : MTk t M) (hc : 40 ≤ c) (hc2 : c < 62) : (M.1 12 0 23 = nI 3 ∧ M.2 12 0 25 = (nI c).toInt64) ↔ t = c := by
  rcases h with ⟨h1, h2⟩ | ⟨h1, h2 | ⟨h2, h3⟩⟩ | ⟨h1, h2, h3, h4⟩ | ⟨h1, h2, h3, h4⟩ | ⟨h1, h2, h3, h4⟩
  · refine ⟨fun q => absurd (h2.symm.trans q.1) (by decide), fun q => by omega⟩
  · refine ⟨fun q => absurd (h2.symm.trans q.1) (by decide), fun q => by omega⟩
  · refine ⟨fun q => absurd (h2.symm.trans q.1) (by decide), fun q => by omega⟩
  · refine ⟨fun q => absurd (h3.symm.trans q.1) (by decide), fun q => by omega⟩
  · refine ⟨fun q => (ep_w64 (by omega) (by omega)).mp (h4.symm.trans q.2), fun q => by rw [← q]; exact ⟨h3, h4⟩⟩
  · refine ⟨fun q => absurd (h3.symm.trans q.1) (by decide), fun q => by omega⟩
theorem c_iw_y (g : EzH) (d : Nat) {Tk Pl En : Nat → Nat} {N fr n : Nat} {b : Nat → Nat} {nm : Nat → Int32} {o k : Nat} (c : Nat) (w : Int64) (M : EzM) (hG : MG Tk Pl En N fr n b nm o k M) (hc : 10 ≤ c ∧ c < 22) (hw : w = ep_wd c) (ht : Tk k = c) : Ezc (true, g) mX12_isWord d [eR 12 0, eL w] M (fun r M' => r = some (eI (nI 1)) ∧ M' = M) :=
  (c_X12_isWord g d w M).wk (fun r M' h => ⟨by rw [h.1, hw, if_pos ⟨hG.2.2.2.2.2.2, (MTk_w hG.2.2.1 hc.1 hc.2).mpr ht⟩], h.2⟩)
theorem c_iw_n (g : EzH) (d : Nat) {Tk Pl En : Nat → Nat} {N fr n : Nat} {b : Nat → Nat} {nm : Nat → Int32} {o k : Nat} (c : Nat) (w : Int64) (M : EzM) (hG : MG Tk Pl En N fr n b nm o k M) (hc : 10 ≤ c ∧ c < 22) (hw : w = ep_wd c) (ht : ¬ Tk k = c) : Ezc (true, g) mX12_isWord d [eR 12 0, eL w] M (fun r M' => r = some (eI (nI 0)) ∧ M' = M) :=
  (c_X12_isWord g d w M).wk (fun r M' h => ⟨by rw [h.1, hw, if_neg (fun q => ht ((MTk_w hG.2.2.1 hc.1 hc.2).mp q.2))], h.2⟩)
theorem c_iw_b (g : EzH) (d : Nat) {f o : Nat} (w : Int64) (M : EzM) (hB : MB f o M) : Ezc (true, g) mX12_isWord d [eR 12 0, eL w] M (fun r M' => r = some (eI (nI 0)) ∧ M' = M) :=
  (c_X12_isWord g d w M).wk (fun r M' h => ⟨by rw [h.1, if_neg (fun q => absurd (hB.1.symm.trans q.1) (by decide))], h.2⟩)
theorem c_is_y (g : EzH) (d : Nat) {Tk Pl En : Nat → Nat} {N fr n : Nat} {b : Nat → Nat} {nm : Nat → Int32} {o k : Nat} (c : Nat) (M : EzM) (hG : MG Tk Pl En N fr n b nm o k M) (hc : 40 ≤ c ∧ c < 62) (ht : Tk k = c) : Ezc (true, g) mX12_isSign d [eR 12 0, eI (nI c)] M (fun r M' => r = some (eI (nI 1)) ∧ M' = M) :=
  (c_X12_isSign g d (nI c) M).wk (fun r M' h => ⟨by rw [h.1, if_pos ⟨hG.2.2.2.2.2.2, (MTk_s hG.2.2.1 hc.1 hc.2).mpr ht⟩], h.2⟩)
theorem c_is_n (g : EzH) (d : Nat) {Tk Pl En : Nat → Nat} {N fr n : Nat} {b : Nat → Nat} {nm : Nat → Int32} {o k : Nat} (c : Nat) (M : EzM) (hG : MG Tk Pl En N fr n b nm o k M) (hc : 40 ≤ c ∧ c < 62) (ht : ¬ Tk k = c) : Ezc (true, g) mX12_isSign d [eR 12 0, eI (nI c)] M (fun r M' => r = some (eI (nI 0)) ∧ M' = M) :=
  (c_X12_isSign g d (nI c) M).wk (fun r M' h => ⟨by rw [h.1, if_neg (fun q => ht ((MTk_s hG.2.2.1 hc.1 hc.2).mp q.2))], h.2⟩)
theorem c_is_b (g : EzH) (d : Nat) {f o : Nat} (s : Int32) (M : EzM) (hB : MB f o M) : Ezc (true, g) mX12_isSign d [eR 12 0, eI s] M (fun r M' => r = some (eI (nI 0)) ∧ M' = M) :=
  (c_X12_isSign g d s M).wk (fun r M' h => ⟨by rw [h.1, if_neg (fun q => absurd (hB.1.symm.trans q.1) (by decide))], h.2⟩)
/-- the next token -/
def MNx (g : EzH) (Tk Pl En : Nat → Nat) (N fr n : Nat) (b : Nat → Nat) (nm : Nat → Int32) : Prop := ∀ (o k : Nat) (M : EzM) (d : Nat), 3 ≤ d → MG Tk Pl En N fr n b nm o k M → 10 ≤ Tk k → Ezc (true, g) mX12_next d [eR 12 0] M (fun r M' => r = none ∧ MF M M' ∧ MG Tk Pl En N fr n b nm o (k + 1) M')
theorem MG_op {Tk Pl En : Nat → Nat} {N fr n : Nat} {b : Nat → Nat} {nm : Nat → Int32} {o k : Nat} {o' : Nat} {M : EzM} (h : MG Tk Pl En N fr n b nm o k M) : MG Tk Pl En N fr n b nm o' k (ez_st M 12 0 27 (nI o')) := by
  obtain ⟨a1, a2, a3, a4, a5, a6, a7⟩ := h
  exact ⟨a1.mf (MF.s (by decide)), a2, a3, a4, a5, by simp [ez_rd], a7⟩
theorem MB_op {f o o' : Nat} {M : EzM} (h : MB f o M) : MB f o' (ez_st M 12 0 27 (nI o')) := ⟨h.1, h.2.1, by simp [ez_rd]⟩
set_option maxRecDepth 20000 in
theorem c_fail (g : EzH) (d : Nat) {Tk Pl En : Nat → Nat} {N fr n : Nat} {b : Nat → Nat} {nm : Nat → Int32} {o k : Nat} (M : EzM) (hG : MG Tk Pl En N fr n b nm o k M) : Ezc (true, g) mX12_fail d [eR 12 0] M (fun r M' => r = none ∧ MF M M' ∧ MB (Pl k) o M') := by
  refine Ezc.of (by decide +kernel) (Nat.le_of_ble_eq_true rfl) ?_
  show Ez (true, g) mX12_fail d 0 [(0, eR 12 0)] [] M _
  refine ez_aload_n 1 dX12_fail_0 rfl rfl ?_
  refine ez_getf 4 (eI (M.1 12 0 28)) dX12_fail_1 rfl fl_X12_284 (by show 0 < 1; omega) rfl ?_
  refine ez_top (nI 0) hG.2.2.2.2.2.2 ?_
  refine ez_nif_ne 7 20 dX12_fail_4 rfl (by decide) (by omega) (fun h4 => ?_) (fun h4 => ?_)
  · exact absurd h4 (by decide)
  · refine ez_aload_n 8 dX12_fail_7 rfl rfl ?_
    refine ez_iconst 9 dX12_fail_8 rfl (nI 1) (by decide) ?_
    refine ez_putf 12 .boolean dX12_fail_9 rfl fp_X12_284 (by show 0 < 1; omega) rfl (by decide) (by decide) (by decide) ?_
    refine ez_aload_n 13 dX12_fail_12 rfl rfl ?_
    refine ez_aload_n 14 dX12_fail_13 rfl rfl ?_
    refine ez_getf 17 (eI (M.1 12 0 24)) dX12_fail_14 rfl fl_X12_262 (by show 0 < 1; omega) rfl ?_
    refine ez_top (nI (Pl k)) hG.2.2.2.1 ?_
    refine ez_putf 20 .int dX12_fail_17 rfl fp_X12_287 (by show 0 < 1; omega) rfl (by decide) rfl rfl ?_
    refine ez_vret dX12_fail_20 rfl ?_
    exact ⟨rfl, (MF.s (by decide)).tr (MF.s (by decide)), by simp [ez_rd], by simp [ez_rd], by simp [ez_rd, hG.2.2.2.2.2.1]⟩
set_option maxRecDepth 20000 in
theorem c_failb (g : EzH) (d : Nat) {f o : Nat} (M : EzM) (hB : MB f o M) : Ezc (true, g) mX12_fail d [eR 12 0] M (fun r M' => r = none ∧ MF M M' ∧ MB f o M') := by
  refine Ezc.of (by decide +kernel) (Nat.le_of_ble_eq_true rfl) ?_
  show Ez (true, g) mX12_fail d 0 [(0, eR 12 0)] [] M _
  refine ez_aload_n 1 dX12_fail_0 rfl rfl ?_
  refine ez_getf 4 (eI (M.1 12 0 28)) dX12_fail_1 rfl fl_X12_284 (by show 0 < 1; omega) rfl ?_
  refine ez_top (nI 1) hB.1 ?_
  refine ez_nif_ne 7 20 dX12_fail_4 rfl (by decide) (by omega) (fun h4 => ?_) (fun h4 => ?_)
  · refine ez_vret dX12_fail_20 rfl ?_
    exact ⟨rfl, MF.rf, hB⟩
  · exact absurd h4 (by decide)
