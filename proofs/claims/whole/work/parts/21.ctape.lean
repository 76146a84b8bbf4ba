/-! the tape's reader: what holds while a text is read; advance, refuse, expect, mayOpen, add -/
def HT (Tk Pl : Nat → Nat) (N : Nat) : Prop := N ≤ 160 ∧ (∀ k, k ≤ N → Tk k < 11000 ∧ Pl k ≤ 160) ∧ (∀ k, k ≤ N → 10 ≤ Tk k → k < N)
def TF (M M' : EzM) : Prop := ez_fm [3, 7, 16] M M' ∧ (∀ i, i ≠ 6 → M'.1 3 i = M.1 3 i ∧ M'.1 16 i = M.1 16 i) ∧ M'.1 7 0 1 = M.1 7 0 1
def TG (Tk Pl : Nat → Nat) (N k : Nat) (c : List Int32) (M : EzM) : Prop := (∀ j, j ≤ N → M.1 14 0 j = nI (Tk j) ∧ M.1 15 0 j = nI (Pl j)) ∧ k ≤ N ∧ M.1 7 0 5 = nI k ∧ M.1 7 0 6 = nI (Tk k) ∧ M.1 7 0 7 = -1 ∧ M.1 3 6 2 = nI c.length ∧ ∀ j, j < c.length → M.1 16 6 j = c.getD j 0
def TB (f : Nat) (M : EzM) : Prop := M.1 7 0 6 = nI 1 ∧ M.1 7 0 7 = nI f
def TX (Tk Pl : Nat → Nat) (N : Nat) (x : EpR) (L : List Int32) (M : EzM) : Prop := match x with
  | .inl q => TG Tk Pl N q.1 (L ++ q.2.1) M
  | .inr e => TB (Pl e) M
theorem TF.rf {M : EzM} : TF M M := ⟨ez_fm.rfl, fun _ _ => ⟨rfl, rfl⟩, rfl⟩
theorem TF.tr {M M1 M2 : EzM} (h : TF M M1) (h2 : TF M1 M2) : TF M M2 := ⟨h.1.tr h2.1, fun i hi => ⟨(h2.2.1 i hi).1.trans (h.2.1 i hi).1, (h2.2.1 i hi).2.trans (h.2.1 i hi).2⟩, h2.2.2.trans h.2.2⟩
theorem TF.s7 {M : EzM} {s : Nat} {v : Int32} (hs : s ≠ 1) : TF M (ez_st M 7 0 s v) := ⟨ez_fm.rfl.st (by decide), fun i hi => ⟨rfl, rfl⟩, by simp [ez_rd, Ne.symm hs]⟩
theorem TF.s3 {M : EzM} {s : Nat} {v : Int32} : TF M (ez_st M 3 6 s v) := ⟨ez_fm.rfl.st (by decide), fun i hi => ⟨ez_row_n M _ (fun q => hi q.2), rfl⟩, rfl⟩
theorem TF.s16 {M : EzM} {s : Nat} {v : Int32} : TF M (ez_st M 16 6 s v) := ⟨ez_fm.rfl.st (by decide), fun i hi => ⟨rfl, ez_row_n M _ (fun q => hi q.2)⟩, rfl⟩
set_option maxRecDepth 20000 in
theorem c_X7_advance (G : EzG) (d : Nat) (k : Nat) (M : EzM) (hd : 1 ≤ d) (h0 : M.1 7 0 5 = nI k) (hk : k + 1 < 161) : Ezc G mX7_advance d [eR 7 0] M (fun r M' => r = none ∧ M' = ez_st (ez_st M 7 0 5 (nI (k + 1))) 7 0 6 (M.1 14 0 (k + 1))) := by
  refine Ezc.of (by decide +kernel) (Nat.le_of_ble_eq_true rfl) ?_
  show Ez G mX7_advance d 0 [(0, eR 7 0)] [] M _
  refine ez_aload_n 1 dX7_advance_0 rfl rfl ?_
  refine ez_dup 2 dX7_advance_1 rfl rfl ?_
  refine ez_getf 5 (eI (M.1 7 0 5)) dX7_advance_2 rfl fl_X7_36 (by show 0 < 1; omega) rfl ?_
  refine ez_top (nI k) h0 ?_
  refine ez_iconst 6 dX7_advance_5 rfl (nI 1) (by decide) ?_
  refine ez_iadd 7 dX7_advance_6 rfl ?_
  refine ez_top (nI (k + 1)) (nI_add _ _) ?_
  refine ez_putf 10 .int dX7_advance_7 rfl fp_X7_36 (by show 0 < 1; omega) rfl (by decide) rfl rfl ?_
  refine ez_aload_n 11 dX7_advance_10 rfl rfl ?_
  refine ez_aload_n 12 dX7_advance_11 rfl rfl ?_
  refine ez_getf 15 (eR 14 0) dX7_advance_12 rfl fl_X7_15 (by show 0 < 1; omega) rfl ?_
  refine ez_aload_n 16 dX7_advance_15 rfl rfl ?_
  refine ez_getf 19 (eI (nI (k + 1))) dX7_advance_16 rfl fl_X7_36 (by show 0 < 1; omega) rfl ?_
  refine ez_callSN 22 [eR 14 0, eI (nI (k + 1))] [eR 7 0] dX7_advance_19 rfl rfl ok_X11_itemAt st_X11_itemAt "ElevenPebbles" nn_X7_103 (by omega) (Nat.le_of_ble_eq_true rfl) (c_itemAt_n G (d - 1) 14 0 (k + 1) (ez_st M 7 0 5 (nI (k + 1))) (by decide) (by show 0 < 1; omega) (by show k + 1 < 161; omega)) (fun r19 M19 q19 => ?_)
  obtain ⟨rfl, e19⟩ := q19
  rw [e19]
  show Ez G mX7_advance d 22 [(0, eR 7 0)] [eI ((ez_st M 7 0 5 (nI (k + 1))).1 14 0 (k + 1)), eR 7 0] (ez_st M 7 0 5 (nI (k + 1))) _
  refine ez_putf 25 .int dX7_advance_22 rfl fp_X7_39 (by show 0 < 1; omega) rfl (by decide) rfl rfl ?_
  refine ez_vret dX7_advance_25 rfl ?_
  exact ⟨rfl, rfl⟩
set_option maxRecDepth 20000 in
theorem c_refuse_0 (G : EzG) (d : Nat) (k : Nat) (M : EzM) (hd : 1 ≤ d) (h0 : M.1 7 0 5 = nI k) (hk : k < 161) (h1 : M.1 7 0 7 = -1) : Ezc G mX7_refuse d [eR 7 0] M (fun r M' => r = none ∧ M' = ez_st (ez_st M 7 0 7 (M.1 15 0 k)) 7 0 6 (nI 1)) := by
  refine Ezc.of (by decide +kernel) (Nat.le_of_ble_eq_true rfl) ?_
  show Ez G mX7_refuse d 0 [(0, eR 7 0)] [] M _
  refine ez_aload_n 1 dX7_refuse_0 rfl rfl ?_
  refine ez_getf 4 (eI (M.1 7 0 7)) dX7_refuse_1 rfl fl_X7_42 (by show 0 < 1; omega) rfl ?_
  refine ez_iconst 5 dX7_refuse_4 rfl (-1) (by decide) ?_
  refine ez_icmp_ne 8 23 dX7_refuse_5 rfl (by decide) (fun h5 => ?_) (fun h5 => ?_)
  · exact absurd h1 h5
  · refine ez_aload_n 9 dX7_refuse_8 rfl rfl ?_
    refine ez_aload_n 10 dX7_refuse_9 rfl rfl ?_
    refine ez_getf 13 (eR 15 0) dX7_refuse_10 rfl fl_X7_19 (by show 0 < 1; omega) rfl ?_
    refine ez_aload_n 14 dX7_refuse_13 rfl rfl ?_
    refine ez_getf 17 (eI (M.1 7 0 5)) dX7_refuse_14 rfl fl_X7_36 (by show 0 < 1; omega) rfl ?_
    refine ez_top (nI k) h0 ?_
    refine ez_callSN 20 [eR 15 0, eI (nI k)] [eR 7 0] dX7_refuse_17 rfl rfl ok_X11_itemAt st_X11_itemAt "ElevenPebbles" nn_X7_103 (by omega) (Nat.le_of_ble_eq_true rfl) (c_itemAt_n G (d - 1) 15 0 k M (by decide) (by show 0 < 1; omega) (by show k < 161; omega)) (fun r17 M17 q17 => ?_)
    obtain ⟨rfl, e17⟩ := q17
    rw [e17]
    show Ez G mX7_refuse d 20 [(0, eR 7 0)] [eI (M.1 15 0 k), eR 7 0] M _
    refine ez_putf 23 .int dX7_refuse_20 rfl fp_X7_42 (by show 0 < 1; omega) rfl (by decide) rfl rfl ?_
    refine ez_aload_n 24 dX7_refuse_23 rfl rfl ?_
    refine ez_iconst 25 dX7_refuse_24 rfl (nI 1) (by decide) ?_
    refine ez_putf 28 .int dX7_refuse_25 rfl fp_X7_39 (by show 0 < 1; omega) rfl (by decide) rfl rfl ?_
    refine ez_vret dX7_refuse_28 rfl ?_
    exact ⟨rfl, rfl⟩
set_option maxRecDepth 20000 in
theorem c_refuse_1 (G : EzG) (d : Nat)  (M : EzM) (hd : 1 ≤ d) (h1 : ¬ M.1 7 0 7 = -1) : Ezc G mX7_refuse d [eR 7 0] M (fun r M' => r = none ∧ M' = ez_st M 7 0 6 (nI 1)) := by
  refine Ezc.of (by decide +kernel) (Nat.le_of_ble_eq_true rfl) ?_
  show Ez G mX7_refuse d 0 [(0, eR 7 0)] [] M _
  refine ez_aload_n 1 dX7_refuse_0 rfl rfl ?_
  refine ez_getf 4 (eI (M.1 7 0 7)) dX7_refuse_1 rfl fl_X7_42 (by show 0 < 1; omega) rfl ?_
  refine ez_iconst 5 dX7_refuse_4 rfl (-1) (by decide) ?_
  refine ez_icmp_ne 8 23 dX7_refuse_5 rfl (by decide) (fun h5 => ?_) (fun h5 => ?_)
  · refine ez_aload_n 24 dX7_refuse_23 rfl rfl ?_
    refine ez_iconst 25 dX7_refuse_24 rfl (nI 1) (by decide) ?_
    refine ez_putf 28 .int dX7_refuse_25 rfl fp_X7_39 (by show 0 < 1; omega) rfl (by decide) rfl rfl ?_
    refine ez_vret dX7_refuse_28 rfl ?_
    exact ⟨rfl, rfl⟩
  · exact absurd h5 h1
theorem TG_adv {Tk Pl : Nat → Nat} {N k : Nat} {c : List Int32} {M : EzM} (hH : HT Tk Pl N) (h : TG Tk Pl N k c M) (ht : 10 ≤ Tk k) : TF M (ez_st (ez_st M 7 0 5 (nI (k + 1))) 7 0 6 (M.1 14 0 (k + 1))) ∧ TG Tk Pl N (k + 1) c (ez_st (ez_st M 7 0 5 (nI (k + 1))) 7 0 6 (M.1 14 0 (k + 1))) := by
  obtain ⟨a1, a2, a3, a4, a5, a6, a7⟩ := h
  have hk := hH.2.2 k a2 ht
  exact ⟨(TF.s7 (by decide)).tr (TF.s7 (by decide)), fun j hj => a1 j hj, hk, by simp [ez_rd], by simp [ez_rd, (a1 (k + 1) hk).1], by simp [ez_rd, a5], a6, a7⟩
theorem c_adv (G : EzG) (d : Nat) {Tk Pl : Nat → Nat} {N k : Nat} {c : List Int32} (M : EzM) (hd : 1 ≤ d) (hH : HT Tk Pl N) (h : TG Tk Pl N k c M) (ht : 10 ≤ Tk k) : Ezc G mX7_advance d [eR 7 0] M (fun r M' => r = none ∧ TF M M' ∧ TG Tk Pl N (k + 1) c M') :=
  (c_X7_advance G d k M hd h.2.2.1 (by have := hH.1; have := hH.2.2 k h.2.1 ht; omega)).wk (fun r M' q => ⟨q.1, by rw [q.2]; exact TG_adv hH h ht⟩)
theorem c_ref (G : EzG) (d : Nat) {Tk Pl : Nat → Nat} {N k : Nat} {c : List Int32} (M : EzM) (hd : 1 ≤ d) (hH : HT Tk Pl N) (h : TG Tk Pl N k c M) : Ezc G mX7_refuse d [eR 7 0] M (fun r M' => r = none ∧ TF M M' ∧ TB (Pl k) M') :=
  (c_refuse_0 G d k M hd h.2.2.1 (by have := hH.1; have := h.2.1; omega) h.2.2.2.2.1).wk (fun r M' q => ⟨q.1, by rw [q.2]; exact (TF.s7 (by decide)).tr (TF.s7 (by decide)), by rw [q.2]; exact ⟨by simp [ez_rd], by simp [ez_rd, (h.1 k h.2.1).2]⟩⟩)
theorem c_refb (G : EzG) (d : Nat) {f : Nat} (M : EzM) (hd : 1 ≤ d) (hf : f < 2 ^ 31) (h : TB f M) : Ezc G mX7_refuse d [eR 7 0] M (fun r M' => r = none ∧ TF M M' ∧ TB f M') :=
  (c_refuse_1 G d M hd (by rw [h.2]; exact ep_m1 hf)).wk (fun r M' q => ⟨q.1, by rw [q.2]; exact TF.s7 (by decide), by rw [q.2]; exact ⟨by simp [ez_rd], by simp [ez_rd, h.2]⟩⟩)
set_option maxRecDepth 20000 in
theorem c_add_0 (G : EzG) (d : Nat) (s : Nat) (v : Int32) (M : EzM) (h0 : M.1 3 6 2 = nI s) (hs : s < 160) : Ezc G mX3_add d [eR 3 6, eI v] M (fun r M' => r = none ∧ M' = ez_st (ez_st M 16 6 s v) 3 6 2 (nI (s + 1))) := by
  refine Ezc.of (by decide +kernel) (Nat.le_of_ble_eq_true rfl) ?_
  show Ez G mX3_add d 0 [(0, eR 3 6), (1, eI v)] [] M _
  refine ez_aload_n 1 dX3_add_0 rfl rfl ?_
  refine ez_getf 4 (eI (M.1 3 6 2)) dX3_add_1 rfl fl_X3_18 (by show 6 < 7; omega) rfl ?_
  refine ez_top (nI s) h0 ?_
  refine ez_nif_lt 7 dX3_add_4 rfl (by omega) ?_
  refine ez_aload_n 8 dX3_add_7 rfl rfl ?_
  refine ez_getf 11 (eI (M.1 3 6 2)) dX3_add_8 rfl fl_X3_18 (by show 6 < 7; omega) rfl ?_
  refine ez_top (nI s) h0 ?_
  refine ez_aload_n 12 dX3_add_11 rfl rfl ?_
  refine ez_getf 15 (eR 16 6) dX3_add_12 rfl fl_X3_9 (by show 6 < 7; omega) rfl ?_
  refine ez_alen 16 (nI 160) dX3_add_15 rfl (by decide) (by show 6 < 7; omega) rfl ?_
  refine ez_ncmp_ge 19 39 dX3_add_16 rfl (by decide) (by omega) (by omega) (fun h16 => ?_) (fun h16 => ?_)
  · exfalso; omega
  · refine ez_aload_n 20 dX3_add_19 rfl rfl ?_
    refine ez_getf 23 (eR 16 6) dX3_add_20 rfl fl_X3_9 (by show 6 < 7; omega) rfl ?_
    refine ez_aload_n 24 dX3_add_23 rfl rfl ?_
    refine ez_getf 27 (eI (M.1 3 6 2)) dX3_add_24 rfl fl_X3_18 (by show 6 < 7; omega) rfl ?_
    refine ez_top (nI s) h0 ?_
    refine ez_iload_n 28 dX3_add_27 rfl rfl ?_
    refine ez_iastN s 29 dX3_add_28 rfl (by decide) (by show 6 < 7; omega) (by show s < 160; omega) ?_
    refine ez_aload_n 30 dX3_add_29 rfl rfl ?_
    refine ez_dup 31 dX3_add_30 rfl rfl ?_
    refine ez_getf 34 (eI (M.1 3 6 2)) dX3_add_31 rfl fl_X3_18 (by show 6 < 7; omega) rfl ?_
    refine ez_top (nI s) h0 ?_
    refine ez_iconst 35 dX3_add_34 rfl (nI 1) (by decide) ?_
    refine ez_iadd 36 dX3_add_35 rfl ?_
    refine ez_top (nI (s + 1)) (nI_add _ _) ?_
    refine ez_putf 39 .int dX3_add_36 rfl fp_X3_18 (by show 6 < 7; omega) rfl (by decide) rfl rfl ?_
    refine ez_vret dX3_add_39 rfl ?_
    exact ⟨rfl, rfl⟩
set_option maxRecDepth 20000 in
theorem c_addb (G : EzG) (d : Nat) (f : Nat) (v : Int32) (M : EzM) (h : TB f M) : Ezc G mX3_add d [eR 3 6, eI v] M (fun r M' => r = none ∧ TF M M' ∧ TB f M') := by
  refine Ezc.of (by decide +kernel) (Nat.le_of_ble_eq_true rfl) ?_
  show Ez G mX3_add d 0 [(0, eR 3 6), (1, eI v)] [] M _
  refine ez_aload_n 1 dX3_add_0 rfl rfl ?_
  refine ez_getf 4 (eI (M.1 3 6 2)) dX3_add_1 rfl fl_X3_18 (by show 6 < 7; omega) rfl ?_
  refine ez_if_lt 7 39 dX3_add_4 rfl (by decide) (fun h4 => ?_) (fun h4 => ?_)
  · refine ez_vret dX3_add_39 rfl ?_
    exact ⟨rfl, TF.rf, h⟩
  · refine ez_aload_n 8 dX3_add_7 rfl rfl ?_
    refine ez_getf 11 (eI (M.1 3 6 2)) dX3_add_8 rfl fl_X3_18 (by show 6 < 7; omega) rfl ?_
    refine ez_aload_n 12 dX3_add_11 rfl rfl ?_
    refine ez_getf 15 (eR 16 6) dX3_add_12 rfl fl_X3_9 (by show 6 < 7; omega) rfl ?_
    refine ez_alen 16 (nI 160) dX3_add_15 rfl (by decide) (by show 6 < 7; omega) rfl ?_
    refine ez_icmp_ge 19 39 dX3_add_16 rfl (by decide) (fun h16 => ?_) (fun h16 => ?_)
    · refine ez_vret dX3_add_39 rfl ?_
      exact ⟨rfl, TF.rf, h⟩
    · obtain ⟨s, hs, es⟩ := vp_in_of (ep_vin (n := 160) (by decide) h4 h16) (by decide)
      refine ez_aload_n 20 dX3_add_19 rfl rfl ?_
      refine ez_getf 23 (eR 16 6) dX3_add_20 rfl fl_X3_9 (by show 6 < 7; omega) rfl ?_
      refine ez_aload_n 24 dX3_add_23 rfl rfl ?_
      refine ez_getf 27 (eI (M.1 3 6 2)) dX3_add_24 rfl fl_X3_18 (by show 6 < 7; omega) rfl ?_
      refine ez_top (nI s) es ?_
      refine ez_iload_n 28 dX3_add_27 rfl rfl ?_
      refine ez_iastN s 29 dX3_add_28 rfl (by decide) (by show 6 < 7; omega) (by show s < 160; omega) ?_
      refine ez_aload_n 30 dX3_add_29 rfl rfl ?_
      refine ez_dup 31 dX3_add_30 rfl rfl ?_
      refine ez_getf 34 (eI (M.1 3 6 2)) dX3_add_31 rfl fl_X3_18 (by show 6 < 7; omega) rfl ?_
      refine ez_top (nI s) es ?_
      refine ez_iconst 35 dX3_add_34 rfl (nI 1) (by decide) ?_
      refine ez_iadd 36 dX3_add_35 rfl ?_
      refine ez_top (nI (s + 1)) (nI_add _ _) ?_
      refine ez_putf 39 .int dX3_add_36 rfl fp_X3_18 (by show 6 < 7; omega) rfl (by decide) rfl rfl ?_
      refine ez_vret dX3_add_39 rfl ?_
      exact ⟨rfl, TF.s16.tr TF.s3, h⟩
theorem c_add (G : EzG) (d : Nat) {Tk Pl : Nat → Nat} {N k : Nat} {c : List Int32} (v : Int32) (M : EzM) (h : TG Tk Pl N k c M) (hc : c.length < 160) : Ezc G mX3_add d [eR 3 6, eI v] M (fun r M' => r = none ∧ TF M M' ∧ TG Tk Pl N k (c ++ [v]) M') :=
  (c_add_0 G d c.length v M h.2.2.2.2.2.1 hc).wk (fun r M' q => by
    obtain ⟨a1, a2, a3, a4, a5, a6, a7⟩ := h
    refine ⟨q.1, by rw [q.2]; exact TF.s16.tr TF.s3, ?_⟩
    rw [q.2]
    refine ⟨fun j hj => a1 j hj, a2, a3, a4, a5, by simp [ez_rd], fun j hj => ?_⟩
    rw [List.length_append, List.length_cons, List.length_nil] at hj
    by_cases e : j = c.length
    · subst e
      simp [ez_rd]
    · have hj2 : j < c.length := by omega
      rw [List.getD_eq_getElem?_getD, List.getElem?_append_left hj2, ← List.getD_eq_getElem?_getD, ← a7 j hj2]
      simp [ez_rd, e])
