/-! the new model: its constructor, whole -/
theorem eb_ldc2 {G : EbG} {yy : MethodName} {cc : ByteArray} {ml : Nat} {rt : Option FieldType} {d mc ms k n pc : Nat} {ls : List (Nat × Value)} {st : List Value} {P : va_W → Prop} {ws : va_W} {a : Nat} (v : Int64) (hd : decode cc pc = .ok (.ldc2_w a, 3)) (hv : Cond.constantLong yy.cls a v ∈ ez_tbl) (kk : Eb G (yy, cc, ml, rt) d mc ms k n (pc + 3) ls (.long v :: st) ws P) : Eb G (yy, cc, ml, rt) d mc ms k n pc ls st ws P :=
  fun p e s m args below meth c H locs lsA hx hb hr hml hown hts hlk hin hK hB hD hP hS hl => lv_ldc2 hx hb hown (hts _ (List.mem_cons_of_mem _ hv)) hd (kk p e s m args below meth c H locs lsA hx hb hr hml hown hts hlk hin hK hB hD hP hS hl)
theorem eb_getfE {G : EbG} {yy : MethodName} {cc : ByteArray} {ml : Nat} {rt : Option FieldType} {d mc ms k n pc : Nat} {ls : List (Nat × Value)} {st : List Value} {P : va_W → Prop} {b : Bool} {ad : Nat → Nat → Nat} {M : EzM} {kd i f idx : Nat} (v : EzV) (hd : decode cc pc = .ok (.getfield idx, 3)) (hF : ez_FL yy.cls idx kd f) (hi : i < ez_cb b kd) (hv : ez_fld M kd i f = v) (kk : Eb G (yy, cc, ml, rt) d mc ms k n (pc + 3) ls (ez_cv ad v :: st) (ez_wl b ad G.2.2.1 M) P) : Eb G (yy, cc, ml, rt) d mc ms k n pc ls (.ref (ad kd i) :: st) (ez_wl b ad G.2.2.1 M) P := by
  subst hv
  obtain ⟨C, T, N, hc, hs, hk0, hin0⟩ := hF
  have hk := ez_k13 hc
  have hN := ez_kN hc
  intro p e s m args below meth c H locs lsA hx hb hr hml hown hts hlk hin hK hB hD hP hS hl
  obtain ⟨q0, hq, -⟩ := ez_get (b := b) (ad := ad) (cy := G.2.2.1) (M := M) (ez_inb b kd (by omega) i hi)
  rw [ez_objAt hk] at hq
  exact va_get (D := G.2.1) (ci := kd) (C := C) (T := T) (N := N) hx hb hts (fun w h => List.mem_cons_of_mem _ (hin0 w h)) hown hK.1 hP q0 hq hc f hs (hts _ (List.mem_cons_of_mem _ hk0)) (fun _ h => h) (by rw [List.getElem?_map, List.getElem?_range (by omega)]; rfl) hd (kk p e s m args below meth c H locs lsA hx hb hr hml hown hts hlk hin hK hB hD hP hS hl)
theorem eb_putfE {G : EbG} {yy : MethodName} {cc : ByteArray} {ml : Nat} {rt : Option FieldType} {d mc ms k n pc : Nat} {ls : List (Nat × Value)} {st : List Value} {P : va_W → Prop} {b : Bool} {ad : Nat → Nat → Nat} {M : EzM} {kd i f idx : Nat} {v : Int32} (ty : FieldType) (hd : decode cc pc = .ok (.putfield idx, 3)) (hF : ez_FP yy.cls idx kd f ty) (hi : i < ez_cb b kd) (hr0 : ez_frk kd f = none) (hL : ¬ (kd = 12 ∧ f = 25)) (hnar : narrow ty (.int v) = .int v) (hfit : fits ty (.int v) = true) (kk : Eb G (yy, cc, ml, rt) d mc ms k n (pc + 3) ls st (ez_wl b ad G.2.2.1 (ez_st M kd i f v)) P) : Eb G (yy, cc, ml, rt) d mc ms k n pc ls (.int v :: .ref (ad kd i) :: st) (ez_wl b ad G.2.2.1 M) P := by
  obtain ⟨C, T, N, ty0, hc, hs, hk0, hin0, hfin, hpd, hty, hnm⟩ := hF
  have hk := ez_k13 hc
  have hN := ez_kN hc
  intro p e s m args below meth c H locs lsA hx hb hr hml hown hts hlk hin hK hB hD hP hS hl
  obtain ⟨q0, hq, hq2⟩ := ez_get (b := b) (ad := ad) (cy := G.2.2.1) (M := M) (ez_inb b kd (by omega) i hi)
  rw [ez_objAt hk] at hq
  refine va_put (D := G.2.1) (ci := kd) (C := C) (T := T) (N := N) (v := .int v) hx hb hts (fun w h => List.mem_cons_of_mem _ (hin0 w h)) ty0 hty hnm hown hK.1 hP hD hS q0 hq hc f hs (hts _ (List.mem_cons_of_mem _ hk0)) (fun _ h => h) hfin hpd hnar hfit (by simp; omega) hd (fun H1 locs1 hP1 hD1 hS1 => ?_)
  have e1 : ((List.range (ez_nfk kd)).map (fun s => ez_cv ad (ez_fld M kd i s))).set f (.int v) = (List.range (ez_nfk kd)).map (fun s => ez_cv ad (ez_fld (ez_st M kd i f v) kd i s)) := ez_fset (v := eI v) (fun j => ez_fldSt hr0 hL j)
  have e2 := ez_set (M' := ez_st M kd i f v) hD hq2 ez_st_n (fun _ _ _ => rfl)
  rw [e1, ← ez_objAt (cy := G.2.2.1) hk, e2] at hP1
  exact kk p e s m args below meth c H1 locs1 lsA hx hb hr hml hown hts hlk hin hK hB (ez_D hD) hP1 hS1 hl
theorem eb_iastE {G : EbG} {yy : MethodName} {cc : ByteArray} {ml : Nat} {rt : Option FieldType} {d mc ms k n pc : Nat} {ls : List (Nat × Value)} {st : List Value} {P : va_W → Prop} {b : Bool} {ad : Nat → Nat → Nat} {M : EzM} {kd i : Nat} {x v : Int32} (hd : decode cc pc = .ok (.iastore, 1)) (hk : 13 ≤ kd ∧ kd < 74 ∧ ez_atk kd = 0) (hi : i < ez_cb b kd) (hx0 : vp_in x (ez_alk kd)) (kk : Eb G (yy, cc, ml, rt) d mc ms k n (pc + 1) ls st (ez_wl b ad G.2.2.1 (ez_st M kd i x.toNatClampNeg v)) P) : Eb G (yy, cc, ml, rt) d mc ms k n pc ls (.int v :: .int x :: .ref (ad kd i) :: st) (ez_wl b ad G.2.2.1 M) P := by
  obtain ⟨hk1, hk2, hk3⟩ := hk
  intro p e s m args below meth c H locs lsA hx hb hr hml hown hts hlk hin hK hB hD hP hS hl
  obtain ⟨q0, hq, hq2⟩ := ez_get (b := b) (ad := ad) (cy := G.2.2.1) (M := M) (ez_inb b kd hk2 i hi)
  rw [ez_arrI hk1 (by omega), hk3] at hq
  refine va_iast hx hb hK.1 hP hD hS q0 0 hq (ez_tyAt (by omega)) hx0 hd (fun H1 locs1 hP1 hD1 hS1 => ?_)
  have e2 := ez_set (M' := ez_st M kd i x.toNatClampNeg v) hD hq2 ez_st_n (fun _ _ _ => rfl)
  rw [ez_arrI hk1 (by omega), hk3, show (ez_st M kd i x.toNatClampNeg v).1 kd i = upd (M.1 kd i) x.toNatClampNeg v from ez_row_1 M kd i _] at e2
  rw [e2] at hP1
  exact kk p e s m args below meth c H1 locs1 lsA hx hb hr hml hown hts hlk hin hK hB (ez_D hD) hP1 hS1 hl
/-- the addresses and the memory, when the model has come -/
def ez_ad2 (ad : Nat → Nat → Nat) (h0 : Nat) (T : List Nat) : Nat → Nat → Nat := fun k i => if ez_isC k then ad k i else if k = 12 then h0 else T.getD (k - 42) 0
def ez_Mc (M : EzM) : EzM := (fun k i s => if ez_isC k then M.1 k i s else 0, fun k i s => if ez_isC k then M.2 k i s else 0)
theorem ez_frC0 : ∀ k, k < 12 → ∀ x ∈ ez_fr.getD k [], x.all (fun q => ez_isC q.1) = true := by decide +kernel
theorem ez_arC0 : ∀ x ∈ ez_ar, ez_isC x.1 = true := by decide +kernel
theorem ez_arC (k : Nat) : ez_isC (ez_ark k).1 = true := by
  unfold ez_ark
  rcases eb_gd ez_ar (k - 13) (0, 0) with h | h
  · exact ez_arC0 _ h
  · rw [h]; rfl
theorem ez_clC (ad : Nat → Nat → Nat) (h0 : Nat) (T : List Nat) (cy : Nat → ClassId) (M : EzM) (k i : Nat) (hk : ez_isC k = true) : (some (ad k i, ez_cell ad cy M k i) : Option (Nat × va_E)) = some (ez_ad2 ad h0 T k i, ez_cell (ez_ad2 ad h0 T) cy (ez_Mc M) k i) := by
  have h12 : k ≠ 12 := by
    intro e; subst e; exact absurd hk (by decide)
  have ha : ∀ k i, ez_isC k = true → ez_ad2 ad h0 T k i = ad k i := fun k i h => if_pos h
  have hm1 : ∀ s, (ez_Mc M).1 k i s = M.1 k i s := fun s => if_pos hk
  have hm2 : ∀ s, (ez_Mc M).2 k i s = M.2 k i s := fun s => if_pos hk
  have hm1' : (ez_Mc M).1 k i = M.1 k i := funext hm1
  have hm2' : (ez_Mc M).2 k i = M.2 k i := funext hm2
  have hf : k < 13 → ∀ s, ez_cv (ez_ad2 ad h0 T) (ez_fld (ez_Mc M) k i s) = ez_cv ad (ez_fld M k i s) := by
    intro h13 s
    unfold ez_fld
    cases hq : ez_frk k s with
    | none =>
      show ez_cv (ez_ad2 ad h0 T) (if k = 12 ∧ s = 25 then eL ((ez_Mc M).2 k i s) else eI ((ez_Mc M).1 k i s)) = ez_cv ad (if k = 12 ∧ s = 25 then eL (M.2 k i s) else eI (M.1 k i s))
      rw [hm1, hm2]
      split <;> rfl
    | some q =>
      refine congrArg Value.ref (ha q.1 _ ?_)
      unfold ez_frk at hq
      rcases eb_gd (ez_fr.getD k []) s none with h1 | h1
      · have h3 := ez_frC0 k (by omega) _ h1
        rw [hq] at h3
        simpa using h3
      · rw [h1] at hq; cases hq
  rw [ha k i hk]
  congr 2
  by_cases h13 : k < 13
  · rw [ez_objAt h13, ez_objAt h13]
    simp only [hf h13]
  · unfold ez_cell ez_arr
    rw [if_neg h13, if_neg h13, hm1', hm2']
    simp only [ha _ _ (ez_arC k)]
theorem RC_c {q : EpS} {M : EzM} (hW : WF q) (h : RC q M) : RC q (ez_Mc M) := h.cm hW (fun k i s hc => if_pos (by
  unfold ez_isC
  by_cases h1 : k < 12
  · simp [h1]
  · have : 13 ≤ k ∧ k < 42 := by unfold CM at hc; omega
    simp [this.1, this.2]))
theorem RM_c0 (M : EzM) (k i s : Nat) (h : k = 12 ∨ 42 ≤ k) : (ez_Mc M).1 k i s = nI 0 := by
  have : ez_isC k = false := by
    unfold ez_isC
    rcases h with h | h
    · subst h; rfl
    · simp; omega
  exact (if_neg (by rw [this]; decide)).trans nI_0.symm
theorem RM_q0 {M M' : EzM} (h0 : ∀ i, i < 40 → M'.1 42 0 i = nI (fx_b2 i)) (h1 : M'.1 43 0 0 = nI 40) (h2 : M'.1 12 0 3 = nI 1) (hF : FX (fun k i s => k = 42 ∨ k = 43 ∨ (k = 12 ∧ s = 3)) (ez_Mc M) M') : RM ep_q0 M' := by
  have hz : ∀ k i s, (k = 12 ∨ 42 ≤ k) → ¬ (k = 42 ∨ k = 43 ∨ (k = 12 ∧ s = 3)) → M'.1 k i s = nI 0 := fun k i s h4 h => (hF k i s h).trans (RM_c0 M k i s h4)
  refine ⟨⟨hz _ _ _ (by decide) (by decide), fun m h => absurd h (Nat.not_lt_zero m)⟩, ⟨hz _ _ _ (by decide) (by decide), fun m h => absurd h (Nat.not_lt_zero m)⟩, ⟨hz _ _ _ (by decide) (by decide), fun m h => absurd h (Nat.not_lt_zero m)⟩, fun s hs => ⟨(hz _ _ _ (by decide) (by omega)).trans (by rw [if_pos (show ep_q0.2.2.2.1.1 s = 0 from rfl)]), fun h => absurd h (Nat.lt_irrefl 0)⟩, ⟨h2, hz _ _ _ (by decide) (by decide), fun x hx => ?_⟩, ⟨hz _ _ _ (by decide) (by decide), fun h => absurd h (by decide)⟩, hz _ _ _ (by decide) (by decide)⟩
  have x0 : x = 0 := by have : x < 1 := hx; omega
  subst x0
  refine ⟨40, 11, 140, fx_b2, by decide, fx_b2c, h1, fun i hi => ?_, ep_HT (by decide) (by decide) (by rw [fx_t2]; decide), by rw [fx_t2]; exact fx_tx⟩
  rw [show 160 * 0 + i = i by omega]; exact h0 i hi
set_option maxRecDepth 20000 in
theorem k_X12_wl (G : EbG) (d : Nat) (ad : Nat → Nat → Nat) (M : EzM) (h0 q1 q2 q3 q4 q5 q6 q7 q8 q9 q10 q11 q12 q13 q14 q15 q16 q17 q18 q19 q20 q21 q22 q23 q24 q25 q26 q27 q28 q29 q30 q31 q32 : Nat) (P : va_W → Prop) (K : Eb G mX12_init d 32 27449 32 27449 264 [(0, .ref h0)] [] (ez_wl true (ez_ad2 ad h0 [q1, q2, q3, q4, q5, q6, q7, q8, q9, q10, q11, q12, q13, q14, q15, q16, q17, q18, q19, q20, q21, q22, q23, q24, q25, q26, q27, q28, q29, q30, q31, q32]) G.2.2.1 (ez_Mc M)) P) : Eb G mX12_init d 32 27449 32 27449 264 [(0, .ref h0)] [] (ez_wl false ad G.2.2.1 M ++ [(h0, .inr (12, [.int 0, .ref q1, .ref q2, .int 0, .int 0, .ref q3, .int 0, .ref q4, .ref q5, .ref q6, .int 0, .ref q7, .ref q8, .ref q9, .ref q10, .ref q11, .ref q12, .ref q13, .ref q14, .int 0, .int 0, .int 0, .int 0, .int 0, .int 0, .long 0, .int 0, .int 0, .int 0, .int 0, .int 0, .int 0, .int 0, .int 0, .int 0, .int 0, .ref q15, .ref q16, .ref q17, .ref q18, .ref q19, .ref q20, .ref q21, .ref q22, .ref q23, .ref q24, .ref q25, .ref q26, .ref q27, .ref q28, .int 0, .int 0, .int 0, .int 0, .ref q29, .ref q30, .ref q31, .ref q32])), (q1, .inl (G.2.2.1 0, 960, .inl (fun _ => 0))), (q2, .inl (G.2.2.1 0, 6, .inl (fun _ => 0))), (q3, .inl (G.2.2.1 0, 160, .inl (fun _ => 0))), (q4, .inl (G.2.2.1 0, 160, .inl (fun _ => 0))), (q5, .inl (G.2.2.1 0, 4, .inl (fun _ => 0))), (q6, .inl (G.2.2.1 0, 40, .inl (fun _ => 0))), (q7, .inl (G.2.2.1 0, 8, .inl (fun _ => 0))), (q8, .inl (G.2.2.1 0, 8, .inl (fun _ => 0))), (q9, .inl (G.2.2.1 0, 8, .inl (fun _ => 0))), (q10, .inl (G.2.2.1 0, 8, .inl (fun _ => 0))), (q11, .inl (G.2.2.1 0, 8, .inl (fun _ => 0))), (q12, .inl (G.2.2.1 0, 8, .inl (fun _ => 0))), (q13, .inl (G.2.2.1 0, 8, .inl (fun _ => 0))), (q14, .inl (G.2.2.1 0, 80, .inl (fun _ => 0))), (q15, .inl (G.2.2.1 0, 46, .inl (fun _ => 0))), (q16, .inl (G.2.2.1 0, 4623, .inl (fun _ => 0))), (q17, .inl (G.2.2.1 0, 10, .inl (fun _ => 0))), (q18, .inl (G.2.2.1 0, 10, .inl (fun _ => 0))), (q19, .inl (G.2.2.1 2, 100, .inl (fun _ => 0))), (q20, .inl (G.2.2.1 0, 100, .inl (fun _ => 0))), (q21, .inl (G.2.2.1 0, 100, .inl (fun _ => 0))), (q22, .inl (G.2.2.1 0, 100, .inl (fun _ => 0))), (q23, .inl (G.2.2.1 0, 10240, .inl (fun _ => 0))), (q24, .inl (G.2.2.1 0, 10240, .inl (fun _ => 0))), (q25, .inl (G.2.2.1 0, 10, .inl (fun _ => 0))), (q26, .inl (G.2.2.1 0, 184, .inl (fun _ => 0))), (q27, .inl (G.2.2.1 0, 8, .inl (fun _ => 0))), (q28, .inl (G.2.2.1 0, 40, .inl (fun _ => 0))), (q29, .inl (G.2.2.1 2, 4, .inl (fun _ => 0))), (q30, .inl (G.2.2.1 0, 4, .inl (fun _ => 0))), (q31, .inl (G.2.2.1 0, 4, .inl (fun _ => 0))), (q32, .inl (G.2.2.1 0, 160, .inl (fun _ => 0)))]) P := by
  refine eb_ix (ws2 := ez_wl true (ez_ad2 ad h0 [q1, q2, q3, q4, q5, q6, q7, q8, q9, q10, q11, q12, q13, q14, q15, q16, q17, q18, q19, q20, q21, q22, q23, q24, q25, q26, q27, q28, q29, q30, q31, q32]) G.2.2.1 (ez_Mc M)) [0, 1, 2, 3, 4, 5, 6, 7, 8, 9, 10, 11, 12, 13, 14, 15, 16, 17, 18, 19, 20, 21, 22, 23, 24, 25, 26, 27, 28, 29, 30, 31, 32, 33, 34, 35, 36, 37, 38, 39, 40, 116, 41, 42, 43, 44, 45, 46, 47, 48, 49, 50, 51, 52, 53, 54, 55, 56, 57, 58, 59, 60, 61, 62, 63, 64, 65, 66, 67, 68, 69, 70, 71, 72, 73, 74, 75, 76, 77, 78, 79, 80, 81, 82, 83, 84, 85, 86, 87, 88, 89, 90, 91, 92, 93, 94, 95, 96, 97, 98, 99, 100, 101, 102, 103, 104, 105, 106, 107, 108, 109, 110, 111, 112, 113, 114, 115, 117, 118, 119, 120, 121, 122, 123, 124, 125, 126, 127, 128, 129, 130, 131, 132, 133, 134, 135, 136, 137, 138, 139, 140, 141, 142, 143, 144, 145, 146, 147, 148] (by decide +kernel) ?_ K
  rw [ez_wlf, ez_wlt]
  exact eb_c2 (ez_clC ad h0 _ G.2.2.1 M 0 0 rfl) (eb_c2 (ez_clC ad h0 _ G.2.2.1 M 1 0 rfl) (eb_c2 (ez_clC ad h0 _ G.2.2.1 M 1 1 rfl) (eb_c2 (ez_clC ad h0 _ G.2.2.1 M 1 2 rfl) (eb_c2 (ez_clC ad h0 _ G.2.2.1 M 1 3 rfl) (eb_c2 (ez_clC ad h0 _ G.2.2.1 M 2 0 rfl) (eb_c2 (ez_clC ad h0 _ G.2.2.1 M 3 0 rfl) (eb_c2 (ez_clC ad h0 _ G.2.2.1 M 3 1 rfl) (eb_c2 (ez_clC ad h0 _ G.2.2.1 M 3 2 rfl) (eb_c2 (ez_clC ad h0 _ G.2.2.1 M 3 3 rfl) (eb_c2 (ez_clC ad h0 _ G.2.2.1 M 3 4 rfl) (eb_c2 (ez_clC ad h0 _ G.2.2.1 M 3 5 rfl) (eb_c2 (ez_clC ad h0 _ G.2.2.1 M 3 6 rfl) (eb_c2 (ez_clC ad h0 _ G.2.2.1 M 4 0 rfl) (eb_c2 (ez_clC ad h0 _ G.2.2.1 M 4 1 rfl) (eb_c2 (ez_clC ad h0 _ G.2.2.1 M 4 2 rfl) (eb_c2 (ez_clC ad h0 _ G.2.2.1 M 4 3 rfl) (eb_c2 (ez_clC ad h0 _ G.2.2.1 M 5 0 rfl) (eb_c2 (ez_clC ad h0 _ G.2.2.1 M 6 0 rfl) (eb_c2 (ez_clC ad h0 _ G.2.2.1 M 7 0 rfl) (eb_c2 (ez_clC ad h0 _ G.2.2.1 M 8 0 rfl) (eb_c2 (ez_clC ad h0 _ G.2.2.1 M 9 0 rfl) (eb_c2 (ez_clC ad h0 _ G.2.2.1 M 10 0 rfl) (eb_c2 (ez_clC ad h0 _ G.2.2.1 M 10 1 rfl) (eb_c2 (ez_clC ad h0 _ G.2.2.1 M 10 2 rfl) (eb_c2 (ez_clC ad h0 _ G.2.2.1 M 10 3 rfl) (eb_c2 (ez_clC ad h0 _ G.2.2.1 M 10 4 rfl) (eb_c2 (ez_clC ad h0 _ G.2.2.1 M 10 5 rfl) (eb_c2 (ez_clC ad h0 _ G.2.2.1 M 10 6 rfl) (eb_c2 (ez_clC ad h0 _ G.2.2.1 M 10 7 rfl) (eb_c2 (ez_clC ad h0 _ G.2.2.1 M 10 8 rfl) (eb_c2 (ez_clC ad h0 _ G.2.2.1 M 10 9 rfl) (eb_c2 (ez_clC ad h0 _ G.2.2.1 M 10 10 rfl) (eb_c2 (ez_clC ad h0 _ G.2.2.1 M 10 11 rfl) (eb_c2 (ez_clC ad h0 _ G.2.2.1 M 10 12 rfl) (eb_c2 (ez_clC ad h0 _ G.2.2.1 M 10 13 rfl) (eb_c2 (ez_clC ad h0 _ G.2.2.1 M 10 14 rfl) (eb_c2 (ez_clC ad h0 _ G.2.2.1 M 10 15 rfl) (eb_c2 (ez_clC ad h0 _ G.2.2.1 M 10 16 rfl) (eb_c2 (ez_clC ad h0 _ G.2.2.1 M 10 17 rfl) (eb_c2 (ez_clC ad h0 _ G.2.2.1 M 11 0 rfl) (eb_c2 rfl (eb_c2 (ez_clC ad h0 _ G.2.2.1 M 13 0 rfl) (eb_c2 (ez_clC ad h0 _ G.2.2.1 M 14 0 rfl) (eb_c2 (ez_clC ad h0 _ G.2.2.1 M 15 0 rfl) (eb_c2 (ez_clC ad h0 _ G.2.2.1 M 16 0 rfl) (eb_c2 (ez_clC ad h0 _ G.2.2.1 M 16 1 rfl) (eb_c2 (ez_clC ad h0 _ G.2.2.1 M 16 2 rfl) (eb_c2 (ez_clC ad h0 _ G.2.2.1 M 16 3 rfl) (eb_c2 (ez_clC ad h0 _ G.2.2.1 M 16 4 rfl) (eb_c2 (ez_clC ad h0 _ G.2.2.1 M 16 5 rfl) (eb_c2 (ez_clC ad h0 _ G.2.2.1 M 16 6 rfl) (eb_c2 (ez_clC ad h0 _ G.2.2.1 M 17 0 rfl) (eb_c2 (ez_clC ad h0 _ G.2.2.1 M 17 1 rfl) (eb_c2 (ez_clC ad h0 _ G.2.2.1 M 17 2 rfl) (eb_c2 (ez_clC ad h0 _ G.2.2.1 M 17 3 rfl) (eb_c2 (ez_clC ad h0 _ G.2.2.1 M 17 4 rfl) (eb_c2 (ez_clC ad h0 _ G.2.2.1 M 17 5 rfl) (eb_c2 (ez_clC ad h0 _ G.2.2.1 M 17 6 rfl) (eb_c2 (ez_clC ad h0 _ G.2.2.1 M 18 0 rfl) (eb_c2 (ez_clC ad h0 _ G.2.2.1 M 18 1 rfl) (eb_c2 (ez_clC ad h0 _ G.2.2.1 M 18 2 rfl) (eb_c2 (ez_clC ad h0 _ G.2.2.1 M 18 3 rfl) (eb_c2 (ez_clC ad h0 _ G.2.2.1 M 19 0 rfl) (eb_c2 (ez_clC ad h0 _ G.2.2.1 M 19 1 rfl) (eb_c2 (ez_clC ad h0 _ G.2.2.1 M 19 2 rfl) (eb_c2 (ez_clC ad h0 _ G.2.2.1 M 19 3 rfl) (eb_c2 (ez_clC ad h0 _ G.2.2.1 M 20 0 rfl) (eb_c2 (ez_clC ad h0 _ G.2.2.1 M 20 1 rfl) (eb_c2 (ez_clC ad h0 _ G.2.2.1 M 20 2 rfl) (eb_c2 (ez_clC ad h0 _ G.2.2.1 M 20 3 rfl) (eb_c2 (ez_clC ad h0 _ G.2.2.1 M 20 4 rfl) (eb_c2 (ez_clC ad h0 _ G.2.2.1 M 20 5 rfl) (eb_c2 (ez_clC ad h0 _ G.2.2.1 M 20 6 rfl) (eb_c2 (ez_clC ad h0 _ G.2.2.1 M 20 7 rfl) (eb_c2 (ez_clC ad h0 _ G.2.2.1 M 20 8 rfl) (eb_c2 (ez_clC ad h0 _ G.2.2.1 M 21 0 rfl) (eb_c2 (ez_clC ad h0 _ G.2.2.1 M 21 1 rfl) (eb_c2 (ez_clC ad h0 _ G.2.2.1 M 21 2 rfl) (eb_c2 (ez_clC ad h0 _ G.2.2.1 M 21 3 rfl) (eb_c2 (ez_clC ad h0 _ G.2.2.1 M 21 4 rfl) (eb_c2 (ez_clC ad h0 _ G.2.2.1 M 21 5 rfl) (eb_c2 (ez_clC ad h0 _ G.2.2.1 M 21 6 rfl) (eb_c2 (ez_clC ad h0 _ G.2.2.1 M 21 7 rfl) (eb_c2 (ez_clC ad h0 _ G.2.2.1 M 21 8 rfl) (eb_c2 (ez_clC ad h0 _ G.2.2.1 M 21 9 rfl) (eb_c2 (ez_clC ad h0 _ G.2.2.1 M 21 10 rfl) (eb_c2 (ez_clC ad h0 _ G.2.2.1 M 21 11 rfl) (eb_c2 (ez_clC ad h0 _ G.2.2.1 M 21 12 rfl) (eb_c2 (ez_clC ad h0 _ G.2.2.1 M 21 13 rfl) (eb_c2 (ez_clC ad h0 _ G.2.2.1 M 21 14 rfl) (eb_c2 (ez_clC ad h0 _ G.2.2.1 M 21 15 rfl) (eb_c2 (ez_clC ad h0 _ G.2.2.1 M 21 16 rfl) (eb_c2 (ez_clC ad h0 _ G.2.2.1 M 21 17 rfl) (eb_c2 (ez_clC ad h0 _ G.2.2.1 M 22 0 rfl) (eb_c2 (ez_clC ad h0 _ G.2.2.1 M 22 1 rfl) (eb_c2 (ez_clC ad h0 _ G.2.2.1 M 22 2 rfl) (eb_c2 (ez_clC ad h0 _ G.2.2.1 M 22 3 rfl) (eb_c2 (ez_clC ad h0 _ G.2.2.1 M 23 0 rfl) (eb_c2 (ez_clC ad h0 _ G.2.2.1 M 24 0 rfl) (eb_c2 (ez_clC ad h0 _ G.2.2.1 M 25 0 rfl) (eb_c2 (ez_clC ad h0 _ G.2.2.1 M 26 0 rfl) (eb_c2 (ez_clC ad h0 _ G.2.2.1 M 27 0 rfl) (eb_c2 (ez_clC ad h0 _ G.2.2.1 M 28 0 rfl) (eb_c2 (ez_clC ad h0 _ G.2.2.1 M 29 0 rfl) (eb_c2 (ez_clC ad h0 _ G.2.2.1 M 30 0 rfl) (eb_c2 (ez_clC ad h0 _ G.2.2.1 M 31 0 rfl) (eb_c2 (ez_clC ad h0 _ G.2.2.1 M 32 0 rfl) (eb_c2 (ez_clC ad h0 _ G.2.2.1 M 33 0 rfl) (eb_c2 (ez_clC ad h0 _ G.2.2.1 M 34 0 rfl) (eb_c2 (ez_clC ad h0 _ G.2.2.1 M 35 0 rfl) (eb_c2 (ez_clC ad h0 _ G.2.2.1 M 36 0 rfl) (eb_c2 (ez_clC ad h0 _ G.2.2.1 M 37 0 rfl) (eb_c2 (ez_clC ad h0 _ G.2.2.1 M 38 0 rfl) (eb_c2 (ez_clC ad h0 _ G.2.2.1 M 39 0 rfl) (eb_c2 (ez_clC ad h0 _ G.2.2.1 M 40 0 rfl) (eb_c2 (ez_clC ad h0 _ G.2.2.1 M 41 0 rfl) (eb_c2 rfl (eb_c2 rfl (eb_c2 rfl (eb_c2 rfl (eb_c2 rfl (eb_c2 rfl (eb_c2 rfl (eb_c2 rfl (eb_c2 rfl (eb_c2 rfl (eb_c2 rfl (eb_c2 rfl (eb_c2 rfl (eb_c2 rfl (eb_c2 rfl (eb_c2 rfl (eb_c2 rfl (eb_c2 rfl (eb_c2 rfl (eb_c2 rfl (eb_c2 rfl (eb_c2 rfl (eb_c2 rfl (eb_c2 rfl (eb_c2 rfl (eb_c2 rfl (eb_c2 rfl (eb_c2 rfl (eb_c2 rfl (eb_c2 rfl (eb_c2 rfl (eb_c2 rfl (rfl)))))))))))))))))))))))))))))))))))))))))))))))))))))))))))))))))))))))))))))))))))))))))))))))))))))))))))))))))))))))))))))))))))))))))))))))))))))
set_option maxRecDepth 20000 in
theorem c_X12_init (G : EbG) (d : Nat) (ad : Nat → Nat → Nat) (M : EzM) (h0 : Nat) (hd : 3 ≤ d) (hR : RC ep_q0 M) : Ebc G mX12_init d 32 27449 [.ref h0] (ez_wl false ad G.2.2.1 M ++ [(h0, .inr (12, [.int 0, .null, .null, .int 0, .int 0, .null, .int 0, .null, .null, .null, .int 0, .null, .null, .null, .null, .null, .null, .null, .null, .int 0, .int 0, .int 0, .int 0, .int 0, .int 0, .long 0, .int 0, .int 0, .int 0, .int 0, .int 0, .int 0, .int 0, .int 0, .int 0, .int 0, .null, .null, .null, .null, .null, .null, .null, .null, .null, .null, .null, .null, .null, .null, .int 0, .int 0, .int 0, .int 0, .null, .null, .null, .null]))]) (fun w => ∃ (ad2 : Nat → Nat → Nat) (M2 : EzM), w = ez_wl true ad2 G.2.2.1 M2 ∧ ad2 11 0 = ad 11 0 ∧ ad2 12 0 = h0 ∧ RC ep_q0 M2 ∧ RM ep_q0 M2) := by
  refine Ebc.of (by decide +kernel) (by decide +kernel) (Nat.le_of_ble_eq_true rfl) ?_
  refine k_X12_init G d (ez_wl false ad G.2.2.1 M) h0 _ (by omega) (fun q1 q2 q3 q4 q5 q6 q7 q8 q9 q10 q11 q12 q13 q14 q15 q16 q17 q18 q19 q20 q21 q22 q23 q24 q25 q26 q27 q28 q29 q30 q31 q32 => ?_)
  refine k_X12_wl G d ad M h0 q1 q2 q3 q4 q5 q6 q7 q8 q9 q10 q11 q12 q13 q14 q15 q16 q17 q18 q19 q20 q21 q22 q23 q24 q25 q26 q27 q28 q29 q30 q31 q32 _ ?_
  refine eb_aload_n 0 dX12_init_264 rfl ?_
  refine eb_iconst (nI 0) dX12_init_265 (by decide) ?_
  refine eb_ldc2 7453211303687692400 dX12_init_266 cn_X12_111 ?_
  refine eb_callE true (ez_ad2 ad h0 [q1, q2, q3, q4, q5, q6, q7, q8, q9, q10, q11, q12, q13, q14, q15, q16, q17, q18, q19, q20, q21, q22, q23, q24, q25, q26, q27, q28, q29, q30, q31, q32]) (ez_Mc M) 12 0 [eI (nI 0), eL 7453211303687692400] [] dX12_init_269 rfl (fun _ => rfl) ok_X12_spell in_X12_spell (by decide) (by decide) ln_X12_113 (show (d - 1) + 1 ≤ d by omega) (by decide) (by decide) (by decide) (fun ad9 => c_X12_spell (G.1, G.2.1, ad9, G.2.2.1) (d - 1) 0 7453211303687692400 (ez_Mc M) (by omega)) (fun r M9 h => h.1) (fun r0 M0 h0x => ?_)
  refine eb_aload_n 0 dX12_init_272 rfl ?_
  refine eb_bipush (nI 8) dX12_init_273 (by decide) ?_
  refine eb_ldc2 8463425266845377132 dX12_init_275 cn_X12_117 ?_
  refine eb_callE true (ez_ad2 ad h0 [q1, q2, q3, q4, q5, q6, q7, q8, q9, q10, q11, q12, q13, q14, q15, q16, q17, q18, q19, q20, q21, q22, q23, q24, q25, q26, q27, q28, q29, q30, q31, q32]) M0 12 0 [eI (nI 8), eL 8463425266845377132] [] dX12_init_278 rfl (fun _ => rfl) ok_X12_spell in_X12_spell (by decide) (by decide) ln_X12_113 (show (d - 1) + 1 ≤ d by omega) (by decide) (by decide) (by decide) (fun ad9 => c_X12_spell (G.1, G.2.1, ad9, G.2.2.1) (d - 1) 8 8463425266845377132 M0 (by omega)) (fun r M9 h => h.1) (fun r1 M1 h1x => ?_)
  refine eb_aload_n 0 dX12_init_281 rfl ?_
  refine eb_bipush (nI 16) dX12_init_282 (by decide) ?_
  refine eb_ldc2 7310222067057565755 dX12_init_284 cn_X12_119 ?_
  refine eb_callE true (ez_ad2 ad h0 [q1, q2, q3, q4, q5, q6, q7, q8, q9, q10, q11, q12, q13, q14, q15, q16, q17, q18, q19, q20, q21, q22, q23, q24, q25, q26, q27, q28, q29, q30, q31, q32]) M1 12 0 [eI (nI 16), eL 7310222067057565755] [] dX12_init_287 rfl (fun _ => rfl) ok_X12_spell in_X12_spell (by decide) (by decide) ln_X12_113 (show (d - 1) + 1 ≤ d by omega) (by decide) (by decide) (by decide) (fun ad9 => c_X12_spell (G.1, G.2.1, ad9, G.2.2.1) (d - 1) 16 7310222067057565755 M1 (by omega)) (fun r M9 h => h.1) (fun r2 M2 h2x => ?_)
  refine eb_aload_n 0 dX12_init_290 rfl ?_
  refine eb_bipush (nI 24) dX12_init_291 (by decide) ?_
  refine eb_ldc2 2338601220398133280 dX12_init_293 cn_X12_121 ?_
  refine eb_callE true (ez_ad2 ad h0 [q1, q2, q3, q4, q5, q6, q7, q8, q9, q10, q11, q12, q13, q14, q15, q16, q17, q18, q19, q20, q21, q22, q23, q24, q25, q26, q27, q28, q29, q30, q31, q32]) M2 12 0 [eI (nI 24), eL 2338601220398133280] [] dX12_init_296 rfl (fun _ => rfl) ok_X12_spell in_X12_spell (by decide) (by decide) ln_X12_113 (show (d - 1) + 1 ≤ d by omega) (by decide) (by decide) (by decide) (fun ad9 => c_X12_spell (G.1, G.2.1, ad9, G.2.2.1) (d - 1) 24 2338601220398133280 M2 (by omega)) (fun r M9 h => h.1) (fun r3 M3 h3x => ?_)
  refine eb_aload_n 0 dX12_init_299 rfl ?_
  refine eb_bipush (nI 32) dX12_init_300 (by decide) ?_
  refine eb_ldc2 4260440569842507808 dX12_init_302 cn_X12_123 ?_
  refine eb_callE true (ez_ad2 ad h0 [q1, q2, q3, q4, q5, q6, q7, q8, q9, q10, q11, q12, q13, q14, q15, q16, q17, q18, q19, q20, q21, q22, q23, q24, q25, q26, q27, q28, q29, q30, q31, q32]) M3 12 0 [eI (nI 32), eL 4260440569842507808] [] dX12_init_305 rfl (fun _ => rfl) ok_X12_spell in_X12_spell (by decide) (by decide) ln_X12_113 (show (d - 1) + 1 ≤ d by omega) (by decide) (by decide) (by decide) (fun ad9 => c_X12_spell (G.1, G.2.1, ad9, G.2.2.1) (d - 1) 32 4260440569842507808 M3 (by omega)) (fun r M9 h => h.1) (fun r4 M4 h4x => ?_)
  refine eb_aload_n 0 dX12_init_308 rfl ?_
  refine eb_getfE (b := true) (ad := (ez_ad2 ad h0 [q1, q2, q3, q4, q5, q6, q7, q8, q9, q10, q11, q12, q13, q14, q15, q16, q17, q18, q19, q20, q21, q22, q23, q24, q25, q26, q27, q28, q29, q30, q31, q32])) (M := M4) (kd := 12) (i := 0) (f := 2) (eR 43 0) dX12_init_309 fl_X12_17 (by decide) rfl ?_
  refine eb_iconst (nI 0) dX12_init_312 (by decide) ?_
  refine eb_bipush (nI 40) dX12_init_313 (by decide) ?_
  refine eb_iastE (b := true) (ad := (ez_ad2 ad h0 [q1, q2, q3, q4, q5, q6, q7, q8, q9, q10, q11, q12, q13, q14, q15, q16, q17, q18, q19, q20, q21, q22, q23, q24, q25, q26, q27, q28, q29, q30, q31, q32])) (M := M4) (kd := 43) (i := 0) (x := nI 0) (v := nI 40) dX12_init_315 (by decide) (by decide) (vp_in_nI (by decide) (by decide)) ?_
  rw [show (nI 0).toNatClampNeg = 0 from nI_clamp (by decide)]
  refine eb_aload_n 0 dX12_init_316 rfl ?_
  refine eb_iconst (nI 1) dX12_init_317 (by decide) ?_
  refine eb_putfE (b := true) (ad := (ez_ad2 ad h0 [q1, q2, q3, q4, q5, q6, q7, q8, q9, q10, q11, q12, q13, q14, q15, q16, q17, q18, q19, q20, q21, q22, q23, q24, q25, q26, q27, q28, q29, q30, q31, q32])) (M := ez_st M4 43 0 0 (nI 40)) (kd := 12) (i := 0) (f := 3) (v := nI 1) .int dX12_init_318 fp_X12_125 (by decide) rfl (by decide) rfl rfl ?_
  have F0 : FX (fun k i s => k = 42 ∨ k = 43 ∨ (k = 12 ∧ s = 3)) (ez_Mc M) (ez_st (ez_st M4 43 0 0 (nI 40)) 12 0 3 (nI 1)) := ((((((h0x.2.2.up (fun k i s z => by omega)).tr (h1x.2.2.up (fun k i s z => by omega))).tr (h2x.2.2.up (fun k i s z => by omega))).tr (h3x.2.2.up (fun k i s z => by omega))).tr (h4x.2.2.up (fun k i s z => by omega))).st (by omega)).st (by omega)
  have hb : ∀ i, i < 40 → M4.1 42 0 i = nI (fx_b2 i) := by
    intro i hi
    obtain ⟨s0, s1, s2, s3, s4⟩ := fx_sp
    by_cases c4 : 32 ≤ i
    · have := h4x.2.1 (i - 32) (by omega)
      rw [s4 (i - 32) (by omega), show 32 + (i - 32) = i by omega] at this; exact this
    · rw [h4x.2.2 _ _ _ (by omega)]
      by_cases c3 : 24 ≤ i
      · have := h3x.2.1 (i - 24) (by omega)
        rw [s3 (i - 24) (by omega), show 24 + (i - 24) = i by omega] at this; exact this
      · rw [h3x.2.2 _ _ _ (by omega)]
        by_cases c2 : 16 ≤ i
        · have := h2x.2.1 (i - 16) (by omega)
          rw [s2 (i - 16) (by omega), show 16 + (i - 16) = i by omega] at this; exact this
        · rw [h2x.2.2 _ _ _ (by omega)]
          by_cases c1 : 8 ≤ i
          · have := h1x.2.1 (i - 8) (by omega)
            rw [s1 (i - 8) (by omega), show 8 + (i - 8) = i by omega] at this; exact this
          · rw [h1x.2.2 _ _ _ (by omega)]
            have := h0x.2.1 i (by omega)
            rw [s0 i (by omega), show 0 + i = i by omega] at this; exact this
  refine eb_vret (st := []) dX12_init_321 rfl rfl rfl ⟨(ez_ad2 ad h0 [q1, q2, q3, q4, q5, q6, q7, q8, q9, q10, q11, q12, q13, q14, q15, q16, q17, q18, q19, q20, q21, q22, q23, q24, q25, q26, q27, q28, q29, q30, q31, q32]), _, rfl, rfl, rfl, (RC_c WF_q0 hR).cm WF_q0 (F0.up (fun k i s z => by unfold CM; omega)), RM_q0 (M := M) (fun i hi => ?_) ?_ ?_ F0⟩
  · rw [ez_rd, if_neg (by omega), ez_rd, if_neg (by omega)]; exact hb i hi
  · rw [ez_rd, if_neg (by omega), ez_rd, if_pos ⟨rfl, rfl, rfl⟩]
  · rw [ez_rd, if_pos ⟨rfl, rfl, rfl⟩]
