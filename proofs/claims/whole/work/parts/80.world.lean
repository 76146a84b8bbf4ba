/-! building: from the list of cells to the world of the system; calls of its methods -/
def ez_mx (ad xa : Nat → Nat → Nat) : Nat → Nat → Nat := fun k i => if k < 74 then ad k i else xa k i
def ez_tb (T : List (List Nat)) : Nat → Nat → Nat := fun k i => (T.getD k []).getD i 0
theorem eb_gd {α : Type} (l : List α) (n : Nat) (x : α) : l.getD n x ∈ l ∨ l.getD n x = x := by
  rw [List.getD_eq_getElem?_getD]
  cases h : l[n]? with
  | none => exact .inr rfl
  | some y => exact .inl (List.mem_of_getElem? h)
theorem eb_fr0 : ∀ l ∈ ez_fr, ∀ x ∈ l, x.all (fun q => decide (q.1 < 74)) = true := by decide +kernel
theorem eb_ar0 : ∀ x ∈ ez_ar, x.1 < 74 := by decide +kernel
theorem eb_id0 : ∀ x ∈ ez_ids, x.1 < 74 := by decide +kernel
theorem eb_fr74 {k s : Nat} {q : Nat × Nat} (h : ez_frk k s = some q) : q.1 < 74 := by
  unfold ez_frk at h
  rcases eb_gd (ez_fr.getD k []) s none with h1 | h1
  · rcases eb_gd ez_fr k [] with h2 | h2
    · have h3 := eb_fr0 _ h2 _ h1
      rw [h] at h3
      simpa using h3
    · rw [h2] at h1; cases h1
  · rw [h1] at h; cases h
theorem eb_ar74 (k : Nat) : (ez_ark k).1 < 74 := by
  unfold ez_ark
  rcases eb_gd ez_ar (k - 13) (0, 0) with h | h
  · exact eb_ar0 _ h
  · rw [h]; decide
theorem eb_idm {b : Bool} {z : Nat × Nat} (h : z ∈ ez_idb b) : z ∈ ez_ids := by
  unfold ez_idb at h
  cases b with
  | true => exact h
  | false => exact (List.mem_filter.mp h).1
theorem ez_cell_ad {ad ad' : Nat → Nat → Nat} {cy : Nat → ClassId} {M : EzM} (h : ∀ k i, k < 74 → ad' k i = ad k i) (k i : Nat) : ez_cell ad' cy M k i = ez_cell ad cy M k i := by
  have hf : ∀ s, ez_cv ad' (ez_fld M k i s) = ez_cv ad (ez_fld M k i s) := by
    intro s
    unfold ez_fld
    cases hq : ez_frk k s with
    | none =>
      show ez_cv ad' (if k = 12 ∧ s = 25 then eL (M.2 k i s) else eI (M.1 k i s)) = ez_cv ad (if k = 12 ∧ s = 25 then eL (M.2 k i s) else eI (M.1 k i s))
      split <;> rfl
    | some q => exact congrArg Value.ref (h q.1 _ (eb_fr74 hq))
  have ha : ∀ j, ad' (ez_ark k).1 j = ad (ez_ark k).1 j := fun j => h _ _ (eb_ar74 k)
  unfold ez_cell ez_obj ez_arr
  simp only [hf, ha]
theorem ez_wl_ad {b : Bool} {ad ad' : Nat → Nat → Nat} {cy : Nat → ClassId} {M : EzM} (h : ∀ k i, k < 74 → ad' k i = ad k i) : ez_wl b ad' cy M = ez_wl b ad cy M := by
  unfold ez_wl
  apply List.map_congr_left
  intro z hz
  rw [ez_cell_ad h, h z.1 z.2 (eb_id0 _ (eb_idm hz))]
theorem ez_mx_ad {ad xa : Nat → Nat → Nat} (k i : Nat) (h : k < 74) : ez_mx ad xa k i = ad k i := if_pos h
theorem ez_D_of {b : Bool} {ad : Nat → Nat → Nat} {cy : Nat → ClassId} {M : EzM} {A : Nat → Prop} (h : va_D A (ez_wl b ad cy M)) : va_D (ez_A b ad) (ez_wl b ad cy M) ∧ ∀ q, ez_A b ad q → A q := by
  refine ⟨⟨h.1, fun k q hk => ?_⟩, fun q hq => ?_⟩
  · obtain ⟨z, hz, rfl⟩ := List.mem_map.mp (List.mem_of_getElem? hk)
    exact ⟨z, hz, rfl⟩
  · obtain ⟨z, hz, rfl⟩ := hq
    obtain ⟨j, hj⟩ := List.getElem?_of_mem (List.mem_map.mpr ⟨z, hz, rfl⟩ : (ad z.1 z.2, ez_cell ad cy M z.1 z.2) ∈ ez_wl b ad cy M)
    exact h.2 j _ hj
theorem ez_xtm {ad xa : Nat → Nat → Nat} {A : Nat → Prop} {U : State} (h : ez_xt xa A U) : ez_xt (ez_mx ad xa) A U := h
/-- a call of a method of the system out of a method that builds, or out of the law -/
theorem eb_ecall {p : Program} {e : Env} {R : Room} {s : State} {m : MethodId} {args : Array Value} {below : List Frame} {meth : Method} {c : Code} {H : Heap} {locs : List Loc} {cells slots : Nat} {Q : State → Prop} {G : EzG} {A : Nat → Prop} {P : Option EzV → EzM → Prop} {pc : Nat} {lsA : Array Slot} {st0 rest : List Value} {a : Array Value}
    (hr : va_Run p G.2.1 e R s m args below meth c H locs cells slots 0 0 (F0 m pc lsA st0) rest (ez_Q G P a) (ez_A G.1 G.2.2.2.1)) (hA : ∀ q, ez_A G.1 G.2.2.2.1 q → A q) (hS : va_S A s.heap H locs)
    (kk : ∀ (r : Option EzV) (M : EzM) (H1 : Heap) (locs1 : List Loc), P r M → va_P G.2.2.1 vwCl (ez_wl G.1 G.2.2.2.1 G.2.2.2.2 M) H1 → va_S A s.heap H1 locs1 → W p G.2.1 e R s m args below meth c H1 locs1 cells slots Q (F0 m (pc + 3) lsA ((r.map (ez_cv G.2.2.2.1)).toList ++ rest))) :
    W p G.2.1 e R s m args below meth c H locs cells slots Q (F0 m pc lsA st0) := by
  intro T hT X
  obtain ⟨v, st₀, t, T', L, h0, X', hL, e1, e2, ⟨⟨r, M, hv, hp, hb⟩, hz, hk⟩, st⟩ := hr T hT X
  cases hv
  rw [h0] at hz hk
  obtain ⟨t2, a1, b1⟩ := kk r M T'.heap (locs ++ L) hp (by rw [e1]; exact hb.1)
    ⟨Nat.le_trans hS.1 (by rw [e1]; exact hz), fun q h1 h2 => by rw [e1, hk q (Nat.lt_of_lt_of_le h1 hS.1) (fun z => h2 (hA q z))]; exact hS.2.1 q h1 h2, fun q hq => by
      rcases List.mem_append.mp hq with h | h
      · exact hS.2.2 q h
      · exact hA _ (hL q h)⟩ T' rfl X'
  exact ⟨t2, st t2 a1, b1⟩
theorem eb_callE {G : EbG} {yy : MethodName} {cc : ByteArray} {ml : Nat} {rt : Option FieldType} {d mc ms k n pc : Nat} {ls : List (Nat × Value)} {st : List Value} {P : va_W → Prop} {Z : EzY} {d' idx : Nat} {P' : Option EzV → EzM → Prop} (b : Bool) (ad : Nat → Nat → Nat) (M : EzM) (kd i : Nat) (As : List EzV) (rest : List Value) (hd : decode cc pc = .ok (.invokevirtual idx, 3)) (hst : st = (As.map (ez_cv ad)).reverse ++ .ref (ad kd i) :: rest) (hAs : ∀ ad', As.map (ez_cv ad') = As.map (ez_cv ad)) (hO : ez_MO Z As.length) (hs : Cond.instanceMethod Z.1 ∈ ez_tbl ∧ Cond.selects Z.1.cls Z.1 Z.1 ∈ ez_tbl) (hc : (vwCl[kd]?).map (fun q => q.1) = some Z.1.cls) (hi : i < ez_cb b kd) (hl0 : Cond.methodLink yy.cls idx Z.1 ∈ ez_tbl) (hdd : d' + 1 ≤ d) (h8 : (rest.map fun v => v.category).sum ≤ 8) (hk9 : k ≤ mc) (hn9 : n ≤ ms) (hC : ∀ ad', Ezc (b, G.1, G.2.1, ad', G.2.2.1) Z d' (eR kd i :: As) M P') (hno : ∀ r M', P' r M' → r = none) (kk : ∀ (r : Option EzV) (M' : EzM), P' r M' → Eb G (yy, cc, ml, rt) d mc ms k n (pc + 3) ls rest (ez_wl b ad G.2.2.1 M') P) : Eb G (yy, cc, ml, rt) d mc ms k n pc ls st (ez_wl b ad G.2.2.1 M) P := by
  subst hst
  intro p e s m args below meth c H locs lsA hx hb hr hml hown hts hlk hin hK hB hD hP hS hl
  have hR : (ez_rm d').frames + 1 ≤ (eb_rm d mc ms).frames ∧ 8 + (Z.2.2.1 + 11) + (ez_rm d').locals ≤ (eb_rm d mc ms).locals := ⟨hdd, by have := hO.2.2.2; show 8 + (Z.2.2.1 + 11) + 128 * d' ≤ 128 * d; omega⟩
  have hk : kd < 13 := by
    cases hq : vwCl[kd]? with
    | none => rw [hq] at hc; cases hc
    | some q => exact ez_k13 hq
  obtain ⟨q, hq, hq1⟩ : ∃ q : vw_C, vwCl[kd]? = some q ∧ q.1 = Z.1.cls := by
    cases hq : vwCl[kd]? with
    | none => rw [hq] at hc; cases hc
    | some q => rw [hq] at hc; exact ⟨q, rfl, Option.some.inj hc⟩
  obtain ⟨q0, hw0, -⟩ := ez_get (b := b) (ad := ad) (cy := G.2.2.1) (M := M) (ez_inb b kd (by omega) i hi)
  rw [ez_objAt hk] at hw0
  have hrv := va_recv hK.1 hP hq hw0
  rw [hq1] at hrv
  obtain ⟨xa, hxa⟩ := hK.2.2.2.2.2.2.2
  have hmx : ∀ k i, k < 74 → ez_mx ad xa k i = ad k i := ez_mx_ad
  have ew : ∀ M, ez_wl b (ez_mx ad xa) G.2.2.1 M = ez_wl b ad G.2.2.1 M := fun M => ez_wl_ad hmx
  have hD' : va_D (eb_A G.2.2.2) (ez_wl b (ez_mx ad xa) G.2.2.1 M) := by rw [ew]; exact hD
  obtain ⟨hD2, hA⟩ := ez_D_of hD'
  refine eb_ecall (G := (b, G.1, G.2.1, ez_mx ad xa, G.2.2.1)) (P := P') (va_runV (b := ez_mx ad xa kd i) (As := As.map (ez_cv (ez_mx ad xa))) (rest := rest) ⟨hx, hb, hml, hown, hts⟩ (hC (ez_mx ad xa)) ⟨callB_of As.length hts (ez_good hO.1) rfl rfl rfl (hts _ (List.mem_cons_of_mem _ hO.2.1)) (hts _ (List.mem_cons_of_mem _ hl0)) hO.2.2.1 hR, hts _ (List.mem_cons_of_mem _ hs.1), hts _ (List.mem_cons_of_mem _ hs.2)⟩ ⟨ez_blind, ?_, fun U hU hW => ⟨?_, ?_, ⟨va_K.moved hW.alike hK.1, ez_nestU hW hK.2.1, ?_⟩, hD2⟩⟩ rfl (by simp) hl.1 ?_ (lv_room h8) hd ⟨hk9, hn9⟩) hA hS (fun r M' H1 locs1 hp hP1 hS1 => ?_)
  · rw [show ez_mx ad xa kd i = ad kd i from hmx kd i (by omega)]; exact hrv
  · rfl
  · show va_P G.2.1 vwCl (ez_wl b (ez_mx ad xa) G.2.2.1 M) U.heap
    rw [ew, hU]; exact hP
  · exact ez_xt.of (G := (b, G.1, G.2.1, ez_mx ad xa, G.2.2.1)) ((ez_xtm (hxa.up hW hS hU)).nr hA)
  · show _ = (As.map (ez_cv (ez_mx ad xa))).reverse ++ .ref (ez_mx ad xa kd i) :: rest
    rw [hAs (ez_mx ad xa), show ez_mx ad xa kd i = ad kd i from hmx kd i (by omega)]
  · have hr0 := hno r M' hp
    subst hr0
    have hP2 : va_P G.2.1 vwCl (ez_wl b (ez_mx ad xa) G.2.2.1 M') H1 := hP1
    rw [ew] at hP2
    exact kk none M' hp p e s m args below meth c H1 locs1 lsA hx hb hr hml hown hts hlk hin hK hB (ez_D hD) hP2 hS1 hl
theorem eb_c2 {α : Type} {a b : α} {l m : List α} (h1 : a = b) (h2 : l = m) : a :: l = b :: m := by rw [h1, h2]
theorem eb_ix {G : EbG} {yy : MethodName} {cc : ByteArray} {ml : Nat} {rt : Option FieldType} {d mc ms k n pc : Nat} {ls : List (Nat × Value)} {st : List Value} {P : va_W → Prop} {ws ws2 : va_W} (is : List Nat) (hn : va_nd is = true) (hs : is.map (fun i => ws[i]?) = ws2.map some) (kk : Eb G (yy, cc, ml, rt) d mc ms k n pc ls st ws2 P) : Eb G (yy, cc, ml, rt) d mc ms k n pc ls st ws P := by
  intro p e s m args below meth c H locs lsA hx hb hr hml hown hts hlk hin hK hB hD hP hS hl
  refine kk p e s m args below meth c H locs lsA hx hb hr hml hown hts hlk hin hK hB (hD.sub is hn hs) (fun j x hx9 => ?_) hS hl
  have h1 : some x ∈ ws2.map some := List.mem_map.mpr ⟨x, List.mem_of_getElem? hx9, rfl⟩
  rw [← hs] at h1
  obtain ⟨i, -, hi⟩ := List.mem_map.mp h1
  exact hP i x hi

theorem ez_idf : ez_idb false = [(0, 0), (1, 0), (1, 1), (1, 2), (1, 3), (2, 0), (3, 0), (3, 1), (3, 2), (3, 3), (3, 4), (3, 5), (3, 6), (4, 0), (4, 1), (4, 2), (4, 3), (5, 0), (6, 0), (7, 0), (8, 0), (9, 0), (10, 0), (10, 1), (10, 2), (10, 3), (10, 4), (10, 5), (10, 6), (10, 7), (10, 8), (10, 9), (10, 10), (10, 11), (10, 12), (10, 13), (10, 14), (10, 15), (10, 16), (10, 17), (11, 0), (13, 0), (14, 0), (15, 0), (16, 0), (16, 1), (16, 2), (16, 3), (16, 4), (16, 5), (16, 6), (17, 0), (17, 1), (17, 2), (17, 3), (17, 4), (17, 5), (17, 6), (18, 0), (18, 1), (18, 2), (18, 3), (19, 0), (19, 1), (19, 2), (19, 3), (20, 0), (20, 1), (20, 2), (20, 3), (20, 4), (20, 5), (20, 6), (20, 7), (20, 8), (21, 0), (21, 1), (21, 2), (21, 3), (21, 4), (21, 5), (21, 6), (21, 7), (21, 8), (21, 9), (21, 10), (21, 11), (21, 12), (21, 13), (21, 14), (21, 15), (21, 16), (21, 17), (22, 0), (22, 1), (22, 2), (22, 3), (23, 0), (24, 0), (25, 0), (26, 0), (27, 0), (28, 0), (29, 0), (30, 0), (31, 0), (32, 0), (33, 0), (34, 0), (35, 0), (36, 0), (37, 0), (38, 0), (39, 0), (40, 0), (41, 0)] := by decide +kernel
set_option maxRecDepth 20000 in
theorem ez_wlf (ad : Nat → Nat → Nat) (cy : Nat → ClassId) (M : EzM) : ez_wl false ad cy M = [(ad 0 0, ez_cell ad cy M 0 0), (ad 1 0, ez_cell ad cy M 1 0), (ad 1 1, ez_cell ad cy M 1 1), (ad 1 2, ez_cell ad cy M 1 2), (ad 1 3, ez_cell ad cy M 1 3), (ad 2 0, ez_cell ad cy M 2 0), (ad 3 0, ez_cell ad cy M 3 0), (ad 3 1, ez_cell ad cy M 3 1), (ad 3 2, ez_cell ad cy M 3 2), (ad 3 3, ez_cell ad cy M 3 3), (ad 3 4, ez_cell ad cy M 3 4), (ad 3 5, ez_cell ad cy M 3 5), (ad 3 6, ez_cell ad cy M 3 6), (ad 4 0, ez_cell ad cy M 4 0), (ad 4 1, ez_cell ad cy M 4 1), (ad 4 2, ez_cell ad cy M 4 2), (ad 4 3, ez_cell ad cy M 4 3), (ad 5 0, ez_cell ad cy M 5 0), (ad 6 0, ez_cell ad cy M 6 0), (ad 7 0, ez_cell ad cy M 7 0), (ad 8 0, ez_cell ad cy M 8 0), (ad 9 0, ez_cell ad cy M 9 0), (ad 10 0, ez_cell ad cy M 10 0), (ad 10 1, ez_cell ad cy M 10 1), (ad 10 2, ez_cell ad cy M 10 2), (ad 10 3, ez_cell ad cy M 10 3), (ad 10 4, ez_cell ad cy M 10 4), (ad 10 5, ez_cell ad cy M 10 5), (ad 10 6, ez_cell ad cy M 10 6), (ad 10 7, ez_cell ad cy M 10 7), (ad 10 8, ez_cell ad cy M 10 8), (ad 10 9, ez_cell ad cy M 10 9), (ad 10 10, ez_cell ad cy M 10 10), (ad 10 11, ez_cell ad cy M 10 11), (ad 10 12, ez_cell ad cy M 10 12), (ad 10 13, ez_cell ad cy M 10 13), (ad 10 14, ez_cell ad cy M 10 14), (ad 10 15, ez_cell ad cy M 10 15), (ad 10 16, ez_cell ad cy M 10 16), (ad 10 17, ez_cell ad cy M 10 17), (ad 11 0, ez_cell ad cy M 11 0), (ad 13 0, ez_cell ad cy M 13 0), (ad 14 0, ez_cell ad cy M 14 0), (ad 15 0, ez_cell ad cy M 15 0), (ad 16 0, ez_cell ad cy M 16 0), (ad 16 1, ez_cell ad cy M 16 1), (ad 16 2, ez_cell ad cy M 16 2), (ad 16 3, ez_cell ad cy M 16 3), (ad 16 4, ez_cell ad cy M 16 4), (ad 16 5, ez_cell ad cy M 16 5), (ad 16 6, ez_cell ad cy M 16 6), (ad 17 0, ez_cell ad cy M 17 0), (ad 17 1, ez_cell ad cy M 17 1), (ad 17 2, ez_cell ad cy M 17 2), (ad 17 3, ez_cell ad cy M 17 3), (ad 17 4, ez_cell ad cy M 17 4), (ad 17 5, ez_cell ad cy M 17 5), (ad 17 6, ez_cell ad cy M 17 6), (ad 18 0, ez_cell ad cy M 18 0), (ad 18 1, ez_cell ad cy M 18 1), (ad 18 2, ez_cell ad cy M 18 2), (ad 18 3, ez_cell ad cy M 18 3), (ad 19 0, ez_cell ad cy M 19 0), (ad 19 1, ez_cell ad cy M 19 1), (ad 19 2, ez_cell ad cy M 19 2), (ad 19 3, ez_cell ad cy M 19 3), (ad 20 0, ez_cell ad cy M 20 0), (ad 20 1, ez_cell ad cy M 20 1), (ad 20 2, ez_cell ad cy M 20 2), (ad 20 3, ez_cell ad cy M 20 3), (ad 20 4, ez_cell ad cy M 20 4), (ad 20 5, ez_cell ad cy M 20 5), (ad 20 6, ez_cell ad cy M 20 6), (ad 20 7, ez_cell ad cy M 20 7), (ad 20 8, ez_cell ad cy M 20 8), (ad 21 0, ez_cell ad cy M 21 0), (ad 21 1, ez_cell ad cy M 21 1), (ad 21 2, ez_cell ad cy M 21 2), (ad 21 3, ez_cell ad cy M 21 3), (ad 21 4, ez_cell ad cy M 21 4), (ad 21 5, ez_cell ad cy M 21 5), (ad 21 6, ez_cell ad cy M 21 6), (ad 21 7, ez_cell ad cy M 21 7), (ad 21 8, ez_cell ad cy M 21 8), (ad 21 9, ez_cell ad cy M 21 9), (ad 21 10, ez_cell ad cy M 21 10), (ad 21 11, ez_cell ad cy M 21 11), (ad 21 12, ez_cell ad cy M 21 12), (ad 21 13, ez_cell ad cy M 21 13), (ad 21 14, ez_cell ad cy M 21 14), (ad 21 15, ez_cell ad cy M 21 15), (ad 21 16, ez_cell ad cy M 21 16), (ad 21 17, ez_cell ad cy M 21 17), (ad 22 0, ez_cell ad cy M 22 0), (ad 22 1, ez_cell ad cy M 22 1), (ad 22 2, ez_cell ad cy M 22 2), (ad 22 3, ez_cell ad cy M 22 3), (ad 23 0, ez_cell ad cy M 23 0), (ad 24 0, ez_cell ad cy M 24 0), (ad 25 0, ez_cell ad cy M 25 0), (ad 26 0, ez_cell ad cy M 26 0), (ad 27 0, ez_cell ad cy M 27 0), (ad 28 0, ez_cell ad cy M 28 0), (ad 29 0, ez_cell ad cy M 29 0), (ad 30 0, ez_cell ad cy M 30 0), (ad 31 0, ez_cell ad cy M 31 0), (ad 32 0, ez_cell ad cy M 32 0), (ad 33 0, ez_cell ad cy M 33 0), (ad 34 0, ez_cell ad cy M 34 0), (ad 35 0, ez_cell ad cy M 35 0), (ad 36 0, ez_cell ad cy M 36 0), (ad 37 0, ez_cell ad cy M 37 0), (ad 38 0, ez_cell ad cy M 38 0), (ad 39 0, ez_cell ad cy M 39 0), (ad 40 0, ez_cell ad cy M 40 0), (ad 41 0, ez_cell ad cy M 41 0)] := by
  unfold ez_wl
  rw [ez_idf]
  rfl
set_option maxRecDepth 20000 in
theorem ez_wlt (ad : Nat → Nat → Nat) (cy : Nat → ClassId) (M : EzM) : ez_wl true ad cy M = [(ad 0 0, ez_cell ad cy M 0 0), (ad 1 0, ez_cell ad cy M 1 0), (ad 1 1, ez_cell ad cy M 1 1), (ad 1 2, ez_cell ad cy M 1 2), (ad 1 3, ez_cell ad cy M 1 3), (ad 2 0, ez_cell ad cy M 2 0), (ad 3 0, ez_cell ad cy M 3 0), (ad 3 1, ez_cell ad cy M 3 1), (ad 3 2, ez_cell ad cy M 3 2), (ad 3 3, ez_cell ad cy M 3 3), (ad 3 4, ez_cell ad cy M 3 4), (ad 3 5, ez_cell ad cy M 3 5), (ad 3 6, ez_cell ad cy M 3 6), (ad 4 0, ez_cell ad cy M 4 0), (ad 4 1, ez_cell ad cy M 4 1), (ad 4 2, ez_cell ad cy M 4 2), (ad 4 3, ez_cell ad cy M 4 3), (ad 5 0, ez_cell ad cy M 5 0), (ad 6 0, ez_cell ad cy M 6 0), (ad 7 0, ez_cell ad cy M 7 0), (ad 8 0, ez_cell ad cy M 8 0), (ad 9 0, ez_cell ad cy M 9 0), (ad 10 0, ez_cell ad cy M 10 0), (ad 10 1, ez_cell ad cy M 10 1), (ad 10 2, ez_cell ad cy M 10 2), (ad 10 3, ez_cell ad cy M 10 3), (ad 10 4, ez_cell ad cy M 10 4), (ad 10 5, ez_cell ad cy M 10 5), (ad 10 6, ez_cell ad cy M 10 6), (ad 10 7, ez_cell ad cy M 10 7), (ad 10 8, ez_cell ad cy M 10 8), (ad 10 9, ez_cell ad cy M 10 9), (ad 10 10, ez_cell ad cy M 10 10), (ad 10 11, ez_cell ad cy M 10 11), (ad 10 12, ez_cell ad cy M 10 12), (ad 10 13, ez_cell ad cy M 10 13), (ad 10 14, ez_cell ad cy M 10 14), (ad 10 15, ez_cell ad cy M 10 15), (ad 10 16, ez_cell ad cy M 10 16), (ad 10 17, ez_cell ad cy M 10 17), (ad 11 0, ez_cell ad cy M 11 0), (ad 12 0, ez_cell ad cy M 12 0), (ad 13 0, ez_cell ad cy M 13 0), (ad 14 0, ez_cell ad cy M 14 0), (ad 15 0, ez_cell ad cy M 15 0), (ad 16 0, ez_cell ad cy M 16 0), (ad 16 1, ez_cell ad cy M 16 1), (ad 16 2, ez_cell ad cy M 16 2), (ad 16 3, ez_cell ad cy M 16 3), (ad 16 4, ez_cell ad cy M 16 4), (ad 16 5, ez_cell ad cy M 16 5), (ad 16 6, ez_cell ad cy M 16 6), (ad 17 0, ez_cell ad cy M 17 0), (ad 17 1, ez_cell ad cy M 17 1), (ad 17 2, ez_cell ad cy M 17 2), (ad 17 3, ez_cell ad cy M 17 3), (ad 17 4, ez_cell ad cy M 17 4), (ad 17 5, ez_cell ad cy M 17 5), (ad 17 6, ez_cell ad cy M 17 6), (ad 18 0, ez_cell ad cy M 18 0), (ad 18 1, ez_cell ad cy M 18 1), (ad 18 2, ez_cell ad cy M 18 2), (ad 18 3, ez_cell ad cy M 18 3), (ad 19 0, ez_cell ad cy M 19 0), (ad 19 1, ez_cell ad cy M 19 1), (ad 19 2, ez_cell ad cy M 19 2), (ad 19 3, ez_cell ad cy M 19 3), (ad 20 0, ez_cell ad cy M 20 0), (ad 20 1, ez_cell ad cy M 20 1), (ad 20 2, ez_cell ad cy M 20 2), (ad 20 3, ez_cell ad cy M 20 3), (ad 20 4, ez_cell ad cy M 20 4), (ad 20 5, ez_cell ad cy M 20 5), (ad 20 6, ez_cell ad cy M 20 6), (ad 20 7, ez_cell ad cy M 20 7), (ad 20 8, ez_cell ad cy M 20 8), (ad 21 0, ez_cell ad cy M 21 0), (ad 21 1, ez_cell ad cy M 21 1), (ad 21 2, ez_cell ad cy M 21 2), (ad 21 3, ez_cell ad cy M 21 3), (ad 21 4, ez_cell ad cy M 21 4), (ad 21 5, ez_cell ad cy M 21 5), (ad 21 6, ez_cell ad cy M 21 6), (ad 21 7, ez_cell ad cy M 21 7), (ad 21 8, ez_cell ad cy M 21 8), (ad 21 9, ez_cell ad cy M 21 9), (ad 21 10, ez_cell ad cy M 21 10), (ad 21 11, ez_cell ad cy M 21 11), (ad 21 12, ez_cell ad cy M 21 12), (ad 21 13, ez_cell ad cy M 21 13), (ad 21 14, ez_cell ad cy M 21 14), (ad 21 15, ez_cell ad cy M 21 15), (ad 21 16, ez_cell ad cy M 21 16), (ad 21 17, ez_cell ad cy M 21 17), (ad 22 0, ez_cell ad cy M 22 0), (ad 22 1, ez_cell ad cy M 22 1), (ad 22 2, ez_cell ad cy M 22 2), (ad 22 3, ez_cell ad cy M 22 3), (ad 23 0, ez_cell ad cy M 23 0), (ad 24 0, ez_cell ad cy M 24 0), (ad 25 0, ez_cell ad cy M 25 0), (ad 26 0, ez_cell ad cy M 26 0), (ad 27 0, ez_cell ad cy M 27 0), (ad 28 0, ez_cell ad cy M 28 0), (ad 29 0, ez_cell ad cy M 29 0), (ad 30 0, ez_cell ad cy M 30 0), (ad 31 0, ez_cell ad cy M 31 0), (ad 32 0, ez_cell ad cy M 32 0), (ad 33 0, ez_cell ad cy M 33 0), (ad 34 0, ez_cell ad cy M 34 0), (ad 35 0, ez_cell ad cy M 35 0), (ad 36 0, ez_cell ad cy M 36 0), (ad 37 0, ez_cell ad cy M 37 0), (ad 38 0, ez_cell ad cy M 38 0), (ad 39 0, ez_cell ad cy M 39 0), (ad 40 0, ez_cell ad cy M 40 0), (ad 41 0, ez_cell ad cy M 41 0), (ad 42 0, ez_cell ad cy M 42 0), (ad 43 0, ez_cell ad cy M 43 0), (ad 44 0, ez_cell ad cy M 44 0), (ad 45 0, ez_cell ad cy M 45 0), (ad 46 0, ez_cell ad cy M 46 0), (ad 47 0, ez_cell ad cy M 47 0), (ad 48 0, ez_cell ad cy M 48 0), (ad 49 0, ez_cell ad cy M 49 0), (ad 50 0, ez_cell ad cy M 50 0), (ad 51 0, ez_cell ad cy M 51 0), (ad 52 0, ez_cell ad cy M 52 0), (ad 53 0, ez_cell ad cy M 53 0), (ad 54 0, ez_cell ad cy M 54 0), (ad 55 0, ez_cell ad cy M 55 0), (ad 56 0, ez_cell ad cy M 56 0), (ad 57 0, ez_cell ad cy M 57 0), (ad 58 0, ez_cell ad cy M 58 0), (ad 59 0, ez_cell ad cy M 59 0), (ad 60 0, ez_cell ad cy M 60 0), (ad 61 0, ez_cell ad cy M 61 0), (ad 62 0, ez_cell ad cy M 62 0), (ad 63 0, ez_cell ad cy M 63 0), (ad 64 0, ez_cell ad cy M 64 0), (ad 65 0, ez_cell ad cy M 65 0), (ad 66 0, ez_cell ad cy M 66 0), (ad 67 0, ez_cell ad cy M 67 0), (ad 68 0, ez_cell ad cy M 68 0), (ad 69 0, ez_cell ad cy M 69 0), (ad 70 0, ez_cell ad cy M 70 0), (ad 71 0, ez_cell ad cy M 71 0), (ad 72 0, ez_cell ad cy M 72 0), (ad 73 0, ez_cell ad cy M 73 0)] := rfl
/-- the memory of a new class -/
def ez_M0 : EzM := (fun k _ s => if k = 4 then (if s = 0 then -1 else 0) else 0, fun _ _ _ => 0)
