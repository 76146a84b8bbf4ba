/-! the world of all cells, and the judgement Ez: a method of the system, at a place of its code, over the abstract memory -/
def ez_cv (ad : Nat → Nat → Nat) : EzV → Value
  | .inl x => .int x
  | .inr (.inl x) => .long x
  | .inr (.inr none) => .null
  | .inr (.inr (some q)) => .ref (ad q.1 q.2)
def ez_isL : EzV → Bool
  | .inr (.inl _) => true
  | _ => false
def ez_fld (M : EzM) (k i s : Nat) : EzV := match ez_frk k s with
  | some q => eR q.1 (i + q.2)
  | none => if k = 12 ∧ s = 25 then eL (M.2 k i s) else eI (M.1 k i s)
def ez_obj (ad : Nat → Nat → Nat) (M : EzM) (k i : Nat) : va_E := .inr (k, (List.range (ez_nfk k)).map (fun s => ez_cv ad (ez_fld M k i s)))
def ez_arr (ad : Nat → Nat → Nat) (cy : Nat → ClassId) (M : EzM) (k i : Nat) : va_E :=
  if ez_atk k < 3 then .inl (cy (ez_atk k), ez_alk k, .inl (M.1 k i))
  else if ez_atk k = 3 then .inl (cy (ez_atk k), ez_alk k, .inr (.inl (M.2 k i)))
  else .inl (cy (ez_atk k), ez_alk k, .inr (.inr (.inr (.inr (fun j => some (ad (ez_ark k).1 ((ez_ark k).2 + j)))))))
def ez_cell (ad : Nat → Nat → Nat) (cy : Nat → ClassId) (M : EzM) (k i : Nat) : va_E := if k < 13 then ez_obj ad M k i else ez_arr ad cy M k i
/-- the kinds of the class alone; the cells that stand, of the class, or of class and model -/
def ez_isC (k : Nat) : Bool := decide (k < 12) || (decide (13 ≤ k) && decide (k < 42))
def ez_idb (b : Bool) : List (Nat × Nat) := if b then ez_ids else ez_ids.filter (fun q => ez_isC q.1)
def ez_cb (b : Bool) (k : Nat) : Nat := if ez_isC k then ez_ct k else if b then ez_ct k else 0
theorem ez_inb (b : Bool) (k : Nat) (hk : k < 74) (i : Nat) (hi : i < ez_cb b k) : (k, i) ∈ ez_idb b := by
  unfold ez_cb at hi
  cases b with
  | true =>
    have h2 : i < ez_ct k := by
      cases hc : ez_isC k <;> rw [hc] at hi <;> simpa using hi
    exact ez_in k hk i h2
  | false =>
    cases hc : ez_isC k
    · rw [hc] at hi; simp at hi
    · rw [hc] at hi
      exact List.mem_filter.mpr ⟨ez_in k hk i (by simpa using hi), hc⟩
def ez_wl (b : Bool) (ad : Nat → Nat → Nat) (cy : Nat → ClassId) (M : EzM) : va_W := (ez_idb b).map (fun q => (ad q.1 q.2, ez_cell ad cy M q.1 q.2))
def ez_A (b : Bool) (ad : Nat → Nat → Nat) : Nat → Prop := fun q => ∃ z ∈ ez_idb b, q = ad z.1 z.2
def ez_tys (cy : Nat → ClassId) : List (ClassId × FieldType) := (List.range 9).map (fun t => (cy t, ez_ty t))
/-- stores -/
def ez_row (M : EzM) (k i : Nat) (f : Nat → Int32) : EzM := (fun k' i' => if k' = k ∧ i' = i then f else M.1 k' i', M.2)
def ez_rowL (M : EzM) (k i : Nat) (f : Nat → Int64) : EzM := (M.1, fun k' i' => if k' = k ∧ i' = i then f else M.2 k' i')
def ez_st (M : EzM) (k i s : Nat) (v : Int32) : EzM := ez_row M k i (upd (M.1 k i) s v)
def ez_stL (M : EzM) (k i s : Nat) (v : Int64) : EzM := ez_rowL M k i (vp_updL (M.2 k i) s v)
theorem ez_row_1 (M : EzM) (k i : Nat) (f : Nat → Int32) : (ez_row M k i f).1 k i = f := by simp [ez_row]
theorem ez_row_2 (M : EzM) (k i : Nat) (f : Nat → Int32) : (ez_row M k i f).2 = M.2 := rfl
theorem ez_row_n (M : EzM) {k i k' i' : Nat} (f : Nat → Int32) (h : ¬ (k' = k ∧ i' = i)) : (ez_row M k i f).1 k' i' = M.1 k' i' := by simp only [ez_row]; rw [if_neg h]
theorem ez_rowL_1 (M : EzM) (k i : Nat) (f : Nat → Int64) : (ez_rowL M k i f).2 k i = f := by simp [ez_rowL]
theorem ez_rowL_2 (M : EzM) (k i : Nat) (f : Nat → Int64) : (ez_rowL M k i f).1 = M.1 := rfl
theorem ez_rowL_n (M : EzM) {k i k' i' : Nat} (f : Nat → Int64) (h : ¬ (k' = k ∧ i' = i)) : (ez_rowL M k i f).2 k' i' = M.2 k' i' := by simp only [ez_rowL]; rw [if_neg h]
theorem ez_cell_congr {ad : Nat → Nat → Nat} {cy : Nat → ClassId} {M M' : EzM} {k i : Nat} (h1 : M.1 k i = M'.1 k i) (h2 : M.2 k i = M'.2 k i) : ez_cell ad cy M k i = ez_cell ad cy M' k i := by
  simp only [ez_cell, ez_obj, ez_arr, ez_fld, h1, h2]
theorem ez_get {b : Bool} {ad : Nat → Nat → Nat} {cy : Nat → ClassId} {M : EzM} {k i : Nat} (h : (k, i) ∈ (ez_idb b)) : ∃ q0 : Nat, (ez_wl b ad cy M)[q0]? = some (ad k i, ez_cell ad cy M k i) ∧ (ez_idb b)[q0]? = some (k, i) := by
  obtain ⟨q0, hq⟩ := List.getElem?_of_mem h
  exact ⟨q0, by simp only [ez_wl, List.getElem?_map, hq]; rfl, hq⟩
theorem ez_set {b : Bool} {ad : Nat → Nat → Nat} {cy : Nat → ClassId} {M M' : EzM} {k i q0 : Nat} {A : Nat → Prop} (hD : va_D A (ez_wl b ad cy M)) (h : (ez_idb b)[q0]? = some (k, i)) (h1 : ∀ k' i', ¬ (k' = k ∧ i' = i) → M'.1 k' i' = M.1 k' i') (h2 : ∀ k' i', ¬ (k' = k ∧ i' = i) → M'.2 k' i' = M.2 k' i') : (ez_wl b ad cy M).set q0 (ad k i, ez_cell ad cy M' k i) = ez_wl b ad cy M' := by
  have hw : (ez_wl b ad cy M)[q0]? = some (ad k i, ez_cell ad cy M k i) := by simp only [ez_wl, List.getElem?_map, h]; rfl
  have hl := (List.getElem?_eq_some_iff.mp hw).1
  apply List.ext_getElem?
  intro j
  by_cases hj : j = q0
  · subst hj
    rw [List.getElem?_set_self hl]
    simp only [ez_wl, List.getElem?_map, h]; rfl
  · rw [List.getElem?_set_ne (Ne.symm hj)]
    simp only [ez_wl, List.getElem?_map]
    cases hz9 : (ez_idb b)[j]? with
    | none => rfl
    | some z =>
      have hz : ¬ (z.1 = k ∧ z.2 = i) := by
        intro hzz
        have h3 : (ez_wl b ad cy M)[j]? = some (ad z.1 z.2, ez_cell ad cy M z.1 z.2) := by simp only [ez_wl, List.getElem?_map, hz9]; rfl
        exact hj (hD.1 j q0 _ _ h3 hw (by rw [hzz.1, hzz.2]))
      show some (ad z.1 z.2, ez_cell ad cy M z.1 z.2) = some (ad z.1 z.2, ez_cell ad cy M' z.1 z.2)
      rw [ez_cell_congr (h1 _ _ hz) (h2 _ _ hz)]
theorem ez_D {b : Bool} {ad : Nat → Nat → Nat} {cy : Nat → ClassId} {M M' : EzM} {A : Nat → Prop} (hD : va_D A (ez_wl b ad cy M)) : va_D A (ez_wl b ad cy M') := by
  have key : ∀ (j : Nat) (x : Nat × va_E), (ez_wl b ad cy M')[j]? = some x → ∃ y, (ez_wl b ad cy M)[j]? = some y ∧ y.1 = x.1 := by
    intro j x hx
    simp only [ez_wl, List.getElem?_map] at hx ⊢
    cases hz9 : (ez_idb b)[j]? with
    | none => rw [hz9] at hx; cases hx
    | some z =>
      rw [hz9] at hx
      cases hx
      exact ⟨_, rfl, rfl⟩
  refine ⟨fun i j x y hi hj hxy => ?_, fun j x hx => ?_⟩
  · obtain ⟨x', a1, a2⟩ := key i x hi
    obtain ⟨y', b1, b2⟩ := key j y hj
    exact hD.1 i j x' y' a1 b1 (by rw [a2, b2]; exact hxy)
  · obtain ⟨x', a1, a2⟩ := key j x hx
    have := hD.2 j x' a1
    rw [a2] at this
    exact this
def ez_ws (Y : EzY) : List Cond := Cond.code Y.1 Y.2.1 Y.2.2.1 Y.2.2.2 :: ez_tbl
def ez_rm (d : Nat) : Room := { frames := d, cells := 0, slots := 0, locals := 128 * d }
abbrev EzH : Type := Launch × va_G × (Nat → Nat → Nat) × (Nat → ClassId)
abbrev EzG : Type := Bool × Launch × va_G × (Nat → Nat → Nat) × (Nat → ClassId)
/-- what lies outside the world: the string constants, two statics -/
def ez_sl0 : List (String × Nat × String) := [("ElevenPebbles$Tape", 131, "came"), ("ElevenPebbles$Tape", 133, "doors"), ("ElevenPebbles$Tape", 135, "pebbles"), ("ElevenPebbles$Tape", 137, "bag"), ("ElevenPebbles$Tape", 139, "step"), ("ElevenPebbles$Tape", 141, "number"), ("ElevenPebbles$Tape", 143, "go"), ("ElevenPebbles$Tape", 145, "put"), ("ElevenPebbles$Tape", 147, "take"), ("ElevenPebbles$Tape", 149, "or"), ("ElevenPebbles$Tape", 151, "and"), ("ElevenPebbles$Tape", 153, "not"), ("ElevenPebbles", 336, "go 1 ; put pebbles = 0 ; take 0 ;")]
def ez_sn : List Nat := [4, 5, 7, 3, 4, 6, 2, 3, 4, 2, 3, 3, 33]
def ez_sb : List (List Int32) := [[99, 97, 109, 101], [100, 111, 111, 114, 115], [112, 101, 98, 98, 108, 101, 115], [98, 97, 103], [115, 116, 101, 112], [110, 117, 109, 98, 101, 114], [103, 111], [112, 117, 116], [116, 97, 107, 101], [111, 114], [97, 110, 100], [110, 111, 116], [103, 111, 32, 49, 32, 59, 32, 112, 117, 116, 32, 112, 101, 98, 98, 108, 101, 115, 32, 61, 32, 48, 32, 59, 32, 116, 97, 107, 101, 32, 48, 32, 59]]
def ez_ka (j : Nat) : Int32 := ([-1, 0, 0, 1, 2, 2] : List Int32).getD j 0
def ez_ext (G : EzG) (U : State) : Prop := vk_S 13 ez_sn ez_sb (fun i => G.2.2.2.1 100 i) (fun i => G.2.2.2.1 101 i) (ez_A G.1 G.2.2.2.1) U U.heap ∧ (∀ i, i < 13 → vk_R (ez_sl0.getD i ("", 0, "")).1 (ez_sl0.getD i ("", 0, "")).2.1 (ez_sl0.getD i ("", 0, "")).2.2 (G.2.2.2.1 100 i) U) ∧ va_Z "java/lang/String" "COMPACT_STRINGS" "Z" (.int 1) (ez_A G.1 G.2.2.2.1) U U.heap ∧ va_Z "ElevenPebbles" "KIND_ABOVE" "[I" (.ref (G.2.2.2.1 102 0)) (ez_A G.1 G.2.2.2.1) U U.heap ∧ va_T .int (G.2.2.2.1 102 0) 6 (fun j => .int (ez_ka j)) (ez_A G.1 G.2.2.2.1) U U.heap ∧ (va_Z "jdk/internal/util/Preconditions" "SIOOBE_FORMATTER" "Ljava/util/function/BiFunction;" .null (ez_A G.1 G.2.2.2.1) U U.heap ∨ va_Z "jdk/internal/util/Preconditions" "SIOOBE_FORMATTER" "Ljava/util/function/BiFunction;" (.ref (G.2.2.2.1 103 0)) (ez_A G.1 G.2.2.2.1) U U.heap)
theorem ez_extU {G : EzG} {s U : State} {H : Heap} {locs : List Loc} (hW : s.WarmedH U.vm) (hS : va_S (ez_A G.1 G.2.2.2.1) s.heap H locs) (hU : U.heap = H) (h : ez_ext G s) : ez_ext G U := by
  obtain ⟨h1, h2, h3, h4, h5, h6⟩ := h
  have hq : ∀ a : Nat, a < s.heap.size → ¬ ez_A G.1 G.2.2.2.1 a → U.heap[a]? = s.heap[a]? := fun a a1 a2 => by rw [hU]; exact hS.2.1 a a1 a2
  exact ⟨(h1.moved hW.alike).kept hq, fun i hi => (h2 i hi).warm hW, (h3.moved hW.alike).kept hq, (h4.moved hW.alike).kept hq, (h5.moved hW.alike).kept hq, h6.imp (fun z => (z.moved hW.alike).kept hq) (fun z => (z.moved hW.alike).kept hq)⟩
theorem ez_extC {G : EzG} {U : State} {g : JFrame} {mk : MethodId} {a : Array Value} (h : ez_ext G U) : ez_ext G (U.calling g mk a) := by
  obtain ⟨h1, h2, h3, h4, h5, h6⟩ := h
  exact ⟨h1.moved (u := U) (U := U.calling g mk a) (Vm.Alike.refl U.vm), fun i hi => (h2 i hi).same rfl, h3.moved (u := U) (U := U.calling g mk a) (Vm.Alike.refl U.vm), h4.moved (u := U) (U := U.calling g mk a) (Vm.Alike.refl U.vm), h5.moved (u := U) (U := U.calling g mk a) (Vm.Alike.refl U.vm), h6.imp (fun z => z.moved (u := U) (U := U.calling g mk a) (Vm.Alike.refl U.vm)) (fun z => z.moved (u := U) (U := U.calling g mk a) (Vm.Alike.refl U.vm))⟩
def ez_ok (G : EzG) (U : State) : Prop := va_K G.2.2.1 vwCl (ez_tys G.2.2.2.2) U ∧ (∀ w ∈ ez_nest, va_Nw w U) ∧ ez_ext G U
def ez_W (G : EzG) (M : EzM) (U : State) : Prop := va_P G.2.2.1 vwCl (ez_wl G.1 G.2.2.2.1 G.2.2.2.2 M) U.heap ∧ ez_ok G U ∧ va_D (ez_A G.1 G.2.2.2.1) (ez_wl G.1 G.2.2.2.1 G.2.2.2.2 M)
def ez_Q (G : EzG) (P : Option EzV → EzM → Prop) : Array Value → State → Outcome → State → Prop := fun _ st o t => (∃ (r : Option EzV) (M : EzM), o = .returned (r.map (ez_cv G.2.2.2.1)) ∧ P r M ∧ ez_W G M t) ∧ va_F (ez_A G.1 G.2.2.2.1) st t
def ez_lo (ad : Nat → Nat → Nat) (ls : List (Nat × EzV)) : List (Nat × Value) := ls.map (fun q => (q.1, ez_cv ad q.2))
/-- the judgement -/
def Ez (G : EzG) (Y : EzY) (d pc : Nat) (ls : List (Nat × EzV)) (st : List EzV) (M : EzM) (P : Option EzV → EzM → Prop) : Prop :=
  ∀ (p : Program) (e : Env) (s : State) (m : MethodId) (args : Array Value) (below : List Frame) (meth : Method) (c : Code) (H : Heap) (locs : List Loc) (lsA : Array Slot),
    p.tables.exec = Jvm.exec → c.code = Y.2.1 → meth.sig.returnType = Y.2.2.2 → c.maxLocals = Y.2.2.1 → s.vm.findClass Y.1.cls = some m.cls → (∀ w ∈ ez_ws Y, w.before args s = true) → meth.locks = false → ez_ok G s →
    va_D (ez_A G.1 G.2.2.2.1) (ez_wl G.1 G.2.2.2.1 G.2.2.2.2 M) → va_P G.2.2.1 vwCl (ez_wl G.1 G.2.2.2.1 G.2.2.2.2 M) H → va_S (ez_A G.1 G.2.2.2.1) s.heap H locs → lv_has lsA Y.2.2.1 (ez_lo G.2.2.2.1 ls) →
    W p G.2.1 e (ez_rm d) s m args below meth c H locs 0 0 (MQ below (ez_Q G P) args s 0 0 (ez_A G.1 G.2.2.2.1)) (F0 m pc lsA (st.map (ez_cv G.2.2.2.1)))
/-- a method's contract -/
def Ezc (G : EzG) (Y : EzY) (d : Nat) (As : List EzV) (M : EzM) (P : Option EzV → EzM → Prop) : Prop :=
  Met G.2.1 Y.1 (ez_ws Y) (ez_rm d) (va_Pc (As.map (ez_cv G.2.2.2.1)) (ez_W G M)) (ez_Q G P) 0 0 (ez_A G.1 G.2.2.2.1)
def ez_args : Nat → List EzV → List (Nat × EzV)
  | _, [] => []
  | i, v :: vs => (i, v) :: ez_args (if ez_isL v then i + 2 else i + 1) vs
theorem ez_cat (ad : Nat → Nat → Nat) (v : EzV) : (ez_cv ad v).category = if ez_isL v then 2 else 1 := by
  rcases v with x | x | x | x <;> rfl
theorem ez_args_eq (ad : Nat → Nat → Nat) : ∀ (As : List EzV) (i : Nat), lv_args i (As.map (ez_cv ad)) = ez_lo ad (ez_args i As)
  | [], i => rfl
  | v :: vs, i => by
    have ih := ez_args_eq ad vs
    simp only [List.map_cons, lv_args, ez_args, ez_lo]
    congr 1
    rw [ez_cat]
    cases hv : ez_isL v
    · simpa [hv, ez_lo] using ih (i + 1)
    · simpa [hv, ez_lo] using ih (i + 2)
theorem Ezc.of {G : EzG} {Y : EzY} {d : Nat} {As : List EzV} {M : EzM} {P : Option EzV → EzM → Prop} (hy : plainName Y.1.cls = true) (hn : (lg_sl (As.map (ez_cv G.2.2.2.1))).length ≤ Y.2.2.1) (h : Ez G Y d 0 (ez_args 0 As) [] M P) : Ezc G Y d As M P := by
  refine Met.ofW (cc := Y.2.1) (maxL := Y.2.2.1) (ret := Y.2.2.2) hy rfl ?_
  intro p e s m args below meth c s₁ B hml hv
  obtain ⟨rfl, hP, hK, hD⟩ := hv
  have hl := lv_entry (As.map (ez_cv G.2.2.2.1)) (n := Y.2.2.1) hn
  rw [lg_entry_eq]
  rw [ez_args_eq] at hl
  exact h p e s m _ below meth c s.heap [] _ B.exec B.bytes B.returns hml (findClass_of_methodNamed B.named) (atoms_spec (ws := ez_ws Y) B.pre) B.notSynchronized hK hD hP va_S.rf hl
theorem ez_nestC {U : State} {g : JFrame} {mk : MethodId} {a : Array Value} (h : ∀ w ∈ ez_nest, va_Nw w U) : ∀ w ∈ ez_nest, va_Nw w (U.calling g mk a) := by
  intro w hw
  have h2 := (List.mem_filter.mp hw).2
  have h3 := h w hw
  cases w <;> simp [ez_isN] at h2
  exact va_Nw.same rfl rfl h3
theorem ez_blind {G : EzG} {As : List Value} {M : EzM} : FrameBlind (va_Pc As (ez_W G M)) := fun a U g mk q => by
  obtain ⟨h1, hP, ⟨hK, hN, hE⟩, hD⟩ := q
  exact ⟨h1, hP, ⟨va_K.moved (u := U) (U := U.calling g mk a) (Vm.Alike.refl U.vm) hK, ez_nestC hN, ez_extC hE⟩, hD⟩
theorem ez_nestU {s U : State} (hW : s.WarmedH U.vm) (h : ∀ w ∈ ez_nest, va_Nw w s) : ∀ w ∈ ez_nest, va_Nw w U := by
  intro w hw
  have h2 := (List.mem_filter.mp hw).2
  have h3 := h w hw
  cases w <;> simp [ez_isN] at h2
  exact va_Nw.warmM hW h3
theorem ez_okU {G : EzG} {s U : State} {H : Heap} {locs : List Loc} (hW : s.WarmedH U.vm) (hS : va_S (ez_A G.1 G.2.2.2.1) s.heap H locs) (hU : U.heap = H) (h : ez_ok G s) : ez_ok G U := ⟨va_K.moved hW.alike h.1, ez_nestU hW h.2.1, ez_extU hW hS hU h.2.2⟩
theorem ez_call {p : Program} {e : Env} {R : Room} {s : State} {m : MethodId} {args : Array Value} {below : List Frame} {meth : Method} {c : Code} {H : Heap} {locs : List Loc} {Q : State → Prop} {G : EzG} {P : Option EzV → EzM → Prop} {pc : Nat} {lsA : Array Slot} {st0 rest : List Value} {a : Array Value}
    (hr : va_Run p G.2.1 e R s m args below meth c H locs 0 0 0 0 (F0 m pc lsA st0) rest (ez_Q G P a) (ez_A G.1 G.2.2.2.1)) (hS : va_S (ez_A G.1 G.2.2.2.1) s.heap H locs)
    (kk : ∀ (r : Option EzV) (M : EzM) (H1 : Heap) (locs1 : List Loc), P r M → va_P G.2.2.1 vwCl (ez_wl G.1 G.2.2.2.1 G.2.2.2.2 M) H1 → va_S (ez_A G.1 G.2.2.2.1) s.heap H1 locs1 → W p G.2.1 e R s m args below meth c H1 locs1 0 0 Q (F0 m (pc + 3) lsA ((r.map (ez_cv G.2.2.2.1)).toList ++ rest))) :
    W p G.2.1 e R s m args below meth c H locs 0 0 Q (F0 m pc lsA st0) := by
  intro T hT X
  obtain ⟨v, st₀, t, T', L, h0, X', hL, e1, e2, ⟨⟨r, M, hv, hp, hb⟩, hz, hk⟩, st⟩ := hr T hT X
  cases hv
  rw [h0] at hz hk
  obtain ⟨t2, a1, b1⟩ := kk r M T'.heap (locs ++ L) hp (by rw [e1]; exact hb.1)
    ⟨Nat.le_trans hS.1 (by rw [e1]; exact hz), fun q h1 h2 => by rw [e1, hk q (Nat.lt_of_lt_of_le h1 hS.1) h2]; exact hS.2.1 q h1 h2, fun q hq => by
      rcases List.mem_append.mp hq with h | h
      · exact hS.2.2 q h
      · exact hL q h⟩ T' rfl X'
  exact ⟨t2, st t2 a1, b1⟩
