/-! the law: its start (rows R_law to lw_At are the skeleton's) -/
def R_law : String := "ElevenPebblesLaw"
def lw_P (b : Addr) (xs : List Int32) (args : Array Value) (s : State) : Prop := args = #[.ref b] ∧ s.IntsAt b xs ∧ xs.length ≤ 384 ∧ (Jvm.Cond.and given_1 narrow_1).before args s = true
def lw_Q (_ : Array Value) (s : State) (o : Outcome) (t : State) : Prop := o = .returned (some (.int 1)) ∧ Framed s o t [] 600000 7302250
def lw_Z (below : List Frame) (a : Array Value) (s : State) : State → Prop := fun t => ∃ o, t.status = .running ∧ Ended t below o ∧ lw_Q a s o t
/-- the law's own end, with 1 on the stack, nothing written that was there before, its room as the claim has it -/
theorem lw_ret {p : Program} {l : Launch} {e : Env} {s : State} {m : MethodId} {below : List Frame} {meth : Method} {c : Code} {b : Nat} (hx : p.tables.exec = Jvm.exec) (hb : c.code = code) (hr : meth.sig.returnType = ret) (hlocks : meth.locks = false) {pc : Nat} {H : Heap} {ls : Array Slot} (hdg : decode code pc = .ok (.ireturn, 1)) : W p l e room_1 s m #[Value.ref b] below meth c H [] 600000 7302250 (lw_Z below #[Value.ref b] s) (F0 m pc ls [.int 1]) := by
  intro T hT X
  obtain ⟨fs, hret, hrun, hended, hW, hframe⟩ := X.leave (v := some (.int 1)) (hlocks := hlocks) (fun h => by rw [hr] at h; cases h)
  have hmeth' : T.vm.method? m = some meth := X.method'
  refine ⟨T.setFrames fs, ?_, .returned (some (.int 1)), hrun, hended, rfl, ⟨_, rfl⟩, hW, hframe⟩
  jvm_step X.here [X.here.top, hx, hb, hdg, hmeth', hr, ret, narrow_b1]
  (try refine ⟨rfl, ?_⟩); (try refine ⟨rfl, ?_⟩)
  first | (intro acts; rw [hret _ acts rfl rfl rfl]) | rw [hret _ _ rfl rfl rfl]
  exact Steps.refl _
/-- what holds at the law's entry: the machine, the code, the tables' words (any of lw_tbl by 'hts w (by decide +kernel)'), the script of L ints xs at the cell b, what the Statement gives of the start (any of its parts by flat_of_before) -/
def lw_At (p : Program) (s : State) (m : MethodId) (meth : Method) (c : Code) (b L : Nat) (xs : Nat → Int32) : Prop :=
  p.tables.exec = Jvm.exec ∧ c.code = code ∧ meth.sig.returnType = ret ∧ c.maxLocals = 4 ∧ s.vm.findClass R_law = some m.cls ∧ (∀ w ∈ lw_tbl, w.before #[Value.ref b] s = true) ∧ va_X b L xs s s.heap ∧ b < s.heap.size ∧ meth.locks = false ∧ (Jvm.Cond.and given_1 narrow_1).before #[Value.ref b] s = true
theorem lw_in {w : Cond} (h : w ∈ ez_tbl) : w ∈ lw_tbl := (List.mem_filter.mp h).1
theorem lw_Kc {s : State} {b : Nat} (hts : ∀ w ∈ lw_tbl, w.before #[Value.ref b] s = true) (k : Nat) (q : vw_C) (hq : vwCl[k]? = some q) : ∃ (cC : ClassId) (iS : Nat → Nat), u_Kn s q.1 q.2.1 q.2.2 cC iS := by
  match k, hq with
  | 0, hq => cases hq; exact u_known (C := RX0) (T := TX0) (N := 6) (n := 6) hts (fun w h => lw_in (uw_0 w h)) (hts (.instantiable RX0 6) (List.mem_append_right _ (List.mem_of_getElem? (i := 91) (by decide +kernel))))
  | 1, hq => cases hq; exact u_known (C := RX1) (T := TX1) (N := 4) (n := 4) hts (fun w h => lw_in (uw_1 w h)) (hts (.instantiable RX1 4) (List.mem_append_right _ (List.mem_of_getElem? (i := 264) (by decide +kernel))))
  | 2, hq => cases hq; exact u_known (C := RX2) (T := TX2) (N := 7) (n := 7) hts (fun w h => lw_in (uw_2 w h)) (hts (.instantiable RX2 7) (List.mem_append_right _ (List.mem_of_getElem? (i := 218) (by decide +kernel))))
  | 3, hq => cases hq; exact u_known (C := RX3) (T := TX3) (N := 3) (n := 3) hts (fun w h => lw_in (uw_3 w h)) (hts (.instantiable RX3 3) (List.mem_append_right _ (List.mem_of_getElem? (i := 36) (by decide +kernel))))
  | 4, hq => cases hq; exact u_known (C := RX4) (T := TX4) (N := 3) (n := 3) hts (fun w h => lw_in (uw_4 w h)) (hts (.instantiable RX4 3) (List.mem_append_right _ (List.mem_of_getElem? (i := 286) (by decide +kernel))))
  | 5, hq => cases hq; exact u_known (C := RX5) (T := TX5) (N := 3) (n := 3) hts (fun w h => lw_in (uw_5 w h)) (hts (.instantiable RX5 3) (List.mem_append_right _ (List.mem_of_getElem? (i := 167) (by decide +kernel))))
  | 6, hq => cases hq; exact u_known (C := RX6) (T := TX6) (N := 2) (n := 2) hts (fun w h => lw_in (uw_6 w h)) (hts (.instantiable RX6 2) (List.mem_append_right _ (List.mem_of_getElem? (i := 204) (by decide +kernel))))
  | 7, hq => cases hq; exact u_known (C := RX7) (T := TX7) (N := 8) (n := 8) hts (fun w h => lw_in (uw_7 w h)) (hts (.instantiable RX7 8) (List.mem_append_right _ (List.mem_of_getElem? (i := 30) (by decide +kernel))))
  | 8, hq => cases hq; exact u_known (C := RX8) (T := TX8) (N := 3) (n := 3) hts (fun w h => lw_in (uw_8 w h)) (hts (.instantiable RX8 3) (List.mem_append_right _ (List.mem_of_getElem? (i := 249) (by decide +kernel))))
  | 9, hq => cases hq; exact u_known (C := RX9) (T := TX9) (N := 3) (n := 3) hts (fun w h => lw_in (uw_9 w h)) (hts (.instantiable RX9 3) (List.mem_append_right _ (List.mem_of_getElem? (i := 187) (by decide +kernel))))
  | 10, hq => cases hq; exact u_known (C := RX10) (T := TX10) (N := 8) (n := 8) hts (fun w h => lw_in (uw_10 w h)) (hts (.instantiable RX10 8) (List.mem_append_right _ (List.mem_of_getElem? (i := 99) (by decide +kernel))))
  | 11, hq => cases hq; exact u_known (C := RX11) (T := TX11) (N := 18) (n := 18) hts (fun w h => lw_in (uw_11 w h)) (hts (.instantiable RX11 18) (List.mem_append_right _ (List.mem_of_getElem? (i := 22) (by decide +kernel))))
  | 12, hq => cases hq; exact u_known (C := RX12) (T := TX12) (N := 58) (n := 58) hts (fun w h => lw_in (uw_12 w h)) (hts (.instantiable RX12 58) (List.mem_append_right _ (List.mem_of_getElem? (i := 861) (by decide +kernel))))
  | k + 13, hq => exact absurd hq (by simp)
theorem lw_Kt {s : State} {b : Nat} (hts : ∀ w ∈ lw_tbl, w.before #[Value.ref b] s = true) (t : Nat) : ∃ cA : ClassId, t < 9 → ArrOfT s cA (ez_ty t) ∧ va_RA s cA (ez_ty t) := by
  match t with
  | 0 =>
    obtain ⟨cA, kA, comp, h1, h2, h3⟩ := Cond.arrayClass_spec (args := #[Value.ref b]) (first := s) (o := none) (s := s) (idx := []) (type := .int) (hts (.arrayClass .int) (List.mem_append_right _ (List.mem_of_getElem? (i := 53) (by decide +kernel))))
    exact ⟨cA, fun _ => ⟨fun n z => ⟨fun k h => (by cases h), kA, h2, comp, h3⟩, h1⟩⟩
  | 1 =>
    obtain ⟨cA, kA, comp, h1, h2, h3⟩ := Cond.arrayClass_spec (args := #[Value.ref b]) (first := s) (o := none) (s := s) (idx := []) (type := .byte) (hts (.arrayClass .byte) (List.mem_append_right _ (List.mem_of_getElem? (i := 52) (by decide +kernel))))
    exact ⟨cA, fun _ => ⟨fun n z => ⟨fun k h => (by cases h), kA, h2, comp, h3⟩, h1⟩⟩
  | 2 =>
    obtain ⟨cA, kA, comp, h1, h2, h3⟩ := Cond.arrayClass_spec (args := #[Value.ref b]) (first := s) (o := none) (s := s) (idx := []) (type := .boolean) (hts (.arrayClass .boolean) (List.mem_append_right _ (List.mem_of_getElem? (i := 247) (by decide +kernel))))
    exact ⟨cA, fun _ => ⟨fun n z => ⟨fun k h => (by cases h), kA, h2, comp, h3⟩, h1⟩⟩
  | 3 =>
    obtain ⟨cA, kA, comp, h1, h2, h3⟩ := Cond.arrayClass_spec (args := #[Value.ref b]) (first := s) (o := none) (s := s) (idx := []) (type := .long) (hts (.arrayClass .long) (List.mem_append_right _ (List.mem_of_getElem? (i := 202) (by decide +kernel))))
    exact ⟨cA, fun _ => ⟨fun n z => ⟨fun k h => (by cases h), kA, h2, comp, h3⟩, h1⟩⟩
  | 4 =>
    obtain ⟨comp, cA, kA, h1, -, h2, h3, h4⟩ := Cond.arrayOver_spec (args := #[Value.ref b]) (first := s) (o := none) (s := s) (idx := []) (n := "ElevenPebbles$Maze") (hts (.arrayOver (.object "ElevenPebbles$Maze")) (List.mem_append_right _ (List.mem_of_getElem? (i := 83) (by decide +kernel))))
    exact ⟨cA, fun _ => ⟨fun n z => ⟨fun k h => (by cases h), kA, h2, comp, h3⟩, kA, comp, h2, h3, h1, h4⟩⟩
  | 5 =>
    obtain ⟨comp, cA, kA, h1, -, h2, h3, h4⟩ := Cond.arrayOver_spec (args := #[Value.ref b]) (first := s) (o := none) (s := s) (idx := []) (n := "ElevenPebbles$Walker") (hts (.arrayOver (.object "ElevenPebbles$Walker")) (List.mem_append_right _ (List.mem_of_getElem? (i := 85) (by decide +kernel))))
    exact ⟨cA, fun _ => ⟨fun n z => ⟨fun k h => (by cases h), kA, h2, comp, h3⟩, kA, comp, h2, h3, h1, h4⟩⟩
  | 6 =>
    obtain ⟨comp, cA, kA, h1, -, h2, h3, h4⟩ := Cond.arrayOver_spec (args := #[Value.ref b]) (first := s) (o := none) (s := s) (idx := []) (n := "ElevenPebbles$Rule") (hts (.arrayOver (.object "ElevenPebbles$Rule")) (List.mem_append_right _ (List.mem_of_getElem? (i := 87) (by decide +kernel))))
    exact ⟨cA, fun _ => ⟨fun n z => ⟨fun k h => (by cases h), kA, h2, comp, h3⟩, kA, comp, h2, h3, h1, h4⟩⟩
  | 7 =>
    obtain ⟨comp, cA, kA, h1, -, h2, h3, h4⟩ := Cond.arrayOver_spec (args := #[Value.ref b]) (first := s) (o := none) (s := s) (idx := []) (n := "ElevenPebbles$Sheet") (hts (.arrayOver (.object "ElevenPebbles$Sheet")) (List.mem_append_right _ (List.mem_of_getElem? (i := 89) (by decide +kernel))))
    exact ⟨cA, fun _ => ⟨fun n z => ⟨fun k h => (by cases h), kA, h2, comp, h3⟩, kA, comp, h2, h3, h1, h4⟩⟩
  | 8 =>
    obtain ⟨comp, cA, kA, -, h2, h3, h4⟩ := Cond.arrayOver_specA (args := #[Value.ref b]) (first := s) (o := none) (s := s) (idx := []) (t := .int) (hts (.arrayOver (.array .int)) (List.mem_append_right _ (List.mem_of_getElem? (i := 97) (by decide +kernel))))
    exact ⟨cA, fun _ => ⟨fun n z => ⟨fun k h => (by cases h), kA, h2, comp, h3⟩, h4⟩⟩
  | t + 9 =>
    obtain ⟨cA, -, -, -, -, -⟩ := Cond.arrayClass_spec (args := #[Value.ref b]) (first := s) (o := none) (s := s) (idx := []) (type := .int) (hts (.arrayClass .int) (List.mem_append_right _ (List.mem_of_getElem? (i := 53) (by decide +kernel))))
    exact ⟨cA, fun h => absurd h (by omega)⟩
theorem lw_K {s : State} {b : Nat} (hts : ∀ w ∈ lw_tbl, w.before #[Value.ref b] s = true) : ∃ (D : va_G) (cy : Nat → ClassId), va_K D vwCl (ez_tys cy) s := by
  obtain ⟨c0, i0, h0⟩ := lw_Kc hts 0 _ rfl
  have h1 : ∀ k : Nat, ∃ z : ClassId × (Nat → Nat), ∀ q : vw_C, vwCl[k]? = some q → u_Kn s q.1 q.2.1 q.2.2 z.1 z.2 := by
    intro k
    cases hq : vwCl[k]? with
    | none => exact ⟨(c0, i0), fun q h => by cases h⟩
    | some q =>
      obtain ⟨cC, iS, h⟩ := lw_Kc hts k q hq
      exact ⟨(cC, iS), fun q2 h2 => by cases h2; exact h⟩
  obtain ⟨f, hf⟩ := Classical.axiomOfChoice h1
  obtain ⟨cy, hcy⟩ := Classical.axiomOfChoice (lw_Kt hts)
  refine ⟨(fun k => (f k).1, fun k => (f k).2), cy, fun k q hq => hf k q hq, fun k q hk => ?_⟩
  have hk9 : k < 9 := by
    have := (List.getElem?_eq_some_iff.mp hk).1
    simpa [ez_tys] using this
  rw [ez_tyAt hk9] at hk
  cases hk
  exact hcy k hk9
theorem lw_N {s : State} {b : Nat} (hts : ∀ w ∈ lw_tbl, w.before #[Value.ref b] s = true) : ∀ w ∈ ez_nest, va_Nw w s := by
  intro w hw
  have h1 := (List.mem_filter.mp hw).1
  have h2 := (List.mem_filter.mp hw).2
  have h3 := hts w h1
  cases w <;> simp [ez_isN] at h2
  exact va_Nw.of rfl h3
/-- the string constants by their places -/
def xl_tm (i : Nat) : Term := .string (ez_sl0.getD i ("", 0, "")).1 (ez_sl0.getD i ("", 0, "")).2.1
abbrev xl_fl : List Cond := flatC (Jvm.Cond.and given_1 narrow_1)
def xl_at (i : Nat) : Nat := ([107, 116, 127, 141, 152, 165, 181, 194, 209, 226, 242, 260, 70] : List Nat).getD i 0
def xl_px (i j : Nat) : Nat := (([[], [126], [139, 140], [149, 150, 151], [161, 162, 163, 164], [176, 177, 178, 179, 180], [188, 189, 190, 191, 192, 193], [202, 203, 204, 205, 206, 207, 208], [218, 219, 220, 221, 222, 223, 224, 225], [233, 234, 235, 236, 237, 238, 239, 240, 241], [250, 251, 252, 253, 254, 255, 256, 257, 258, 259], [268, 269, 270, 271, 272, 273, 274, 275, 276, 277, 278], [115, 125, 138, 148, 160, 175, 187, 201, 217, 232, 249, 267]] : List (List Nat)).getD i []).getD j 0
set_option maxRecDepth 100000 in
theorem xl_1 : ∀ i, i < 13 → xl_fl[xl_at i]? = some (Cond.exactly (xl_tm i) "java/lang/String") ∧ xl_fl[xl_at i + 1]? = some (Cond.eq (.field (xl_tm i) "java/lang/String" "coder" "B") (.int 0)) ∧ xl_fl[xl_at i + 2]? = some (Cond.arrayOf (.field (xl_tm i) "java/lang/String" "value" "[B") .byte) ∧ xl_fl[xl_at i + 3]? = some (Cond.eq (.length (.field (xl_tm i) "java/lang/String" "value" "[B")) (.int (Int32.ofNat (ez_sn.getD i 0)))) := by decide +kernel
set_option maxRecDepth 100000 in
theorem xl_2 : ∀ i, i < 13 → ∀ j, j < ez_sn.getD i 0 → xl_fl[xl_at i + 4 + j]? = some (Cond.eq (.elem (.field (xl_tm i) "java/lang/String" "value" "[B") (.int (Int32.ofNat j))) (.int ((ez_sb.getD i []).getD j 0))) := by decide +kernel
set_option maxRecDepth 100000 in
theorem xl_3 : ∀ i, i < 13 → ∀ j, j < i → xl_fl[xl_px i j]? = some (Cond.not (Cond.eq (xl_tm i) (xl_tm j))) ∨ xl_fl[xl_px i j]? = some (Cond.not (Cond.eq (xl_tm j) (xl_tm i))) := by decide +kernel
set_option maxRecDepth 100000 in
theorem xl_4 : Cond.eq (.static "java/lang/String" "COMPACT_STRINGS" "Z") (.int 1) ∈ xl_fl ∧ Cond.isRef (.static "jdk/internal/util/Preconditions" "SIOOBE_FORMATTER" "Ljava/util/function/BiFunction;") ∈ xl_fl ∧ Cond.arrayOf (.static "ElevenPebbles" "KIND_ABOVE" "[I") .int ∈ xl_fl ∧ Cond.eq (.length (.static "ElevenPebbles" "KIND_ABOVE" "[I")) (.int 6) ∈ xl_fl ∧ ∀ j, j < 6 → Cond.eq (.elem (.static "ElevenPebbles" "KIND_ABOVE" "[I") (.int (Int32.ofNat j))) (.int (ez_ka j)) ∈ xl_fl := by decide +kernel
theorem xl_5 : ∀ i, i < 13 → Cond.stringRef (ez_sl0.getD i ("", 0, "")).1 (ez_sl0.getD i ("", 0, "")).2.1 (ez_sl0.getD i ("", 0, "")).2.2 ∈ lw_tbl := by
  intro i hi
  rcases (show i = 0 ∨ i = 1 ∨ i = 2 ∨ i = 3 ∨ i = 4 ∨ i = 5 ∨ i = 6 ∨ i = 7 ∨ i = 8 ∨ i = 9 ∨ i = 10 ∨ i = 11 ∨ i = 12 by omega) with rfl | rfl | rfl | rfl | rfl | rfl | rfl | rfl | rfl | rfl | rfl | rfl | rfl
  · exact List.mem_append_right _ (List.mem_of_getElem? (i := 397) (by decide +kernel))
  · exact List.mem_append_right _ (List.mem_of_getElem? (i := 398) (by decide +kernel))
  · exact List.mem_append_right _ (List.mem_of_getElem? (i := 399) (by decide +kernel))
  · exact List.mem_append_right _ (List.mem_of_getElem? (i := 400) (by decide +kernel))
  · exact List.mem_append_right _ (List.mem_of_getElem? (i := 401) (by decide +kernel))
  · exact List.mem_append_right _ (List.mem_of_getElem? (i := 402) (by decide +kernel))
  · exact List.mem_append_right _ (List.mem_of_getElem? (i := 403) (by decide +kernel))
  · exact List.mem_append_right _ (List.mem_of_getElem? (i := 404) (by decide +kernel))
  · exact List.mem_append_right _ (List.mem_of_getElem? (i := 405) (by decide +kernel))
  · exact List.mem_append_right _ (List.mem_of_getElem? (i := 406) (by decide +kernel))
  · exact List.mem_append_right _ (List.mem_of_getElem? (i := 407) (by decide +kernel))
  · exact List.mem_append_right _ (List.mem_of_getElem? (i := 408) (by decide +kernel))
  · exact List.mem_append_right _ (List.mem_of_getElem? (i := 308) (by decide +kernel))
theorem lw_xt {s : State} {b : Nat} (hts : ∀ w ∈ lw_tbl, w.before #[Value.ref b] s = true) (hgv : (Jvm.Cond.and given_1 narrow_1).before #[Value.ref b] s = true) : ∃ xa : Nat → Nat → Nat, ez_xt xa (eb_A s.heap.size) s := by
  have hs := flat_of_before _ hgv
  have hA : ∀ a : Nat, a < s.heap.size → ¬ eb_A s.heap.size a := fun a h z => Nat.not_le.mpr h z
  obtain ⟨adK, adV, hS, hev⟩ := vk_Sof (args := #[Value.ref b]) (s := s) (N := 13) (tm := xl_tm) (len := ez_sn) (byt := ez_sb) (A := eb_A s.heap.size) (by decide) (fun i hi => hs _ (List.mem_of_getElem? (xl_1 i hi).1)) (fun i hi => hs _ (List.mem_of_getElem? (xl_1 i hi).2.1)) (fun i hi => hs _ (List.mem_of_getElem? (xl_1 i hi).2.2.1)) (fun i hi => hs _ (List.mem_of_getElem? (xl_1 i hi).2.2.2)) (fun i hi j hj => hs _ (List.mem_of_getElem? (xl_2 i hi j hj))) (fun i j hi hj hij => by
    rcases Nat.lt_or_gt_of_ne hij with h | h
    · exact ((xl_3 j hj i h).imp (fun z => hs _ (List.mem_of_getElem? z)) (fun z => hs _ (List.mem_of_getElem? z))).symm
    · exact (xl_3 i hi j h).imp (fun z => hs _ (List.mem_of_getElem? z)) (fun z => hs _ (List.mem_of_getElem? z))) hA
  obtain ⟨t, ht, hT⟩ := va_Tof (args := #[Value.ref b]) (s := s) (tm := .static "ElevenPebbles" "KIND_ABOVE" "[I") (ty := .int) (N := 6) (f := fun j => .int (ez_ka j)) (A := eb_A s.heap.size) (by decide) (hs _ xl_4.2.2.1) (va_eqt (hs _ xl_4.2.2.2.1)) (fun j hj => va_eqt (hs _ (xl_4.2.2.2.2 j hj))) hA
  have hr := hs _ xl_4.2.1
  have hF : ∃ g : Nat, va_Z "jdk/internal/util/Preconditions" "SIOOBE_FORMATTER" "Ljava/util/function/BiFunction;" .null (eb_A s.heap.size) s s.heap ∨ va_Z "jdk/internal/util/Preconditions" "SIOOBE_FORMATTER" "Ljava/util/function/BiFunction;" (.ref g) (eb_A s.heap.size) s s.heap := by
    cases hv : (Term.static "jdk/internal/util/Preconditions" "SIOOBE_FORMATTER" "Ljava/util/function/BiFunction;").eval #[Value.ref b] s none [] s with
    | none => simp [Cond.before, Cond.holds, Cond.value, hv] at hr
    | some v =>
      cases v with
      | null => exact ⟨0, Or.inl (va_Zof (hts (.laysStatic "jdk/internal/util/Preconditions" "SIOOBE_FORMATTER" "Ljava/util/function/BiFunction;") (List.mem_append_right _ (List.mem_of_getElem? (i := 334) (by decide +kernel)))) (hts (.initialized "jdk/internal/util/Preconditions") (List.mem_append_right _ (List.mem_of_getElem? (i := 15) (by decide +kernel)))) hv hA)⟩
      | ref g => exact ⟨g, Or.inr (va_Zof (hts (.laysStatic "jdk/internal/util/Preconditions" "SIOOBE_FORMATTER" "Ljava/util/function/BiFunction;") (List.mem_append_right _ (List.mem_of_getElem? (i := 334) (by decide +kernel)))) (hts (.initialized "jdk/internal/util/Preconditions") (List.mem_append_right _ (List.mem_of_getElem? (i := 15) (by decide +kernel)))) hv hA)⟩
      | _ => simp [Cond.before, Cond.holds, Cond.value, hv] at hr
  obtain ⟨g, hg⟩ := hF
  exact ⟨fun k i => if k = 100 then adK i else if k = 101 then adV i else if k = 102 then t else g, hS, fun i hi => vk_R.of (hts _ (xl_5 i hi)) (hev i hi), va_Zof (hts (.laysStatic "java/lang/String" "COMPACT_STRINGS" "Z") (List.mem_append_right _ (List.mem_of_getElem? (i := 318) (by decide +kernel)))) (hts (.initialized "java/lang/String") (List.mem_append_right _ (List.mem_of_getElem? (i := 13) (by decide +kernel)))) (va_eqt (hs _ xl_4.1)) hA, va_Zof (hts (.laysStatic "ElevenPebbles" "KIND_ABOVE" "[I") (List.mem_append_right _ (List.mem_of_getElem? (i := 859) (by decide +kernel)))) (hts (.initialized "ElevenPebbles") (List.mem_append_right _ (List.mem_of_getElem? (i := 1) (by decide +kernel)))) ht hA, hT, hg⟩
theorem lw_ok {s : State} {b : Nat} {l : Launch} {D : va_G} {cy : Nat → ClassId} {xa : Nat → Nat → Nat} (hts : ∀ w ∈ lw_tbl, w.before #[Value.ref b] s = true) (hK : va_K D vwCl (ez_tys cy) s) (hX : ez_xt xa (eb_A s.heap.size) s) : eb_ok (l, D, cy, s.heap.size) s :=
  ⟨hK, lw_N hts, va_AO.of (hts (.arrayOver (.object "ElevenPebbles$Maze")) (List.mem_append_right _ (List.mem_of_getElem? (i := 83) (by decide +kernel)))), va_AO.of (hts (.arrayOver (.object "ElevenPebbles$Walker")) (List.mem_append_right _ (List.mem_of_getElem? (i := 85) (by decide +kernel)))), va_AO.of (hts (.arrayOver (.object "ElevenPebbles$Rule")) (List.mem_append_right _ (List.mem_of_getElem? (i := 87) (by decide +kernel)))), va_AO.of (hts (.arrayOver (.object "ElevenPebbles$Sheet")) (List.mem_append_right _ (List.mem_of_getElem? (i := 89) (by decide +kernel)))), hts (.arrayOver (.array .int)) (List.mem_append_right _ (List.mem_of_getElem? (i := 97) (by decide +kernel))), xa, hX⟩
