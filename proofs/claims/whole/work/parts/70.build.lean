/-! building: a constructor of the system, over a list of cells -/
abbrev EbG : Type := Launch × va_G × (Nat → ClassId) × Nat
def eb_A (B : Nat) : Nat → Prop := fun q => B ≤ q
/-- what lies outside the world, at the addresses xa, none of them in A -/
def ez_xt (xa : Nat → Nat → Nat) (A : Nat → Prop) (U : State) : Prop := vk_S 13 ez_sn ez_sb (fun i => xa 100 i) (fun i => xa 101 i) A U U.heap ∧ (∀ i, i < 13 → vk_R (ez_sl0.getD i ("", 0, "")).1 (ez_sl0.getD i ("", 0, "")).2.1 (ez_sl0.getD i ("", 0, "")).2.2 (xa 100 i) U) ∧ va_Z "java/lang/String" "COMPACT_STRINGS" "Z" (.int 1) A U U.heap ∧ va_Z "ElevenPebbles" "KIND_ABOVE" "[I" (.ref (xa 102 0)) A U U.heap ∧ va_T .int (xa 102 0) 6 (fun j => .int (ez_ka j)) A U U.heap ∧ (va_Z "jdk/internal/util/Preconditions" "SIOOBE_FORMATTER" "Ljava/util/function/BiFunction;" .null A U U.heap ∨ va_Z "jdk/internal/util/Preconditions" "SIOOBE_FORMATTER" "Ljava/util/function/BiFunction;" (.ref (xa 103 0)) A U U.heap)
theorem ez_xt.up {xa : Nat → Nat → Nat} {A : Nat → Prop} {s U : State} {H : Heap} {locs : List Loc} (hW : s.WarmedH U.vm) (hS : va_S A s.heap H locs) (hU : U.heap = H) (h : ez_xt xa A s) : ez_xt xa A U := by
  obtain ⟨h1, h2, h3, h4, h5, h6⟩ := h
  have hq : ∀ a : Nat, a < s.heap.size → ¬ A a → U.heap[a]? = s.heap[a]? := fun a a1 a2 => by rw [hU]; exact hS.2.1 a a1 a2
  exact ⟨(h1.moved hW.alike).kept hq, fun i hi => (h2 i hi).warm hW, (h3.moved hW.alike).kept hq, (h4.moved hW.alike).kept hq, (h5.moved hW.alike).kept hq, h6.imp (fun z => (z.moved hW.alike).kept hq) (fun z => (z.moved hW.alike).kept hq)⟩
theorem ez_xt.cl {xa : Nat → Nat → Nat} {A : Nat → Prop} {U : State} {g : JFrame} {mk : MethodId} {a : Array Value} (h : ez_xt xa A U) : ez_xt xa A (U.calling g mk a) := by
  obtain ⟨h1, h2, h3, h4, h5, h6⟩ := h
  exact ⟨h1.moved (u := U) (U := U.calling g mk a) (Vm.Alike.refl U.vm), fun i hi => (h2 i hi).same rfl, h3.moved (u := U) (U := U.calling g mk a) (Vm.Alike.refl U.vm), h4.moved (u := U) (U := U.calling g mk a) (Vm.Alike.refl U.vm), h5.moved (u := U) (U := U.calling g mk a) (Vm.Alike.refl U.vm), h6.imp (fun z => z.moved (u := U) (U := U.calling g mk a) (Vm.Alike.refl U.vm)) (fun z => z.moved (u := U) (U := U.calling g mk a) (Vm.Alike.refl U.vm))⟩
theorem ez_xt.nr {xa : Nat → Nat → Nat} {A B : Nat → Prop} {U : State} (h : ez_xt xa A U) (hAB : ∀ q, B q → A q) : ez_xt xa B U := by
  obtain ⟨h1, h2, h3, h4, h5, h6⟩ := h
  exact ⟨h1.narrow hAB, h2, h3.narrow hAB, h4.narrow hAB, h5.narrow hAB, h6.imp (fun z => z.narrow hAB) (fun z => z.narrow hAB)⟩
theorem ez_xt.of {G : EzG} {U : State} (h : ez_xt G.2.2.2.1 (ez_A G.1 G.2.2.2.1) U) : ez_ext G U := h
def eb_ok (G : EbG) (U : State) : Prop := va_K G.2.1 vwCl (ez_tys G.2.2.1) U ∧ (∀ w ∈ ez_nest, va_Nw w U) ∧ va_AO "ElevenPebbles$Maze" U ∧ va_AO "ElevenPebbles$Walker" U ∧ va_AO "ElevenPebbles$Rule" U ∧ va_AO "ElevenPebbles$Sheet" U ∧ (Cond.arrayOver (.array .int)).before #[] U = true ∧ ∃ xa : Nat → Nat → Nat, ez_xt xa (eb_A G.2.2.2) U
theorem em_moved {u U : State} (hvm : u.vm.Alike U.vm) (h : (Cond.arrayOver (.array .int)).before #[] u = true) : (Cond.arrayOver (.array .int)).before #[] U = true := by
  have h2 : (Cond.arrayOver (.array .int)).before #[] (u.setVm U.vm) = true := by rw [Cond.arrayOver_setVmC hvm]; exact h
  first
  | exact h2
  | simpa only [Cond.before, Cond.holds, Cond.value] using h2
theorem eb_okU {G : EbG} {s U : State} {H : Heap} {locs : List Loc} (hW : s.WarmedH U.vm) (hS : va_S (eb_A G.2.2.2) s.heap H locs) (hU : U.heap = H) (h : eb_ok G s) : eb_ok G U := ⟨va_K.moved hW.alike h.1, ez_nestU hW h.2.1, h.2.2.1.moved hW.alike, h.2.2.2.1.moved hW.alike, h.2.2.2.2.1.moved hW.alike, h.2.2.2.2.2.1.moved hW.alike, em_moved hW.alike h.2.2.2.2.2.2.1, h.2.2.2.2.2.2.2.imp (fun _ z => z.up hW hS hU)⟩
def eb_W (G : EbG) (ws : va_W) (U : State) : Prop := va_P G.2.1 vwCl ws U.heap ∧ eb_ok G U ∧ va_D (eb_A G.2.2.2) ws ∧ G.2.2.2 ≤ U.heap.size
def eb_Q (G : EbG) (P : va_W → Prop) : Array Value → State → Outcome → State → Prop := fun _ st o t => (∃ ws, o = .returned none ∧ P ws ∧ eb_W G ws t) ∧ va_F (eb_A G.2.2.2) st t
def eb_rm (d mc ms : Nat) : Room := { frames := d, cells := mc, slots := ms, locals := 128 * d }
def Eb (G : EbG) (Y : EzY) (d mc ms k n pc : Nat) (ls : List (Nat × Value)) (st : List Value) (ws : va_W) (P : va_W → Prop) : Prop :=
  ∀ (p : Program) (e : Env) (s : State) (m : MethodId) (args : Array Value) (below : List Frame) (meth : Method) (c : Code) (H : Heap) (locs : List Loc) (lsA : Array Slot),
    p.tables.exec = Jvm.exec → c.code = Y.2.1 → meth.sig.returnType = Y.2.2.2 → c.maxLocals = Y.2.2.1 → s.vm.findClass Y.1.cls = some m.cls → (∀ w ∈ ez_ws Y, w.before args s = true) → meth.locks = false → meth.name = "<init>" → eb_ok G s → G.2.2.2 ≤ s.heap.size →
    va_D (eb_A G.2.2.2) ws → va_P G.2.1 vwCl ws H → va_S (eb_A G.2.2.2) s.heap H locs → lv_has lsA Y.2.2.1 ls →
    W p G.1 e (eb_rm d mc ms) s m args below meth c H locs k n (MQ below (eb_Q G P) args s mc ms (eb_A G.2.2.2)) (F0 m pc lsA st)
def Ebc (G : EbG) (Y : EzY) (d mc ms : Nat) (As : List Value) (ws : va_W) (P : va_W → Prop) : Prop :=
  Met G.1 Y.1 (ez_ws Y) (eb_rm d mc ms) (va_Pc As (eb_W G ws)) (eb_Q G P) mc ms (eb_A G.2.2.2)
theorem Ebc.of {G : EbG} {Y : EzY} {d mc ms : Nat} {As : List Value} {ws : va_W} {P : va_W → Prop} (hy : plainName Y.1.cls = true) (hi : Y.1.name = "<init>") (hn : (lg_sl As).length ≤ Y.2.2.1) (h : Eb G Y d mc ms 0 0 0 (lv_args 0 As) [] ws P) : Ebc G Y d mc ms As ws P := by
  refine Met.ofW (cc := Y.2.1) (maxL := Y.2.2.1) (ret := Y.2.2.2) hy rfl ?_
  intro p e s m args below meth c s₁ B hml hv
  obtain ⟨rfl, hP, hK, hD, hB⟩ := hv
  have hl := lv_entry As (n := Y.2.2.1) hn
  have hin : meth.name = "<init>" := (name_of_methodNamed B.named B.method).1.trans hi
  rw [lg_entry_eq]
  exact h p e s m _ below meth c s.heap [] _ B.exec B.bytes B.returns hml (findClass_of_methodNamed B.named) (atoms_spec (ws := ez_ws Y) B.pre) B.notSynchronized hin hK hB hD hP va_S.rf hl
theorem eb_blind {G : EbG} {As : List Value} {ws : va_W} : FrameBlind (va_Pc As (eb_W G ws)) := fun a U g mk q => by
  obtain ⟨h1, hP, hK, hD, hB⟩ := q
  exact ⟨h1, hP, ⟨va_K.moved (u := U) (U := U.calling g mk a) (Vm.Alike.refl U.vm) hK.1, ez_nestC hK.2.1, hK.2.2.1.moved (u := U) (U := U.calling g mk a) (Vm.Alike.refl U.vm), hK.2.2.2.1.moved (u := U) (U := U.calling g mk a) (Vm.Alike.refl U.vm), hK.2.2.2.2.1.moved (u := U) (U := U.calling g mk a) (Vm.Alike.refl U.vm), hK.2.2.2.2.2.1.moved (u := U) (U := U.calling g mk a) (Vm.Alike.refl U.vm), em_moved (u := U) (U := U.calling g mk a) (Vm.Alike.refl U.vm) hK.2.2.2.2.2.2.1, hK.2.2.2.2.2.2.2.imp (fun _ z => z.cl)⟩, hD, hB⟩
theorem eb_call {p : Program} {e : Env} {R : Room} {s : State} {m : MethodId} {args : Array Value} {below : List Frame} {meth : Method} {c : Code} {H : Heap} {locs : List Loc} {cells slots mc ms : Nat} {Q : State → Prop} {G : EbG} {P : va_W → Prop} {pc : Nat} {lsA : Array Slot} {st0 rest : List Value} {a : Array Value}
    (hr : va_Run p G.1 e R s m args below meth c H locs cells slots mc ms (F0 m pc lsA st0) rest (eb_Q G P a) (eb_A G.2.2.2)) (hS : va_S (eb_A G.2.2.2) s.heap H locs)
    (kk : ∀ (ws : va_W) (H1 : Heap) (locs1 : List Loc), P ws → va_P G.2.1 vwCl ws H1 → va_D (eb_A G.2.2.2) ws → va_S (eb_A G.2.2.2) s.heap H1 locs1 → W p G.1 e R s m args below meth c H1 locs1 (cells + mc) (slots + ms) Q (F0 m (pc + 3) lsA rest)) :
    W p G.1 e R s m args below meth c H locs cells slots Q (F0 m pc lsA st0) := by
  intro T hT X
  obtain ⟨v, st₀, t, T', L, h0, X', hL, e1, e2, ⟨⟨ws, hv, hp, hb⟩, hz, hk⟩, st⟩ := hr T hT X
  cases hv
  rw [h0] at hz hk
  obtain ⟨t2, a1, b1⟩ := kk ws T'.heap (locs ++ L) hp (by rw [e1]; exact hb.1) hb.2.2.1
    ⟨Nat.le_trans hS.1 (by rw [e1]; exact hz), fun q h1 h2 => by rw [e1, hk q (Nat.lt_of_lt_of_le h1 hS.1) h2]; exact hS.2.1 q h1 h2, fun q hq => by
      rcases List.mem_append.mp hq with h | h
      · exact hS.2.2 q h
      · exact hL q h⟩ T' rfl X'
  exact ⟨t2, st t2 a1, b1⟩
theorem va_RA_fc {U : State} {cA : ClassId} {ty : FieldType} (h : va_RA U cA ty) : U.vm.findClass ("[" ++ ty.toString) = some cA := by
  cases ty with
  | object C => obtain ⟨kA, comp, -, -, -, h4⟩ := h; exact h4
  | _ => exact h
theorem eb_cA {D : va_G} {cy : Nat → ClassId} {s : State} {cA : ClassId} {t : Nat} (ht : t < 9) (h1 : va_K D vwCl (ez_tys cy) s) (h2 : va_K D vwCl (ez_tys cy ++ [(cA, ez_ty t)]) s) : cA = cy t := by
  have a1 := va_RA_fc (h1.2 t (cy t, ez_ty t) (by simp only [ez_tys, List.getElem?_map, List.getElem?_range ht]; rfl)).2
  have a2 := va_RA_fc (h2.2 (ez_tys cy).length (cA, ez_ty t) (by rw [List.getElem?_append_right (Nat.le_refl _)]; simp)).2
  rw [a1] at a2
  exact (Option.some.inj a2).symm
theorem eb_aload_n {G : EbG} {yy : MethodName} {cc : ByteArray} {ml : Nat} {rt : Option FieldType} {d mc ms k n pc : Nat} {ls : List (Nat × Value)} {st : List Value} {ws : va_W} {P : va_W → Prop} {i : Fin 4} {a : Nat} (j : Nat) (hd : decode cc pc = .ok (.aload_n i, 1)) (h : ls[j]? = some ((i : Nat), .ref a)) (kk : Eb G (yy, cc, ml, rt) d mc ms k n (pc + 1) ls (.ref a :: st) ws P) : Eb G (yy, cc, ml, rt) d mc ms k n pc ls st ws P :=
  fun p e s m args below meth c H locs lsA hx hb hr hml hown hts hlk hin hK hB hD hP hS hl => lv_aload_n hx hb hd rfl (lv_at hl j h) (kk p e s m args below meth c H locs lsA hx hb hr hml hown hts hlk hin hK hB hD hP hS hl)
theorem eb_iconst {G : EbG} {yy : MethodName} {cc : ByteArray} {ml : Nat} {rt : Option FieldType} {d mc ms k n pc : Nat} {ls : List (Nat × Value)} {st : List Value} {ws : va_W} {P : va_W → Prop} {a : Int} (v : Int32) (hd : decode cc pc = .ok (.iconst a, 1)) (hv : Int32.ofInt a = v) (kk : Eb G (yy, cc, ml, rt) d mc ms k n (pc + 1) ls (.int v :: st) ws P) : Eb G (yy, cc, ml, rt) d mc ms k n pc ls st ws P :=
  fun p e s m args below meth c H locs lsA hx hb hr hml hown hts hlk hin hK hB hD hP hS hl => lv_iconst hx hb hd hv (kk p e s m args below meth c H locs lsA hx hb hr hml hown hts hlk hin hK hB hD hP hS hl)
theorem eb_bipush {G : EbG} {yy : MethodName} {cc : ByteArray} {ml : Nat} {rt : Option FieldType} {d mc ms k n pc : Nat} {ls : List (Nat × Value)} {st : List Value} {ws : va_W} {P : va_W → Prop} {a : Int} (v : Int32) (hd : decode cc pc = .ok (.bipush a, 2)) (hv : (Int8.ofInt a).toInt32 = v) (kk : Eb G (yy, cc, ml, rt) d mc ms k n (pc + 2) ls (.int v :: st) ws P) : Eb G (yy, cc, ml, rt) d mc ms k n pc ls st ws P :=
  fun p e s m args below meth c H locs lsA hx hb hr hml hown hts hlk hin hK hB hD hP hS hl => lv_bipush hx hb hd hv (kk p e s m args below meth c H locs lsA hx hb hr hml hown hts hlk hin hK hB hD hP hS hl)
theorem eb_sipush {G : EbG} {yy : MethodName} {cc : ByteArray} {ml : Nat} {rt : Option FieldType} {d mc ms k n pc : Nat} {ls : List (Nat × Value)} {st : List Value} {ws : va_W} {P : va_W → Prop} {a : Int} (v : Int32) (hd : decode cc pc = .ok (.sipush a, 3)) (hv : (Int16.ofInt a).toInt32 = v) (kk : Eb G (yy, cc, ml, rt) d mc ms k n (pc + 3) ls (.int v :: st) ws P) : Eb G (yy, cc, ml, rt) d mc ms k n pc ls st ws P :=
  fun p e s m args below meth c H locs lsA hx hb hr hml hown hts hlk hin hK hB hD hP hS hl => lv_sipush hx hb hd hv (kk p e s m args below meth c H locs lsA hx hb hr hml hown hts hlk hin hK hB hD hP hS hl)
theorem eb_dup {G : EbG} {yy : MethodName} {cc : ByteArray} {ml : Nat} {rt : Option FieldType} {d mc ms k n pc : Nat} {ls : List (Nat × Value)} {st : List Value} {ws : va_W} {P : va_W → Prop} {a : Nat} (hd : decode cc pc = .ok (.dup, 1)) (kk : Eb G (yy, cc, ml, rt) d mc ms k n (pc + 1) ls (.ref a :: .ref a :: st) ws P) : Eb G (yy, cc, ml, rt) d mc ms k n pc ls (.ref a :: st) ws P :=
  fun p e s m args below meth c H locs lsA hx hb hr hml hown hts hlk hin hK hB hD hP hS hl => lv_dup hx hb hd rfl (kk p e s m args below meth c H locs lsA hx hb hr hml hown hts hlk hin hK hB hD hP hS hl)
theorem eb_objInit {G : EbG} {yy : MethodName} {cc : ByteArray} {ml : Nat} {rt : Option FieldType} {d mc ms k n pc : Nat} {ls : List (Nat × Value)} {st : List Value} {ws : va_W} {P : va_W → Prop} {idx a : Nat} (hd : decode cc pc = .ok (.invokespecial idx, 3)) (hl0 : Cond.methodLink yy.cls idx Lib.objectInit ∈ ez_tbl) (ho : Cond.instanceMethod Lib.objectInit ∈ ez_tbl ∧ Cond.code Lib.objectInit ⟨#[0xb1]⟩ 1 none ∈ ez_tbl) (hdd : 1 ≤ d) (h8 : (st.map fun v => v.category).sum ≤ 8) (kk : Eb G (yy, cc, ml, rt) d mc ms k n (pc + 3) ls st ws P) : Eb G (yy, cc, ml, rt) d mc ms k n pc ls (.ref a :: st) ws P :=
  fun p e s m args below meth c H locs lsA hx hb hr hml hown hts hlk hin hK hB hD hP hS hl => W.objInit hx hb hown (hts _ (List.mem_cons_of_mem _ hl0)) (hts _ (List.mem_cons_of_mem _ ho.1)) (hts _ (List.mem_cons_of_mem _ ho.2)) rfl (by rw [hml]; exact hl.1) rfl hd hdd (Nat.le_trans (Nat.add_le_add_right (lv_room h8) 12) (by show 20 ≤ 128 * d; omega)) (kk p e s m args below meth c H locs lsA hx hb hr hml hown hts hlk hin hK hB hD hP hS hl)
theorem eb_newa {G : EbG} {yy : MethodName} {cc : ByteArray} {ml : Nat} {rt : Option FieldType} {d mc ms k n pc : Nat} {ls : List (Nat × Value)} {st : List Value} {ws : va_W} {P : va_W → Prop} {at_ : ArrayType} (t : Nat) (v : Int32) (N : Nat) (a0 : vp_A) (hd : decode cc pc = .ok (.newarray at_, 2)) (hty : newarray.typeOf at_ = ez_ty t) (ht : t < 9) (hac : Cond.arrayClass (newarray.typeOf at_) ∈ ez_tbl) (ha : ∀ cA : ClassId, vp_cell cA a0 = arrV cA N (fun _ => defaultValue (ez_ty t))) (hv : ¬ v < 0) (hN : v.toNatClampNeg = N) (hb9 : N * componentBytes (ez_ty t) ≤ 536870912) (hk9 : k + 1 ≤ mc) (hn9 : n + N ≤ ms) (kk : ∀ q : Nat, Eb G (yy, cc, ml, rt) d mc ms (k + 1) (n + N) (pc + 2) ls (.ref q :: st) (ws ++ [(q, .inl (G.2.2.1 t, a0))]) P) : Eb G (yy, cc, ml, rt) d mc ms k n pc ls (.int v :: st) ws P :=
  fun p e s m args below meth c H locs lsA hx hb hr hml hown hts hlk hin hK hB hD hP hS hl => va_newa hx hb (hts _ (List.mem_cons_of_mem _ hac)) hty hK.1 hP hD hS (fun q h => Nat.le_trans hB h) ha hv hN hb9 hk9 hn9 hd (fun q cA H1 hK1 hP1 hD1 hS1 => by
    have e9 := eb_cA ht hK.1 hK1
    subst e9
    exact kk q p e s m args below meth c H1 locs lsA hx hb hr hml hown hts hlk hin hK hB hD1 hP1 hS1 hl)
/-- a field of an object, final or not, and what it takes -/
def eb_FP (own : String) (idx k f : Nat) (v : Value) : Prop := ∃ (C : String) (T : u_T) (N : Nat) (ty0 : Nat → FieldType), vwCl[k]? = some (C, T, N) ∧ f < N ∧ Cond.fieldLink own idx (T f).1 (T f).2.1 (T f).2.2.1 ∈ ez_tbl ∧ (∀ w ∈ u_ws C T N, w ∈ ez_tbl) ∧ (T f).1 = own ∧ narrow (ty0 f) v = v ∧ fits (ty0 f) v = true ∧ (∀ k, k < N → parseFieldDescriptor (T k).2.2.1 = some (ty0 k)) ∧ (∀ a, a < N → ∀ b, b < N → a ≠ b → (T a).2.1 ≠ (T b).2.1)
theorem eb_putf {G : EbG} {yy : MethodName} {cc : ByteArray} {ml : Nat} {rt : Option FieldType} {d mc ms k n pc : Nat} {ls : List (Nat × Value)} {st : List Value} {ws : va_W} {P : va_W → Prop} {idx a kd f : Nat} {v : Value} {fs : List Value} (q0 : Nat) (hd : decode cc pc = .ok (.putfield idx, 3)) (hF : eb_FP yy.cls idx kd f v) (hq : ws[q0]? = some (a, .inr (kd, fs))) (hf : f < fs.length) (kk : Eb G (yy, cc, ml, rt) d mc ms k n (pc + 3) ls st (ws.set q0 (a, .inr (kd, fs.set f v))) P) : Eb G (yy, cc, ml, rt) d mc ms k n pc ls (v :: .ref a :: st) ws P := by
  obtain ⟨C, T, N, ty0, hc, hs, hk0, hin0, hown0, hnar, hfit, hty, hnm⟩ := hF
  intro p e s m args below meth c H locs lsA hx hb hr hml hown hts hlk hin hK hB hD hP hS hl
  cases hfin : (T f).2.2.2 with
  | true => exact va_putF (D := G.2.1) (ci := kd) (C := C) (T := T) (N := N) (v := v) hx hb hts (fun w h => List.mem_cons_of_mem _ (hin0 w h)) ty0 hty hnm hown hK.1 hP hD hS q0 hq hc f hs (hts _ (List.mem_cons_of_mem _ hk0)) (fun _ h => h) hfin hin hown0 (hty f hs) hnar hfit hf hd (fun H1 locs1 hP1 hD1 hS1 => kk p e s m args below meth c H1 locs1 lsA hx hb hr hml hown hts hlk hin hK hB hD1 hP1 hS1 hl)
  | false => exact va_put (D := G.2.1) (ci := kd) (C := C) (T := T) (N := N) (v := v) hx hb hts (fun w h => List.mem_cons_of_mem _ (hin0 w h)) ty0 hty hnm hown hK.1 hP hD hS q0 hq hc f hs (hts _ (List.mem_cons_of_mem _ hk0)) (fun _ h => h) hfin (hty f hs) hnar hfit hf hd (fun H1 locs1 hP1 hD1 hS1 => kk p e s m args below meth c H1 locs1 lsA hx hb hr hml hown hts hlk hin hK hB hD1 hP1 hS1 hl)
theorem eb_vret {G : EbG} {yy : MethodName} {cc : ByteArray} {ml : Nat} {rt : Option FieldType} {d mc ms k n pc : Nat} {ls : List (Nat × Value)} {st : List Value} {ws : va_W} {P : va_W → Prop} (hd : decode cc pc = .ok (.return_, 1)) (hty : rt = none) (e1 : k = mc) (e2 : n = ms) (hp : P ws) : Eb G (yy, cc, ml, rt) d mc ms k n pc ls [] ws P := by
  subst e1; subst e2
  exact fun p e s m args below meth c H locs lsA hx hb hr hml hown hts hlk hin hK hB hD hP hS hl => W.vret hx hb (hr.trans hty) (fun t ht hW => ⟨⟨ws, rfl, hp, by rw [ht]; exact hP, eb_okU hW hS ht hK, hD, by rw [ht]; exact Nat.le_trans hB hS.1⟩, hS.F ht⟩) hS.2.2 hd hlk
theorem eb_callIN {G : EbG} {yy : MethodName} {cc : ByteArray} {ml : Nat} {rt : Option FieldType} {d mc ms k n pc : Nat} {ls : List (Nat × Value)} {st : List Value} {ws : va_W} {P : va_W → Prop} {Z : EzY} {d' mc' ms' idx a : Nat} {P' : va_W → Prop} (hd : decode cc pc = .ok (.invokespecial idx, 3)) (hO : ez_MO Z 0) (hz : Z.1.name = "<init>" ∧ Cond.instanceMethod Z.1 ∈ ez_tbl ∧ Z.2.2.2 = none) (host : String) (hl0 : Cond.methodLinkNest yy.cls idx Z.1 host ∈ ez_nest) (hdd : d' + 1 ≤ d) (h8 : (st.map fun v => v.category).sum ≤ 8) (hk9 : k + mc' ≤ mc) (hn9 : n + ms' ≤ ms) (hC : Ebc G Z d' mc' ms' [.ref a] ws P') (kk : ∀ ws' : va_W, P' ws' → Eb G (yy, cc, ml, rt) d mc ms (k + mc') (n + ms') (pc + 3) ls st ws' P) : Eb G (yy, cc, ml, rt) d mc ms k n pc ls (.ref a :: st) ws P := by
  intro p e s m args below meth c H locs lsA hx hb hr hml hown hts hlk hin hK hB hD hP hS hl
  have hR : (eb_rm d' mc' ms').frames + 1 ≤ (eb_rm d mc ms).frames ∧ 8 + (Z.2.2.1 + 11) + (eb_rm d' mc' ms').locals ≤ (eb_rm d mc ms).locals := ⟨hdd, by have := hO.2.2.2; show 8 + (Z.2.2.1 + 11) + 128 * d' ≤ 128 * d; omega⟩
  have hg : GoodIn (ez_ws (yy, cc, ml, rt)) (ez_ws Z) := ez_good hO.1
  refine eb_call (P := P') (va_runIN (As := []) (rest := st) ⟨hx, hb, hml, hown, hts⟩ hC ⟨va_cnB 0 hts hg (by rw [← hz.2.2]; rfl) rfl rfl (hK.2.1 _ hl0) (hts _ (List.mem_cons_of_mem _ hO.2.1)) hO.2.2.1 hR, hz.1, hts _ (List.mem_cons_of_mem _ hz.2.1)⟩ ⟨eb_blind, fun U hU hW => ⟨rfl, by rw [hU]; exact hP, eb_okU hW hS hU hK, hD, by rw [hU]; exact Nat.le_trans hB hS.1⟩⟩ rfl rfl hl.1 rfl (lv_room h8) hd ⟨hk9, hn9⟩) hS (fun ws' H1 locs1 hp hP1 hD1 hS1 => ?_)
  exact kk ws' hp p e s m args below meth c H1 locs1 lsA hx hb hr hml hown hts hlk hin hK hB hD1 hP1 hS1 hl
theorem eb_oi : Cond.instanceMethod Lib.objectInit ∈ ez_tbl ∧ Cond.code Lib.objectInit ⟨#[0xb1]⟩ 1 none ∈ ez_tbl := ⟨ez_mem 27 (by decide +kernel) (by decide +kernel), ez_mem 28 (by decide +kernel) (by decide +kernel)⟩
theorem eb_ac_int : Cond.arrayClass .int ∈ ez_tbl := ez_mem 53 (by decide +kernel) (by decide +kernel)
theorem eb_ac_byte : Cond.arrayClass .byte ∈ ez_tbl := ez_mem 52 (by decide +kernel) (by decide +kernel)
theorem eb_ac_boolean : Cond.arrayClass .boolean ∈ ez_tbl := ez_mem 247 (by decide +kernel) (by decide +kernel)
theorem eb_ac_long : Cond.arrayClass .long ∈ ez_tbl := ez_mem 202 (by decide +kernel) (by decide +kernel)
