/-! rules on what lies outside the world; String's methods -/
theorem ez_gets {G : EzG} {yy : MethodName} {cc : ByteArray} {ml : Nat} {rt : Option FieldType} {d pc : Nat} {ls : List (Nat × EzV)} {st : List EzV} {M : EzM} {P : Option EzV → EzM → Prop} {idx : Nat} (n : Nat) (v : EzV) (C f ds : String) (hd : decode cc pc = .ok (.getstatic idx, 3)) (hn : pc + 3 = n) (hl : Cond.fieldLink yy.cls idx C f ds ∈ ez_tbl) (hz : ∀ s, ez_ok G s → va_Z C f ds (ez_cv G.2.2.2.1 v) (ez_A G.1 G.2.2.2.1) s s.heap) (kk : Ez G (yy, cc, ml, rt) d n ls (v :: st) M P) : Ez G (yy, cc, ml, rt) d pc ls st M P := by
  subst hn
  have hl0 := hl
  clear hl
  intro p e s m args below meth c H locs lsA hx hb hr hml hown hts hlk hK hD hP hS hl
  exact va_gets hx hb (hz s hK) hS hown (hts _ (List.mem_cons_of_mem _ hl0)) (fun _ h => h) hd (kk p e s m args below meth c H locs lsA hx hb hr hml hown hts hlk hK hD hP hS hl)
theorem ez_getX {G : EzG} {yy : MethodName} {cc : ByteArray} {ml : Nat} {rt : Option FieldType} {d pc : Nat} {ls : List (Nat × EzV)} {st : List EzV} {M : EzM} {P : Option EzV → EzM → Prop} {k i idx : Nat} (n : Nat) (v : EzV) (C f ds : String) (hd : decode cc pc = .ok (.getfield idx, 3)) (hn : pc + 3 = n) (hl : Cond.fieldLink yy.cls idx C f ds ∈ ez_tbl) (hz : ∀ s, ez_ok G s → va_OF C f ds (ez_cv G.2.2.2.1 v) (G.2.2.2.1 k i) (ez_A G.1 G.2.2.2.1) s s.heap) (kk : Ez G (yy, cc, ml, rt) d n ls (v :: st) M P) : Ez G (yy, cc, ml, rt) d pc ls (eR k i :: st) M P := by
  subst hn
  have hl0 := hl
  clear hl
  intro p e s m args below meth c H locs lsA hx hb hr hml hown hts hlk hK hD hP hS hl
  exact vk_getf hx hb (hz s hK) hS hown (hts _ (List.mem_cons_of_mem _ hl0)) (fun _ h => h) hd (kk p e s m args below meth c H locs lsA hx hb hr hml hown hts hlk hK hD hP hS hl)
theorem ez_alenX {G : EzG} {yy : MethodName} {cc : ByteArray} {ml : Nat} {rt : Option FieldType} {d pc : Nat} {ls : List (Nat × EzV)} {st : List EzV} {M : EzM} {P : Option EzV → EzM → Prop} {k i N : Nat} {ty : FieldType} {f : Nat → Value} (n : Nat) (hd : decode cc pc = .ok (.arraylength, 1)) (hn : pc + 1 = n) (hz : ∀ s, ez_ok G s → va_T ty (G.2.2.2.1 k i) N f (ez_A G.1 G.2.2.2.1) s s.heap) (kk : Ez G (yy, cc, ml, rt) d n ls (eI (nI N) :: st) M P) : Ez G (yy, cc, ml, rt) d pc ls (eR k i :: st) M P := by
  subst hn
  intro p e s m args below meth c H locs lsA hx hb hr hml hown hts hlk hK hD hP hS hl
  exact va_tlen hx hb (hz s hK) hS rfl hd (kk p e s m args below meth c H locs lsA hx hb hr hml hown hts hlk hK hD hP hS hl)
theorem ez_baldX {G : EzG} {yy : MethodName} {cc : ByteArray} {ml : Nat} {rt : Option FieldType} {d pc : Nat} {ls : List (Nat × EzV)} {st : List EzV} {M : EzM} {P : Option EzV → EzM → Prop} {k i N a : Nat} {f : Nat → Int32} (n : Nat) (hd : decode cc pc = .ok (.baload, 1)) (hn : pc + 1 = n) (hz : ∀ s, ez_ok G s → va_T .byte (G.2.2.2.1 k i) N (fun j => .int (f j)) (ez_A G.1 G.2.2.2.1) s s.heap) (ha : a < N) (hN : N < 2 ^ 31) (kk : Ez G (yy, cc, ml, rt) d n ls (eI (f a) :: st) M P) : Ez G (yy, cc, ml, rt) d pc ls (eI (nI a) :: eR k i :: st) M P := by
  subst hn
  intro p e s m args below meth c H locs lsA hx hb hr hml hown hts hlk hK hD hP hS hl
  exact va_tb hx hb (hz s hK) hS (vp_in_nI ha hN) (by rw [nI_clamp (by omega)]; rfl) hd (kk p e s m args below meth c H locs lsA hx hb hr hml hown hts hlk hK hD hP hS hl)
theorem ez_ialdX {G : EzG} {yy : MethodName} {cc : ByteArray} {ml : Nat} {rt : Option FieldType} {d pc : Nat} {ls : List (Nat × EzV)} {st : List EzV} {M : EzM} {P : Option EzV → EzM → Prop} {k i N a : Nat} {f : Nat → Int32} (n : Nat) (hd : decode cc pc = .ok (.iaload, 1)) (hn : pc + 1 = n) (hz : ∀ s, ez_ok G s → va_T .int (G.2.2.2.1 k i) N (fun j => .int (f j)) (ez_A G.1 G.2.2.2.1) s s.heap) (ha : a < N) (hN : N < 2 ^ 31) (kk : Ez G (yy, cc, ml, rt) d n ls (eI (f a) :: st) M P) : Ez G (yy, cc, ml, rt) d pc ls (eI (nI a) :: eR k i :: st) M P := by
  subst hn
  intro p e s m args below meth c H locs lsA hx hb hr hml hown hts hlk hK hD hP hS hl
  exact va_ti hx hb (hz s hK) hS (vp_in_nI ha hN) (by rw [nI_clamp (by omega)]; rfl) hd (kk p e s m args below meth c H locs lsA hx hb hr hml hown hts hlk hK hD hP hS hl)
theorem ez_ldcS {G : EzG} {yy : MethodName} {cc : ByteArray} {ml : Nat} {rt : Option FieldType} {d pc : Nat} {ls : List (Nat × EzV)} {st : List EzV} {M : EzM} {P : Option EzV → EzM → Prop} {idx : Nat} (n i : Nat) (hd : decode cc pc = .ok (.ldc idx, 2)) (hn : pc + 2 = n) (hi : i < 13) (h1 : (ez_sl0.getD i ("", 0, "")).1 = yy.cls) (h2 : (ez_sl0.getD i ("", 0, "")).2.1 = idx) (kk : Ez G (yy, cc, ml, rt) d n ls (eR 100 i :: st) M P) : Ez G (yy, cc, ml, rt) d pc ls st M P := by
  subst hn
  intro p e s m args below meth c H locs lsA hx hb hr hml hown hts hlk hK hD hP hS hl
  have hz := hK.2.2.2.1 i hi
  rw [h1, h2] at hz
  exact va_ldcS hx hb hown hz hd (kk p e s m args below meth c H locs lsA hx hb hr hml hown hts hlk hK hD hP hS hl)
theorem ez_ldcwT {p : Program} {l : Launch} {e : Env} {R : Room} {s : State} {m : MethodId} {args : Array Value} {below : List Frame} {meth : Method} {c : Code} {T : State} {locs : List Loc} {cells slots : Nat} (X : Stand p l e R s m args below meth c T locs cells slots) (hexec : p.tables.exec = Jvm.exec) {own text : String} {index : Nat} {a : Addr} (hown : s.vm.findClass own = some m.cls)
    (hconst : (Cond.stringRef own index text).before args s = true) (hev : (Term.string own index).eval args s none [] s = some (.ref a)) {g : JFrame} (hg : g.method = m) (hdg : decode c.code g.pc = .ok (.ldc_w index, 3)) :
    ∀ target, Steps p.tables e below (T.setTop { g with pc := g.pc + 3, stack := .ref a :: g.stack }) target → Steps p.tables e below (T.setTop g) target := by
  obtain ⟨k, cf, i, a', hk, hcf, hcp, -, hr, hev'⟩ := Cond.stringRef_spec hown hconst
  cases hev.symm.trans hev'
  obtain ⟨k', hk', he⟩ := X.warmed.alike.2.2 _ _ hk
  have hr' : k'.resolved[index]? = some (some (.string a)) := by
    rcases X.warmed.entry hk hk' index with h | ⟨h, -⟩
    · rw [h]; exact hr
    · rw [hr] at h; cases h
  intro target hrest
  subst hg
  jvm_step X.here [hexec, hdg, ldc_w.wp_string (e := e) (s := T) (f := g) X.here.top hk' (by rw [he]; exact hcf) hcp hr']
  exact hrest
theorem ez_ldcwS {G : EzG} {yy : MethodName} {cc : ByteArray} {ml : Nat} {rt : Option FieldType} {d pc : Nat} {ls : List (Nat × EzV)} {st : List EzV} {M : EzM} {P : Option EzV → EzM → Prop} {idx : Nat} (n i : Nat) (hd : decode cc pc = .ok (.ldc_w idx, 3)) (hn : pc + 3 = n) (hi : i < 13) (h1 : (ez_sl0.getD i ("", 0, "")).1 = yy.cls) (h2 : (ez_sl0.getD i ("", 0, "")).2.1 = idx) (kk : Ez G (yy, cc, ml, rt) d n ls (eR 100 i :: st) M P) : Ez G (yy, cc, ml, rt) d pc ls st M P := by
  subst hn
  intro p e s m args below meth c H locs lsA hx hb hr hml hown hts hlk hK hD hP hS hl
  have hz := hK.2.2.2.1 i hi
  rw [h1, h2] at hz
  have hz2 : vk_R yy.cls idx (ez_sl0.getD i ("", 0, "")).2.2 (G.2.2.2.1 100 i) s := hz
  intro T hT X
  obtain ⟨t, a1, b1⟩ := kk p e s m args below meth c H locs lsA hx hb hr hml hown hts hlk hK hD hP hS hl T hT X
  exact ⟨t, ez_ldcwT X hx hown (text := (ez_sl0.getD i ("", 0, "")).2.2) (a := G.2.2.2.1 100 i) hz2.1 hz2.2 (g := F0 m pc lsA (st.map (ez_cv G.2.2.2.1))) rfl (by rw [hb]; exact hd) t a1, b1⟩
theorem ez_callVX {G : EzG} {yy : MethodName} {cc : ByteArray} {ml : Nat} {rt : Option FieldType} {d pc : Nat} {ls : List (Nat × EzV)} {st : List EzV} {M : EzM} {P : Option EzV → EzM → Prop} {Z : EzY} {d' idx k i : Nat} {P' : Option EzV → EzM → Prop} (n : Nat) (As rest : List EzV) (hd : decode cc pc = .ok (.invokevirtual idx, 3)) (hn : pc + 3 = n) (hst : st = As.reverse ++ eR k i :: rest) (hO : ez_MO Z As.length) (hs : Cond.instanceMethod Z.1 ∈ ez_tbl ∧ Cond.selects Z.1.cls Z.1 Z.1 ∈ ez_tbl) (hrv0 : ∀ (s : State) (H : Heap) (locs : List Loc), ez_ok G s → va_S (ez_A G.1 G.2.2.2.1) s.heap H locs → ∃ cell : Cell, H[G.2.2.2.1 k i]? = some cell ∧ cell.vm.isStatics = false ∧ s.vm.findClass Z.1.cls = some cell.cls) (hl0 : Cond.methodLink yy.cls idx Z.1 ∈ ez_tbl) (hdd : d' + 1 ≤ d) (h8 : ez_ss rest ≤ 8) (hC : Ezc G Z d' (eR k i :: As) M P') (kk : ∀ (r : Option EzV) (M' : EzM), P' r M' → Ez G (yy, cc, ml, rt) d n ls (r.toList ++ rest) M' P) : Ez G (yy, cc, ml, rt) d pc ls st M P := by
  subst hn; subst hst
  intro p e s m args below meth c H locs lsA hx hb hr hml hown hts hlk hK hD hP hS hl
  have hR : (ez_rm d').frames + 1 ≤ (ez_rm d).frames ∧ 8 + (Z.2.2.1 + 11) + (ez_rm d').locals ≤ (ez_rm d).locals := ⟨hdd, by have := hO.2.2.2; show 8 + (Z.2.2.1 + 11) + 128 * d' ≤ 128 * d; omega⟩
  have hrv := hrv0 s H locs hK hS
  refine ez_call (P := P') (va_runV (As := As.map (ez_cv G.2.2.2.1)) (rest := rest.map (ez_cv G.2.2.2.1)) ⟨hx, hb, hml, hown, hts⟩ hC ⟨callB_of As.length hts (ez_good hO.1) rfl rfl rfl (hts _ (List.mem_cons_of_mem _ hO.2.1)) (hts _ (List.mem_cons_of_mem _ hl0)) hO.2.2.1 hR, hts _ (List.mem_cons_of_mem _ hs.1), hts _ (List.mem_cons_of_mem _ hs.2)⟩ ⟨ez_blind, hrv, fun U hU hW => ⟨rfl, by rw [hU]; exact hP, ez_okU hW hS hU hK, hD⟩⟩ rfl (by simp) hl.1 (by show List.map _ (As.reverse ++ eR k i :: rest) = _; rw [List.map_append, List.map_reverse]; rfl) (lv_room (by rw [ez_ssum]; exact h8)) hd ⟨Nat.zero_le _, Nat.zero_le _⟩) hS (fun r M' H1 locs1 hp hP1 hS1 => ?_)
  rw [ez_back]
  exact kk r M' hp p e s m args below meth c H1 locs1 lsA hx hb hr hml hown hts hlk hK (ez_D hD) hP1 hS1 hl
theorem ez_strR {G : EzG} {i : Nat} (hi : i < 13) : ∀ (s : State) (H : Heap) (locs : List Loc), ez_ok G s → va_S (ez_A G.1 G.2.2.2.1) s.heap H locs → ∃ cell : Cell, H[G.2.2.2.1 100 i]? = some cell ∧ cell.vm.isStatics = false ∧ s.vm.findClass "java/lang/String" = some cell.cls := fun s H locs hK hS => vk_recv hK.2.2.1 hi hS
theorem ez_strC {G : EzG} {i : Nat} (hi : i < 13) : ∀ s, ez_ok G s → va_OF "java/lang/String" "coder" "B" (ez_cv G.2.2.2.1 (eI (nI 0))) (G.2.2.2.1 100 i) (ez_A G.1 G.2.2.2.1) s s.heap := fun s hK => (hK.2.2.1.1 i hi).2.1
theorem ez_strV {G : EzG} {i : Nat} (hi : i < 13) : ∀ s, ez_ok G s → va_OF "java/lang/String" "value" "[B" (ez_cv G.2.2.2.1 (eR 101 i)) (G.2.2.2.1 100 i) (ez_A G.1 G.2.2.2.1) s s.heap := fun s hK => (hK.2.2.1.1 i hi).2.2.1
theorem ez_strT {G : EzG} {i : Nat} (hi : i < 13) : ∀ s, ez_ok G s → va_T .byte (G.2.2.2.1 101 i) (ez_sn.getD i 0) (fun j => .int ((ez_sb.getD i []).getD j 0)) (ez_A G.1 G.2.2.2.1) s s.heap := fun s hK => (hK.2.2.1.1 i hi).2.2.2
theorem ez_cmp {G : EzG} : ∀ s, ez_ok G s → va_Z "java/lang/String" "COMPACT_STRINGS" "Z" (ez_cv G.2.2.2.1 (eI (nI 1))) (ez_A G.1 G.2.2.2.1) s s.heap := fun s hK => hK.2.2.2.2.1
theorem ez_ktab {G : EzG} : ∀ s, ez_ok G s → va_T .int (G.2.2.2.1 102 0) 6 (fun j => .int (ez_ka j)) (ez_A G.1 G.2.2.2.1) s s.heap := fun s hK => hK.2.2.2.2.2.2.1
theorem ez_kref {G : EzG} : ∀ s, ez_ok G s → va_Z "ElevenPebbles" "KIND_ABOVE" "[I" (ez_cv G.2.2.2.1 (eR 102 0)) (ez_A G.1 G.2.2.2.1) s s.heap := fun s hK => hK.2.2.2.2.2.1
theorem ez_sn31 : ∀ i, i < 13 → ez_sn.getD i 0 < 2 ^ 31 := by decide +kernel
theorem c_coder (G : EzG) (d : Nat) (i : Nat) (M : EzM) (hi : i < 13) : Ezc G mJ0_coder_7d493 d [eR 100 i] M (fun r M' => r = some (eI (nI 0)) ∧ M' = M) := by
  refine Ezc.of (by decide +kernel) (Nat.le_of_ble_eq_true rfl) ?_
  show Ez G mJ0_coder_7d493 d 0 [(0, eR 100 i)] [] M _
  refine ez_gets 3 (eI (nI 1)) _ _ _ dJ0_coder_7d493_0 rfl fx_J0_38 ez_cmp ?_
  refine ez_nif_eq 6 13 dJ0_coder_7d493_3 rfl (by decide) (by decide) (fun h => absurd h (by decide)) (fun _ => ?_)
  refine ez_aload_n 7 dJ0_coder_7d493_6 rfl rfl ?_
  refine ez_getX 10 (eI (nI 0)) _ _ _ dJ0_coder_7d493_7 rfl fx_J0_15 (ez_strC hi) ?_
  refine ez_goto 14 dJ0_coder_7d493_10 (by decide) ?_
  exact ez_iret .byte dJ0_coder_7d493_14 rfl (by decide) ⟨rfl, rfl⟩
theorem c_latin (G : EzG) (d : Nat) (i : Nat) (M : EzM) (hi : i < 13) : Ezc G mJ0_isLatin1_aae02 d [eR 100 i] M (fun r M' => r = some (eI (nI 1)) ∧ M' = M) := by
  refine Ezc.of (by decide +kernel) (Nat.le_of_ble_eq_true rfl) ?_
  show Ez G mJ0_isLatin1_aae02 d 0 [(0, eR 100 i)] [] M _
  refine ez_gets 3 (eI (nI 1)) _ _ _ dJ0_isLatin1_aae02_0 rfl fx_J0_38 ez_cmp ?_
  refine ez_nif_eq 6 17 dJ0_isLatin1_aae02_3 rfl (by decide) (by decide) (fun h => absurd h (by decide)) (fun _ => ?_)
  refine ez_aload_n 7 dJ0_isLatin1_aae02_6 rfl rfl ?_
  refine ez_getX 10 (eI (nI 0)) _ _ _ dJ0_isLatin1_aae02_7 rfl fx_J0_15 (ez_strC hi) ?_
  refine ez_nif_ne 13 17 dJ0_isLatin1_aae02_10 rfl (by decide) (by decide) (fun h => absurd h (by decide)) (fun _ => ?_)
  refine ez_iconst 14 dJ0_isLatin1_aae02_13 rfl (nI 1) (by decide) ?_
  refine ez_goto 18 dJ0_isLatin1_aae02_14 (by decide) ?_
  exact ez_iret .boolean dJ0_isLatin1_aae02_18 rfl (by decide) ⟨rfl, rfl⟩
theorem c_length (G : EzG) (d : Nat) (i : Nat) (M : EzM) (hd : 1 ≤ d) (hi : i < 13) : Ezc G mJ0_length_8abf5 d [eR 100 i] M (fun r M' => r = some (eI (nI (ez_sn.getD i 0))) ∧ M' = M) := by
  refine Ezc.of (by decide +kernel) (Nat.le_of_ble_eq_true rfl) ?_
  show Ez G mJ0_length_8abf5 d 0 [(0, eR 100 i)] [] M _
  refine ez_aload_n 1 dJ0_length_8abf5_0 rfl rfl ?_
  refine ez_getX 4 (eR 101 i) _ _ _ dJ0_length_8abf5_1 rfl fx_J0_9 (ez_strV hi) ?_
  refine ez_alenX 5 dJ0_length_8abf5_4 rfl (ez_strT hi) ?_
  refine ez_aload_n 6 dJ0_length_8abf5_5 rfl rfl ?_
  refine ez_callVX 9 [] [eI (nI (ez_sn.getD i 0))] dJ0_length_8abf5_6 rfl rfl ok_J0_coder_7d493 in_J0_coder_7d493 (ez_strR hi) ln_J0_335 (show d - 1 + 1 ≤ d by omega) (Nat.le_of_ble_eq_true rfl) (c_coder G (d - 1) i M hi) (fun r M' q => ?_)
  obtain ⟨rfl, e⟩ := q
  rw [e]
  refine ez_ishr 10 dJ0_length_8abf5_9 rfl ?_
  refine ez_top (nI (ez_sn.getD i 0)) (by rw [nI_0]; exact sb_shr0 _) ?_
  exact ez_iret .int dJ0_length_8abf5_10 rfl rfl ⟨rfl, rfl⟩
theorem c_pcheck (G : EzG) (d : Nat) (a n : Nat) (z : Option (Nat × Nat)) (M : EzM) (h : a < n) (hn : n < 2 ^ 31) : Ezc G mJ3_checkIndex_8e157 d [eI (nI a), eI (nI n), .inr (.inr z)] M (fun r M' => r = some (eI (nI a)) ∧ M' = M) := by
  refine Ezc.of (by decide +kernel) (by cases z <;> exact Nat.le_of_ble_eq_true rfl) ?_
  show Ez G mJ3_checkIndex_8e157 d 0 [(0, eI (nI a)), (1, eI (nI n)), (2, .inr (.inr z))] [] M _
  refine ez_iload_n 1 dJ3_checkIndex_8e157_0 rfl rfl ?_
  refine ez_nif_lt 4 dJ3_checkIndex_8e157_1 rfl (by omega) ?_
  refine ez_iload_n 5 dJ3_checkIndex_8e157_4 rfl rfl ?_
  refine ez_iload_n 6 dJ3_checkIndex_8e157_5 rfl rfl ?_
  refine ez_ncmp_lt 9 16 dJ3_checkIndex_8e157_6 rfl (by decide) (by omega) (by omega) (fun _ => ?_) (fun h2 => by omega)
  refine ez_iload_n 17 dJ3_checkIndex_8e157_16 rfl rfl ?_
  exact ez_iret .int dJ3_checkIndex_8e157_17 rfl rfl ⟨rfl, rfl⟩
theorem c_scheck (G : EzG) (d : Nat) (a n : Nat) (M : EzM) (hd : 1 ≤ d) (h : a < n) (hn : n < 2 ^ 31) : Ezc G mJ0_checkIndex_df160 d [eI (nI a), eI (nI n)] M (fun r M' => r = none ∧ M' = M) := by
  have key : ∀ z : Option (Nat × Nat), Ez G mJ0_checkIndex_df160 d 5 [(0, eI (nI a)), (1, eI (nI n))] [.inr (.inr z), eI (nI n), eI (nI a)] M (fun r M' => r = none ∧ M' = M) := by
    intro z
    refine ez_callS 8 [eI (nI a), eI (nI n), .inr (.inr z)] [] dJ0_checkIndex_df160_5 rfl rfl ok_J3_checkIndex_8e157 st_J3_checkIndex_8e157 ln_J0_1059 (show d - 1 + 1 ≤ d by omega) (Nat.le_of_ble_eq_true rfl) (c_pcheck G (d - 1) a n z M h hn) (fun r M' q => ?_)
    obtain ⟨rfl, e⟩ := q
    rw [e]
    refine ez_pop 9 dJ0_checkIndex_df160_8 rfl rfl ?_
    exact ez_vret dJ0_checkIndex_df160_9 rfl ⟨rfl, rfl⟩
  refine Ezc.of (by decide +kernel) (Nat.le_of_ble_eq_true rfl) ?_
  show Ez G mJ0_checkIndex_df160 d 0 [(0, eI (nI a)), (1, eI (nI n))] [] M _
  refine ez_iload_n 1 dJ0_checkIndex_df160_0 rfl rfl ?_
  refine ez_iload_n 2 dJ0_checkIndex_df160_1 rfl rfl ?_
  intro p e s m args below meth c H locs lsA hx hb hr hml hown hts hlk hK hD hP hS hl
  rcases hK.2.2.2.2.2.2.2 with hz | hz
  · exact va_gets hx hb hz hS hown (hts _ (List.mem_cons_of_mem _ fx_J0_1053)) (fun _ h => h) dJ0_checkIndex_df160_2 (key none p e s m args below meth c H locs lsA hx hb hr hml hown hts hlk hK hD hP hS hl)
  · exact va_gets hx hb hz hS hown (hts _ (List.mem_cons_of_mem _ fx_J0_1053)) (fun _ h => h) dJ0_checkIndex_df160_2 (key (some (103, 0)) p e s m args below meth c H locs lsA hx hb hr hml hown hts hlk hK hD hP hS hl)
/-- a string constant's characters -/
def ez_ch (i j : Nat) : Int32 := (ez_sb.getD i []).getD j 0
theorem ez_chr : ∀ i, i < 13 → ∀ j, j < ez_sn.getD i 0 → ((ez_ch i j &&& nI 255).toUInt32 % 65536).toInt32 = ez_ch i j ∧ narrow .char (.int (ez_ch i j)) = .int (ez_ch i j) := by decide +kernel
theorem c_lcharAt (G : EzG) (d : Nat) (i a : Nat) (M : EzM) (hd : 2 ≤ d) (hi : i < 13) (ha : a < ez_sn.getD i 0) : Ezc G mJ1_charAt_3b067 d [eR 101 i, eI (nI a)] M (fun r M' => r = some (eI (ez_ch i a)) ∧ M' = M) := by
  have h31 := ez_sn31 i hi
  refine Ezc.of (by decide +kernel) (Nat.le_of_ble_eq_true rfl) ?_
  show Ez G mJ1_charAt_3b067 d 0 [(0, eR 101 i), (1, eI (nI a))] [] M _
  refine ez_iload_n 1 dJ1_charAt_3b067_0 rfl rfl ?_
  refine ez_aload_n 2 dJ1_charAt_3b067_1 rfl rfl ?_
  refine ez_alenX 3 dJ1_charAt_3b067_2 rfl (ez_strT hi) ?_
  refine ez_callS 6 [eI (nI a), eI (nI (ez_sn.getD i 0))] [] dJ1_charAt_3b067_3 rfl rfl ok_J0_checkIndex_df160 st_J0_checkIndex_df160 ln_J1_9 (show d - 1 + 1 ≤ d by omega) (Nat.le_of_ble_eq_true rfl) (c_scheck G (d - 1) a _ M (by omega) ha h31) (fun r M' q => ?_)
  obtain ⟨rfl, e⟩ := q
  rw [e]
  show Ez G mJ1_charAt_3b067 d 6 [(0, eR 101 i), (1, eI (nI a))] [] M _
  refine ez_aload_n 7 dJ1_charAt_3b067_6 rfl rfl ?_
  refine ez_iload_n 8 dJ1_charAt_3b067_7 rfl rfl ?_
  refine ez_baldX (f := fun j => ez_ch i j) 9 dJ1_charAt_3b067_8 rfl (ez_strT hi) ha h31 ?_
  refine ez_sipush 12 dJ1_charAt_3b067_9 rfl (nI 255) (by decide) ?_
  refine ez_iand 13 dJ1_charAt_3b067_12 rfl ?_
  refine ez_i2c 14 dJ1_charAt_3b067_13 rfl ?_
  refine ez_top (ez_ch i a) (ez_chr i hi a ha).1 ?_
  exact ez_iret .char dJ1_charAt_3b067_14 rfl (ez_chr i hi a ha).2 ⟨rfl, rfl⟩
theorem c_charAt (G : EzG) (d : Nat) (i a : Nat) (M : EzM) (hd : 3 ≤ d) (hi : i < 13) (ha : a < ez_sn.getD i 0) : Ezc G mJ0_charAt_5068e d [eR 100 i, eI (nI a)] M (fun r M' => r = some (eI (ez_ch i a)) ∧ M' = M) := by
  refine Ezc.of (by decide +kernel) (Nat.le_of_ble_eq_true rfl) ?_
  show Ez G mJ0_charAt_5068e d 0 [(0, eR 100 i), (1, eI (nI a))] [] M _
  refine ez_aload_n 1 dJ0_charAt_5068e_0 rfl rfl ?_
  refine ez_callVX 4 [] [] dJ0_charAt_5068e_1 rfl rfl ok_J0_isLatin1_aae02 in_J0_isLatin1_aae02 (ez_strR hi) ln_J0_492 (show d - 1 + 1 ≤ d by omega) (Nat.le_of_ble_eq_true rfl) (c_latin G (d - 1) i M hi) (fun r M' q => ?_)
  obtain ⟨rfl, e⟩ := q
  rw [e]
  show Ez G mJ0_charAt_5068e d 4 [(0, eR 100 i), (1, eI (nI a))] [eI (nI 1)] M _
  refine ez_nif_eq 7 16 dJ0_charAt_5068e_4 rfl (by decide) (by decide) (fun h => absurd h (by decide)) (fun _ => ?_)
  refine ez_aload_n 8 dJ0_charAt_5068e_7 rfl rfl ?_
  refine ez_getX 11 (eR 101 i) _ _ _ dJ0_charAt_5068e_8 rfl fx_J0_9 (ez_strV hi) ?_
  refine ez_iload_n 12 dJ0_charAt_5068e_11 rfl rfl ?_
  refine ez_callS 15 [eR 101 i, eI (nI a)] [] dJ0_charAt_5068e_12 rfl rfl ok_J1_charAt_3b067 st_J1_charAt_3b067 ln_J0_495 (show d - 1 + 1 ≤ d by omega) (Nat.le_of_ble_eq_true rfl) (c_lcharAt G (d - 1) i a M (by omega) hi ha) (fun r M' q => ?_)
  obtain ⟨rfl, e⟩ := q
  rw [e]
  exact ez_iret .char dJ0_charAt_5068e_15 rfl (ez_chr i hi a ha).2 ⟨rfl, rfl⟩
