/-! the law: its walk -/
def EL0 (p : Program) (s : State) (m : MethodId) (meth : Method) (c : Code) (b L : Nat) (xs : Nat → Int32) (D : va_G) (cy : Nat → ClassId) (ad : Nat → Nat → Nat) : Prop := lw_At p s m meth c b L xs ∧ va_K D vwCl (ez_tys cy) s ∧ (∀ w ∈ ez_nest, va_Nw w s) ∧ ez_xt ad (eb_A s.heap.size) s
def El (p : Program) (e : Env) (s : State) (m : MethodId) (below : List Frame) (meth : Method) (c : Code) (l : Launch) (b : Nat) (D : va_G) (cy : Nat → ClassId) (ad : Nat → Nat → Nat) (pc : Nat) (ls : List (Nat × Value)) (st : List Value) (M : EzM) : Prop :=
  ∀ (H : Heap) (locs : List Loc) (lsA : Array Slot), va_D (eb_A s.heap.size) (ez_wl true ad cy M) → va_P D vwCl (ez_wl true ad cy M) H → va_S (eb_A s.heap.size) s.heap H locs → lv_has lsA 4 ls → W p l e room_1 s m #[Value.ref b] below meth c H locs 149 34970 (lw_Z below #[Value.ref b] s) (F0 m pc lsA st)
theorem el_aload {p : Program} {e : Env} {s : State} {m : MethodId} {below : List Frame} {meth : Method} {c : Code} {l : Launch} {b L : Nat} {xs : Nat → Int32} {D : va_G} {cy : Nat → ClassId} {ad : Nat → Nat → Nat} {pc : Nat} {ls : List (Nat × Value)} {st : List Value} {M : EzM} {i : Fin 4} {a : Nat} (hC : EL0 p s m meth c b L xs D cy ad) (j n : Nat) (hd : decode code pc = .ok (.aload_n i, 1)) (hn : pc + 1 = n) (h : ls[j]? = some ((i : Nat), .ref a)) (kk : El p e s m below meth c l b D cy ad n ls (.ref a :: st) M) : El p e s m below meth c l b D cy ad pc ls st M := by
  subst hn
  exact fun H locs lsA hD hP hS hl => lv_aload_n hC.1.1 hC.1.2.1 hd rfl (lv_at hl j h) (kk H locs lsA hD hP hS hl)
theorem el_iload {p : Program} {e : Env} {s : State} {m : MethodId} {below : List Frame} {meth : Method} {c : Code} {l : Launch} {b L : Nat} {xs : Nat → Int32} {D : va_G} {cy : Nat → ClassId} {ad : Nat → Nat → Nat} {pc : Nat} {ls : List (Nat × Value)} {st : List Value} {M : EzM} {i : Fin 4} {a : Int32} (hC : EL0 p s m meth c b L xs D cy ad) (j n : Nat) (hd : decode code pc = .ok (.iload_n i, 1)) (hn : pc + 1 = n) (h : ls[j]? = some ((i : Nat), .int a)) (kk : El p e s m below meth c l b D cy ad n ls (.int a :: st) M) : El p e s m below meth c l b D cy ad pc ls st M := by
  subst hn
  exact fun H locs lsA hD hP hS hl => lv_iload_n hC.1.1 hC.1.2.1 hd rfl (lv_at hl j h) (kk H locs lsA hD hP hS hl)
theorem el_bipush {p : Program} {e : Env} {s : State} {m : MethodId} {below : List Frame} {meth : Method} {c : Code} {l : Launch} {b L : Nat} {xs : Nat → Int32} {D : va_G} {cy : Nat → ClassId} {ad : Nat → Nat → Nat} {pc : Nat} {ls : List (Nat × Value)} {st : List Value} {M : EzM} {a : Int} (hC : EL0 p s m meth c b L xs D cy ad) (v : Int32) (n : Nat) (hd : decode code pc = .ok (.bipush a, 2)) (hn : pc + 2 = n) (hv : (Int8.ofInt a).toInt32 = v) (kk : El p e s m below meth c l b D cy ad n ls (.int v :: st) M) : El p e s m below meth c l b D cy ad pc ls st M := by
  subst hn
  exact fun H locs lsA hD hP hS hl => lv_bipush hC.1.1 hC.1.2.1 hd hv (kk H locs lsA hD hP hS hl)
theorem el_iand {p : Program} {e : Env} {s : State} {m : MethodId} {below : List Frame} {meth : Method} {c : Code} {l : Launch} {b L : Nat} {xs : Nat → Int32} {D : va_G} {cy : Nat → ClassId} {ad : Nat → Nat → Nat} {pc : Nat} {ls : List (Nat × Value)} {st : List Value} {M : EzM} {x y : Int32} (hC : EL0 p s m meth c b L xs D cy ad) (n : Nat) (hd : decode code pc = .ok (.iand, 1)) (hn : pc + 1 = n) (kk : El p e s m below meth c l b D cy ad n ls (.int (x &&& y) :: st) M) : El p e s m below meth c l b D cy ad pc ls (.int y :: .int x :: st) M := by
  subst hn
  exact fun H locs lsA hD hP hS hl => lv_iand hC.1.1 hC.1.2.1 hd (kk H locs lsA hD hP hS hl)
theorem el_isub {p : Program} {e : Env} {s : State} {m : MethodId} {below : List Frame} {meth : Method} {c : Code} {l : Launch} {b L : Nat} {xs : Nat → Int32} {D : va_G} {cy : Nat → ClassId} {ad : Nat → Nat → Nat} {pc : Nat} {ls : List (Nat × Value)} {st : List Value} {M : EzM} {x y : Int32} (hC : EL0 p s m meth c b L xs D cy ad) (n : Nat) (hd : decode code pc = .ok (.isub, 1)) (hn : pc + 1 = n) (kk : El p e s m below meth c l b D cy ad n ls (.int (x - y) :: st) M) : El p e s m below meth c l b D cy ad pc ls (.int y :: .int x :: st) M := by
  subst hn
  exact fun H locs lsA hD hP hS hl => lv_isub hC.1.1 hC.1.2.1 hd (kk H locs lsA hD hP hS hl)
theorem el_land {p : Program} {e : Env} {s : State} {m : MethodId} {below : List Frame} {meth : Method} {c : Code} {l : Launch} {b L : Nat} {xs : Nat → Int32} {D : va_G} {cy : Nat → ClassId} {ad : Nat → Nat → Nat} {pc : Nat} {ls : List (Nat × Value)} {st : List Value} {M : EzM} {x y : Int64} (hC : EL0 p s m meth c b L xs D cy ad) (n : Nat) (hd : decode code pc = .ok (.land, 1)) (hn : pc + 1 = n) (kk : El p e s m below meth c l b D cy ad n ls (.long (x &&& y) :: st) M) : El p e s m below meth c l b D cy ad pc ls (.long y :: .long x :: st) M := by
  subst hn
  exact fun H locs lsA hD hP hS hl => lv_land hC.1.1 hC.1.2.1 hd (kk H locs lsA hD hP hS hl)
theorem el_lor {p : Program} {e : Env} {s : State} {m : MethodId} {below : List Frame} {meth : Method} {c : Code} {l : Launch} {b L : Nat} {xs : Nat → Int32} {D : va_G} {cy : Nat → ClassId} {ad : Nat → Nat → Nat} {pc : Nat} {ls : List (Nat × Value)} {st : List Value} {M : EzM} {x y : Int64} (hC : EL0 p s m meth c b L xs D cy ad) (n : Nat) (hd : decode code pc = .ok (.lor, 1)) (hn : pc + 1 = n) (kk : El p e s m below meth c l b D cy ad n ls (.long (x ||| y) :: st) M) : El p e s m below meth c l b D cy ad pc ls (.long y :: .long x :: st) M := by
  subst hn
  exact fun H locs lsA hD hP hS hl => lv_lor hC.1.1 hC.1.2.1 hd (kk H locs lsA hD hP hS hl)
theorem el_lshl {p : Program} {e : Env} {s : State} {m : MethodId} {below : List Frame} {meth : Method} {c : Code} {l : Launch} {b L : Nat} {xs : Nat → Int32} {D : va_G} {cy : Nat → ClassId} {ad : Nat → Nat → Nat} {pc : Nat} {ls : List (Nat × Value)} {st : List Value} {M : EzM} {x : Int64} {y : Int32} (hC : EL0 p s m meth c b L xs D cy ad) (n : Nat) (hd : decode code pc = .ok (.lshl, 1)) (hn : pc + 1 = n) (kk : El p e s m below meth c l b D cy ad n ls (.long (x <<< (y.toInt64 &&& 63)) :: st) M) : El p e s m below meth c l b D cy ad pc ls (.int y :: .long x :: st) M := by
  subst hn
  exact fun H locs lsA hD hP hS hl => lv_lshl hC.1.1 hC.1.2.1 hd rfl (kk H locs lsA hD hP hS hl)
theorem el_i2l {p : Program} {e : Env} {s : State} {m : MethodId} {below : List Frame} {meth : Method} {c : Code} {l : Launch} {b L : Nat} {xs : Nat → Int32} {D : va_G} {cy : Nat → ClassId} {ad : Nat → Nat → Nat} {pc : Nat} {ls : List (Nat × Value)} {st : List Value} {M : EzM} {x : Int32} (hC : EL0 p s m meth c b L xs D cy ad) (n : Nat) (hd : decode code pc = .ok (.i2l, 1)) (hn : pc + 1 = n) (kk : El p e s m below meth c l b D cy ad n ls (.long x.toInt64 :: st) M) : El p e s m below meth c l b D cy ad pc ls (.int x :: st) M := by
  subst hn
  exact fun H locs lsA hD hP hS hl => lv_i2l hC.1.1 hC.1.2.1 hd rfl (kk H locs lsA hD hP hS hl)
theorem el_ldc2 {p : Program} {e : Env} {s : State} {m : MethodId} {below : List Frame} {meth : Method} {c : Code} {l : Launch} {b L : Nat} {xs : Nat → Int32} {D : va_G} {cy : Nat → ClassId} {ad : Nat → Nat → Nat} {pc : Nat} {ls : List (Nat × Value)} {st : List Value} {M : EzM} {a : Nat} (hC : EL0 p s m meth c b L xs D cy ad) (v : Int64) (n : Nat) (hd : decode code pc = .ok (.ldc2_w a, 3)) (hn : pc + 3 = n) (hv : Cond.constantLong RL a v ∈ ez_tbl) (kk : El p e s m below meth c l b D cy ad n ls (.long v :: st) M) : El p e s m below meth c l b D cy ad pc ls st M := by
  subst hn
  exact fun H locs lsA hD hP hS hl => lv_ldc2 (own := RL) hC.1.1 hC.1.2.1 hC.1.2.2.2.2.1 (hC.1.2.2.2.2.2.1 _ (lw_in hv)) hd (kk H locs lsA hD hP hS hl)
theorem el_nb {s : State} {b : Nat} (h : b < s.heap.size) : ¬ eb_A s.heap.size b := fun z => Nat.not_le.mpr h z
theorem el_len {p : Program} {e : Env} {s : State} {m : MethodId} {below : List Frame} {meth : Method} {c : Code} {l : Launch} {b L : Nat} {xs : Nat → Int32} {D : va_G} {cy : Nat → ClassId} {ad : Nat → Nat → Nat} {pc : Nat} {ls : List (Nat × Value)} {st : List Value} {M : EzM} (hC : EL0 p s m meth c b L xs D cy ad) (n : Nat) (hd : decode code pc = .ok (.arraylength, 1)) (hn : pc + 1 = n) (kk : El p e s m below meth c l b D cy ad n ls (.int (nI L) :: st) M) : El p e s m below meth c l b D cy ad pc ls (.ref b :: st) M := by
  subst hn
  exact fun H locs lsA hD hP hS hl => va_slen hC.1.1 hC.1.2.1 hC.1.2.2.2.2.2.2.1 hC.1.2.2.2.2.2.2.2.1 (el_nb hC.1.2.2.2.2.2.2.2.1) hS hd (kk H locs lsA hD hP hS hl)
theorem el_iald {p : Program} {e : Env} {s : State} {m : MethodId} {below : List Frame} {meth : Method} {c : Code} {l : Launch} {b L : Nat} {xs : Nat → Int32} {D : va_G} {cy : Nat → ClassId} {ad : Nat → Nat → Nat} {pc : Nat} {ls : List (Nat × Value)} {st : List Value} {M : EzM} (hC : EL0 p s m meth c b L xs D cy ad) (a n : Nat) (ha : a < L) (hL : L < 2 ^ 31) (hd : decode code pc = .ok (.iaload, 1)) (hn : pc + 1 = n) (kk : El p e s m below meth c l b D cy ad n ls (.int (xs a) :: st) M) : El p e s m below meth c l b D cy ad pc ls (.int (nI a) :: .ref b :: st) M := by
  subst hn
  intro H locs lsA hD hP hS hl
  refine va_sld hC.1.1 hC.1.2.1 hC.1.2.2.2.2.2.2.1 hC.1.2.2.2.2.2.2.2.1 (el_nb hC.1.2.2.2.2.2.2.2.1) hS (vp_in_nI ha hL) hd ?_
  rw [nI_clamp (by omega)]
  exact kk H locs lsA hD hP hS hl
/-- an argument: the script's int at i + k -/
theorem el_arg {p : Program} {e : Env} {s : State} {m : MethodId} {below : List Frame} {meth : Method} {c : Code} {l : Launch} {b L : Nat} {xs : Nat → Int32} {D : va_G} {cy : Nat → ClassId} {ad : Nat → Nat → Nat} {pc : Nat} {st : List Value} {M : EzM} {r1 r2 : Value} {i : Nat} {a : Int} (hC : EL0 p s m meth c b L xs D cy ad) (k n : Nat) (hk : Int32.ofInt a = nI k) (ha : i + k < L) (hL : L ≤ 384) (d0 : decode code pc = .ok (.aload_n 0, 1)) (d1 : decode code (pc + 1) = .ok (.iload_n 3, 1)) (d2 : decode code (pc + 2) = .ok (.iconst a, 1)) (d3 : decode code (pc + 3) = .ok (.iadd, 1)) (d4 : decode code (pc + 4) = .ok (.iaload, 1)) (hn : pc + 5 = n) (kk : El p e s m below meth c l b D cy ad n [(3, .int (nI i)), (2, r2), (1, r1), (0, .ref b)] (.int (xs (i + k)) :: st) M) : El p e s m below meth c l b D cy ad pc [(3, .int (nI i)), (2, r2), (1, r1), (0, .ref b)] st M := by
  subst hn
  refine el_aload hC 3 (pc + 1) d0 rfl rfl ?_
  refine el_iload hC 0 (pc + 2) d1 rfl rfl ?_
  intro H locs lsA hD hP hS hl
  refine lv_iconst hC.1.1 hC.1.2.1 d2 hk ?_
  refine lv_iadd hC.1.1 hC.1.2.1 d3 ?_
  rw [nI_add]
  exact el_iald hC (i + k) (pc + 5) ha (by omega) d4 rfl kk H locs lsA hD hP hS hl
theorem lw_good {Z : EzY} (h : Cond.code Z.1 Z.2.1 Z.2.2.1 Z.2.2.2 ∈ ez_tbl) : GoodIn lw_tbl (ez_ws Z) := by
  intro w hw
  have h2 : w ∈ ez_tbl := by
    rcases List.mem_cons.mp hw with rfl | h2
    · exact h
    · exact h2
  exact ⟨lw_in h2, good_of_word (List.mem_filter.mp h2).2⟩
theorem el_call {p : Program} {e : Env} {s : State} {m : MethodId} {below : List Frame} {meth : Method} {c : Code} {l : Launch} {b L : Nat} {xs : Nat → Int32} {D : va_G} {cy : Nat → ClassId} {ad : Nat → Nat → Nat} {pc : Nat} {ls : List (Nat × Value)} {st : List Value} {M : EzM} {Z : EzY} {idx : Nat} {r : Int32} {Q : EzM → Prop} (hC : EL0 p s m meth c b L xs D cy ad) (kd n : Nat) (As : List EzV) (rest : List Value) (hd : decode code pc = .ok (.invokevirtual idx, 3)) (hn : pc + 3 = n) (hst : st = (As.map (ez_cv ad)).reverse ++ .ref (ad kd 0) :: rest) (hO : ez_MO Z As.length) (hs : Cond.instanceMethod Z.1 ∈ ez_tbl ∧ Cond.selects Z.1.cls Z.1 Z.1 ∈ ez_tbl) (hc : (vwCl[kd]?).map (fun q => q.1) = some Z.1.cls) (hi : 0 < ez_cb true kd) (hl0 : Cond.methodLink RL idx Z.1 ∈ ez_tbl) (h8 : (rest.map fun v => v.category).sum ≤ 8) (hCt : Ezc (true, l, D, ad, cy) Z 70 (eR kd 0 :: As) M (fun x M' => x = some (eI r) ∧ Q M')) (kk : ∀ M', Q M' → El p e s m below meth c l b D cy ad n ls (.int r :: rest) M') : El p e s m below meth c l b D cy ad pc ls st M := by
  subst hst; subst hn
  intro H locs lsA hD hP hS hl
  obtain ⟨⟨hx, hb, hr, hml, hown, hts, hX, hbl, hlocks, hgv⟩, hK, hN, hE⟩ := hC
  have hR : (ez_rm 70).frames + 1 ≤ room_1.frames ∧ 8 + (Z.2.2.1 + 11) + (ez_rm 70).locals ≤ room_1.locals := ⟨by decide, by have := hO.2.2.2; show 8 + (Z.2.2.1 + 11) + 128 * 70 ≤ 84000; omega⟩
  have hk : kd < 13 := by
    cases hq : vwCl[kd]? with
    | none => rw [hq] at hc; cases hc
    | some q => exact ez_k13 hq
  obtain ⟨q, hq, hq1⟩ : ∃ q : vw_C, vwCl[kd]? = some q ∧ q.1 = Z.1.cls := by
    cases hq : vwCl[kd]? with
    | none => rw [hq] at hc; cases hc
    | some q => rw [hq] at hc; exact ⟨q, rfl, Option.some.inj hc⟩
  obtain ⟨q0, hw0, -⟩ := ez_get (b := true) (ad := ad) (cy := cy) (M := M) (ez_inb true kd (by omega) 0 hi)
  rw [ez_objAt hk] at hw0
  have hrv := va_recv hK hP hq hw0
  rw [hq1] at hrv
  obtain ⟨hD2, hA⟩ := ez_D_of hD
  refine eb_ecall (G := (true, l, D, ad, cy)) (P := fun x M' => x = some (eI r) ∧ Q M') (va_runV (b := ad kd 0) (As := As.map (ez_cv ad)) (rest := rest) ⟨hx, hb, hml, hown, hts⟩ hCt ⟨callB_of As.length hts (lw_good hO.1) rfl rfl rfl (hts _ (lw_in hO.2.1)) (hts _ (lw_in hl0)) hO.2.2.1 hR, hts _ (lw_in hs.1), hts _ (lw_in hs.2)⟩ ⟨ez_blind, hrv, fun U hU hW => ⟨rfl, by rw [hU]; exact hP, ⟨va_K.moved hW.alike hK, ez_nestU hW hN, ez_xt.of (G := (true, l, D, ad, cy)) ((hE.up hW hS hU).nr hA)⟩, hD2⟩⟩ rfl (by simp) hl.1 rfl (lv_room h8) hd ⟨by decide, by decide⟩) hA hS (fun x M' H1 locs1 hp hP1 hS1 => ?_)
  obtain ⟨rfl, hp⟩ := hp
  exact kk M' hp H1 locs1 lsA (ez_D hD) hP1 hS1 hl
theorem el_eq {p : Program} {e : Env} {s : State} {m : MethodId} {below : List Frame} {meth : Method} {c : Code} {l : Launch} {b L : Nat} {xs : Nat → Int32} {D : va_G} {cy : Nat → ClassId} {ad : Nat → Nat → Nat} {pc : Nat} {ls : List (Nat × Value)} {st : List Value} {M : EzM} {r : Int32} {off : Int} (hC : EL0 p s m meth c b L xs D cy ad) (t : Nat) (hd : decode code pc = .ok (.if_icmp .eq off, 3)) (ht : (pc : Int) + off = (t : Int)) (kk : El p e s m below meth c l b D cy ad t ls st M) : El p e s m below meth c l b D cy ad pc ls (.int r :: .int r :: st) M :=
  fun H locs lsA hD hP hS hl => lv_icmp_eq hC.1.1 hC.1.2.1 hd ht (fun _ => kk H locs lsA hD hP hS hl) (fun h => absurd rfl h)
theorem el_gt {p : Program} {e : Env} {s : State} {m : MethodId} {below : List Frame} {meth : Method} {c : Code} {l : Launch} {b L : Nat} {xs : Nat → Int32} {D : va_G} {cy : Nat → ClassId} {ad : Nat → Nat → Nat} {pc : Nat} {ls : List (Nat × Value)} {st : List Value} {M : EzM} {x y : Int32} {off : Int} (hC : EL0 p s m meth c b L xs D cy ad) (n t : Nat) (hd : decode code pc = .ok (.if_icmp .gt off, 3)) (hn : pc + 3 = n) (ht : (pc : Int) + off = (t : Int)) (k1 : y < x → El p e s m below meth c l b D cy ad t ls st M) (k2 : ¬ y < x → El p e s m below meth c l b D cy ad n ls st M) : El p e s m below meth c l b D cy ad pc ls (.int y :: .int x :: st) M := by
  subst hn
  exact fun H locs lsA hD hP hS hl => lv_icmp_gt hC.1.1 hC.1.2.1 hd ht (fun h => k1 h H locs lsA hD hP hS hl) (fun h => k2 h H locs lsA hD hP hS hl)
theorem el_tin {p : Program} {e : Env} {s : State} {m : MethodId} {below : List Frame} {meth : Method} {c : Code} {l : Launch} {b L : Nat} {xs : Nat → Int32} {D : va_G} {cy : Nat → ClassId} {ad : Nat → Nat → Nat} {pc : Nat} {ls : List (Nat × Value)} {st : List Value} {M : EzM} {x : Int32} {dflt lo hi off : Int} {offs : Array Int} {len : Nat} (hC : EL0 p s m meth c b L xs D cy ad) (t : Nat) (hd : decode code pc = .ok (.tableswitch dflt lo hi offs, len)) (h1 : ¬ x.toInt < lo) (h2 : ¬ hi < x.toInt) (ho : offs[(x.toInt - lo).toNat]? = some off) (ht : (pc : Int) + off = (t : Int)) (kk : El p e s m below meth c l b D cy ad t ls st M) : El p e s m below meth c l b D cy ad pc ls (.int x :: st) M :=
  fun H locs lsA hD hP hS hl => lv_tableIn hC.1.1 hC.1.2.1 hd h1 h2 ho ht (kk H locs lsA hD hP hS hl)
theorem el_tout {p : Program} {e : Env} {s : State} {m : MethodId} {below : List Frame} {meth : Method} {c : Code} {l : Launch} {b L : Nat} {xs : Nat → Int32} {D : va_G} {cy : Nat → ClassId} {ad : Nat → Nat → Nat} {pc : Nat} {ls : List (Nat × Value)} {st : List Value} {M : EzM} {x : Int32} {dflt lo hi : Int} {offs : Array Int} {len : Nat} (hC : EL0 p s m meth c b L xs D cy ad) (t : Nat) (hd : decode code pc = .ok (.tableswitch dflt lo hi offs, len)) (h : x.toInt < lo ∨ hi < x.toInt) (ht : (pc : Int) + dflt = (t : Int)) (kk : El p e s m below meth c l b D cy ad t ls st M) : El p e s m below meth c l b D cy ad pc ls (.int x :: st) M :=
  fun H locs lsA hD hP hS hl => lv_tableOut hC.1.1 hC.1.2.1 hd h ht (kk H locs lsA hD hP hS hl)
theorem lw_c0 {p : Program} {e : Env} {s : State} {m : MethodId} {below : List Frame} {meth : Method} {c : Code} {l : Launch} {b L : Nat} {xs : Nat → Int32} {D : va_G} {cy : Nat → ClassId} {ad : Nat → Nat → Nat} {i : Nat} {q : EpS} {M : EzM} (hC : EL0 p s m meth c b L xs D cy ad) (hL : L ≤ 384) (hi : i + 6 ≤ L) (hW : WF q) (hc : RC q M) (hm : RM q M) (K : ∀ (q2 : EpS) (M2 : EzM), WF q2 → RC q2 M2 → RM q2 M2 → El p e s m below meth c l b D cy ad 1097 [(3, .int (nI i)), (2, .ref (ad 12 0)), (1, .ref (ad 11 0)), (0, .ref b)] [] M2) : El p e s m below meth c l b D cy ad 156 [(3, .int (nI i)), (2, .ref (ad 12 0)), (1, .ref (ad 11 0)), (0, .ref b)] [] M := by
  obtain ⟨r, q2, hW2, h1, h2⟩ := op_feed hW (xs (i + 1)) (((xs (i + 2)).toInt64 <<< ((32 : Int32).toInt64 &&& 63)) ||| ((xs (i + 3)).toInt64 &&& 4294967295))
  refine el_aload hC 2 157 dL_law_156 rfl rfl ?_
  refine el_arg hC 1 162 (by decide) (by omega) hL dL_law_157 dL_law_158 dL_law_159 dL_law_160 dL_law_161 rfl ?_
  refine el_arg hC 2 167 (by decide) (by omega) hL dL_law_162 dL_law_163 dL_law_164 dL_law_165 dL_law_166 rfl ?_
  refine el_i2l hC 168 dL_law_167 rfl ?_
  refine el_bipush hC 32 170 dL_law_168 rfl (by decide) ?_
  refine el_lshl hC 171 dL_law_170 rfl ?_
  refine el_arg hC 3 176 (by decide) (by omega) hL dL_law_171 dL_law_172 dL_law_173 dL_law_174 dL_law_175 rfl ?_
  refine el_i2l hC 177 dL_law_176 rfl ?_
  refine el_ldc2 hC 4294967295 180 dL_law_177 rfl cn_L_13 ?_
  refine el_land hC 181 dL_law_180 rfl ?_
  refine el_lor hC 182 dL_law_181 rfl ?_
  refine el_call hC (Z := mX11_feed) 11 185 [eI (xs (i + 1)), eL (((xs (i + 2)).toInt64 <<< ((32 : Int32).toInt64 &&& 63)) ||| ((xs (i + 3)).toInt64 &&& 4294967295))] [] dL_law_182 rfl rfl ok_X11_feed in_X11_feed (by decide) (by decide) ln_L_15 (by decide) (h1 (true, l, D, ad, cy) 70 M (by omega) hc) (fun M1 hx1 => ?_)
  refine el_aload hC 1 186 dL_law_185 rfl rfl ?_
  refine el_arg hC 1 191 (by decide) (by omega) hL dL_law_186 dL_law_187 dL_law_188 dL_law_189 dL_law_190 rfl ?_
  refine el_arg hC 2 196 (by decide) (by omega) hL dL_law_191 dL_law_192 dL_law_193 dL_law_194 dL_law_195 rfl ?_
  refine el_i2l hC 197 dL_law_196 rfl ?_
  refine el_bipush hC 32 199 dL_law_197 rfl (by decide) ?_
  refine el_lshl hC 200 dL_law_199 rfl ?_
  refine el_arg hC 3 205 (by decide) (by omega) hL dL_law_200 dL_law_201 dL_law_202 dL_law_203 dL_law_204 rfl ?_
  refine el_i2l hC 206 dL_law_205 rfl ?_
  refine el_ldc2 hC 4294967295 209 dL_law_206 rfl cn_L_13 ?_
  refine el_land hC 210 dL_law_209 rfl ?_
  refine el_lor hC 211 dL_law_210 rfl ?_
  refine el_call hC (Z := mX12_feed) 12 214 [eI (xs (i + 1)), eL (((xs (i + 2)).toInt64 <<< ((32 : Int32).toInt64 &&& 63)) ||| ((xs (i + 3)).toInt64 &&& 4294967295))] [.int r] dL_law_211 rfl rfl ok_X12_feed in_X12_feed (by decide) (by decide) ln_L_19 (Nat.le_of_ble_eq_true rfl) (h2 (l, D, ad, cy) 70 M1 (by omega) (hm.cc hx1.2)) (fun M2 hx2 => ?_)
  refine el_eq hC 1097 dL_law_214 (by decide) ?_
  exact K q2 M2 hW2 (hx1.1.cm hW2 hx2.2) hx2.1
theorem lw_c1 {p : Program} {e : Env} {s : State} {m : MethodId} {below : List Frame} {meth : Method} {c : Code} {l : Launch} {b L : Nat} {xs : Nat → Int32} {D : va_G} {cy : Nat → ClassId} {ad : Nat → Nat → Nat} {i : Nat} {q : EpS} {M : EzM} (hC : EL0 p s m meth c b L xs D cy ad) (hL : L ≤ 384) (hi : i + 6 ≤ L) (hW : WF q) (hc : RC q M) (hm : RM q M) (K : ∀ (q2 : EpS) (M2 : EzM), WF q2 → RC q2 M2 → RM q2 M2 → El p e s m below meth c l b D cy ad 1097 [(3, .int (nI i)), (2, .ref (ad 12 0)), (1, .ref (ad 11 0)), (0, .ref b)] [] M2) : El p e s m below meth c l b D cy ad 219 [(3, .int (nI i)), (2, .ref (ad 12 0)), (1, .ref (ad 11 0)), (0, .ref b)] [] M := by
  obtain ⟨r, q2, hW2, h1, h2⟩ := op_maze hW 
  refine el_aload hC 2 220 dL_law_219 rfl rfl ?_
  refine el_call hC (Z := mX11_maze) 11 223 [] [] dL_law_220 rfl rfl ok_X11_maze in_X11_maze (by decide) (by decide) ln_L_20 (by decide) (h1 (true, l, D, ad, cy) 70 M (by omega) hc) (fun M1 hx1 => ?_)
  refine el_aload hC 1 224 dL_law_223 rfl rfl ?_
  refine el_call hC (Z := mX12_maze) 12 227 [] [.int r] dL_law_224 rfl rfl ok_X12_maze in_X12_maze (by decide) (by decide) ln_L_24 (Nat.le_of_ble_eq_true rfl) (h2 (l, D, ad, cy) 70 M1 (by omega) (hm.cc hx1.2)) (fun M2 hx2 => ?_)
  refine el_eq hC 1097 dL_law_227 (by decide) ?_
  exact K q2 M2 hW2 (hx1.1.cm hW2 hx2.2) hx2.1
theorem lw_c2 {p : Program} {e : Env} {s : State} {m : MethodId} {below : List Frame} {meth : Method} {c : Code} {l : Launch} {b L : Nat} {xs : Nat → Int32} {D : va_G} {cy : Nat → ClassId} {ad : Nat → Nat → Nat} {i : Nat} {q : EpS} {M : EzM} (hC : EL0 p s m meth c b L xs D cy ad) (hL : L ≤ 384) (hi : i + 6 ≤ L) (hW : WF q) (hc : RC q M) (hm : RM q M) (K : ∀ (q2 : EpS) (M2 : EzM), WF q2 → RC q2 M2 → RM q2 M2 → El p e s m below meth c l b D cy ad 1097 [(3, .int (nI i)), (2, .ref (ad 12 0)), (1, .ref (ad 11 0)), (0, .ref b)] [] M2) : El p e s m below meth c l b D cy ad 232 [(3, .int (nI i)), (2, .ref (ad 12 0)), (1, .ref (ad 11 0)), (0, .ref b)] [] M := by
  obtain ⟨r, q2, hW2, h1, h2⟩ := op_text hW 
  refine el_aload hC 2 233 dL_law_232 rfl rfl ?_
  refine el_call hC (Z := mX11_text) 11 236 [] [] dL_law_233 rfl rfl ok_X11_text in_X11_text (by decide) (by decide) ln_L_25 (by decide) (h1 (true, l, D, ad, cy) 70 M (by omega) hc) (fun M1 hx1 => ?_)
  refine el_aload hC 1 237 dL_law_236 rfl rfl ?_
  refine el_call hC (Z := mX12_text) 12 240 [] [.int r] dL_law_237 rfl rfl ok_X12_text in_X12_text (by decide) (by decide) ln_L_28 (Nat.le_of_ble_eq_true rfl) (h2 (l, D, ad, cy) 70 M1 (by omega) (hm.cc hx1.2)) (fun M2 hx2 => ?_)
  refine el_eq hC 1097 dL_law_240 (by decide) ?_
  exact K q2 M2 hW2 (hx1.1.cm hW2 hx2.2) hx2.1
theorem lw_c3 {p : Program} {e : Env} {s : State} {m : MethodId} {below : List Frame} {meth : Method} {c : Code} {l : Launch} {b L : Nat} {xs : Nat → Int32} {D : va_G} {cy : Nat → ClassId} {ad : Nat → Nat → Nat} {i : Nat} {q : EpS} {M : EzM} (hC : EL0 p s m meth c b L xs D cy ad) (hL : L ≤ 384) (hi : i + 6 ≤ L) (hW : WF q) (hc : RC q M) (hm : RM q M) (K : ∀ (q2 : EpS) (M2 : EzM), WF q2 → RC q2 M2 → RM q2 M2 → El p e s m below meth c l b D cy ad 1097 [(3, .int (nI i)), (2, .ref (ad 12 0)), (1, .ref (ad 11 0)), (0, .ref b)] [] M2) : El p e s m below meth c l b D cy ad 245 [(3, .int (nI i)), (2, .ref (ad 12 0)), (1, .ref (ad 11 0)), (0, .ref b)] [] M := by
  obtain ⟨r, q2, hW2, h1, h2⟩ := op_force hW (xs (i + 1))
  refine el_aload hC 2 246 dL_law_245 rfl rfl ?_
  refine el_arg hC 1 251 (by decide) (by omega) hL dL_law_246 dL_law_247 dL_law_248 dL_law_249 dL_law_250 rfl ?_
  refine el_call hC (Z := mX11_force) 11 254 [eI (xs (i + 1))] [] dL_law_251 rfl rfl ok_X11_force in_X11_force (by decide) (by decide) ln_L_29 (by decide) (h1 (true, l, D, ad, cy) 70 M (by omega) hc) (fun M1 hx1 => ?_)
  refine el_aload hC 1 255 dL_law_254 rfl rfl ?_
  refine el_arg hC 1 260 (by decide) (by omega) hL dL_law_255 dL_law_256 dL_law_257 dL_law_258 dL_law_259 rfl ?_
  refine el_call hC (Z := mX12_force) 12 263 [eI (xs (i + 1))] [.int r] dL_law_260 rfl rfl ok_X12_force in_X12_force (by decide) (by decide) ln_L_33 (Nat.le_of_ble_eq_true rfl) (h2 (l, D, ad, cy) 70 M1 (by omega) (hm.cc hx1.2)) (fun M2 hx2 => ?_)
  refine el_eq hC 1097 dL_law_263 (by decide) ?_
  exact K q2 M2 hW2 (hx1.1.cm hW2 hx2.2) hx2.1
theorem lw_c4 {p : Program} {e : Env} {s : State} {m : MethodId} {below : List Frame} {meth : Method} {c : Code} {l : Launch} {b L : Nat} {xs : Nat → Int32} {D : va_G} {cy : Nat → ClassId} {ad : Nat → Nat → Nat} {i : Nat} {q : EpS} {M : EzM} (hC : EL0 p s m meth c b L xs D cy ad) (hL : L ≤ 384) (hi : i + 6 ≤ L) (hW : WF q) (hc : RC q M) (hm : RM q M) (K : ∀ (q2 : EpS) (M2 : EzM), WF q2 → RC q2 M2 → RM q2 M2 → El p e s m below meth c l b D cy ad 1097 [(3, .int (nI i)), (2, .ref (ad 12 0)), (1, .ref (ad 11 0)), (0, .ref b)] [] M2) : El p e s m below meth c l b D cy ad 268 [(3, .int (nI i)), (2, .ref (ad 12 0)), (1, .ref (ad 11 0)), (0, .ref b)] [] M := by
  obtain ⟨r, q2, hW2, h1, h2⟩ := op_leads hW (xs (i + 1)) (xs (i + 2)) (xs (i + 3))
  refine el_aload hC 2 269 dL_law_268 rfl rfl ?_
  refine el_arg hC 1 274 (by decide) (by omega) hL dL_law_269 dL_law_270 dL_law_271 dL_law_272 dL_law_273 rfl ?_
  refine el_arg hC 2 279 (by decide) (by omega) hL dL_law_274 dL_law_275 dL_law_276 dL_law_277 dL_law_278 rfl ?_
  refine el_arg hC 3 284 (by decide) (by omega) hL dL_law_279 dL_law_280 dL_law_281 dL_law_282 dL_law_283 rfl ?_
  refine el_call hC (Z := mX11_leads) 11 287 [eI (xs (i + 1)), eI (xs (i + 2)), eI (xs (i + 3))] [] dL_law_284 rfl rfl ok_X11_leads in_X11_leads (by decide) (by decide) ln_L_34 (by decide) (h1 (true, l, D, ad, cy) 70 M (by omega) hc) (fun M1 hx1 => ?_)
  refine el_aload hC 1 288 dL_law_287 rfl rfl ?_
  refine el_arg hC 1 293 (by decide) (by omega) hL dL_law_288 dL_law_289 dL_law_290 dL_law_291 dL_law_292 rfl ?_
  refine el_arg hC 2 298 (by decide) (by omega) hL dL_law_293 dL_law_294 dL_law_295 dL_law_296 dL_law_297 rfl ?_
  refine el_arg hC 3 303 (by decide) (by omega) hL dL_law_298 dL_law_299 dL_law_300 dL_law_301 dL_law_302 rfl ?_
  refine el_call hC (Z := mX12_leads) 12 306 [eI (xs (i + 1)), eI (xs (i + 2)), eI (xs (i + 3))] [.int r] dL_law_303 rfl rfl ok_X12_leads in_X12_leads (by decide) (by decide) ln_L_38 (Nat.le_of_ble_eq_true rfl) (h2 (l, D, ad, cy) 70 M1 (by omega) (hm.cc hx1.2)) (fun M2 hx2 => ?_)
  refine el_eq hC 1097 dL_law_306 (by decide) ?_
  exact K q2 M2 hW2 (hx1.1.cm hW2 hx2.2) hx2.1
theorem lw_c5 {p : Program} {e : Env} {s : State} {m : MethodId} {below : List Frame} {meth : Method} {c : Code} {l : Launch} {b L : Nat} {xs : Nat → Int32} {D : va_G} {cy : Nat → ClassId} {ad : Nat → Nat → Nat} {i : Nat} {q : EpS} {M : EzM} (hC : EL0 p s m meth c b L xs D cy ad) (hL : L ≤ 384) (hi : i + 6 ≤ L) (hW : WF q) (hc : RC q M) (hm : RM q M) (K : ∀ (q2 : EpS) (M2 : EzM), WF q2 → RC q2 M2 → RM q2 M2 → El p e s m below meth c l b D cy ad 1097 [(3, .int (nI i)), (2, .ref (ad 12 0)), (1, .ref (ad 11 0)), (0, .ref b)] [] M2) : El p e s m below meth c l b D cy ad 311 [(3, .int (nI i)), (2, .ref (ad 12 0)), (1, .ref (ad 11 0)), (0, .ref b)] [] M := by
  obtain ⟨r, q2, hW2, h1, h2⟩ := op_pebbles hW (xs (i + 1)) (xs (i + 2)) (xs (i + 3))
  refine el_aload hC 2 312 dL_law_311 rfl rfl ?_
  refine el_arg hC 1 317 (by decide) (by omega) hL dL_law_312 dL_law_313 dL_law_314 dL_law_315 dL_law_316 rfl ?_
  refine el_arg hC 2 322 (by decide) (by omega) hL dL_law_317 dL_law_318 dL_law_319 dL_law_320 dL_law_321 rfl ?_
  refine el_arg hC 3 327 (by decide) (by omega) hL dL_law_322 dL_law_323 dL_law_324 dL_law_325 dL_law_326 rfl ?_
  refine el_call hC (Z := mX11_pebbles) 11 330 [eI (xs (i + 1)), eI (xs (i + 2)), eI (xs (i + 3))] [] dL_law_327 rfl rfl ok_X11_pebbles in_X11_pebbles (by decide) (by decide) ln_L_39 (by decide) (h1 (true, l, D, ad, cy) 70 M (by omega) hc) (fun M1 hx1 => ?_)
  refine el_aload hC 1 331 dL_law_330 rfl rfl ?_
  refine el_arg hC 1 336 (by decide) (by omega) hL dL_law_331 dL_law_332 dL_law_333 dL_law_334 dL_law_335 rfl ?_
  refine el_arg hC 2 341 (by decide) (by omega) hL dL_law_336 dL_law_337 dL_law_338 dL_law_339 dL_law_340 rfl ?_
  refine el_arg hC 3 346 (by decide) (by omega) hL dL_law_341 dL_law_342 dL_law_343 dL_law_344 dL_law_345 rfl ?_
  refine el_call hC (Z := mX12_pebbles) 12 349 [eI (xs (i + 1)), eI (xs (i + 2)), eI (xs (i + 3))] [.int r] dL_law_346 rfl rfl ok_X12_pebbles in_X12_pebbles (by decide) (by decide) ln_L_42 (Nat.le_of_ble_eq_true rfl) (h2 (l, D, ad, cy) 70 M1 (by omega) (hm.cc hx1.2)) (fun M2 hx2 => ?_)
  refine el_eq hC 1097 dL_law_349 (by decide) ?_
  exact K q2 M2 hW2 (hx1.1.cm hW2 hx2.2) hx2.1
theorem lw_c6 {p : Program} {e : Env} {s : State} {m : MethodId} {below : List Frame} {meth : Method} {c : Code} {l : Launch} {b L : Nat} {xs : Nat → Int32} {D : va_G} {cy : Nat → ClassId} {ad : Nat → Nat → Nat} {i : Nat} {q : EpS} {M : EzM} (hC : EL0 p s m meth c b L xs D cy ad) (hL : L ≤ 384) (hi : i + 6 ≤ L) (hW : WF q) (hc : RC q M) (hm : RM q M) (K : ∀ (q2 : EpS) (M2 : EzM), WF q2 → RC q2 M2 → RM q2 M2 → El p e s m below meth c l b D cy ad 1097 [(3, .int (nI i)), (2, .ref (ad 12 0)), (1, .ref (ad 11 0)), (0, .ref b)] [] M2) : El p e s m below meth c l b D cy ad 354 [(3, .int (nI i)), (2, .ref (ad 12 0)), (1, .ref (ad 11 0)), (0, .ref b)] [] M := by
  obtain ⟨r, q2, hW2, h1, h2⟩ := op_walker hW (xs (i + 1)) (xs (i + 2)) (xs (i + 3))
  refine el_aload hC 2 355 dL_law_354 rfl rfl ?_
  refine el_arg hC 1 360 (by decide) (by omega) hL dL_law_355 dL_law_356 dL_law_357 dL_law_358 dL_law_359 rfl ?_
  refine el_arg hC 2 365 (by decide) (by omega) hL dL_law_360 dL_law_361 dL_law_362 dL_law_363 dL_law_364 rfl ?_
  refine el_arg hC 3 370 (by decide) (by omega) hL dL_law_365 dL_law_366 dL_law_367 dL_law_368 dL_law_369 rfl ?_
  refine el_call hC (Z := mX11_walker) 11 373 [eI (xs (i + 1)), eI (xs (i + 2)), eI (xs (i + 3))] [] dL_law_370 rfl rfl ok_X11_walker in_X11_walker (by decide) (by decide) ln_L_43 (by decide) (h1 (true, l, D, ad, cy) 70 M (by omega) hc) (fun M1 hx1 => ?_)
  refine el_aload hC 1 374 dL_law_373 rfl rfl ?_
  refine el_arg hC 1 379 (by decide) (by omega) hL dL_law_374 dL_law_375 dL_law_376 dL_law_377 dL_law_378 rfl ?_
  refine el_arg hC 2 384 (by decide) (by omega) hL dL_law_379 dL_law_380 dL_law_381 dL_law_382 dL_law_383 rfl ?_
  refine el_arg hC 3 389 (by decide) (by omega) hL dL_law_384 dL_law_385 dL_law_386 dL_law_387 dL_law_388 rfl ?_
  refine el_call hC (Z := mX12_walker) 12 392 [eI (xs (i + 1)), eI (xs (i + 2)), eI (xs (i + 3))] [.int r] dL_law_389 rfl rfl ok_X12_walker in_X12_walker (by decide) (by decide) ln_L_46 (Nat.le_of_ble_eq_true rfl) (h2 (l, D, ad, cy) 70 M1 (by omega) (hm.cc hx1.2)) (fun M2 hx2 => ?_)
  refine el_eq hC 1097 dL_law_392 (by decide) ?_
  exact K q2 M2 hW2 (hx1.1.cm hW2 hx2.2) hx2.1
theorem lw_c7 {p : Program} {e : Env} {s : State} {m : MethodId} {below : List Frame} {meth : Method} {c : Code} {l : Launch} {b L : Nat} {xs : Nat → Int32} {D : va_G} {cy : Nat → ClassId} {ad : Nat → Nat → Nat} {i : Nat} {q : EpS} {M : EzM} (hC : EL0 p s m meth c b L xs D cy ad) (hL : L ≤ 384) (hi : i + 6 ≤ L) (hW : WF q) (hc : RC q M) (hm : RM q M) (K : ∀ (q2 : EpS) (M2 : EzM), WF q2 → RC q2 M2 → RM q2 M2 → El p e s m below meth c l b D cy ad 1097 [(3, .int (nI i)), (2, .ref (ad 12 0)), (1, .ref (ad 11 0)), (0, .ref b)] [] M2) : El p e s m below meth c l b D cy ad 397 [(3, .int (nI i)), (2, .ref (ad 12 0)), (1, .ref (ad 11 0)), (0, .ref b)] [] M := by
  obtain ⟨r, q2, hW2, h1, h2⟩ := op_told hW (xs (i + 1)) (xs (i + 2))
  refine el_aload hC 2 398 dL_law_397 rfl rfl ?_
  refine el_arg hC 1 403 (by decide) (by omega) hL dL_law_398 dL_law_399 dL_law_400 dL_law_401 dL_law_402 rfl ?_
  refine el_arg hC 2 408 (by decide) (by omega) hL dL_law_403 dL_law_404 dL_law_405 dL_law_406 dL_law_407 rfl ?_
  refine el_call hC (Z := mX11_told) 11 411 [eI (xs (i + 1)), eI (xs (i + 2))] [] dL_law_408 rfl rfl ok_X11_told in_X11_told (by decide) (by decide) ln_L_47 (by decide) (h1 (true, l, D, ad, cy) 70 M (by omega) hc) (fun M1 hx1 => ?_)
  refine el_aload hC 1 412 dL_law_411 rfl rfl ?_
  refine el_arg hC 1 417 (by decide) (by omega) hL dL_law_412 dL_law_413 dL_law_414 dL_law_415 dL_law_416 rfl ?_
  refine el_arg hC 2 422 (by decide) (by omega) hL dL_law_417 dL_law_418 dL_law_419 dL_law_420 dL_law_421 rfl ?_
  refine el_call hC (Z := mX12_told) 12 425 [eI (xs (i + 1)), eI (xs (i + 2))] [.int r] dL_law_422 rfl rfl ok_X12_told in_X12_told (by decide) (by decide) ln_L_51 (Nat.le_of_ble_eq_true rfl) (h2 (l, D, ad, cy) 70 M1 (by omega) (hm.cc hx1.2)) (fun M2 hx2 => ?_)
  refine el_eq hC 1097 dL_law_425 (by decide) ?_
  exact K q2 M2 hW2 (hx1.1.cm hW2 hx2.2) hx2.1
theorem lw_c8 {p : Program} {e : Env} {s : State} {m : MethodId} {below : List Frame} {meth : Method} {c : Code} {l : Launch} {b L : Nat} {xs : Nat → Int32} {D : va_G} {cy : Nat → ClassId} {ad : Nat → Nat → Nat} {i : Nat} {q : EpS} {M : EzM} (hC : EL0 p s m meth c b L xs D cy ad) (hL : L ≤ 384) (hi : i + 6 ≤ L) (hW : WF q) (hc : RC q M) (hm : RM q M) (K : ∀ (q2 : EpS) (M2 : EzM), WF q2 → RC q2 M2 → RM q2 M2 → El p e s m below meth c l b D cy ad 1097 [(3, .int (nI i)), (2, .ref (ad 12 0)), (1, .ref (ad 11 0)), (0, .ref b)] [] M2) : El p e s m below meth c l b D cy ad 430 [(3, .int (nI i)), (2, .ref (ad 12 0)), (1, .ref (ad 11 0)), (0, .ref b)] [] M := by
  obtain ⟨r, q2, hW2, h1, h2⟩ := op_says hW (xs (i + 1)) (xs (i + 2))
  refine el_aload hC 2 431 dL_law_430 rfl rfl ?_
  refine el_arg hC 1 436 (by decide) (by omega) hL dL_law_431 dL_law_432 dL_law_433 dL_law_434 dL_law_435 rfl ?_
  refine el_arg hC 2 441 (by decide) (by omega) hL dL_law_436 dL_law_437 dL_law_438 dL_law_439 dL_law_440 rfl ?_
  refine el_call hC (Z := mX11_says) 11 444 [eI (xs (i + 1)), eI (xs (i + 2))] [] dL_law_441 rfl rfl ok_X11_says in_X11_says (by decide) (by decide) ln_L_52 (by decide) (h1 (true, l, D, ad, cy) 70 M (by omega) hc) (fun M1 hx1 => ?_)
  refine el_aload hC 1 445 dL_law_444 rfl rfl ?_
  refine el_arg hC 1 450 (by decide) (by omega) hL dL_law_445 dL_law_446 dL_law_447 dL_law_448 dL_law_449 rfl ?_
  refine el_arg hC 2 455 (by decide) (by omega) hL dL_law_450 dL_law_451 dL_law_452 dL_law_453 dL_law_454 rfl ?_
  refine el_call hC (Z := mX12_says) 12 458 [eI (xs (i + 1)), eI (xs (i + 2))] [.int r] dL_law_455 rfl rfl ok_X12_says in_X12_says (by decide) (by decide) ln_L_55 (Nat.le_of_ble_eq_true rfl) (h2 (l, D, ad, cy) 70 M1 (by omega) (hm.cc hx1.2)) (fun M2 hx2 => ?_)
  refine el_eq hC 1097 dL_law_458 (by decide) ?_
  exact K q2 M2 hW2 (hx1.1.cm hW2 hx2.2) hx2.1
theorem lw_c9 {p : Program} {e : Env} {s : State} {m : MethodId} {below : List Frame} {meth : Method} {c : Code} {l : Launch} {b L : Nat} {xs : Nat → Int32} {D : va_G} {cy : Nat → ClassId} {ad : Nat → Nat → Nat} {i : Nat} {q : EpS} {M : EzM} (hC : EL0 p s m meth c b L xs D cy ad) (hL : L ≤ 384) (hi : i + 6 ≤ L) (hW : WF q) (hc : RC q M) (hm : RM q M) (K : ∀ (q2 : EpS) (M2 : EzM), WF q2 → RC q2 M2 → RM q2 M2 → El p e s m below meth c l b D cy ad 1097 [(3, .int (nI i)), (2, .ref (ad 12 0)), (1, .ref (ad 11 0)), (0, .ref b)] [] M2) : El p e s m below meth c l b D cy ad 463 [(3, .int (nI i)), (2, .ref (ad 12 0)), (1, .ref (ad 11 0)), (0, .ref b)] [] M := by
  obtain ⟨r, q2, hW2, h1, h2⟩ := op_step hW (xs (i + 1)) (xs (i + 2))
  refine el_aload hC 2 464 dL_law_463 rfl rfl ?_
  refine el_arg hC 1 469 (by decide) (by omega) hL dL_law_464 dL_law_465 dL_law_466 dL_law_467 dL_law_468 rfl ?_
  refine el_arg hC 2 474 (by decide) (by omega) hL dL_law_469 dL_law_470 dL_law_471 dL_law_472 dL_law_473 rfl ?_
  refine el_call hC (Z := mX11_step) 11 477 [eI (xs (i + 1)), eI (xs (i + 2))] [] dL_law_474 rfl rfl ok_X11_step in_X11_step (by decide) (by decide) ln_L_56 (by decide) (h1 (true, l, D, ad, cy) 70 M (by omega) hc) (fun M1 hx1 => ?_)
  refine el_aload hC 1 478 dL_law_477 rfl rfl ?_
  refine el_arg hC 1 483 (by decide) (by omega) hL dL_law_478 dL_law_479 dL_law_480 dL_law_481 dL_law_482 rfl ?_
  refine el_arg hC 2 488 (by decide) (by omega) hL dL_law_483 dL_law_484 dL_law_485 dL_law_486 dL_law_487 rfl ?_
  refine el_call hC (Z := mX12_step) 12 491 [eI (xs (i + 1)), eI (xs (i + 2))] [.int r] dL_law_488 rfl rfl ok_X12_step in_X12_step (by decide) (by decide) ln_L_59 (Nat.le_of_ble_eq_true rfl) (h2 (l, D, ad, cy) 70 M1 (by omega) (hm.cc hx1.2)) (fun M2 hx2 => ?_)
  refine el_eq hC 1097 dL_law_491 (by decide) ?_
  exact K q2 M2 hW2 (hx1.1.cm hW2 hx2.2) hx2.1
theorem lw_c10 {p : Program} {e : Env} {s : State} {m : MethodId} {below : List Frame} {meth : Method} {c : Code} {l : Launch} {b L : Nat} {xs : Nat → Int32} {D : va_G} {cy : Nat → ClassId} {ad : Nat → Nat → Nat} {i : Nat} {q : EpS} {M : EzM} (hC : EL0 p s m meth c b L xs D cy ad) (hL : L ≤ 384) (hi : i + 6 ≤ L) (hW : WF q) (hc : RC q M) (hm : RM q M) (K : ∀ (q2 : EpS) (M2 : EzM), WF q2 → RC q2 M2 → RM q2 M2 → El p e s m below meth c l b D cy ad 1097 [(3, .int (nI i)), (2, .ref (ad 12 0)), (1, .ref (ad 11 0)), (0, .ref b)] [] M2) : El p e s m below meth c l b D cy ad 496 [(3, .int (nI i)), (2, .ref (ad 12 0)), (1, .ref (ad 11 0)), (0, .ref b)] [] M := by
  obtain ⟨r, q2, hW2, h1, h2⟩ := op_run hW (xs (i + 1)) (xs (i + 2)) (xs (i + 3))
  refine el_aload hC 2 497 dL_law_496 rfl rfl ?_
  refine el_arg hC 1 502 (by decide) (by omega) hL dL_law_497 dL_law_498 dL_law_499 dL_law_500 dL_law_501 rfl ?_
  refine el_arg hC 2 507 (by decide) (by omega) hL dL_law_502 dL_law_503 dL_law_504 dL_law_505 dL_law_506 rfl ?_
  refine el_arg hC 3 512 (by decide) (by omega) hL dL_law_507 dL_law_508 dL_law_509 dL_law_510 dL_law_511 rfl ?_
  refine el_call hC (Z := mX11_run) 11 515 [eI (xs (i + 1)), eI (xs (i + 2)), eI (xs (i + 3))] [] dL_law_512 rfl rfl ok_X11_run in_X11_run (by decide) (by decide) ln_L_60 (by decide) (h1 (true, l, D, ad, cy) 70 M (by omega) hc) (fun M1 hx1 => ?_)
  refine el_aload hC 1 516 dL_law_515 rfl rfl ?_
  refine el_arg hC 1 521 (by decide) (by omega) hL dL_law_516 dL_law_517 dL_law_518 dL_law_519 dL_law_520 rfl ?_
  refine el_arg hC 2 526 (by decide) (by omega) hL dL_law_521 dL_law_522 dL_law_523 dL_law_524 dL_law_525 rfl ?_
  refine el_arg hC 3 531 (by decide) (by omega) hL dL_law_526 dL_law_527 dL_law_528 dL_law_529 dL_law_530 rfl ?_
  refine el_call hC (Z := mX12_run) 12 534 [eI (xs (i + 1)), eI (xs (i + 2)), eI (xs (i + 3))] [.int r] dL_law_531 rfl rfl ok_X12_run in_X12_run (by decide) (by decide) ln_L_63 (Nat.le_of_ble_eq_true rfl) (h2 (l, D, ad, cy) 70 M1 (by omega) (hm.cc hx1.2)) (fun M2 hx2 => ?_)
  refine el_eq hC 1097 dL_law_534 (by decide) ?_
  exact K q2 M2 hW2 (hx1.1.cm hW2 hx2.2) hx2.1
theorem lw_c11 {p : Program} {e : Env} {s : State} {m : MethodId} {below : List Frame} {meth : Method} {c : Code} {l : Launch} {b L : Nat} {xs : Nat → Int32} {D : va_G} {cy : Nat → ClassId} {ad : Nat → Nat → Nat} {i : Nat} {q : EpS} {M : EzM} (hC : EL0 p s m meth c b L xs D cy ad) (hL : L ≤ 384) (hi : i + 6 ≤ L) (hW : WF q) (hc : RC q M) (hm : RM q M) (K : ∀ (q2 : EpS) (M2 : EzM), WF q2 → RC q2 M2 → RM q2 M2 → El p e s m below meth c l b D cy ad 1097 [(3, .int (nI i)), (2, .ref (ad 12 0)), (1, .ref (ad 11 0)), (0, .ref b)] [] M2) : El p e s m below meth c l b D cy ad 539 [(3, .int (nI i)), (2, .ref (ad 12 0)), (1, .ref (ad 11 0)), (0, .ref b)] [] M := by
  obtain ⟨r, q2, hW2, h1, h2⟩ := op_ring hW (xs (i + 1)) (xs (i + 2))
  refine el_aload hC 2 540 dL_law_539 rfl rfl ?_
  refine el_arg hC 1 545 (by decide) (by omega) hL dL_law_540 dL_law_541 dL_law_542 dL_law_543 dL_law_544 rfl ?_
  refine el_arg hC 2 550 (by decide) (by omega) hL dL_law_545 dL_law_546 dL_law_547 dL_law_548 dL_law_549 rfl ?_
  refine el_call hC (Z := mX11_ring) 11 553 [eI (xs (i + 1)), eI (xs (i + 2))] [] dL_law_550 rfl rfl ok_X11_ring in_X11_ring (by decide) (by decide) ln_L_64 (by decide) (h1 (true, l, D, ad, cy) 70 M (by omega) hc) (fun M1 hx1 => ?_)
  refine el_aload hC 1 554 dL_law_553 rfl rfl ?_
  refine el_arg hC 1 559 (by decide) (by omega) hL dL_law_554 dL_law_555 dL_law_556 dL_law_557 dL_law_558 rfl ?_
  refine el_arg hC 2 564 (by decide) (by omega) hL dL_law_559 dL_law_560 dL_law_561 dL_law_562 dL_law_563 rfl ?_
  refine el_call hC (Z := mX12_ring) 12 567 [eI (xs (i + 1)), eI (xs (i + 2))] [.int r] dL_law_564 rfl rfl ok_X12_ring in_X12_ring (by decide) (by decide) ln_L_67 (Nat.le_of_ble_eq_true rfl) (h2 (l, D, ad, cy) 70 M1 (by omega) (hm.cc hx1.2)) (fun M2 hx2 => ?_)
  refine el_eq hC 1097 dL_law_567 (by decide) ?_
  exact K q2 M2 hW2 (hx1.1.cm hW2 hx2.2) hx2.1
theorem lw_c12 {p : Program} {e : Env} {s : State} {m : MethodId} {below : List Frame} {meth : Method} {c : Code} {l : Launch} {b L : Nat} {xs : Nat → Int32} {D : va_G} {cy : Nat → ClassId} {ad : Nat → Nat → Nat} {i : Nat} {q : EpS} {M : EzM} (hC : EL0 p s m meth c b L xs D cy ad) (hL : L ≤ 384) (hi : i + 6 ≤ L) (hW : WF q) (hc : RC q M) (hm : RM q M) (K : ∀ (q2 : EpS) (M2 : EzM), WF q2 → RC q2 M2 → RM q2 M2 → El p e s m below meth c l b D cy ad 1097 [(3, .int (nI i)), (2, .ref (ad 12 0)), (1, .ref (ad 11 0)), (0, .ref b)] [] M2) : El p e s m below meth c l b D cy ad 572 [(3, .int (nI i)), (2, .ref (ad 12 0)), (1, .ref (ad 11 0)), (0, .ref b)] [] M := by
  obtain ⟨r, q2, hW2, h1, h2⟩ := op_meet hW (xs (i + 1)) (xs (i + 2))
  refine el_aload hC 2 573 dL_law_572 rfl rfl ?_
  refine el_arg hC 1 578 (by decide) (by omega) hL dL_law_573 dL_law_574 dL_law_575 dL_law_576 dL_law_577 rfl ?_
  refine el_arg hC 2 583 (by decide) (by omega) hL dL_law_578 dL_law_579 dL_law_580 dL_law_581 dL_law_582 rfl ?_
  refine el_call hC (Z := mX11_meet) 11 586 [eI (xs (i + 1)), eI (xs (i + 2))] [] dL_law_583 rfl rfl ok_X11_meet in_X11_meet (by decide) (by decide) ln_L_68 (by decide) (h1 (true, l, D, ad, cy) 70 M (by omega) hc) (fun M1 hx1 => ?_)
  refine el_aload hC 1 587 dL_law_586 rfl rfl ?_
  refine el_arg hC 1 592 (by decide) (by omega) hL dL_law_587 dL_law_588 dL_law_589 dL_law_590 dL_law_591 rfl ?_
  refine el_arg hC 2 597 (by decide) (by omega) hL dL_law_592 dL_law_593 dL_law_594 dL_law_595 dL_law_596 rfl ?_
  refine el_call hC (Z := mX12_meet) 12 600 [eI (xs (i + 1)), eI (xs (i + 2))] [.int r] dL_law_597 rfl rfl ok_X12_meet in_X12_meet (by decide) (by decide) ln_L_71 (Nat.le_of_ble_eq_true rfl) (h2 (l, D, ad, cy) 70 M1 (by omega) (hm.cc hx1.2)) (fun M2 hx2 => ?_)
  refine el_eq hC 1097 dL_law_600 (by decide) ?_
  exact K q2 M2 hW2 (hx1.1.cm hW2 hx2.2) hx2.1
theorem lw_c13 {p : Program} {e : Env} {s : State} {m : MethodId} {below : List Frame} {meth : Method} {c : Code} {l : Launch} {b L : Nat} {xs : Nat → Int32} {D : va_G} {cy : Nat → ClassId} {ad : Nat → Nat → Nat} {i : Nat} {q : EpS} {M : EzM} (hC : EL0 p s m meth c b L xs D cy ad) (hL : L ≤ 384) (hi : i + 6 ≤ L) (hW : WF q) (hc : RC q M) (hm : RM q M) (K : ∀ (q2 : EpS) (M2 : EzM), WF q2 → RC q2 M2 → RM q2 M2 → El p e s m below meth c l b D cy ad 1097 [(3, .int (nI i)), (2, .ref (ad 12 0)), (1, .ref (ad 11 0)), (0, .ref b)] [] M2) : El p e s m below meth c l b D cy ad 605 [(3, .int (nI i)), (2, .ref (ad 12 0)), (1, .ref (ad 11 0)), (0, .ref b)] [] M := by
  obtain ⟨r, q2, hW2, h1, h2⟩ := op_alike hW (xs (i + 1)) (xs (i + 2))
  refine el_aload hC 2 606 dL_law_605 rfl rfl ?_
  refine el_arg hC 1 611 (by decide) (by omega) hL dL_law_606 dL_law_607 dL_law_608 dL_law_609 dL_law_610 rfl ?_
  refine el_arg hC 2 616 (by decide) (by omega) hL dL_law_611 dL_law_612 dL_law_613 dL_law_614 dL_law_615 rfl ?_
  refine el_call hC (Z := mX11_alike) 11 619 [eI (xs (i + 1)), eI (xs (i + 2))] [] dL_law_616 rfl rfl ok_X11_alike in_X11_alike (by decide) (by decide) ln_L_72 (by decide) (h1 (true, l, D, ad, cy) 70 M (by omega) hc) (fun M1 hx1 => ?_)
  refine el_aload hC 1 620 dL_law_619 rfl rfl ?_
  refine el_arg hC 1 625 (by decide) (by omega) hL dL_law_620 dL_law_621 dL_law_622 dL_law_623 dL_law_624 rfl ?_
  refine el_arg hC 2 630 (by decide) (by omega) hL dL_law_625 dL_law_626 dL_law_627 dL_law_628 dL_law_629 rfl ?_
  refine el_call hC (Z := mX12_alike) 12 633 [eI (xs (i + 1)), eI (xs (i + 2))] [.int r] dL_law_630 rfl rfl ok_X12_alike in_X12_alike (by decide) (by decide) ln_L_75 (Nat.le_of_ble_eq_true rfl) (h2 (l, D, ad, cy) 70 M1 (by omega) (hm.cc hx1.2)) (fun M2 hx2 => ?_)
  refine el_eq hC 1097 dL_law_633 (by decide) ?_
  exact K q2 M2 hW2 (hx1.1.cm hW2 hx2.2) hx2.1
theorem lw_c14 {p : Program} {e : Env} {s : State} {m : MethodId} {below : List Frame} {meth : Method} {c : Code} {l : Launch} {b L : Nat} {xs : Nat → Int32} {D : va_G} {cy : Nat → ClassId} {ad : Nat → Nat → Nat} {i : Nat} {q : EpS} {M : EzM} (hC : EL0 p s m meth c b L xs D cy ad) (hL : L ≤ 384) (hi : i + 6 ≤ L) (hW : WF q) (hc : RC q M) (hm : RM q M) (K : ∀ (q2 : EpS) (M2 : EzM), WF q2 → RC q2 M2 → RM q2 M2 → El p e s m below meth c l b D cy ad 1097 [(3, .int (nI i)), (2, .ref (ad 12 0)), (1, .ref (ad 11 0)), (0, .ref b)] [] M2) : El p e s m below meth c l b D cy ad 638 [(3, .int (nI i)), (2, .ref (ad 12 0)), (1, .ref (ad 11 0)), (0, .ref b)] [] M := by
  obtain ⟨r, q2, hW2, h1, h2⟩ := op_tells hW (xs (i + 1)) (xs (i + 2)) (xs (i + 3))
  refine el_aload hC 2 639 dL_law_638 rfl rfl ?_
  refine el_arg hC 1 644 (by decide) (by omega) hL dL_law_639 dL_law_640 dL_law_641 dL_law_642 dL_law_643 rfl ?_
  refine el_arg hC 2 649 (by decide) (by omega) hL dL_law_644 dL_law_645 dL_law_646 dL_law_647 dL_law_648 rfl ?_
  refine el_arg hC 3 654 (by decide) (by omega) hL dL_law_649 dL_law_650 dL_law_651 dL_law_652 dL_law_653 rfl ?_
  refine el_call hC (Z := mX11_tells) 11 657 [eI (xs (i + 1)), eI (xs (i + 2)), eI (xs (i + 3))] [] dL_law_654 rfl rfl ok_X11_tells in_X11_tells (by decide) (by decide) ln_L_76 (by decide) (h1 (true, l, D, ad, cy) 70 M (by omega) hc) (fun M1 hx1 => ?_)
  refine el_aload hC 1 658 dL_law_657 rfl rfl ?_
  refine el_arg hC 1 663 (by decide) (by omega) hL dL_law_658 dL_law_659 dL_law_660 dL_law_661 dL_law_662 rfl ?_
  refine el_arg hC 2 668 (by decide) (by omega) hL dL_law_663 dL_law_664 dL_law_665 dL_law_666 dL_law_667 rfl ?_
  refine el_arg hC 3 673 (by decide) (by omega) hL dL_law_668 dL_law_669 dL_law_670 dL_law_671 dL_law_672 rfl ?_
  refine el_call hC (Z := mX12_tells) 12 676 [eI (xs (i + 1)), eI (xs (i + 2)), eI (xs (i + 3))] [.int r] dL_law_673 rfl rfl ok_X12_tells in_X12_tells (by decide) (by decide) ln_L_79 (Nat.le_of_ble_eq_true rfl) (h2 (l, D, ad, cy) 70 M1 (by omega) (hm.cc hx1.2)) (fun M2 hx2 => ?_)
  refine el_eq hC 1097 dL_law_676 (by decide) ?_
  exact K q2 M2 hW2 (hx1.1.cm hW2 hx2.2) hx2.1
theorem lw_c15 {p : Program} {e : Env} {s : State} {m : MethodId} {below : List Frame} {meth : Method} {c : Code} {l : Launch} {b L : Nat} {xs : Nat → Int32} {D : va_G} {cy : Nat → ClassId} {ad : Nat → Nat → Nat} {i : Nat} {q : EpS} {M : EzM} (hC : EL0 p s m meth c b L xs D cy ad) (hL : L ≤ 384) (hi : i + 6 ≤ L) (hW : WF q) (hc : RC q M) (hm : RM q M) (K : ∀ (q2 : EpS) (M2 : EzM), WF q2 → RC q2 M2 → RM q2 M2 → El p e s m below meth c l b D cy ad 1097 [(3, .int (nI i)), (2, .ref (ad 12 0)), (1, .ref (ad 11 0)), (0, .ref b)] [] M2) : El p e s m below meth c l b D cy ad 681 [(3, .int (nI i)), (2, .ref (ad 12 0)), (1, .ref (ad 11 0)), (0, .ref b)] [] M := by
  obtain ⟨r, q2, hW2, h1, h2⟩ := op_way hW (xs (i + 1)) (xs (i + 2))
  refine el_aload hC 2 682 dL_law_681 rfl rfl ?_
  refine el_arg hC 1 687 (by decide) (by omega) hL dL_law_682 dL_law_683 dL_law_684 dL_law_685 dL_law_686 rfl ?_
  refine el_arg hC 2 692 (by decide) (by omega) hL dL_law_687 dL_law_688 dL_law_689 dL_law_690 dL_law_691 rfl ?_
  refine el_call hC (Z := mX11_way) 11 695 [eI (xs (i + 1)), eI (xs (i + 2))] [] dL_law_692 rfl rfl ok_X11_way in_X11_way (by decide) (by decide) ln_L_80 (by decide) (h1 (true, l, D, ad, cy) 70 M (by omega) hc) (fun M1 hx1 => ?_)
  refine el_aload hC 1 696 dL_law_695 rfl rfl ?_
  refine el_arg hC 1 701 (by decide) (by omega) hL dL_law_696 dL_law_697 dL_law_698 dL_law_699 dL_law_700 rfl ?_
  refine el_arg hC 2 706 (by decide) (by omega) hL dL_law_701 dL_law_702 dL_law_703 dL_law_704 dL_law_705 rfl ?_
  refine el_call hC (Z := mX12_way) 12 709 [eI (xs (i + 1)), eI (xs (i + 2))] [.int r] dL_law_706 rfl rfl ok_X12_way in_X12_way (by decide) (by decide) ln_L_83 (Nat.le_of_ble_eq_true rfl) (h2 (l, D, ad, cy) 70 M1 (by omega) (hm.cc hx1.2)) (fun M2 hx2 => ?_)
  refine el_eq hC 1097 dL_law_709 (by decide) ?_
  exact K q2 M2 hW2 (hx1.1.cm hW2 hx2.2) hx2.1
theorem lw_c16 {p : Program} {e : Env} {s : State} {m : MethodId} {below : List Frame} {meth : Method} {c : Code} {l : Launch} {b L : Nat} {xs : Nat → Int32} {D : va_G} {cy : Nat → ClassId} {ad : Nat → Nat → Nat} {i : Nat} {q : EpS} {M : EzM} (hC : EL0 p s m meth c b L xs D cy ad) (hL : L ≤ 384) (hi : i + 6 ≤ L) (hW : WF q) (hc : RC q M) (hm : RM q M) (K : ∀ (q2 : EpS) (M2 : EzM), WF q2 → RC q2 M2 → RM q2 M2 → El p e s m below meth c l b D cy ad 1097 [(3, .int (nI i)), (2, .ref (ad 12 0)), (1, .ref (ad 11 0)), (0, .ref b)] [] M2) : El p e s m below meth c l b D cy ad 714 [(3, .int (nI i)), (2, .ref (ad 12 0)), (1, .ref (ad 11 0)), (0, .ref b)] [] M := by
  obtain ⟨r, q2, hW2, h1, h2⟩ := op_all hW (xs (i + 1)) (xs (i + 2))
  refine el_aload hC 2 715 dL_law_714 rfl rfl ?_
  refine el_arg hC 1 720 (by decide) (by omega) hL dL_law_715 dL_law_716 dL_law_717 dL_law_718 dL_law_719 rfl ?_
  refine el_arg hC 2 725 (by decide) (by omega) hL dL_law_720 dL_law_721 dL_law_722 dL_law_723 dL_law_724 rfl ?_
  refine el_call hC (Z := mX11_all) 11 728 [eI (xs (i + 1)), eI (xs (i + 2))] [] dL_law_725 rfl rfl ok_X11_all in_X11_all (by decide) (by decide) ln_L_84 (by decide) (h1 (true, l, D, ad, cy) 70 M (by omega) hc) (fun M1 hx1 => ?_)
  refine el_aload hC 1 729 dL_law_728 rfl rfl ?_
  refine el_arg hC 1 734 (by decide) (by omega) hL dL_law_729 dL_law_730 dL_law_731 dL_law_732 dL_law_733 rfl ?_
  refine el_arg hC 2 739 (by decide) (by omega) hL dL_law_734 dL_law_735 dL_law_736 dL_law_737 dL_law_738 rfl ?_
  refine el_call hC (Z := mX12_all) 12 742 [eI (xs (i + 1)), eI (xs (i + 2))] [.int r] dL_law_739 rfl rfl ok_X12_all in_X12_all (by decide) (by decide) ln_L_87 (Nat.le_of_ble_eq_true rfl) (h2 (l, D, ad, cy) 70 M1 (by omega) (hm.cc hx1.2)) (fun M2 hx2 => ?_)
  refine el_eq hC 1097 dL_law_742 (by decide) ?_
  exact K q2 M2 hW2 (hx1.1.cm hW2 hx2.2) hx2.1
theorem lw_c17 {p : Program} {e : Env} {s : State} {m : MethodId} {below : List Frame} {meth : Method} {c : Code} {l : Launch} {b L : Nat} {xs : Nat → Int32} {D : va_G} {cy : Nat → ClassId} {ad : Nat → Nat → Nat} {i : Nat} {q : EpS} {M : EzM} (hC : EL0 p s m meth c b L xs D cy ad) (hL : L ≤ 384) (hi : i + 6 ≤ L) (hW : WF q) (hc : RC q M) (hm : RM q M) (K : ∀ (q2 : EpS) (M2 : EzM), WF q2 → RC q2 M2 → RM q2 M2 → El p e s m below meth c l b D cy ad 1097 [(3, .int (nI i)), (2, .ref (ad 12 0)), (1, .ref (ad 11 0)), (0, .ref b)] [] M2) : El p e s m below meth c l b D cy ad 747 [(3, .int (nI i)), (2, .ref (ad 12 0)), (1, .ref (ad 11 0)), (0, .ref b)] [] M := by
  obtain ⟨r, q2, hW2, h1, h2⟩ := op_free hW (xs (i + 1))
  refine el_aload hC 2 748 dL_law_747 rfl rfl ?_
  refine el_arg hC 1 753 (by decide) (by omega) hL dL_law_748 dL_law_749 dL_law_750 dL_law_751 dL_law_752 rfl ?_
  refine el_call hC (Z := mX11_free) 11 756 [eI (xs (i + 1))] [] dL_law_753 rfl rfl ok_X11_free in_X11_free (by decide) (by decide) ln_L_88 (by decide) (h1 (true, l, D, ad, cy) 70 M (by omega) hc) (fun M1 hx1 => ?_)
  refine el_aload hC 1 757 dL_law_756 rfl rfl ?_
  refine el_arg hC 1 762 (by decide) (by omega) hL dL_law_757 dL_law_758 dL_law_759 dL_law_760 dL_law_761 rfl ?_
  refine el_call hC (Z := mX12_free) 12 765 [eI (xs (i + 1))] [.int r] dL_law_762 rfl rfl ok_X12_free in_X12_free (by decide) (by decide) ln_L_91 (Nat.le_of_ble_eq_true rfl) (h2 (l, D, ad, cy) 70 M1 (by omega) (hm.cc hx1.2)) (fun M2 hx2 => ?_)
  refine el_eq hC 1097 dL_law_765 (by decide) ?_
  exact K q2 M2 hW2 (hx1.1.cm hW2 hx2.2) hx2.1
theorem lw_c18 {p : Program} {e : Env} {s : State} {m : MethodId} {below : List Frame} {meth : Method} {c : Code} {l : Launch} {b L : Nat} {xs : Nat → Int32} {D : va_G} {cy : Nat → ClassId} {ad : Nat → Nat → Nat} {i : Nat} {q : EpS} {M : EzM} (hC : EL0 p s m meth c b L xs D cy ad) (hL : L ≤ 384) (hi : i + 6 ≤ L) (hW : WF q) (hc : RC q M) (hm : RM q M) (K : ∀ (q2 : EpS) (M2 : EzM), WF q2 → RC q2 M2 → RM q2 M2 → El p e s m below meth c l b D cy ad 1097 [(3, .int (nI i)), (2, .ref (ad 12 0)), (1, .ref (ad 11 0)), (0, .ref b)] [] M2) : El p e s m below meth c l b D cy ad 770 [(3, .int (nI i)), (2, .ref (ad 12 0)), (1, .ref (ad 11 0)), (0, .ref b)] [] M := by
  obtain ⟨r, q2, hW2, h1, h2⟩ := op_begins hW (xs (i + 1)) (xs (i + 2)) (xs (i + 3))
  refine el_aload hC 2 771 dL_law_770 rfl rfl ?_
  refine el_arg hC 1 776 (by decide) (by omega) hL dL_law_771 dL_law_772 dL_law_773 dL_law_774 dL_law_775 rfl ?_
  refine el_arg hC 2 781 (by decide) (by omega) hL dL_law_776 dL_law_777 dL_law_778 dL_law_779 dL_law_780 rfl ?_
  refine el_arg hC 3 786 (by decide) (by omega) hL dL_law_781 dL_law_782 dL_law_783 dL_law_784 dL_law_785 rfl ?_
  refine el_call hC (Z := mX11_begins) 11 789 [eI (xs (i + 1)), eI (xs (i + 2)), eI (xs (i + 3))] [] dL_law_786 rfl rfl ok_X11_begins in_X11_begins (by decide) (by decide) ln_L_92 (by decide) (h1 (true, l, D, ad, cy) 70 M (by omega) hc) (fun M1 hx1 => ?_)
  refine el_aload hC 1 790 dL_law_789 rfl rfl ?_
  refine el_arg hC 1 795 (by decide) (by omega) hL dL_law_790 dL_law_791 dL_law_792 dL_law_793 dL_law_794 rfl ?_
  refine el_arg hC 2 800 (by decide) (by omega) hL dL_law_795 dL_law_796 dL_law_797 dL_law_798 dL_law_799 rfl ?_
  refine el_arg hC 3 805 (by decide) (by omega) hL dL_law_800 dL_law_801 dL_law_802 dL_law_803 dL_law_804 rfl ?_
  refine el_call hC (Z := mX12_begins) 12 808 [eI (xs (i + 1)), eI (xs (i + 2)), eI (xs (i + 3))] [.int r] dL_law_805 rfl rfl ok_X12_begins in_X12_begins (by decide) (by decide) ln_L_95 (Nat.le_of_ble_eq_true rfl) (h2 (l, D, ad, cy) 70 M1 (by omega) (hm.cc hx1.2)) (fun M2 hx2 => ?_)
  refine el_eq hC 1097 dL_law_808 (by decide) ?_
  exact K q2 M2 hW2 (hx1.1.cm hW2 hx2.2) hx2.1
theorem lw_c19 {p : Program} {e : Env} {s : State} {m : MethodId} {below : List Frame} {meth : Method} {c : Code} {l : Launch} {b L : Nat} {xs : Nat → Int32} {D : va_G} {cy : Nat → ClassId} {ad : Nat → Nat → Nat} {i : Nat} {q : EpS} {M : EzM} (hC : EL0 p s m meth c b L xs D cy ad) (hL : L ≤ 384) (hi : i + 6 ≤ L) (hW : WF q) (hc : RC q M) (hm : RM q M) (K : ∀ (q2 : EpS) (M2 : EzM), WF q2 → RC q2 M2 → RM q2 M2 → El p e s m below meth c l b D cy ad 1097 [(3, .int (nI i)), (2, .ref (ad 12 0)), (1, .ref (ad 11 0)), (0, .ref b)] [] M2) : El p e s m below meth c l b D cy ad 813 [(3, .int (nI i)), (2, .ref (ad 12 0)), (1, .ref (ad 11 0)), (0, .ref b)] [] M := by
  obtain ⟨r, q2, hW2, h1, h2⟩ := op_image hW 
  refine el_aload hC 2 814 dL_law_813 rfl rfl ?_
  refine el_call hC (Z := mX11_image) 11 817 [] [] dL_law_814 rfl rfl ok_X11_image in_X11_image (by decide) (by decide) ln_L_96 (by decide) (h1 (true, l, D, ad, cy) 70 M (by omega) hc) (fun M1 hx1 => ?_)
  refine el_aload hC 1 818 dL_law_817 rfl rfl ?_
  refine el_call hC (Z := mX12_image) 12 821 [] [.int r] dL_law_818 rfl rfl ok_X12_image in_X12_image (by decide) (by decide) ln_L_99 (Nat.le_of_ble_eq_true rfl) (h2 (l, D, ad, cy) 70 M1 (by omega) (hm.cc hx1.2)) (fun M2 hx2 => ?_)
  refine el_eq hC 1097 dL_law_821 (by decide) ?_
  exact K q2 M2 hW2 (hx1.1.cm hW2 hx2.2) hx2.1
theorem lw_c20 {p : Program} {e : Env} {s : State} {m : MethodId} {below : List Frame} {meth : Method} {c : Code} {l : Launch} {b L : Nat} {xs : Nat → Int32} {D : va_G} {cy : Nat → ClassId} {ad : Nat → Nat → Nat} {i : Nat} {q : EpS} {M : EzM} (hC : EL0 p s m meth c b L xs D cy ad) (hL : L ≤ 384) (hi : i + 6 ≤ L) (hW : WF q) (hc : RC q M) (hm : RM q M) (K : ∀ (q2 : EpS) (M2 : EzM), WF q2 → RC q2 M2 → RM q2 M2 → El p e s m below meth c l b D cy ad 1097 [(3, .int (nI i)), (2, .ref (ad 12 0)), (1, .ref (ad 11 0)), (0, .ref b)] [] M2) : El p e s m below meth c l b D cy ad 826 [(3, .int (nI i)), (2, .ref (ad 12 0)), (1, .ref (ad 11 0)), (0, .ref b)] [] M := by
  obtain ⟨r, q2, hW2, h1, h2⟩ := op_back hW 
  refine el_aload hC 2 827 dL_law_826 rfl rfl ?_
  refine el_call hC (Z := mX11_back) 11 830 [] [] dL_law_827 rfl rfl ok_X11_back in_X11_back (by decide) (by decide) ln_L_100 (by decide) (h1 (true, l, D, ad, cy) 70 M (by omega) hc) (fun M1 hx1 => ?_)
  refine el_aload hC 1 831 dL_law_830 rfl rfl ?_
  refine el_call hC (Z := mX12_back) 12 834 [] [.int r] dL_law_831 rfl rfl ok_X12_back in_X12_back (by decide) (by decide) ln_L_103 (Nat.le_of_ble_eq_true rfl) (h2 (l, D, ad, cy) 70 M1 (by omega) (hm.cc hx1.2)) (fun M2 hx2 => ?_)
  refine el_eq hC 1097 dL_law_834 (by decide) ?_
  exact K q2 M2 hW2 (hx1.1.cm hW2 hx2.2) hx2.1
theorem lw_c21 {p : Program} {e : Env} {s : State} {m : MethodId} {below : List Frame} {meth : Method} {c : Code} {l : Launch} {b L : Nat} {xs : Nat → Int32} {D : va_G} {cy : Nat → ClassId} {ad : Nat → Nat → Nat} {i : Nat} {q : EpS} {M : EzM} (hC : EL0 p s m meth c b L xs D cy ad) (hL : L ≤ 384) (hi : i + 6 ≤ L) (hW : WF q) (hc : RC q M) (hm : RM q M) (K : ∀ (q2 : EpS) (M2 : EzM), WF q2 → RC q2 M2 → RM q2 M2 → El p e s m below meth c l b D cy ad 1097 [(3, .int (nI i)), (2, .ref (ad 12 0)), (1, .ref (ad 11 0)), (0, .ref b)] [] M2) : El p e s m below meth c l b D cy ad 839 [(3, .int (nI i)), (2, .ref (ad 12 0)), (1, .ref (ad 11 0)), (0, .ref b)] [] M := by
  obtain ⟨r, q2, hW2, h1, h2⟩ := op_count hW (xs (i + 1))
  refine el_aload hC 2 840 dL_law_839 rfl rfl ?_
  refine el_arg hC 1 845 (by decide) (by omega) hL dL_law_840 dL_law_841 dL_law_842 dL_law_843 dL_law_844 rfl ?_
  refine el_call hC (Z := mX11_count) 11 848 [eI (xs (i + 1))] [] dL_law_845 rfl rfl ok_X11_count in_X11_count (by decide) (by decide) ln_L_104 (by decide) (h1 (true, l, D, ad, cy) 70 M (by omega) hc) (fun M1 hx1 => ?_)
  refine el_aload hC 1 849 dL_law_848 rfl rfl ?_
  refine el_arg hC 1 854 (by decide) (by omega) hL dL_law_849 dL_law_850 dL_law_851 dL_law_852 dL_law_853 rfl ?_
  refine el_call hC (Z := mX12_count) 12 857 [eI (xs (i + 1))] [.int r] dL_law_854 rfl rfl ok_X12_count in_X12_count (by decide) (by decide) ln_L_107 (Nat.le_of_ble_eq_true rfl) (h2 (l, D, ad, cy) 70 M1 (by omega) (hm.cc hx1.2)) (fun M2 hx2 => ?_)
  refine el_eq hC 1097 dL_law_857 (by decide) ?_
  exact K q2 M2 hW2 (hx1.1.cm hW2 hx2.2) hx2.1
theorem lw_c22 {p : Program} {e : Env} {s : State} {m : MethodId} {below : List Frame} {meth : Method} {c : Code} {l : Launch} {b L : Nat} {xs : Nat → Int32} {D : va_G} {cy : Nat → ClassId} {ad : Nat → Nat → Nat} {i : Nat} {q : EpS} {M : EzM} (hC : EL0 p s m meth c b L xs D cy ad) (hL : L ≤ 384) (hi : i + 6 ≤ L) (hW : WF q) (hc : RC q M) (hm : RM q M) (K : ∀ (q2 : EpS) (M2 : EzM), WF q2 → RC q2 M2 → RM q2 M2 → El p e s m below meth c l b D cy ad 1097 [(3, .int (nI i)), (2, .ref (ad 12 0)), (1, .ref (ad 11 0)), (0, .ref b)] [] M2) : El p e s m below meth c l b D cy ad 862 [(3, .int (nI i)), (2, .ref (ad 12 0)), (1, .ref (ad 11 0)), (0, .ref b)] [] M := by
  obtain ⟨r, q2, hW2, h1, h2⟩ := op_sheet hW (xs (i + 1)) (xs (i + 2)) (xs (i + 3))
  refine el_aload hC 2 863 dL_law_862 rfl rfl ?_
  refine el_arg hC 1 868 (by decide) (by omega) hL dL_law_863 dL_law_864 dL_law_865 dL_law_866 dL_law_867 rfl ?_
  refine el_arg hC 2 873 (by decide) (by omega) hL dL_law_868 dL_law_869 dL_law_870 dL_law_871 dL_law_872 rfl ?_
  refine el_arg hC 3 878 (by decide) (by omega) hL dL_law_873 dL_law_874 dL_law_875 dL_law_876 dL_law_877 rfl ?_
  refine el_call hC (Z := mX11_sheet) 11 881 [eI (xs (i + 1)), eI (xs (i + 2)), eI (xs (i + 3))] [] dL_law_878 rfl rfl ok_X11_sheet in_X11_sheet (by decide) (by decide) ln_L_108 (by decide) (h1 (true, l, D, ad, cy) 70 M (by omega) hc) (fun M1 hx1 => ?_)
  refine el_aload hC 1 882 dL_law_881 rfl rfl ?_
  refine el_arg hC 1 887 (by decide) (by omega) hL dL_law_882 dL_law_883 dL_law_884 dL_law_885 dL_law_886 rfl ?_
  refine el_arg hC 2 892 (by decide) (by omega) hL dL_law_887 dL_law_888 dL_law_889 dL_law_890 dL_law_891 rfl ?_
  refine el_arg hC 3 897 (by decide) (by omega) hL dL_law_892 dL_law_893 dL_law_894 dL_law_895 dL_law_896 rfl ?_
  refine el_call hC (Z := mX12_sheet) 12 900 [eI (xs (i + 1)), eI (xs (i + 2)), eI (xs (i + 3))] [.int r] dL_law_897 rfl rfl ok_X12_sheet in_X12_sheet (by decide) (by decide) ln_L_111 (Nat.le_of_ble_eq_true rfl) (h2 (l, D, ad, cy) 70 M1 (by omega) (hm.cc hx1.2)) (fun M2 hx2 => ?_)
  refine el_eq hC 1097 dL_law_900 (by decide) ?_
  exact K q2 M2 hW2 (hx1.1.cm hW2 hx2.2) hx2.1
theorem lw_c23 {p : Program} {e : Env} {s : State} {m : MethodId} {below : List Frame} {meth : Method} {c : Code} {l : Launch} {b L : Nat} {xs : Nat → Int32} {D : va_G} {cy : Nat → ClassId} {ad : Nat → Nat → Nat} {i : Nat} {q : EpS} {M : EzM} (hC : EL0 p s m meth c b L xs D cy ad) (hL : L ≤ 384) (hi : i + 6 ≤ L) (hW : WF q) (hc : RC q M) (hm : RM q M) (K : ∀ (q2 : EpS) (M2 : EzM), WF q2 → RC q2 M2 → RM q2 M2 → El p e s m below meth c l b D cy ad 1097 [(3, .int (nI i)), (2, .ref (ad 12 0)), (1, .ref (ad 11 0)), (0, .ref b)] [] M2) : El p e s m below meth c l b D cy ad 905 [(3, .int (nI i)), (2, .ref (ad 12 0)), (1, .ref (ad 11 0)), (0, .ref b)] [] M := by
  obtain ⟨r, q2, hW2, h1, h2⟩ := op_cell hW (xs (i + 1)) (xs (i + 2)) (xs (i + 3))
  refine el_aload hC 2 906 dL_law_905 rfl rfl ?_
  refine el_arg hC 1 911 (by decide) (by omega) hL dL_law_906 dL_law_907 dL_law_908 dL_law_909 dL_law_910 rfl ?_
  refine el_arg hC 2 916 (by decide) (by omega) hL dL_law_911 dL_law_912 dL_law_913 dL_law_914 dL_law_915 rfl ?_
  refine el_arg hC 3 921 (by decide) (by omega) hL dL_law_916 dL_law_917 dL_law_918 dL_law_919 dL_law_920 rfl ?_
  refine el_call hC (Z := mX11_cell) 11 924 [eI (xs (i + 1)), eI (xs (i + 2)), eI (xs (i + 3))] [] dL_law_921 rfl rfl ok_X11_cell in_X11_cell (by decide) (by decide) ln_L_112 (by decide) (h1 (true, l, D, ad, cy) 70 M (by omega) hc) (fun M1 hx1 => ?_)
  refine el_aload hC 1 925 dL_law_924 rfl rfl ?_
  refine el_arg hC 1 930 (by decide) (by omega) hL dL_law_925 dL_law_926 dL_law_927 dL_law_928 dL_law_929 rfl ?_
  refine el_arg hC 2 935 (by decide) (by omega) hL dL_law_930 dL_law_931 dL_law_932 dL_law_933 dL_law_934 rfl ?_
  refine el_arg hC 3 940 (by decide) (by omega) hL dL_law_935 dL_law_936 dL_law_937 dL_law_938 dL_law_939 rfl ?_
  refine el_call hC (Z := mX12_cell) 12 943 [eI (xs (i + 1)), eI (xs (i + 2)), eI (xs (i + 3))] [.int r] dL_law_940 rfl rfl ok_X12_cell in_X12_cell (by decide) (by decide) ln_L_115 (Nat.le_of_ble_eq_true rfl) (h2 (l, D, ad, cy) 70 M1 (by omega) (hm.cc hx1.2)) (fun M2 hx2 => ?_)
  refine el_eq hC 1097 dL_law_943 (by decide) ?_
  exact K q2 M2 hW2 (hx1.1.cm hW2 hx2.2) hx2.1
theorem lw_c24 {p : Program} {e : Env} {s : State} {m : MethodId} {below : List Frame} {meth : Method} {c : Code} {l : Launch} {b L : Nat} {xs : Nat → Int32} {D : va_G} {cy : Nat → ClassId} {ad : Nat → Nat → Nat} {i : Nat} {q : EpS} {M : EzM} (hC : EL0 p s m meth c b L xs D cy ad) (hL : L ≤ 384) (hi : i + 6 ≤ L) (hW : WF q) (hc : RC q M) (hm : RM q M) (K : ∀ (q2 : EpS) (M2 : EzM), WF q2 → RC q2 M2 → RM q2 M2 → El p e s m below meth c l b D cy ad 1097 [(3, .int (nI i)), (2, .ref (ad 12 0)), (1, .ref (ad 11 0)), (0, .ref b)] [] M2) : El p e s m below meth c l b D cy ad 948 [(3, .int (nI i)), (2, .ref (ad 12 0)), (1, .ref (ad 11 0)), (0, .ref b)] [] M := by
  obtain ⟨r, q2, hW2, h1, h2⟩ := op_copy hW (xs (i + 1)) (xs (i + 2)) (xs (i + 3)) (xs (i + 4)) (xs (i + 5))
  refine el_aload hC 2 949 dL_law_948 rfl rfl ?_
  refine el_arg hC 1 954 (by decide) (by omega) hL dL_law_949 dL_law_950 dL_law_951 dL_law_952 dL_law_953 rfl ?_
  refine el_arg hC 2 959 (by decide) (by omega) hL dL_law_954 dL_law_955 dL_law_956 dL_law_957 dL_law_958 rfl ?_
  refine el_arg hC 3 964 (by decide) (by omega) hL dL_law_959 dL_law_960 dL_law_961 dL_law_962 dL_law_963 rfl ?_
  refine el_arg hC 4 969 (by decide) (by omega) hL dL_law_964 dL_law_965 dL_law_966 dL_law_967 dL_law_968 rfl ?_
  refine el_arg hC 5 974 (by decide) (by omega) hL dL_law_969 dL_law_970 dL_law_971 dL_law_972 dL_law_973 rfl ?_
  refine el_call hC (Z := mX11_copy) 11 977 [eI (xs (i + 1)), eI (xs (i + 2)), eI (xs (i + 3)), eI (xs (i + 4)), eI (xs (i + 5))] [] dL_law_974 rfl rfl ok_X11_copy in_X11_copy (by decide) (by decide) ln_L_116 (by decide) (h1 (true, l, D, ad, cy) 70 M (by omega) hc) (fun M1 hx1 => ?_)
  refine el_aload hC 1 978 dL_law_977 rfl rfl ?_
  refine el_arg hC 1 983 (by decide) (by omega) hL dL_law_978 dL_law_979 dL_law_980 dL_law_981 dL_law_982 rfl ?_
  refine el_arg hC 2 988 (by decide) (by omega) hL dL_law_983 dL_law_984 dL_law_985 dL_law_986 dL_law_987 rfl ?_
  refine el_arg hC 3 993 (by decide) (by omega) hL dL_law_988 dL_law_989 dL_law_990 dL_law_991 dL_law_992 rfl ?_
  refine el_arg hC 4 998 (by decide) (by omega) hL dL_law_993 dL_law_994 dL_law_995 dL_law_996 dL_law_997 rfl ?_
  refine el_arg hC 5 1003 (by decide) (by omega) hL dL_law_998 dL_law_999 dL_law_1000 dL_law_1001 dL_law_1002 rfl ?_
  refine el_call hC (Z := mX12_copy) 12 1006 [eI (xs (i + 1)), eI (xs (i + 2)), eI (xs (i + 3)), eI (xs (i + 4)), eI (xs (i + 5))] [.int r] dL_law_1003 rfl rfl ok_X12_copy in_X12_copy (by decide) (by decide) ln_L_120 (Nat.le_of_ble_eq_true rfl) (h2 (l, D, ad, cy) 70 M1 (by omega) (hm.cc hx1.2)) (fun M2 hx2 => ?_)
  refine el_eq hC 1097 dL_law_1006 (by decide) ?_
  exact K q2 M2 hW2 (hx1.1.cm hW2 hx2.2) hx2.1
theorem lw_c25 {p : Program} {e : Env} {s : State} {m : MethodId} {below : List Frame} {meth : Method} {c : Code} {l : Launch} {b L : Nat} {xs : Nat → Int32} {D : va_G} {cy : Nat → ClassId} {ad : Nat → Nat → Nat} {i : Nat} {q : EpS} {M : EzM} (hC : EL0 p s m meth c b L xs D cy ad) (hL : L ≤ 384) (hi : i + 6 ≤ L) (hW : WF q) (hc : RC q M) (hm : RM q M) (K : ∀ (q2 : EpS) (M2 : EzM), WF q2 → RC q2 M2 → RM q2 M2 → El p e s m below meth c l b D cy ad 1097 [(3, .int (nI i)), (2, .ref (ad 12 0)), (1, .ref (ad 11 0)), (0, .ref b)] [] M2) : El p e s m below meth c l b D cy ad 1011 [(3, .int (nI i)), (2, .ref (ad 12 0)), (1, .ref (ad 11 0)), (0, .ref b)] [] M := by
  obtain ⟨r, q2, hW2, h1, h2⟩ := op_walkers hW (xs (i + 1)) (xs (i + 2)) (xs (i + 3)) (xs (i + 4))
  refine el_aload hC 2 1012 dL_law_1011 rfl rfl ?_
  refine el_arg hC 1 1017 (by decide) (by omega) hL dL_law_1012 dL_law_1013 dL_law_1014 dL_law_1015 dL_law_1016 rfl ?_
  refine el_arg hC 2 1022 (by decide) (by omega) hL dL_law_1017 dL_law_1018 dL_law_1019 dL_law_1020 dL_law_1021 rfl ?_
  refine el_arg hC 3 1027 (by decide) (by omega) hL dL_law_1022 dL_law_1023 dL_law_1024 dL_law_1025 dL_law_1026 rfl ?_
  refine el_arg hC 4 1032 (by decide) (by omega) hL dL_law_1027 dL_law_1028 dL_law_1029 dL_law_1030 dL_law_1031 rfl ?_
  refine el_call hC (Z := mX11_walkers) 11 1035 [eI (xs (i + 1)), eI (xs (i + 2)), eI (xs (i + 3)), eI (xs (i + 4))] [] dL_law_1032 rfl rfl ok_X11_walkers in_X11_walkers (by decide) (by decide) ln_L_121 (by decide) (h1 (true, l, D, ad, cy) 70 M (by omega) hc) (fun M1 hx1 => ?_)
  refine el_aload hC 1 1036 dL_law_1035 rfl rfl ?_
  refine el_arg hC 1 1041 (by decide) (by omega) hL dL_law_1036 dL_law_1037 dL_law_1038 dL_law_1039 dL_law_1040 rfl ?_
  refine el_arg hC 2 1046 (by decide) (by omega) hL dL_law_1041 dL_law_1042 dL_law_1043 dL_law_1044 dL_law_1045 rfl ?_
  refine el_arg hC 3 1051 (by decide) (by omega) hL dL_law_1046 dL_law_1047 dL_law_1048 dL_law_1049 dL_law_1050 rfl ?_
  refine el_arg hC 4 1056 (by decide) (by omega) hL dL_law_1051 dL_law_1052 dL_law_1053 dL_law_1054 dL_law_1055 rfl ?_
  refine el_call hC (Z := mX12_walkers) 12 1059 [eI (xs (i + 1)), eI (xs (i + 2)), eI (xs (i + 3)), eI (xs (i + 4))] [.int r] dL_law_1056 rfl rfl ok_X12_walkers in_X12_walkers (by decide) (by decide) ln_L_125 (Nat.le_of_ble_eq_true rfl) (h2 (l, D, ad, cy) 70 M1 (by omega) (hm.cc hx1.2)) (fun M2 hx2 => ?_)
  refine el_eq hC 1097 dL_law_1059 (by decide) ?_
  exact K q2 M2 hW2 (hx1.1.cm hW2 hx2.2) hx2.1
theorem lw_c26 {p : Program} {e : Env} {s : State} {m : MethodId} {below : List Frame} {meth : Method} {c : Code} {l : Launch} {b L : Nat} {xs : Nat → Int32} {D : va_G} {cy : Nat → ClassId} {ad : Nat → Nat → Nat} {i : Nat} {q : EpS} {M : EzM} (hC : EL0 p s m meth c b L xs D cy ad) (hL : L ≤ 384) (hi : i + 6 ≤ L) (hW : WF q) (hc : RC q M) (hm : RM q M) (K : ∀ (q2 : EpS) (M2 : EzM), WF q2 → RC q2 M2 → RM q2 M2 → El p e s m below meth c l b D cy ad 1097 [(3, .int (nI i)), (2, .ref (ad 12 0)), (1, .ref (ad 11 0)), (0, .ref b)] [] M2) : El p e s m below meth c l b D cy ad 1064 [(3, .int (nI i)), (2, .ref (ad 12 0)), (1, .ref (ad 11 0)), (0, .ref b)] [] M := by
  obtain ⟨r, q2, hW2, h1, h2⟩ := op_taken hW (xs (i + 1)) (xs (i + 2))
  refine el_aload hC 2 1065 dL_law_1064 rfl rfl ?_
  refine el_arg hC 1 1070 (by decide) (by omega) hL dL_law_1065 dL_law_1066 dL_law_1067 dL_law_1068 dL_law_1069 rfl ?_
  refine el_arg hC 2 1075 (by decide) (by omega) hL dL_law_1070 dL_law_1071 dL_law_1072 dL_law_1073 dL_law_1074 rfl ?_
  refine el_call hC (Z := mX11_taken) 11 1078 [eI (xs (i + 1)), eI (xs (i + 2))] [] dL_law_1075 rfl rfl ok_X11_taken in_X11_taken (by decide) (by decide) ln_L_126 (by decide) (h1 (true, l, D, ad, cy) 70 M (by omega) hc) (fun M1 hx1 => ?_)
  refine el_aload hC 1 1079 dL_law_1078 rfl rfl ?_
  refine el_arg hC 1 1084 (by decide) (by omega) hL dL_law_1079 dL_law_1080 dL_law_1081 dL_law_1082 dL_law_1083 rfl ?_
  refine el_arg hC 2 1089 (by decide) (by omega) hL dL_law_1084 dL_law_1085 dL_law_1086 dL_law_1087 dL_law_1088 rfl ?_
  refine el_call hC (Z := mX12_taken) 12 1092 [eI (xs (i + 1)), eI (xs (i + 2))] [.int r] dL_law_1089 rfl rfl ok_X12_taken in_X12_taken (by decide) (by decide) ln_L_129 (Nat.le_of_ble_eq_true rfl) (h2 (l, D, ad, cy) 70 M1 (by omega) (hm.cc hx1.2)) (fun M2 hx2 => ?_)
  refine el_eq hC 1097 dL_law_1092 (by decide) ?_
  exact K q2 M2 hW2 (hx1.1.cm hW2 hx2.2) hx2.1
theorem lw_le {i L : Nat} (hL : L ≤ 384) (hi : i ≤ L) (h : ¬ nI L - nI 6 < nI i) : i + 6 ≤ L := by
  rw [Int32.lt_iff_toInt_lt, pk_sub_toInt (by omega) (by omega), nI_toInt (by omega)] at h
  omega
theorem lw_end {p : Program} {e : Env} {s : State} {m : MethodId} {below : List Frame} {meth : Method} {c : Code} {l : Launch} {b L : Nat} {xs : Nat → Int32} {D : va_G} {cy : Nat → ClassId} {ad : Nat → Nat → Nat} {ls : List (Nat × Value)} {M : EzM} (hC : EL0 p s m meth c b L xs D cy ad) : El p e s m below meth c l b D cy ad 1103 ls [] M := by
  intro H locs lsA hD hP hS hl
  refine lv_iconst (v := 1) hC.1.1 hC.1.2.1 dL_law_1103 (by decide) ?_
  refine va_forget (fun q hq => hS.2.2 q hq) ?_
  refine W.widen (k := 600000) (n := 7302250) (by decide) (by decide) ?_
  exact lw_ret hC.1.1 hC.1.2.1 hC.1.2.2.1 hC.1.2.2.2.2.2.2.2.2.1 dL_law_1104
theorem lw_loop {p : Program} {e : Env} {s : State} {m : MethodId} {below : List Frame} {meth : Method} {c : Code} {l : Launch} {b L : Nat} {xs : Nat → Int32} {D : va_G} {cy : Nat → ClassId} {ad : Nat → Nat → Nat} (hC : EL0 p s m meth c b L xs D cy ad) (hL : L ≤ 384) : ∀ (z i : Nat) (q : EpS) (M : EzM), L - i = z → i ≤ L → WF q → RC q M → RM q M → El p e s m below meth c l b D cy ad 18 [(3, .int (nI i)), (2, .ref (ad 12 0)), (1, .ref (ad 11 0)), (0, .ref b)] [] M := by
  intro z
  induction z using Nat.strongRecOn with
  | ind z ih =>
    intro i q M hz hi hW hc hm
    refine el_iload hC 0 19 dL_law_18 rfl rfl ?_
    refine el_aload hC 3 20 dL_law_19 rfl rfl ?_
    refine el_len hC 21 dL_law_20 rfl ?_
    refine el_bipush hC (nI 6) 23 dL_law_21 rfl (by decide) ?_
    refine el_isub hC 24 dL_law_23 rfl ?_
    refine el_gt hC 27 1103 dL_law_24 rfl (by decide) (fun _ => lw_end hC) (fun h => ?_)
    have h6 := lw_le hL hi h
    refine el_aload hC 3 28 dL_law_27 rfl rfl ?_
    refine el_iload hC 0 29 dL_law_28 rfl rfl ?_
    refine el_iald hC i 30 (by omega) (by omega) dL_law_29 rfl ?_
    refine el_bipush hC 31 32 dL_law_30 rfl (by decide) ?_
    refine el_iand hC 33 dL_law_32 rfl ?_
    have K : ∀ (q2 : EpS) (M2 : EzM), WF q2 → RC q2 M2 → RM q2 M2 → El p e s m below meth c l b D cy ad 1097 [(3, .int (nI i)), (2, .ref (ad 12 0)), (1, .ref (ad 11 0)), (0, .ref b)] [] M2 := by
      intro q2 M2 w2 c2 m2 H locs lsA hD hP hS hl
      refine lv_iinc (k := 0) (v := nI (i + 6)) (lv' := [(3, .int (nI (i + 6))), (2, .ref (ad 12 0)), (1, .ref (ad 11 0)), (0, .ref b)]) hC.1.1 hC.1.2.1 dL_law_1097 hl rfl (nI_add i 6) (by decide) rfl (fun lsB hl2 => ?_)
      refine lv_goto hC.1.1 hC.1.2.1 (tgt := 18) dL_law_1100 (by decide) ?_
      exact ih (L - (i + 6)) (by omega) (i + 6) q2 M2 rfl (by omega) w2 c2 m2 H locs lsB hD hP hS hl2
    generalize xs i &&& 31 = v
    by_cases hv : v.toInt < 0 ∨ 26 < v.toInt
    · exact el_tout hC 1097 dL_law_33 hv (by decide) (K q M hW hc hm)
    · rcases (show v.toInt = 0 ∨ v.toInt = 1 ∨ v.toInt = 2 ∨ v.toInt = 3 ∨ v.toInt = 4 ∨ v.toInt = 5 ∨ v.toInt = 6 ∨ v.toInt = 7 ∨ v.toInt = 8 ∨ v.toInt = 9 ∨ v.toInt = 10 ∨ v.toInt = 11 ∨ v.toInt = 12 ∨ v.toInt = 13 ∨ v.toInt = 14 ∨ v.toInt = 15 ∨ v.toInt = 16 ∨ v.toInt = 17 ∨ v.toInt = 18 ∨ v.toInt = 19 ∨ v.toInt = 20 ∨ v.toInt = 21 ∨ v.toInt = 22 ∨ v.toInt = 23 ∨ v.toInt = 24 ∨ v.toInt = 25 ∨ v.toInt = 26 by omega) with h | h | h | h | h | h | h | h | h | h | h | h | h | h | h | h | h | h | h | h | h | h | h | h | h | h | h
      · exact el_tin hC 156 dL_law_33 (by omega) (by omega) (by rw [h]; rfl) (show (33 : Int) + 123 = (156 : Nat) by decide) (lw_c0 hC hL h6 hW hc hm K)
      · exact el_tin hC 219 dL_law_33 (by omega) (by omega) (by rw [h]; rfl) (show (33 : Int) + 186 = (219 : Nat) by decide) (lw_c1 hC hL h6 hW hc hm K)
      · exact el_tin hC 232 dL_law_33 (by omega) (by omega) (by rw [h]; rfl) (show (33 : Int) + 199 = (232 : Nat) by decide) (lw_c2 hC hL h6 hW hc hm K)
      · exact el_tin hC 245 dL_law_33 (by omega) (by omega) (by rw [h]; rfl) (show (33 : Int) + 212 = (245 : Nat) by decide) (lw_c3 hC hL h6 hW hc hm K)
      · exact el_tin hC 268 dL_law_33 (by omega) (by omega) (by rw [h]; rfl) (show (33 : Int) + 235 = (268 : Nat) by decide) (lw_c4 hC hL h6 hW hc hm K)
      · exact el_tin hC 311 dL_law_33 (by omega) (by omega) (by rw [h]; rfl) (show (33 : Int) + 278 = (311 : Nat) by decide) (lw_c5 hC hL h6 hW hc hm K)
      · exact el_tin hC 354 dL_law_33 (by omega) (by omega) (by rw [h]; rfl) (show (33 : Int) + 321 = (354 : Nat) by decide) (lw_c6 hC hL h6 hW hc hm K)
      · exact el_tin hC 397 dL_law_33 (by omega) (by omega) (by rw [h]; rfl) (show (33 : Int) + 364 = (397 : Nat) by decide) (lw_c7 hC hL h6 hW hc hm K)
      · exact el_tin hC 430 dL_law_33 (by omega) (by omega) (by rw [h]; rfl) (show (33 : Int) + 397 = (430 : Nat) by decide) (lw_c8 hC hL h6 hW hc hm K)
      · exact el_tin hC 463 dL_law_33 (by omega) (by omega) (by rw [h]; rfl) (show (33 : Int) + 430 = (463 : Nat) by decide) (lw_c9 hC hL h6 hW hc hm K)
      · exact el_tin hC 496 dL_law_33 (by omega) (by omega) (by rw [h]; rfl) (show (33 : Int) + 463 = (496 : Nat) by decide) (lw_c10 hC hL h6 hW hc hm K)
      · exact el_tin hC 539 dL_law_33 (by omega) (by omega) (by rw [h]; rfl) (show (33 : Int) + 506 = (539 : Nat) by decide) (lw_c11 hC hL h6 hW hc hm K)
      · exact el_tin hC 572 dL_law_33 (by omega) (by omega) (by rw [h]; rfl) (show (33 : Int) + 539 = (572 : Nat) by decide) (lw_c12 hC hL h6 hW hc hm K)
      · exact el_tin hC 605 dL_law_33 (by omega) (by omega) (by rw [h]; rfl) (show (33 : Int) + 572 = (605 : Nat) by decide) (lw_c13 hC hL h6 hW hc hm K)
      · exact el_tin hC 638 dL_law_33 (by omega) (by omega) (by rw [h]; rfl) (show (33 : Int) + 605 = (638 : Nat) by decide) (lw_c14 hC hL h6 hW hc hm K)
      · exact el_tin hC 681 dL_law_33 (by omega) (by omega) (by rw [h]; rfl) (show (33 : Int) + 648 = (681 : Nat) by decide) (lw_c15 hC hL h6 hW hc hm K)
      · exact el_tin hC 714 dL_law_33 (by omega) (by omega) (by rw [h]; rfl) (show (33 : Int) + 681 = (714 : Nat) by decide) (lw_c16 hC hL h6 hW hc hm K)
      · exact el_tin hC 747 dL_law_33 (by omega) (by omega) (by rw [h]; rfl) (show (33 : Int) + 714 = (747 : Nat) by decide) (lw_c17 hC hL h6 hW hc hm K)
      · exact el_tin hC 770 dL_law_33 (by omega) (by omega) (by rw [h]; rfl) (show (33 : Int) + 737 = (770 : Nat) by decide) (lw_c18 hC hL h6 hW hc hm K)
      · exact el_tin hC 813 dL_law_33 (by omega) (by omega) (by rw [h]; rfl) (show (33 : Int) + 780 = (813 : Nat) by decide) (lw_c19 hC hL h6 hW hc hm K)
      · exact el_tin hC 826 dL_law_33 (by omega) (by omega) (by rw [h]; rfl) (show (33 : Int) + 793 = (826 : Nat) by decide) (lw_c20 hC hL h6 hW hc hm K)
      · exact el_tin hC 839 dL_law_33 (by omega) (by omega) (by rw [h]; rfl) (show (33 : Int) + 806 = (839 : Nat) by decide) (lw_c21 hC hL h6 hW hc hm K)
      · exact el_tin hC 862 dL_law_33 (by omega) (by omega) (by rw [h]; rfl) (show (33 : Int) + 829 = (862 : Nat) by decide) (lw_c22 hC hL h6 hW hc hm K)
      · exact el_tin hC 905 dL_law_33 (by omega) (by omega) (by rw [h]; rfl) (show (33 : Int) + 872 = (905 : Nat) by decide) (lw_c23 hC hL h6 hW hc hm K)
      · exact el_tin hC 948 dL_law_33 (by omega) (by omega) (by rw [h]; rfl) (show (33 : Int) + 915 = (948 : Nat) by decide) (lw_c24 hC hL h6 hW hc hm K)
      · exact el_tin hC 1011 dL_law_33 (by omega) (by omega) (by rw [h]; rfl) (show (33 : Int) + 978 = (1011 : Nat) by decide) (lw_c25 hC hL h6 hW hc hm K)
      · exact el_tin hC 1064 dL_law_33 (by omega) (by omega) (by rw [h]; rfl) (show (33 : Int) + 1031 = (1064 : Nat) by decide) (lw_c26 hC hL h6 hW hc hm K)
