/-! begins of the model -/
def er_ey (o : Option Nat) : Int32 := match o with
  | none => -1
  | some v => nI v
theorem er_ey1 {o : Option Nat} (h : ∀ v, o = some v → v < 2 ^ 31) : (er_ey o = -1 ↔ o = none) := by
  cases o with
  | none => exact ⟨fun _ => rfl, fun _ => rfl⟩
  | some v => exact ⟨fun z => absurd z (ep_m1 (h v rfl)), fun z => by cases z⟩
theorem er_any1 {f : Nat → Bool} {r : Nat} {a : Nat} (ha : a = 1 ↔ ∃ x, x < r ∧ f x = true) (h : a = 1) : (1 = 1 ↔ ∃ x, x < r + 1 ∧ f x = true) := ⟨fun _ => (ha.mp h).elim (fun x hx => ⟨x, by omega, hx.2⟩), fun _ => rfl⟩
theorem er_any2 {f : Nat → Bool} {r : Nat} (h : f r = true) : (1 = 1 ↔ ∃ x, x < r + 1 ∧ f x = true) := ⟨fun _ => ⟨r, by omega, h⟩, fun _ => rfl⟩
theorem er_any3 {f : Nat → Bool} {r : Nat} {a : Nat} (ha : a = 1 ↔ ∃ x, x < r ∧ f x = true) (h : ¬ f r = true) : (a = 1 ↔ ∃ x, x < r + 1 ∧ f x = true) := by
  rw [ha]
  refine ⟨fun ⟨x, h1, h2⟩ => ⟨x, by omega, h2⟩, fun ⟨x, h1, h2⟩ => ⟨x, ?_, h2⟩⟩
  by_cases e : x = r
  · rw [e] at h2; exact absurd h2 h
  · omega
theorem er_sn {o : Option Nat} (h : ¬ o = none) : o.isSome = true := by
  cases o with
  | none => exact absurd rfl h
  | some v => rfl
set_option maxRecDepth 20000 in
theorem lp_mb1 (g : EzH) (d : Nat) {q : EpS} (m s c : Nat) (M1 : EzM) (M : EzM) (hd : 3 ≤ d) (hW : WF q) (hC : RM q M) (hs : s < 4) (h0 : 0 < q.2.2.2.1.1 s) (hm : m < q.1.1) (hc : c < 2) (hK : BK (q.2.2.2.1.2.2 s) (q.2.2.2.1.2.1 s)) (hF : FX (fun k i s => k = 66) M M1) (hv : ∀ x, x < q.1.2.1 m → M1.1 66 0 x = er_ey (b_w (q.1.2.2.1 m) (b_it (q.2.2.2.1.2.2 s)) x (q.2.2.2.1.2.1 s))) (hal : ∃ x, x < q.1.2.1 m ∧ (b_al (q.1.2.2.1 m) (b_it (q.2.2.2.1.2.2 s)) (q.2.2.2.1.2.1 s)) x = true) : ∀ (z : Nat) (r : Nat), q.1.2.1 m - r = z → r ≤ q.1.2.1 m → Ez (true, g) mX12_begins d 319 [(6, eI (nI r)), (5, eI (er_bi (b_al (q.1.2.2.1 m) (b_it (q.2.2.2.1.2.2 s)) (q.2.2.2.1.2.1 s)) r)), (4, eI (-1)), (3, eI (nI c)), (2, eI (nI s)), (1, eI (nI m)), (0, eR 12 0)] [] M1 (fun r M' => r = some (eI (S_begins q (nI m) (nI s) (nI c))) ∧ RM q M' ∧ FX CM M M') := by
  intro z
  induction z using Nat.strongRecOn with
  | ind z ih =>
    intro r hz hr
    have s40 := (hW.2.2.2.1 s hs).2 h0
    have n10 := (hW.1.2 m hm).2.1
    have n1 := (hW.1.2 m hm).1
    have q4 := hW.1.1
    have hzz := g_WFz hW.1 hm
    have hin : ∀ r, r < q.1.2.1 m → ∀ i v, b_w (q.1.2.2.1 m) (b_it (q.2.2.2.1.2.2 s)) r (i) = some v → v < 2 ^ 31 := fun r hr i v e9 => by have z9 := b_in hzz (b_it4 (q.2.2.2.1.2.2 s)) hr i v e9; omega
    have eS : S_begins q (nI m) (nI s) (nI c) = if c = 0 then er_bi (b_al (q.1.2.2.1 m) (b_it (q.2.2.2.1.2.2 s)) (q.2.2.2.1.2.1 s)) (q.1.2.1 m) else b_bar (q.1.2.2.1 m) (b_it (q.2.2.2.1.2.2 s)) (q.1.2.1 m) (q.2.2.2.1.2.1 s) := by
      unfold S_begins
      rw [ep_ix_nI hm (by omega), ep_ix_nI hs (by decide), ep_ix_nI hc (by decide)]
      simp only []
      rw [if_neg (by omega), if_neg (fun z => z hK)]
    refine ez_iload 321 dX12_begins_319 rfl rfl ?_
    refine ez_aload_n 322 dX12_begins_321 rfl rfl ?_
    refine ez_getf 325 (eR 46 0) dX12_begins_322 rfl fl_X12_26 (by show 0 < 1; omega) rfl ?_
    refine ez_iload_n 326 dX12_begins_325 rfl rfl ?_
    refine ez_ialdN m 327 dX12_begins_326 rfl (by decide) (by show 0 < 1; omega) (by show m < 4; omega) ?_
    refine ez_top (nI (q.1.2.1 m)) (by rw [hF _ _ _ (by omega)]; exact (hC.1.2 m (by omega)).1) ?_
    refine ez_ncmp_ge 330 366 dX12_begins_327 rfl (by decide) (by omega) (by omega) (fun h327 => ?_) (fun h327 => ?_)
    · refine ez_iload_n 367 dX12_begins_366 rfl rfl ?_
      refine ez_nif_ne 370 375 dX12_begins_367 rfl (by decide) (by omega) (fun h367 => ?_) (fun h367 => ?_)
      · refine ez_iload 377 dX12_begins_375 rfl rfl ?_
        refine ez_iret .int dX12_begins_377 rfl rfl ?_
        have e9 : r = q.1.2.1 m := by omega
        exact ⟨by rw [eS, if_neg (by omega), b_bar_none hal], (RM.sm hC (FX.up hF (fun k i s z => by unfold SM; omega))), (FX.up hF (fun k i s z => by unfold CM; omega))⟩
      · refine ez_iload 372 dX12_begins_370 rfl rfl ?_
        refine ez_goto 377 dX12_begins_372 (by decide) ?_
        refine ez_iret .int dX12_begins_377 rfl rfl ?_
        have e9 : r = q.1.2.1 m := by omega
        exact ⟨by rw [eS, if_pos (by omega), ← e9], (RM.sm hC (FX.up hF (fun k i s z => by unfold SM; omega))), (FX.up hF (fun k i s z => by unfold CM; omega))⟩
    · refine ez_iload 332 dX12_begins_330 rfl rfl ?_
      refine ez_iload 334 dX12_begins_332 rfl rfl ?_
      refine ez_iconst 335 dX12_begins_334 rfl (-1) (by decide) ?_
      refine ez_icmp_ne 338 356 dX12_begins_335 rfl (by decide) (fun h335 => ?_) (fun h335 => ?_)
      · exact absurd rfl h335
      · refine ez_aload_n 339 dX12_begins_338 rfl rfl ?_
        refine ez_getf 342 (eR 66 0) dX12_begins_339 rfl fl_X12_87 (by show 0 < 1; omega) rfl ?_
        refine ez_iload 344 dX12_begins_342 rfl rfl ?_
        refine ez_ialdN r 345 dX12_begins_344 rfl (by decide) (by show 0 < 1; omega) (by show r < 10; omega) ?_
        refine ez_top (er_ey (b_w (q.1.2.2.1 m) (b_it (q.2.2.2.1.2.2 s)) r (q.2.2.2.1.2.1 s))) (hv r (by omega)) ?_
        refine ez_iconst 346 dX12_begins_345 rfl (-1) (by decide) ?_
        refine ez_icmp_eq 349 356 dX12_begins_346 rfl (by decide) (fun h346 => ?_) (fun h346 => ?_)
        · refine ez_iconst 357 dX12_begins_356 rfl (nI 0) (by decide) ?_
          refine ez_ior 358 dX12_begins_357 rfl ?_
          refine ez_istore 360 [(5, eI ((er_bi (b_al (q.1.2.2.1 m) (b_it (q.2.2.2.1.2.2 s)) (q.2.2.2.1.2.1 s)) r) ||| (nI 0))), (6, eI (nI r)), (4, eI (-1)), (3, eI (nI c)), (2, eI (nI s)), (1, eI (nI m)), (0, eR 12 0)] dX12_begins_358 rfl (by decide) rfl ?_
          refine ez_iinc 363 (nI (r + 1)) [(6, eI (nI (r + 1))), (5, eI ((er_bi (b_al (q.1.2.2.1 m) (b_it (q.2.2.2.1.2.2 s)) (q.2.2.2.1.2.1 s)) r) ||| (nI 0))), (4, eI (-1)), (3, eI (nI c)), (2, eI (nI s)), (1, eI (nI m)), (0, eR 12 0)] dX12_begins_360 rfl rfl (nI_add r 1) (by decide) rfl ?_
          refine ez_goto 319 dX12_begins_363 (by decide) ?_
          have a9 : ¬ (b_al (q.1.2.2.1 m) (b_it (q.2.2.2.1.2.2 s)) (q.2.2.2.1.2.1 s)) r = true := fun z => by
            unfold b_al at z
            rw [(er_ey1 (hin r (by omega) _)).mp h346] at z
            cases z
          have b9 : er_bi (b_al (q.1.2.2.1 m) (b_it (q.2.2.2.1.2.2 s)) (q.2.2.2.1.2.1 s)) (r + 1) = er_bi (b_al (q.1.2.2.1 m) (b_it (q.2.2.2.1.2.2 s)) (q.2.2.2.1.2.1 s)) r ||| nI 0 := by
            show (if _ then _ else _) = _
            rw [if_neg a9, nI_0]; exact Int32.or_zero.symm
          rw [← b9]
          refine ez_drop [(6, eI (nI (r + 1))), (5, eI (er_bi (b_al (q.1.2.2.1 m) (b_it (q.2.2.2.1.2.2 s)) (q.2.2.2.1.2.1 s)) (r + 1))), (4, eI (-1)), (3, eI (nI c)), (2, eI (nI s)), (1, eI (nI m)), (0, eR 12 0)] (by simp) ?_
          exact ih (q.1.2.1 m - (r + 1)) (by omega) (r + 1) rfl (by omega)
        · refine ez_iconst 350 dX12_begins_349 rfl (nI 1) (by decide) ?_
          refine ez_iload 352 dX12_begins_350 rfl rfl ?_
          refine ez_ishl 353 dX12_begins_352 rfl ?_
          refine ez_goto 357 dX12_begins_353 (by decide) ?_
          refine ez_ior 358 dX12_begins_357 rfl ?_
          refine ez_istore 360 [(5, eI ((er_bi (b_al (q.1.2.2.1 m) (b_it (q.2.2.2.1.2.2 s)) (q.2.2.2.1.2.1 s)) r) ||| ((nI 1) <<< ((nI r) &&& 31)))), (6, eI (nI r)), (4, eI (-1)), (3, eI (nI c)), (2, eI (nI s)), (1, eI (nI m)), (0, eR 12 0)] dX12_begins_358 rfl (by decide) rfl ?_
          refine ez_iinc 363 (nI (r + 1)) [(6, eI (nI (r + 1))), (5, eI ((er_bi (b_al (q.1.2.2.1 m) (b_it (q.2.2.2.1.2.2 s)) (q.2.2.2.1.2.1 s)) r) ||| ((nI 1) <<< ((nI r) &&& 31)))), (4, eI (-1)), (3, eI (nI c)), (2, eI (nI s)), (1, eI (nI m)), (0, eR 12 0)] dX12_begins_360 rfl rfl (nI_add r 1) (by decide) rfl ?_
          refine ez_goto 319 dX12_begins_363 (by decide) ?_
          have a9 : (b_al (q.1.2.2.1 m) (b_it (q.2.2.2.1.2.2 s)) (q.2.2.2.1.2.1 s)) r = true := er_sn (fun z => h346 ((er_ey1 (hin r (by omega) _)).mpr z))
          have b9 : er_bi (b_al (q.1.2.2.1 m) (b_it (q.2.2.2.1.2.2 s)) (q.2.2.2.1.2.1 s)) (r + 1) = er_bi (b_al (q.1.2.2.1 m) (b_it (q.2.2.2.1.2.2 s)) (q.2.2.2.1.2.1 s)) r ||| (nI 1 <<< (nI r &&& 31)) := if_pos a9
          rw [← b9]
          refine ez_drop [(6, eI (nI (r + 1))), (5, eI (er_bi (b_al (q.1.2.2.1 m) (b_it (q.2.2.2.1.2.2 s)) (q.2.2.2.1.2.1 s)) (r + 1))), (4, eI (-1)), (3, eI (nI c)), (2, eI (nI s)), (1, eI (nI m)), (0, eR 12 0)] (by simp) ?_
          exact ih (q.1.2.1 m - (r + 1)) (by omega) (r + 1) rfl (by omega)
set_option maxRecDepth 20000 in
theorem lp_mb2 (g : EzH) (d : Nat) {q : EpS} (m s c k : Nat) (M1 : EzM) (M : EzM) (hd : 3 ≤ d) (hW : WF q) (hC : RM q M) (hs : s < 4) (h0 : 0 < q.2.2.2.1.1 s) (hm : m < q.1.1) (hc : c < 2) (hK : BK (q.2.2.2.1.2.2 s) (q.2.2.2.1.2.1 s)) (hF : FX (fun k i s => k = 66) M M1) (hk : k < q.2.2.2.1.2.1 s) (hdd : ∀ x, x < q.1.2.1 m → b_w (q.1.2.2.1 m) (b_it (q.2.2.2.1.2.2 s)) x (k + 1) = none) (hal : ∃ x, x < q.1.2.1 m ∧ (b_w (q.1.2.2.1 m) (b_it (q.2.2.2.1.2.2 s)) x (k)).isSome = true) : ∀ (z : Nat) (r : Nat), q.1.2.1 m - r = z → r ≤ q.1.2.1 m → Ez (true, g) mX12_begins d 319 [(6, eI (nI r)), (5, eI (nI 0)), (4, eI (nI k)), (3, eI (nI c)), (2, eI (nI s)), (1, eI (nI m)), (0, eR 12 0)] [] M1 (fun r M' => r = some (eI (S_begins q (nI m) (nI s) (nI c))) ∧ RM q M' ∧ FX CM M M') := by
  intro z
  induction z using Nat.strongRecOn with
  | ind z ih =>
    intro r hz hr
    have s40 := (hW.2.2.2.1 s hs).2 h0
    have n10 := (hW.1.2 m hm).2.1
    have n1 := (hW.1.2 m hm).1
    have q4 := hW.1.1
    have hzz := g_WFz hW.1 hm
    have hin : ∀ r, r < q.1.2.1 m → ∀ i v, b_w (q.1.2.2.1 m) (b_it (q.2.2.2.1.2.2 s)) r (i) = some v → v < 2 ^ 31 := fun r hr i v e9 => by have z9 := b_in hzz (b_it4 (q.2.2.2.1.2.2 s)) hr i v e9; omega
    have eS : S_begins q (nI m) (nI s) (nI c) = if c = 0 then er_bi (b_al (q.1.2.2.1 m) (b_it (q.2.2.2.1.2.2 s)) (q.2.2.2.1.2.1 s)) (q.1.2.1 m) else b_bar (q.1.2.2.1 m) (b_it (q.2.2.2.1.2.2 s)) (q.1.2.1 m) (q.2.2.2.1.2.1 s) := by
      unfold S_begins
      rw [ep_ix_nI hm (by omega), ep_ix_nI hs (by decide), ep_ix_nI hc (by decide)]
      simp only []
      rw [if_neg (by omega), if_neg (fun z => z hK)]
    refine ez_iload 321 dX12_begins_319 rfl rfl ?_
    refine ez_aload_n 322 dX12_begins_321 rfl rfl ?_
    refine ez_getf 325 (eR 46 0) dX12_begins_322 rfl fl_X12_26 (by show 0 < 1; omega) rfl ?_
    refine ez_iload_n 326 dX12_begins_325 rfl rfl ?_
    refine ez_ialdN m 327 dX12_begins_326 rfl (by decide) (by show 0 < 1; omega) (by show m < 4; omega) ?_
    refine ez_top (nI (q.1.2.1 m)) (by rw [hF _ _ _ (by omega)]; exact (hC.1.2 m (by omega)).1) ?_
    refine ez_ncmp_ge 330 366 dX12_begins_327 rfl (by decide) (by omega) (by omega) (fun h327 => ?_) (fun h327 => ?_)
    · refine ez_iload_n 367 dX12_begins_366 rfl rfl ?_
      refine ez_nif_ne 370 375 dX12_begins_367 rfl (by decide) (by omega) (fun h367 => ?_) (fun h367 => ?_)
      · refine ez_iload 377 dX12_begins_375 rfl rfl ?_
        refine ez_iret .int dX12_begins_377 rfl rfl ?_
        have e9 : r = q.1.2.1 m := by omega
        exact ⟨by rw [eS, if_neg (by omega), b_bar_some hk hdd hal], (RM.sm hC (FX.up hF (fun k i s z => by unfold SM; omega))), (FX.up hF (fun k i s z => by unfold CM; omega))⟩
      · refine ez_iload 372 dX12_begins_370 rfl rfl ?_
        refine ez_goto 377 dX12_begins_372 (by decide) ?_
        refine ez_iret .int dX12_begins_377 rfl rfl ?_
        have e9 : r = q.1.2.1 m := by omega
        have d9 : er_bi (b_al (q.1.2.2.1 m) (b_it (q.2.2.2.1.2.2 s)) (q.2.2.2.1.2.1 s)) (q.1.2.1 m) = 0 := (er_bi0 _ n10).mpr (fun x hx => by
          unfold b_al
          rw [b_nle (hdd x hx) (by omega)]
          rfl)
        exact ⟨by rw [eS, if_pos (by omega), d9, nI_0], (RM.sm hC (FX.up hF (fun k i s z => by unfold SM; omega))), (FX.up hF (fun k i s z => by unfold CM; omega))⟩
    · refine ez_iload 332 dX12_begins_330 rfl rfl ?_
      refine ez_iload 334 dX12_begins_332 rfl rfl ?_
      refine ez_iconst 335 dX12_begins_334 rfl (-1) (by decide) ?_
      refine ez_icmp_ne 338 356 dX12_begins_335 rfl (by decide) (fun h335 => ?_) (fun h335 => ?_)
      · refine ez_iconst 357 dX12_begins_356 rfl (nI 0) (by decide) ?_
        refine ez_ior 358 dX12_begins_357 rfl ?_
        refine ez_top (nI 0) (by decide) ?_
        refine ez_istore 360 [(5, eI (nI 0)), (6, eI (nI r)), (4, eI (nI k)), (3, eI (nI c)), (2, eI (nI s)), (1, eI (nI m)), (0, eR 12 0)] dX12_begins_358 rfl (by decide) rfl ?_
        refine ez_iinc 363 (nI (r + 1)) [(6, eI (nI (r + 1))), (5, eI (nI 0)), (4, eI (nI k)), (3, eI (nI c)), (2, eI (nI s)), (1, eI (nI m)), (0, eR 12 0)] dX12_begins_360 rfl rfl (nI_add r 1) (by decide) rfl ?_
        refine ez_goto 319 dX12_begins_363 (by decide) ?_
        refine ez_drop [(6, eI (nI (r + 1))), (5, eI (nI 0)), (4, eI (nI k)), (3, eI (nI c)), (2, eI (nI s)), (1, eI (nI m)), (0, eR 12 0)] (by simp) ?_
        exact ih (q.1.2.1 m - (r + 1)) (by omega) (r + 1) rfl (by omega)
      · exact absurd h335 (ep_m1 (by omega))
set_option maxRecDepth 20000 in
theorem lp_mbi (g : EzH) (d : Nat) {q : EpS} (m s c i : Nat) (P : Option EzV → EzM → Prop) (M : EzM) (hd : 3 ≤ d) (hW : WF q) (hC : RM q M) (hs : s < 4) (h0 : 0 < q.2.2.2.1.1 s) (hm : m < q.1.1) (hc : c < 2) (hK : BK (q.2.2.2.1.2.2 s) (q.2.2.2.1.2.1 s)) (hi : i < q.2.2.2.1.2.1 s) (K : ∀ (a : Nat) (M2 : EzM), a < 2 → (a = 1 ↔ ∃ x, x < q.1.2.1 m ∧ (b_w (q.1.2.2.1 m) (b_it (q.2.2.2.1.2.2 s)) x (i + 1)).isSome = true) → FX (fun k i s => k = 66) M M2 → (∀ x, x < q.1.2.1 m → M2.1 66 0 x = er_ey (b_w (q.1.2.2.1 m) (b_it (q.2.2.2.1.2.2 s)) x (i + 1))) → Ez (true, g) mX12_begins d 294 [(8, eI (nI (q.1.2.1 m))), (7, eI (nI a)), (6, eI (nI (b_it (q.2.2.2.1.2.2 s) i))), (5, eI (nI i)), (4, eI (-1)), (3, eI (nI c)), (2, eI (nI s)), (1, eI (nI m)), (0, eR 12 0)] [] M2 P) : ∀ (z : Nat) (r : Nat) (a : Nat) (M1 : EzM), q.1.2.1 m - r = z → r ≤ q.1.2.1 m → a < 2 → (a = 1 ↔ ∃ x, x < r ∧ (b_w (q.1.2.2.1 m) (b_it (q.2.2.2.1.2.2 s)) x (i + 1)).isSome = true) → FX (fun k i s => k = 66) M M1 → (∀ x, r ≤ x → x < q.1.2.1 m → M1.1 66 0 x = er_ey (b_w (q.1.2.2.1 m) (b_it (q.2.2.2.1.2.2 s)) x (i))) → (∀ x, x < r → M1.1 66 0 x = er_ey (b_w (q.1.2.2.1 m) (b_it (q.2.2.2.1.2.2 s)) x (i + 1))) → Ez (true, g) mX12_begins d 173 [(8, eI (nI r)), (7, eI (nI a)), (6, eI (nI (b_it (q.2.2.2.1.2.2 s) i))), (5, eI (nI i)), (4, eI (-1)), (3, eI (nI c)), (2, eI (nI s)), (1, eI (nI m)), (0, eR 12 0)] [] M1 (P) := by
  intro z
  induction z using Nat.strongRecOn with
  | ind z ih =>
    intro r a M1 hz hr ha2 ha hF hv hu
    have s40 := (hW.2.2.2.1 s hs).2 h0
    have n10 := (hW.1.2 m hm).2.1
    have n1 := (hW.1.2 m hm).1
    have q4 := hW.1.1
    have hzz := g_WFz hW.1 hm
    have hin : ∀ r, r < q.1.2.1 m → ∀ i v, b_w (q.1.2.2.1 m) (b_it (q.2.2.2.1.2.2 s)) r (i) = some v → v < 2 ^ 31 := fun r hr i v e9 => by have z9 := b_in hzz (b_it4 (q.2.2.2.1.2.2 s)) hr i v e9; omega
    refine ez_iload 175 dX12_begins_173 rfl rfl ?_
    refine ez_aload_n 176 dX12_begins_175 rfl rfl ?_
    refine ez_getf 179 (eR 46 0) dX12_begins_176 rfl fl_X12_26 (by show 0 < 1; omega) rfl ?_
    refine ez_iload_n 180 dX12_begins_179 rfl rfl ?_
    refine ez_ialdN m 181 dX12_begins_180 rfl (by decide) (by show 0 < 1; omega) (by show m < 4; omega) ?_
    refine ez_top (nI (q.1.2.1 m)) (by rw [hF _ _ _ (by omega)]; exact (hC.1.2 m (by omega)).1) ?_
    refine ez_ncmp_ge 184 294 dX12_begins_181 rfl (by decide) (by omega) (by omega) (fun h181 => ?_) (fun h181 => ?_)
    · have e9 : r = q.1.2.1 m := by omega
      rw [e9] at ha hu
      rw [e9]
      exact K a M1 ha2 ha hF hu
    · refine ez_aload_n 185 dX12_begins_184 rfl rfl ?_
      refine ez_getf 188 (eR 66 0) dX12_begins_185 rfl fl_X12_87 (by show 0 < 1; omega) rfl ?_
      refine ez_iload 190 dX12_begins_188 rfl rfl ?_
      refine ez_ialdN r 191 dX12_begins_190 rfl (by decide) (by show 0 < 1; omega) (by show r < 10; omega) ?_
      cases ew : b_w (q.1.2.2.1 m) (b_it (q.2.2.2.1.2.2 s)) r (i) with
      | none =>
        have u9 : M1.1 66 0 r = -1 := by rw [hv r (by omega) (by omega), ew]; rfl
        rw [u9]
        refine ez_iconst 192 dX12_begins_191 rfl (-1) (by decide) ?_
        refine ez_icmp_ne 195 198 dX12_begins_192 rfl (by decide) (fun h192 => ?_) (fun h192 => ?_)
        · exact absurd rfl h192
        · refine ez_goto 288 dX12_begins_195 (by decide) ?_
          refine ez_iinc 291 (nI (r + 1)) [(8, eI (nI (r + 1))), (7, eI (nI a)), (6, eI (nI (b_it (q.2.2.2.1.2.2 s) i))), (5, eI (nI i)), (4, eI (-1)), (3, eI (nI c)), (2, eI (nI s)), (1, eI (nI m)), (0, eR 12 0)] dX12_begins_288 rfl rfl (nI_add r 1) (by decide) rfl ?_
          refine ez_goto 173 dX12_begins_291 (by decide) ?_
          have w9 : b_w (q.1.2.2.1 m) (b_it (q.2.2.2.1.2.2 s)) r (i + 1) = none := b_n ew 1
          refine ez_drop [(8, eI (nI (r + 1))), (7, eI (nI a)), (6, eI (nI (b_it (q.2.2.2.1.2.2 s) i))), (5, eI (nI i)), (4, eI (-1)), (3, eI (nI c)), (2, eI (nI s)), (1, eI (nI m)), (0, eR 12 0)] (by simp) ?_
          exact ih (q.1.2.1 m - (r + 1)) (by omega) (r + 1) a M1 rfl (by omega) ha2 (er_any3 ha (by rw [w9]; decide)) hF (fun x h1 h2 => hv x (by omega) h2) (fun x hx => by
            by_cases e : x = r
            · rw [e, u9, w9]; rfl
            · exact hu x (by omega))
      | some v =>
        have v9 := b_in hzz (b_it4 _) (show r < q.1.2.1 m by omega) i v ew
        have t4 := b_it4 (q.2.2.2.1.2.2 s) i
        have u9 : M1.1 66 0 r = nI v := by rw [hv r (by omega) (by omega), ew]; rfl
        rw [u9]
        refine ez_iconst 192 dX12_begins_191 rfl (-1) (by decide) ?_
        refine ez_icmp_ne 195 198 dX12_begins_192 rfl (by decide) (fun h192 => ?_) (fun h192 => ?_)
        · refine ez_iload 200 dX12_begins_198 rfl rfl ?_
          refine ez_iconst 201 dX12_begins_200 rfl (nI 2) (by decide) ?_
          refine ez_irem 202 dX12_begins_201 rfl (by decide) ?_
          refine ez_top (nI (i % 2)) (pk_rem (by omega) (by omega) (by omega)) ?_
          refine ez_nif_ne 205 229 dX12_begins_202 rfl (by decide) (by omega) (fun h202 => ?_) (fun h202 => ?_)
          · refine ez_aload_n 230 dX12_begins_229 rfl rfl ?_
            refine ez_getf 233 (eR 66 0) dX12_begins_230 rfl fl_X12_87 (by show 0 < 1; omega) rfl ?_
            refine ez_iload 235 dX12_begins_233 rfl rfl ?_
            refine ez_aload_n 236 dX12_begins_235 rfl rfl ?_
            refine ez_getf 239 (eR 66 0) dX12_begins_236 rfl fl_X12_87 (by show 0 < 1; omega) rfl ?_
            refine ez_iload 241 dX12_begins_239 rfl rfl ?_
            refine ez_ialdN r 242 dX12_begins_241 rfl (by decide) (by show 0 < 1; omega) (by show r < 10; omega) ?_
            refine ez_top (nI v) u9 ?_
            refine ez_bipush 244 dX12_begins_242 rfl (nI 10) (by decide) ?_
            refine ez_irem 245 dX12_begins_244 rfl (by decide) ?_
            refine ez_top (nI (v % 10)) (pk_rem (by omega) (by omega) (by omega)) ?_
            refine ez_iload 247 dX12_begins_245 rfl rfl ?_
            refine ez_ncmp_ne 250 263 dX12_begins_247 rfl (by decide) (by omega) (by omega) (fun h247 => ?_) (fun h247 => ?_)
            · refine ez_iconst 264 dX12_begins_263 rfl (-1) (by decide) ?_
              refine ez_iastN r 265 dX12_begins_264 rfl (by decide) (by show 0 < 1; omega) (by show r < 10; omega) ?_
              refine ez_iload 267 dX12_begins_265 rfl rfl ?_
              refine ez_nif_ne 270 281 dX12_begins_267 rfl (by decide) (by omega) (fun h267 => ?_) (fun h267 => ?_)
              · refine ez_iconst 282 dX12_begins_281 rfl (nI 1) (by decide) ?_
                refine ez_goto 286 dX12_begins_282 (by decide) ?_
                refine ez_istore 288 [(7, eI (nI 1)), (8, eI (nI r)), (6, eI (nI (b_it (q.2.2.2.1.2.2 s) i))), (5, eI (nI i)), (4, eI (-1)), (3, eI (nI c)), (2, eI (nI s)), (1, eI (nI m)), (0, eR 12 0)] dX12_begins_286 rfl (by decide) rfl ?_
                refine ez_iinc 291 (nI (r + 1)) [(8, eI (nI (r + 1))), (7, eI (nI 1)), (6, eI (nI (b_it (q.2.2.2.1.2.2 s) i))), (5, eI (nI i)), (4, eI (-1)), (3, eI (nI c)), (2, eI (nI s)), (1, eI (nI m)), (0, eR 12 0)] dX12_begins_288 rfl rfl (nI_add r 1) (by decide) rfl ?_
                refine ez_goto 173 dX12_begins_291 (by decide) ?_
                have w9 : b_w (q.1.2.2.1 m) (b_it (q.2.2.2.1.2.2 s)) r (i + 1) = none := by rw [b_s ew, if_neg (by omega), if_neg (by omega)]
                have x9 : -1 = er_ey (b_w (q.1.2.2.1 m) (b_it (q.2.2.2.1.2.2 s)) r (i + 1)) := by rw [w9]; rfl
                have a1 : a = 1 := by clear ha; omega
                have ha9 := er_any1 (f := fun x => (b_w (q.1.2.2.1 m) (b_it (q.2.2.2.1.2.2 s)) x (i + 1)).isSome) ha a1
                clear ha
                refine ez_drop [(8, eI (nI (r + 1))), (7, eI (nI 1)), (6, eI (nI (b_it (q.2.2.2.1.2.2 s) i))), (5, eI (nI i)), (4, eI (-1)), (3, eI (nI c)), (2, eI (nI s)), (1, eI (nI m)), (0, eR 12 0)] (by simp) ?_
                exact ih (q.1.2.1 m - (r + 1)) (by omega) (r + 1) 1 _ rfl (by omega) (by omega) ha9 (hF.st rfl) (fun x h1 h2 => by rw [ez_rd, if_neg (by omega)]; exact hv x (by omega) h2) (fun x hx => by
                  rw [ez_rd]
                  by_cases e : x = r
                  · rw [if_pos ⟨rfl, rfl, e⟩, e]; exact x9
                  · rw [if_neg (fun z => e z.2.2)]; exact hu x (by omega))
              · refine ez_aload_n 271 dX12_begins_270 rfl rfl ?_
                refine ez_getf 274 (eR 66 0) dX12_begins_271 rfl fl_X12_87 (by show 0 < 1; omega) rfl ?_
                refine ez_iload 276 dX12_begins_274 rfl rfl ?_
                refine ez_ialdN r 277 dX12_begins_276 rfl (by decide) (by show 0 < 1; omega) (by show r < 10; omega) ?_
                refine ez_top (-1) (by simp [ez_rd]) ?_
                refine ez_iconst 278 dX12_begins_277 rfl (-1) (by decide) ?_
                refine ez_icmp_eq 281 285 dX12_begins_278 rfl (by decide) (fun h278 => ?_) (fun h278 => ?_)
                · refine ez_iconst 286 dX12_begins_285 rfl (nI 0) (by decide) ?_
                  refine ez_istore 288 [(7, eI (nI 0)), (8, eI (nI r)), (6, eI (nI (b_it (q.2.2.2.1.2.2 s) i))), (5, eI (nI i)), (4, eI (-1)), (3, eI (nI c)), (2, eI (nI s)), (1, eI (nI m)), (0, eR 12 0)] dX12_begins_286 rfl (by decide) rfl ?_
                  refine ez_iinc 291 (nI (r + 1)) [(8, eI (nI (r + 1))), (7, eI (nI 0)), (6, eI (nI (b_it (q.2.2.2.1.2.2 s) i))), (5, eI (nI i)), (4, eI (-1)), (3, eI (nI c)), (2, eI (nI s)), (1, eI (nI m)), (0, eR 12 0)] dX12_begins_288 rfl rfl (nI_add r 1) (by decide) rfl ?_
                  refine ez_goto 173 dX12_begins_291 (by decide) ?_
                  have w9 : b_w (q.1.2.2.1 m) (b_it (q.2.2.2.1.2.2 s)) r (i + 1) = none := by rw [b_s ew, if_neg (by omega), if_neg (by omega)]
                  have x9 : -1 = er_ey (b_w (q.1.2.2.1 m) (b_it (q.2.2.2.1.2.2 s)) r (i + 1)) := by rw [w9]; rfl
                  refine ez_drop [(8, eI (nI (r + 1))), (7, eI (nI 0)), (6, eI (nI (b_it (q.2.2.2.1.2.2 s) i))), (5, eI (nI i)), (4, eI (-1)), (3, eI (nI c)), (2, eI (nI s)), (1, eI (nI m)), (0, eR 12 0)] (by simp) ?_
                  exact ih (q.1.2.1 m - (r + 1)) (by omega) (r + 1) 0 _ rfl (by omega) (by omega) (show 0 = 1 ↔ _ from (show a = 0 by omega) ▸ er_any3 (f := fun x => (b_w (q.1.2.2.1 m) (b_it (q.2.2.2.1.2.2 s)) x (i + 1)).isSome) ha (by show ¬ (b_w (q.1.2.2.1 m) (b_it (q.2.2.2.1.2.2 s)) r (i + 1)).isSome = true; rw [(er_ey1 (hin r (by omega) (i + 1))).mp (x9.symm.trans h278)]; decide)) (hF.st rfl) (fun x h1 h2 => by rw [ez_rd, if_neg (by omega)]; exact hv x (by omega) h2) (fun x hx => by
                    rw [ez_rd]
                    by_cases e : x = r
                    · rw [if_pos ⟨rfl, rfl, e⟩, e]; exact x9
                    · rw [if_neg (fun z => e z.2.2)]; exact hu x (by omega))
                · refine ez_iconst 282 dX12_begins_281 rfl (nI 1) (by decide) ?_
                  refine ez_goto 286 dX12_begins_282 (by decide) ?_
                  refine ez_istore 288 [(7, eI (nI 1)), (8, eI (nI r)), (6, eI (nI (b_it (q.2.2.2.1.2.2 s) i))), (5, eI (nI i)), (4, eI (-1)), (3, eI (nI c)), (2, eI (nI s)), (1, eI (nI m)), (0, eR 12 0)] dX12_begins_286 rfl (by decide) rfl ?_
                  refine ez_iinc 291 (nI (r + 1)) [(8, eI (nI (r + 1))), (7, eI (nI 1)), (6, eI (nI (b_it (q.2.2.2.1.2.2 s) i))), (5, eI (nI i)), (4, eI (-1)), (3, eI (nI c)), (2, eI (nI s)), (1, eI (nI m)), (0, eR 12 0)] dX12_begins_288 rfl rfl (nI_add r 1) (by decide) rfl ?_
                  refine ez_goto 173 dX12_begins_291 (by decide) ?_
                  have w9 : b_w (q.1.2.2.1 m) (b_it (q.2.2.2.1.2.2 s)) r (i + 1) = none := by rw [b_s ew, if_neg (by omega), if_neg (by omega)]
                  have x9 : -1 = er_ey (b_w (q.1.2.2.1 m) (b_it (q.2.2.2.1.2.2 s)) r (i + 1)) := by rw [w9]; rfl
                  refine ez_drop [(8, eI (nI (r + 1))), (7, eI (nI 1)), (6, eI (nI (b_it (q.2.2.2.1.2.2 s) i))), (5, eI (nI i)), (4, eI (-1)), (3, eI (nI c)), (2, eI (nI s)), (1, eI (nI m)), (0, eR 12 0)] (by simp) ?_
                  exact ih (q.1.2.1 m - (r + 1)) (by omega) (r + 1) 1 _ rfl (by omega) (by omega) (er_any2 (f := fun x => (b_w (q.1.2.2.1 m) (b_it (q.2.2.2.1.2.2 s)) x (i + 1)).isSome) (er_sn (fun z => h278 (x9.trans ((er_ey1 (hin r (by omega) (i + 1))).mpr z))))) (hF.st rfl) (fun x h1 h2 => by rw [ez_rd, if_neg (by omega)]; exact hv x (by omega) h2) (fun x hx => by
                    rw [ez_rd]
                    by_cases e : x = r
                    · rw [if_pos ⟨rfl, rfl, e⟩, e]; exact x9
                    · rw [if_neg (fun z => e z.2.2)]; exact hu x (by omega))
            · refine ez_aload_n 251 dX12_begins_250 rfl rfl ?_
              refine ez_getf 254 (eR 66 0) dX12_begins_251 rfl fl_X12_87 (by show 0 < 1; omega) rfl ?_
              refine ez_iload 256 dX12_begins_254 rfl rfl ?_
              refine ez_ialdN r 257 dX12_begins_256 rfl (by decide) (by show 0 < 1; omega) (by show r < 10; omega) ?_
              refine ez_top (nI v) u9 ?_
              refine ez_bipush 259 dX12_begins_257 rfl (nI 10) (by decide) ?_
              refine ez_idiv 260 dX12_begins_259 rfl (by decide) ?_
              refine ez_top (nI (v / 10)) (pk_div (by omega) (by omega) (by omega)) ?_
              refine ez_goto 264 dX12_begins_260 (by decide) ?_
              refine ez_iastN r 265 dX12_begins_264 rfl (by decide) (by show 0 < 1; omega) (by show r < 10; omega) ?_
              refine ez_iload 267 dX12_begins_265 rfl rfl ?_
              refine ez_nif_ne 270 281 dX12_begins_267 rfl (by decide) (by omega) (fun h267 => ?_) (fun h267 => ?_)
              · refine ez_iconst 282 dX12_begins_281 rfl (nI 1) (by decide) ?_
                refine ez_goto 286 dX12_begins_282 (by decide) ?_
                refine ez_istore 288 [(7, eI (nI 1)), (8, eI (nI r)), (6, eI (nI (b_it (q.2.2.2.1.2.2 s) i))), (5, eI (nI i)), (4, eI (-1)), (3, eI (nI c)), (2, eI (nI s)), (1, eI (nI m)), (0, eR 12 0)] dX12_begins_286 rfl (by decide) rfl ?_
                refine ez_iinc 291 (nI (r + 1)) [(8, eI (nI (r + 1))), (7, eI (nI 1)), (6, eI (nI (b_it (q.2.2.2.1.2.2 s) i))), (5, eI (nI i)), (4, eI (-1)), (3, eI (nI c)), (2, eI (nI s)), (1, eI (nI m)), (0, eR 12 0)] dX12_begins_288 rfl rfl (nI_add r 1) (by decide) rfl ?_
                refine ez_goto 173 dX12_begins_291 (by decide) ?_
                have w9 : b_w (q.1.2.2.1 m) (b_it (q.2.2.2.1.2.2 s)) r (i + 1) = some (v / 10) := by rw [b_s ew, if_neg (by omega), if_pos (by omega)]
                have x9 : nI (v / 10) = er_ey (b_w (q.1.2.2.1 m) (b_it (q.2.2.2.1.2.2 s)) r (i + 1)) := by rw [w9]; rfl
                have a1 : a = 1 := by clear ha; omega
                have ha9 := er_any1 (f := fun x => (b_w (q.1.2.2.1 m) (b_it (q.2.2.2.1.2.2 s)) x (i + 1)).isSome) ha a1
                clear ha
                refine ez_drop [(8, eI (nI (r + 1))), (7, eI (nI 1)), (6, eI (nI (b_it (q.2.2.2.1.2.2 s) i))), (5, eI (nI i)), (4, eI (-1)), (3, eI (nI c)), (2, eI (nI s)), (1, eI (nI m)), (0, eR 12 0)] (by simp) ?_
                exact ih (q.1.2.1 m - (r + 1)) (by omega) (r + 1) 1 _ rfl (by omega) (by omega) ha9 (hF.st rfl) (fun x h1 h2 => by rw [ez_rd, if_neg (by omega)]; exact hv x (by omega) h2) (fun x hx => by
                  rw [ez_rd]
                  by_cases e : x = r
                  · rw [if_pos ⟨rfl, rfl, e⟩, e]; exact x9
                  · rw [if_neg (fun z => e z.2.2)]; exact hu x (by omega))
              · refine ez_aload_n 271 dX12_begins_270 rfl rfl ?_
                refine ez_getf 274 (eR 66 0) dX12_begins_271 rfl fl_X12_87 (by show 0 < 1; omega) rfl ?_
                refine ez_iload 276 dX12_begins_274 rfl rfl ?_
                refine ez_ialdN r 277 dX12_begins_276 rfl (by decide) (by show 0 < 1; omega) (by show r < 10; omega) ?_
                refine ez_top (nI (v / 10)) (by simp [ez_rd]) ?_
                refine ez_iconst 278 dX12_begins_277 rfl (-1) (by decide) ?_
                refine ez_icmp_eq 281 285 dX12_begins_278 rfl (by decide) (fun h278 => ?_) (fun h278 => ?_)
                · refine ez_iconst 286 dX12_begins_285 rfl (nI 0) (by decide) ?_
                  refine ez_istore 288 [(7, eI (nI 0)), (8, eI (nI r)), (6, eI (nI (b_it (q.2.2.2.1.2.2 s) i))), (5, eI (nI i)), (4, eI (-1)), (3, eI (nI c)), (2, eI (nI s)), (1, eI (nI m)), (0, eR 12 0)] dX12_begins_286 rfl (by decide) rfl ?_
                  refine ez_iinc 291 (nI (r + 1)) [(8, eI (nI (r + 1))), (7, eI (nI 0)), (6, eI (nI (b_it (q.2.2.2.1.2.2 s) i))), (5, eI (nI i)), (4, eI (-1)), (3, eI (nI c)), (2, eI (nI s)), (1, eI (nI m)), (0, eR 12 0)] dX12_begins_288 rfl rfl (nI_add r 1) (by decide) rfl ?_
                  refine ez_goto 173 dX12_begins_291 (by decide) ?_
                  have w9 : b_w (q.1.2.2.1 m) (b_it (q.2.2.2.1.2.2 s)) r (i + 1) = some (v / 10) := by rw [b_s ew, if_neg (by omega), if_pos (by omega)]
                  have x9 : nI (v / 10) = er_ey (b_w (q.1.2.2.1 m) (b_it (q.2.2.2.1.2.2 s)) r (i + 1)) := by rw [w9]; rfl
                  refine ez_drop [(8, eI (nI (r + 1))), (7, eI (nI 0)), (6, eI (nI (b_it (q.2.2.2.1.2.2 s) i))), (5, eI (nI i)), (4, eI (-1)), (3, eI (nI c)), (2, eI (nI s)), (1, eI (nI m)), (0, eR 12 0)] (by simp) ?_
                  exact ih (q.1.2.1 m - (r + 1)) (by omega) (r + 1) 0 _ rfl (by omega) (by omega) (show 0 = 1 ↔ _ from (show a = 0 by omega) ▸ er_any3 (f := fun x => (b_w (q.1.2.2.1 m) (b_it (q.2.2.2.1.2.2 s)) x (i + 1)).isSome) ha (by show ¬ (b_w (q.1.2.2.1 m) (b_it (q.2.2.2.1.2.2 s)) r (i + 1)).isSome = true; rw [(er_ey1 (hin r (by omega) (i + 1))).mp (x9.symm.trans h278)]; decide)) (hF.st rfl) (fun x h1 h2 => by rw [ez_rd, if_neg (by omega)]; exact hv x (by omega) h2) (fun x hx => by
                    rw [ez_rd]
                    by_cases e : x = r
                    · rw [if_pos ⟨rfl, rfl, e⟩, e]; exact x9
                    · rw [if_neg (fun z => e z.2.2)]; exact hu x (by omega))
                · refine ez_iconst 282 dX12_begins_281 rfl (nI 1) (by decide) ?_
                  refine ez_goto 286 dX12_begins_282 (by decide) ?_
                  refine ez_istore 288 [(7, eI (nI 1)), (8, eI (nI r)), (6, eI (nI (b_it (q.2.2.2.1.2.2 s) i))), (5, eI (nI i)), (4, eI (-1)), (3, eI (nI c)), (2, eI (nI s)), (1, eI (nI m)), (0, eR 12 0)] dX12_begins_286 rfl (by decide) rfl ?_
                  refine ez_iinc 291 (nI (r + 1)) [(8, eI (nI (r + 1))), (7, eI (nI 1)), (6, eI (nI (b_it (q.2.2.2.1.2.2 s) i))), (5, eI (nI i)), (4, eI (-1)), (3, eI (nI c)), (2, eI (nI s)), (1, eI (nI m)), (0, eR 12 0)] dX12_begins_288 rfl rfl (nI_add r 1) (by decide) rfl ?_
                  refine ez_goto 173 dX12_begins_291 (by decide) ?_
                  have w9 : b_w (q.1.2.2.1 m) (b_it (q.2.2.2.1.2.2 s)) r (i + 1) = some (v / 10) := by rw [b_s ew, if_neg (by omega), if_pos (by omega)]
                  have x9 : nI (v / 10) = er_ey (b_w (q.1.2.2.1 m) (b_it (q.2.2.2.1.2.2 s)) r (i + 1)) := by rw [w9]; rfl
                  refine ez_drop [(8, eI (nI (r + 1))), (7, eI (nI 1)), (6, eI (nI (b_it (q.2.2.2.1.2.2 s) i))), (5, eI (nI i)), (4, eI (-1)), (3, eI (nI c)), (2, eI (nI s)), (1, eI (nI m)), (0, eR 12 0)] (by simp) ?_
                  exact ih (q.1.2.1 m - (r + 1)) (by omega) (r + 1) 1 _ rfl (by omega) (by omega) (er_any2 (f := fun x => (b_w (q.1.2.2.1 m) (b_it (q.2.2.2.1.2.2 s)) x (i + 1)).isSome) (er_sn (fun z => h278 (x9.trans ((er_ey1 (hin r (by omega) (i + 1))).mpr z))))) (hF.st rfl) (fun x h1 h2 => by rw [ez_rd, if_neg (by omega)]; exact hv x (by omega) h2) (fun x hx => by
                    rw [ez_rd]
                    by_cases e : x = r
                    · rw [if_pos ⟨rfl, rfl, e⟩, e]; exact x9
                    · rw [if_neg (fun z => e z.2.2)]; exact hu x (by omega))
          · refine ez_aload_n 206 dX12_begins_205 rfl rfl ?_
            refine ez_getf 209 (eR 66 0) dX12_begins_206 rfl fl_X12_87 (by show 0 < 1; omega) rfl ?_
            refine ez_iload 211 dX12_begins_209 rfl rfl ?_
            refine ez_aload_n 212 dX12_begins_211 rfl rfl ?_
            refine ez_iload_n 213 dX12_begins_212 rfl rfl ?_
            refine ez_aload_n 214 dX12_begins_213 rfl rfl ?_
            refine ez_getf 217 (eR 66 0) dX12_begins_214 rfl fl_X12_87 (by show 0 < 1; omega) rfl ?_
            refine ez_iload 219 dX12_begins_217 rfl rfl ?_
            refine ez_ialdN r 220 dX12_begins_219 rfl (by decide) (by show 0 < 1; omega) (by show r < 10; omega) ?_
            refine ez_top (nI v) u9 ?_
            refine ez_iload 222 dX12_begins_220 rfl rfl ?_
            refine ez_callV 225 [eI (nI m), eI (nI v), eI (nI (b_it (q.2.2.2.1.2.2 s) i))] [eI (nI r), eR 66 0] dX12_begins_222 rfl rfl ok_X12_to in_X12_to (by decide) (by show 0 < 1; omega) ln_X12_170 (by omega) (Nat.le_of_ble_eq_true rfl) (c_X12_to g (d - 1) m v (b_it (q.2.2.2.1.2.2 s) i) M1 (by omega) (by omega) (by omega)) (fun r222 M222 q222 => ?_)
            obtain ⟨rfl, e222⟩ := q222
            rw [e222, show M1.1 45 0 (40 * m + (4 * v + b_it (q.2.2.2.1.2.2 s) i)) = q.1.2.2.1 m (4 * v + b_it (q.2.2.2.1.2.2 s) i) from (by rw [hF _ _ _ (by omega)]; exact (hC.1.2 m hm).2.1 (4 * v + b_it (q.2.2.2.1.2.2 s) i) (by omega))]
            show Ez (true, g) mX12_begins d 225 [(8, eI (nI r)), (7, eI (nI a)), (6, eI (nI (b_it (q.2.2.2.1.2.2 s) i))), (5, eI (nI i)), (4, eI (-1)), (3, eI (nI c)), (2, eI (nI s)), (1, eI (nI m)), (0, eR 12 0)] [eI (q.1.2.2.1 m (4 * v + b_it (q.2.2.2.1.2.2 s) i)), eI (nI r), eR 66 0] M1 _
            refine ez_iastN r 226 dX12_begins_225 rfl (by decide) (by show 0 < 1; omega) (by show r < 10; omega) ?_
            refine ez_goto 265 dX12_begins_226 (by decide) ?_
            refine ez_iload 267 dX12_begins_265 rfl rfl ?_
            refine ez_nif_ne 270 281 dX12_begins_267 rfl (by decide) (by omega) (fun h267 => ?_) (fun h267 => ?_)
            · refine ez_iconst 282 dX12_begins_281 rfl (nI 1) (by decide) ?_
              refine ez_goto 286 dX12_begins_282 (by decide) ?_
              refine ez_istore 288 [(7, eI (nI 1)), (8, eI (nI r)), (6, eI (nI (b_it (q.2.2.2.1.2.2 s) i))), (5, eI (nI i)), (4, eI (-1)), (3, eI (nI c)), (2, eI (nI s)), (1, eI (nI m)), (0, eR 12 0)] dX12_begins_286 rfl (by decide) rfl ?_
              refine ez_iinc 291 (nI (r + 1)) [(8, eI (nI (r + 1))), (7, eI (nI 1)), (6, eI (nI (b_it (q.2.2.2.1.2.2 s) i))), (5, eI (nI i)), (4, eI (-1)), (3, eI (nI c)), (2, eI (nI s)), (1, eI (nI m)), (0, eR 12 0)] dX12_begins_288 rfl rfl (nI_add r 1) (by decide) rfl ?_
              refine ez_goto 173 dX12_begins_291 (by decide) ?_
              have w9 : b_w (q.1.2.2.1 m) (b_it (q.2.2.2.1.2.2 s)) r (i + 1) = er_lo (q.1.2.2.1 m (4 * v + b_it (q.2.2.2.1.2.2 s) i)) := by rw [b_s ew, if_pos (by omega)]
              have x9 : q.1.2.2.1 m (4 * v + b_it (q.2.2.2.1.2.2 s) i) = er_ey (b_w (q.1.2.2.1 m) (b_it (q.2.2.2.1.2.2 s)) r (i + 1)) := by
                rw [w9]
                rcases hzz.2.2 v (b_it (q.2.2.2.1.2.2 s) i) (by omega) t4 with z | ⟨_, r2, c2, g2, g3, z⟩
                · rw [z]; rfl
                · rw [z, b_lo (by omega)]; rfl
              have a1 : a = 1 := by clear ha; omega
              have ha9 := er_any1 (f := fun x => (b_w (q.1.2.2.1 m) (b_it (q.2.2.2.1.2.2 s)) x (i + 1)).isSome) ha a1
              clear ha
              refine ez_drop [(8, eI (nI (r + 1))), (7, eI (nI 1)), (6, eI (nI (b_it (q.2.2.2.1.2.2 s) i))), (5, eI (nI i)), (4, eI (-1)), (3, eI (nI c)), (2, eI (nI s)), (1, eI (nI m)), (0, eR 12 0)] (by simp) ?_
              exact ih (q.1.2.1 m - (r + 1)) (by omega) (r + 1) 1 _ rfl (by omega) (by omega) ha9 (hF.st rfl) (fun x h1 h2 => by rw [ez_rd, if_neg (by omega)]; exact hv x (by omega) h2) (fun x hx => by
                rw [ez_rd]
                by_cases e : x = r
                · rw [if_pos ⟨rfl, rfl, e⟩, e]; exact x9
                · rw [if_neg (fun z => e z.2.2)]; exact hu x (by omega))
            · refine ez_aload_n 271 dX12_begins_270 rfl rfl ?_
              refine ez_getf 274 (eR 66 0) dX12_begins_271 rfl fl_X12_87 (by show 0 < 1; omega) rfl ?_
              refine ez_iload 276 dX12_begins_274 rfl rfl ?_
              refine ez_ialdN r 277 dX12_begins_276 rfl (by decide) (by show 0 < 1; omega) (by show r < 10; omega) ?_
              refine ez_top (q.1.2.2.1 m (4 * v + b_it (q.2.2.2.1.2.2 s) i)) (by simp [ez_rd]) ?_
              refine ez_iconst 278 dX12_begins_277 rfl (-1) (by decide) ?_
              refine ez_icmp_eq 281 285 dX12_begins_278 rfl (by decide) (fun h278 => ?_) (fun h278 => ?_)
              · refine ez_iconst 286 dX12_begins_285 rfl (nI 0) (by decide) ?_
                refine ez_istore 288 [(7, eI (nI 0)), (8, eI (nI r)), (6, eI (nI (b_it (q.2.2.2.1.2.2 s) i))), (5, eI (nI i)), (4, eI (-1)), (3, eI (nI c)), (2, eI (nI s)), (1, eI (nI m)), (0, eR 12 0)] dX12_begins_286 rfl (by decide) rfl ?_
                refine ez_iinc 291 (nI (r + 1)) [(8, eI (nI (r + 1))), (7, eI (nI 0)), (6, eI (nI (b_it (q.2.2.2.1.2.2 s) i))), (5, eI (nI i)), (4, eI (-1)), (3, eI (nI c)), (2, eI (nI s)), (1, eI (nI m)), (0, eR 12 0)] dX12_begins_288 rfl rfl (nI_add r 1) (by decide) rfl ?_
                refine ez_goto 173 dX12_begins_291 (by decide) ?_
                have w9 : b_w (q.1.2.2.1 m) (b_it (q.2.2.2.1.2.2 s)) r (i + 1) = er_lo (q.1.2.2.1 m (4 * v + b_it (q.2.2.2.1.2.2 s) i)) := by rw [b_s ew, if_pos (by omega)]
                have x9 : q.1.2.2.1 m (4 * v + b_it (q.2.2.2.1.2.2 s) i) = er_ey (b_w (q.1.2.2.1 m) (b_it (q.2.2.2.1.2.2 s)) r (i + 1)) := by
                  rw [w9]
                  rcases hzz.2.2 v (b_it (q.2.2.2.1.2.2 s) i) (by omega) t4 with z | ⟨_, r2, c2, g2, g3, z⟩
                  · rw [z]; rfl
                  · rw [z, b_lo (by omega)]; rfl
                refine ez_drop [(8, eI (nI (r + 1))), (7, eI (nI 0)), (6, eI (nI (b_it (q.2.2.2.1.2.2 s) i))), (5, eI (nI i)), (4, eI (-1)), (3, eI (nI c)), (2, eI (nI s)), (1, eI (nI m)), (0, eR 12 0)] (by simp) ?_
                exact ih (q.1.2.1 m - (r + 1)) (by omega) (r + 1) 0 _ rfl (by omega) (by omega) (show 0 = 1 ↔ _ from (show a = 0 by omega) ▸ er_any3 (f := fun x => (b_w (q.1.2.2.1 m) (b_it (q.2.2.2.1.2.2 s)) x (i + 1)).isSome) ha (by show ¬ (b_w (q.1.2.2.1 m) (b_it (q.2.2.2.1.2.2 s)) r (i + 1)).isSome = true; rw [(er_ey1 (hin r (by omega) (i + 1))).mp (x9.symm.trans h278)]; decide)) (hF.st rfl) (fun x h1 h2 => by rw [ez_rd, if_neg (by omega)]; exact hv x (by omega) h2) (fun x hx => by
                  rw [ez_rd]
                  by_cases e : x = r
                  · rw [if_pos ⟨rfl, rfl, e⟩, e]; exact x9
                  · rw [if_neg (fun z => e z.2.2)]; exact hu x (by omega))
              · refine ez_iconst 282 dX12_begins_281 rfl (nI 1) (by decide) ?_
                refine ez_goto 286 dX12_begins_282 (by decide) ?_
                refine ez_istore 288 [(7, eI (nI 1)), (8, eI (nI r)), (6, eI (nI (b_it (q.2.2.2.1.2.2 s) i))), (5, eI (nI i)), (4, eI (-1)), (3, eI (nI c)), (2, eI (nI s)), (1, eI (nI m)), (0, eR 12 0)] dX12_begins_286 rfl (by decide) rfl ?_
                refine ez_iinc 291 (nI (r + 1)) [(8, eI (nI (r + 1))), (7, eI (nI 1)), (6, eI (nI (b_it (q.2.2.2.1.2.2 s) i))), (5, eI (nI i)), (4, eI (-1)), (3, eI (nI c)), (2, eI (nI s)), (1, eI (nI m)), (0, eR 12 0)] dX12_begins_288 rfl rfl (nI_add r 1) (by decide) rfl ?_
                refine ez_goto 173 dX12_begins_291 (by decide) ?_
                have w9 : b_w (q.1.2.2.1 m) (b_it (q.2.2.2.1.2.2 s)) r (i + 1) = er_lo (q.1.2.2.1 m (4 * v + b_it (q.2.2.2.1.2.2 s) i)) := by rw [b_s ew, if_pos (by omega)]
                have x9 : q.1.2.2.1 m (4 * v + b_it (q.2.2.2.1.2.2 s) i) = er_ey (b_w (q.1.2.2.1 m) (b_it (q.2.2.2.1.2.2 s)) r (i + 1)) := by
                  rw [w9]
                  rcases hzz.2.2 v (b_it (q.2.2.2.1.2.2 s) i) (by omega) t4 with z | ⟨_, r2, c2, g2, g3, z⟩
                  · rw [z]; rfl
                  · rw [z, b_lo (by omega)]; rfl
                refine ez_drop [(8, eI (nI (r + 1))), (7, eI (nI 1)), (6, eI (nI (b_it (q.2.2.2.1.2.2 s) i))), (5, eI (nI i)), (4, eI (-1)), (3, eI (nI c)), (2, eI (nI s)), (1, eI (nI m)), (0, eR 12 0)] (by simp) ?_
                exact ih (q.1.2.1 m - (r + 1)) (by omega) (r + 1) 1 _ rfl (by omega) (by omega) (er_any2 (f := fun x => (b_w (q.1.2.2.1 m) (b_it (q.2.2.2.1.2.2 s)) x (i + 1)).isSome) (er_sn (fun z => h278 (x9.trans ((er_ey1 (hin r (by omega) (i + 1))).mpr z))))) (hF.st rfl) (fun x h1 h2 => by rw [ez_rd, if_neg (by omega)]; exact hv x (by omega) h2) (fun x hx => by
                  rw [ez_rd]
                  by_cases e : x = r
                  · rw [if_pos ⟨rfl, rfl, e⟩, e]; exact x9
                  · rw [if_neg (fun z => e z.2.2)]; exact hu x (by omega))
        · exact absurd h192 (ep_m1 (by omega))
set_option maxRecDepth 20000 in
theorem mb_136 (g : EzH) (d : Nat) {q : EpS} (m s c k : Nat) (M M1 : EzM) (hd : 3 ≤ d) (hW : WF q) (hC : RM q M) (hs : s < 4) (h0 : 0 < q.2.2.2.1.1 s) (hm : m < q.1.1) (hc : c < 2) (hK : BK (q.2.2.2.1.2.2 s) (q.2.2.2.1.2.1 s)) (hF : FX (fun k i s => k = 66) M M1) (hk : k < q.2.2.2.1.2.1 s) (hdd : ∀ x, x < q.1.2.1 m → b_w (q.1.2.2.1 m) (b_it (q.2.2.2.1.2.2 s)) x (k + 1) = none) (hal : ∃ x, x < q.1.2.1 m ∧ (b_w (q.1.2.2.1 m) (b_it (q.2.2.2.1.2.2 s)) x (k)).isSome = true) : Ez (true, g) mX12_begins d 136 [(5, eI (nI (k + 1))), (4, eI (nI k)), (3, eI (nI c)), (2, eI (nI s)), (1, eI (nI m)), (0, eR 12 0)] [] M1 (fun r M' => r = some (eI (S_begins q (nI m) (nI s) (nI c))) ∧ RM q M' ∧ FX CM M M') := by
  have s40 := (hW.2.2.2.1 s hs).2 h0
  have n10 := (hW.1.2 m hm).2.1
  have n1 := (hW.1.2 m hm).1
  have q4 := hW.1.1
  have hzz := g_WFz hW.1 hm
  have hin : ∀ r, r < q.1.2.1 m → ∀ i v, b_w (q.1.2.2.1 m) (b_it (q.2.2.2.1.2.2 s)) r (i) = some v → v < 2 ^ 31 := fun r hr i v e9 => by have z9 := b_in hzz (b_it4 (q.2.2.2.1.2.2 s)) hr i v e9; omega
  refine ez_iload 138 dX12_begins_136 rfl rfl ?_
  refine ez_aload_n 139 dX12_begins_138 rfl rfl ?_
  refine ez_getf 142 (eR 72 0) dX12_begins_139 rfl fl_X12_105 (by show 0 < 1; omega) rfl ?_
  refine ez_iload_n 143 dX12_begins_142 rfl rfl ?_
  refine ez_ialdN s 144 dX12_begins_143 rfl (by decide) (by show 0 < 1; omega) (by show s < 4; omega) ?_
  refine ez_top (nI (q.2.2.2.1.2.1 s)) (by rw [hF _ _ _ (by omega)]; exact ((hC.2.2.2.1 s (by omega)).2 (by omega)).2.1) ?_
  refine ez_ncmp_ge 147 313 dX12_begins_144 rfl (by decide) (by omega) (by omega) (fun h144 => ?_) (fun h144 => ?_)
  · refine ez_iconst 314 dX12_begins_313 rfl (nI 0) (by decide) ?_
    refine ez_istore 316 [(5, eI (nI 0)), (4, eI (nI k)), (3, eI (nI c)), (2, eI (nI s)), (1, eI (nI m)), (0, eR 12 0)] dX12_begins_314 rfl (by decide) rfl ?_
    refine ez_iconst 317 dX12_begins_316 rfl (nI 0) (by decide) ?_
    refine ez_istore 319 [(6, eI (nI 0)), (5, eI (nI 0)), (4, eI (nI k)), (3, eI (nI c)), (2, eI (nI s)), (1, eI (nI m)), (0, eR 12 0)] dX12_begins_317 rfl (by decide) rfl ?_
    refine ez_drop [(6, eI (nI 0)), (5, eI (nI 0)), (4, eI (nI k)), (3, eI (nI c)), (2, eI (nI s)), (1, eI (nI m)), (0, eR 12 0)] (by simp) ?_
    exact lp_mb2 g d m s c k M1 M hd hW hC hs h0 hm hc hK hF hk hdd hal _ 0 rfl (by omega)
  · refine ez_iload 149 dX12_begins_147 rfl rfl ?_
    refine ez_iconst 150 dX12_begins_149 rfl (-1) (by decide) ?_
    refine ez_icmp_ne 153 313 dX12_begins_150 rfl (by decide) (fun h150 => ?_) (fun h150 => ?_)
    · refine ez_iconst 314 dX12_begins_313 rfl (nI 0) (by decide) ?_
      refine ez_istore 316 [(5, eI (nI 0)), (4, eI (nI k)), (3, eI (nI c)), (2, eI (nI s)), (1, eI (nI m)), (0, eR 12 0)] dX12_begins_314 rfl (by decide) rfl ?_
      refine ez_iconst 317 dX12_begins_316 rfl (nI 0) (by decide) ?_
      refine ez_istore 319 [(6, eI (nI 0)), (5, eI (nI 0)), (4, eI (nI k)), (3, eI (nI c)), (2, eI (nI s)), (1, eI (nI m)), (0, eR 12 0)] dX12_begins_317 rfl (by decide) rfl ?_
      refine ez_drop [(6, eI (nI 0)), (5, eI (nI 0)), (4, eI (nI k)), (3, eI (nI c)), (2, eI (nI s)), (1, eI (nI m)), (0, eR 12 0)] (by simp) ?_
      exact lp_mb2 g d m s c k M1 M hd hW hC hs h0 hm hc hK hF hk hdd hal _ 0 rfl (by omega)
    · exact absurd h150 (ep_m1 (by omega))
set_option maxRecDepth 20000 in
theorem mb_294 (g : EzH) (d : Nat) {q : EpS} (m s c i a : Nat) (P : Option EzV → EzM → Prop) (M1 : EzM) (ha : a < 2) (K1 : a = 1 → Ez (true, g) mX12_begins d 136 [(5, eI (nI (i + 1))), (4, eI (-1)), (3, eI (nI c)), (2, eI (nI s)), (1, eI (nI m)), (0, eR 12 0)] [] M1 P) (K2 : a = 0 → Ez (true, g) mX12_begins d 136 [(5, eI (nI (i + 1))), (4, eI (nI i)), (3, eI (nI c)), (2, eI (nI s)), (1, eI (nI m)), (0, eR 12 0)] [] M1 P) : Ez (true, g) mX12_begins d 294 [(8, eI (nI (q.1.2.1 m))), (7, eI (nI a)), (6, eI (nI (b_it (q.2.2.2.1.2.2 s) i))), (5, eI (nI i)), (4, eI (-1)), (3, eI (nI c)), (2, eI (nI s)), (1, eI (nI m)), (0, eR 12 0)] [] M1 (P) := by
  refine ez_iload 296 dX12_begins_294 rfl rfl ?_
  refine ez_nif_eq 299 303 dX12_begins_296 rfl (by decide) (by omega) (fun h296 => ?_) (fun h296 => ?_)
  · refine ez_iload 305 dX12_begins_303 rfl rfl ?_
    refine ez_istore 307 [(4, eI (nI i)), (8, eI (nI (q.1.2.1 m))), (7, eI (nI a)), (6, eI (nI (b_it (q.2.2.2.1.2.2 s) i))), (5, eI (nI i)), (3, eI (nI c)), (2, eI (nI s)), (1, eI (nI m)), (0, eR 12 0)] dX12_begins_305 rfl (by decide) rfl ?_
    refine ez_iinc 310 (nI (i + 1)) [(5, eI (nI (i + 1))), (4, eI (nI i)), (8, eI (nI (q.1.2.1 m))), (7, eI (nI a)), (6, eI (nI (b_it (q.2.2.2.1.2.2 s) i))), (3, eI (nI c)), (2, eI (nI s)), (1, eI (nI m)), (0, eR 12 0)] dX12_begins_307 rfl rfl (nI_add i 1) (by decide) rfl ?_
    refine ez_goto 136 dX12_begins_310 (by decide) ?_
    refine ez_drop [(5, eI (nI (i + 1))), (4, eI (nI i)), (3, eI (nI c)), (2, eI (nI s)), (1, eI (nI m)), (0, eR 12 0)] (by simp) ?_
    exact K2 (by omega)
  · refine ez_iconst 300 dX12_begins_299 rfl (-1) (by decide) ?_
    refine ez_goto 305 dX12_begins_300 (by decide) ?_
    refine ez_istore 307 [(4, eI (-1)), (8, eI (nI (q.1.2.1 m))), (7, eI (nI a)), (6, eI (nI (b_it (q.2.2.2.1.2.2 s) i))), (5, eI (nI i)), (3, eI (nI c)), (2, eI (nI s)), (1, eI (nI m)), (0, eR 12 0)] dX12_begins_305 rfl (by decide) rfl ?_
    refine ez_iinc 310 (nI (i + 1)) [(5, eI (nI (i + 1))), (4, eI (-1)), (8, eI (nI (q.1.2.1 m))), (7, eI (nI a)), (6, eI (nI (b_it (q.2.2.2.1.2.2 s) i))), (3, eI (nI c)), (2, eI (nI s)), (1, eI (nI m)), (0, eR 12 0)] dX12_begins_307 rfl rfl (nI_add i 1) (by decide) rfl ?_
    refine ez_goto 136 dX12_begins_310 (by decide) ?_
    refine ez_drop [(5, eI (nI (i + 1))), (4, eI (-1)), (3, eI (nI c)), (2, eI (nI s)), (1, eI (nI m)), (0, eR 12 0)] (by simp) ?_
    exact K1 (by omega)
set_option maxRecDepth 20000 in
theorem lp_mbo (g : EzH) (d : Nat) {q : EpS} (m s c : Nat) (M : EzM) (hd : 3 ≤ d) (hW : WF q) (hC : RM q M) (hs : s < 4) (h0 : 0 < q.2.2.2.1.1 s) (hm : m < q.1.1) (hc : c < 2) (hK : BK (q.2.2.2.1.2.2 s) (q.2.2.2.1.2.1 s)) : ∀ (z : Nat) (i : Nat) (M1 : EzM), q.2.2.2.1.2.1 s - i = z → i ≤ q.2.2.2.1.2.1 s → FX (fun k i s => k = 66) M M1 → (∀ x, x < q.1.2.1 m → M1.1 66 0 x = er_ey (b_w (q.1.2.2.1 m) (b_it (q.2.2.2.1.2.2 s)) x (i))) → (∃ x, x < q.1.2.1 m ∧ (b_w (q.1.2.2.1 m) (b_it (q.2.2.2.1.2.2 s)) x (i)).isSome = true) → Ez (true, g) mX12_begins d 136 [(5, eI (nI i)), (4, eI (-1)), (3, eI (nI c)), (2, eI (nI s)), (1, eI (nI m)), (0, eR 12 0)] [] M1 (fun r M' => r = some (eI (S_begins q (nI m) (nI s) (nI c))) ∧ RM q M' ∧ FX CM M M') := by
  intro z
  induction z using Nat.strongRecOn with
  | ind z ih =>
    intro i M1 hz hi hF hv hal
    have s40 := (hW.2.2.2.1 s hs).2 h0
    have n10 := (hW.1.2 m hm).2.1
    have n1 := (hW.1.2 m hm).1
    have q4 := hW.1.1
    have hzz := g_WFz hW.1 hm
    have hin : ∀ r, r < q.1.2.1 m → ∀ i v, b_w (q.1.2.2.1 m) (b_it (q.2.2.2.1.2.2 s)) r (i) = some v → v < 2 ^ 31 := fun r hr i v e9 => by have z9 := b_in hzz (b_it4 (q.2.2.2.1.2.2 s)) hr i v e9; omega
    refine ez_iload 138 dX12_begins_136 rfl rfl ?_
    refine ez_aload_n 139 dX12_begins_138 rfl rfl ?_
    refine ez_getf 142 (eR 72 0) dX12_begins_139 rfl fl_X12_105 (by show 0 < 1; omega) rfl ?_
    refine ez_iload_n 143 dX12_begins_142 rfl rfl ?_
    refine ez_ialdN s 144 dX12_begins_143 rfl (by decide) (by show 0 < 1; omega) (by show s < 4; omega) ?_
    refine ez_top (nI (q.2.2.2.1.2.1 s)) (by rw [hF _ _ _ (by omega)]; exact ((hC.2.2.2.1 s (by omega)).2 (by omega)).2.1) ?_
    refine ez_ncmp_ge 147 313 dX12_begins_144 rfl (by decide) (by omega) (by omega) (fun h144 => ?_) (fun h144 => ?_)
    · refine ez_iconst 314 dX12_begins_313 rfl (nI 0) (by decide) ?_
      refine ez_istore 316 [(5, eI (nI 0)), (4, eI (-1)), (3, eI (nI c)), (2, eI (nI s)), (1, eI (nI m)), (0, eR 12 0)] dX12_begins_314 rfl (by decide) rfl ?_
      refine ez_iconst 317 dX12_begins_316 rfl (nI 0) (by decide) ?_
      refine ez_istore 319 [(6, eI (nI 0)), (5, eI (nI 0)), (4, eI (-1)), (3, eI (nI c)), (2, eI (nI s)), (1, eI (nI m)), (0, eR 12 0)] dX12_begins_317 rfl (by decide) rfl ?_
      have e9 : i = q.2.2.2.1.2.1 s := by omega
      rw [e9] at hv hal
      refine ez_drop [(6, eI (nI 0)), (5, eI (er_bi (b_al (q.1.2.2.1 m) (b_it (q.2.2.2.1.2.2 s)) (q.2.2.2.1.2.1 s)) 0)), (4, eI (-1)), (3, eI (nI c)), (2, eI (nI s)), (1, eI (nI m)), (0, eR 12 0)] (by simp [er_bi]) ?_
      exact lp_mb1 g d m s c M1 M hd hW hC hs h0 hm hc hK hF hv hal _ 0 rfl (by omega)
    · refine ez_iload 149 dX12_begins_147 rfl rfl ?_
      refine ez_iconst 150 dX12_begins_149 rfl (-1) (by decide) ?_
      refine ez_icmp_ne 153 313 dX12_begins_150 rfl (by decide) (fun h150 => ?_) (fun h150 => ?_)
      · exact absurd rfl h150
      · refine ez_aload_n 154 dX12_begins_153 rfl rfl ?_
        refine ez_getf 157 (eR 73 0) dX12_begins_154 rfl fl_X12_108 (by show 0 < 1; omega) rfl ?_
        refine ez_bipush 159 dX12_begins_157 rfl (nI 40) (by decide) ?_
        refine ez_iload_n 160 dX12_begins_159 rfl rfl ?_
        refine ez_imul 161 dX12_begins_160 rfl ?_
        refine ez_top (nI (40 * s)) (pk_mul _ _) ?_
        refine ez_iload 163 dX12_begins_161 rfl rfl ?_
        refine ez_iadd 164 dX12_begins_163 rfl ?_
        refine ez_top (nI (40 * s + i)) (nI_add _ _) ?_
        refine ez_ialdN (40 * s + i) 165 dX12_begins_164 rfl (by decide) (by show 0 < 1; omega) (by show 40 * s + i < 160; omega) ?_
        refine ez_top (nI (b_it (q.2.2.2.1.2.2 s) i)) (by rw [hF _ _ _ (by omega)]; exact (((hC.2.2.2.1 s hs).2 h0).2.2 i (by omega)).trans (hK.2 i (by omega))) ?_
        refine ez_istore 167 [(6, eI (nI (b_it (q.2.2.2.1.2.2 s) i))), (5, eI (nI i)), (4, eI (-1)), (3, eI (nI c)), (2, eI (nI s)), (1, eI (nI m)), (0, eR 12 0)] dX12_begins_165 rfl (by decide) rfl ?_
        refine ez_iconst 168 dX12_begins_167 rfl (nI 0) (by decide) ?_
        refine ez_istore 170 [(7, eI (nI 0)), (6, eI (nI (b_it (q.2.2.2.1.2.2 s) i))), (5, eI (nI i)), (4, eI (-1)), (3, eI (nI c)), (2, eI (nI s)), (1, eI (nI m)), (0, eR 12 0)] dX12_begins_168 rfl (by decide) rfl ?_
        refine ez_iconst 171 dX12_begins_170 rfl (nI 0) (by decide) ?_
        refine ez_istore 173 [(8, eI (nI 0)), (7, eI (nI 0)), (6, eI (nI (b_it (q.2.2.2.1.2.2 s) i))), (5, eI (nI i)), (4, eI (-1)), (3, eI (nI c)), (2, eI (nI s)), (1, eI (nI m)), (0, eR 12 0)] dX12_begins_171 rfl (by decide) rfl ?_
        refine ez_drop [(8, eI (nI 0)), (7, eI (nI 0)), (6, eI (nI (b_it (q.2.2.2.1.2.2 s) i))), (5, eI (nI i)), (4, eI (-1)), (3, eI (nI c)), (2, eI (nI s)), (1, eI (nI m)), (0, eR 12 0)] (by simp) ?_
        refine lp_mbi g d m s c i _ M hd hW hC hs h0 hm hc hK (by omega) (fun a M2 ha2 ha hF2 hv2 => ?_) _ 0 0 M1 rfl (by omega) (by omega) ⟨fun z => by omega, fun ⟨x, z, _⟩ => absurd z (Nat.not_lt_zero x)⟩ hF (fun x h1 h2 => hv x h2) (fun x hx => absurd hx (Nat.not_lt_zero x))
        by_cases e : a = 1
        · exact mb_294 g d m s c i a _ M2 (by omega) (fun _ => ih (q.2.2.2.1.2.1 s - (i + 1)) (by omega) (i + 1) M2 rfl (by omega) hF2 hv2 (ha.mp e)) (fun z => absurd z (by omega))
        · exact mb_294 g d m s c i a _ M2 (by omega) (fun z => absurd e (by omega)) (fun _ => mb_136 g d m s c i M M2 hd hW hC hs h0 hm hc hK hF2 (by omega) (fun x hx => Classical.byContradiction (fun z => e (ha.mpr ⟨x, hx, er_sn z⟩))) hal)
set_option maxRecDepth 20000 in
theorem lp_mbw (g : EzH) (d : Nat) {q : EpS} (m s c : Nat) (M : EzM) (hd : 3 ≤ d) (hW : WF q) (hC : RM q M) (hs : s < 4) (h0 : 0 < q.2.2.2.1.1 s) (hm : m < q.1.1) (hc : c < 2) (hK : BK (q.2.2.2.1.2.2 s) (q.2.2.2.1.2.1 s)) : ∀ (z : Nat) (r : Nat) (M1 : EzM), q.1.2.1 m - r = z → r ≤ q.1.2.1 m → FX (fun k i s => k = 66) M M1 → (∀ x, x < r → M1.1 66 0 x = nI x) → Ez (true, g) mX12_begins d 104 [(4, eI (nI r)), (3, eI (nI c)), (2, eI (nI s)), (1, eI (nI m)), (0, eR 12 0)] [] M1 (fun r M' => r = some (eI (S_begins q (nI m) (nI s) (nI c))) ∧ RM q M' ∧ FX CM M M') := by
  intro z
  induction z using Nat.strongRecOn with
  | ind z ih =>
    intro r M1 hz hr hF hv
    have s40 := (hW.2.2.2.1 s hs).2 h0
    have n10 := (hW.1.2 m hm).2.1
    have n1 := (hW.1.2 m hm).1
    have q4 := hW.1.1
    have hzz := g_WFz hW.1 hm
    have hin : ∀ r, r < q.1.2.1 m → ∀ i v, b_w (q.1.2.2.1 m) (b_it (q.2.2.2.1.2.2 s)) r (i) = some v → v < 2 ^ 31 := fun r hr i v e9 => by have z9 := b_in hzz (b_it4 (q.2.2.2.1.2.2 s)) hr i v e9; omega
    refine ez_iload 106 dX12_begins_104 rfl rfl ?_
    refine ez_aload_n 107 dX12_begins_106 rfl rfl ?_
    refine ez_getf 110 (eR 46 0) dX12_begins_107 rfl fl_X12_26 (by show 0 < 1; omega) rfl ?_
    refine ez_iload_n 111 dX12_begins_110 rfl rfl ?_
    refine ez_ialdN m 112 dX12_begins_111 rfl (by decide) (by show 0 < 1; omega) (by show m < 4; omega) ?_
    refine ez_top (nI (q.1.2.1 m)) (by rw [hF _ _ _ (by omega)]; exact (hC.1.2 m (by omega)).1) ?_
    refine ez_ncmp_ge 115 130 dX12_begins_112 rfl (by decide) (by omega) (by omega) (fun h112 => ?_) (fun h112 => ?_)
    · refine ez_iconst 131 dX12_begins_130 rfl (-1) (by decide) ?_
      refine ez_istore 133 [(4, eI (-1)), (3, eI (nI c)), (2, eI (nI s)), (1, eI (nI m)), (0, eR 12 0)] dX12_begins_131 rfl (by decide) rfl ?_
      refine ez_iconst 134 dX12_begins_133 rfl (nI 0) (by decide) ?_
      refine ez_istore 136 [(5, eI (nI 0)), (4, eI (-1)), (3, eI (nI c)), (2, eI (nI s)), (1, eI (nI m)), (0, eR 12 0)] dX12_begins_134 rfl (by decide) rfl ?_
      refine ez_drop [(5, eI (nI 0)), (4, eI (-1)), (3, eI (nI c)), (2, eI (nI s)), (1, eI (nI m)), (0, eR 12 0)] (by simp) ?_
      exact lp_mbo g d m s c M hd hW hC hs h0 hm hc hK _ 0 M1 rfl (by omega) hF (fun x hx => hv x (by omega)) ⟨0, by omega, rfl⟩
    · refine ez_aload_n 116 dX12_begins_115 rfl rfl ?_
      refine ez_getf 119 (eR 66 0) dX12_begins_116 rfl fl_X12_87 (by show 0 < 1; omega) rfl ?_
      refine ez_iload 121 dX12_begins_119 rfl rfl ?_
      refine ez_iload 123 dX12_begins_121 rfl rfl ?_
      refine ez_iastN r 124 dX12_begins_123 rfl (by decide) (by show 0 < 1; omega) (by show r < 10; omega) ?_
      refine ez_iinc 127 (nI (r + 1)) [(4, eI (nI (r + 1))), (3, eI (nI c)), (2, eI (nI s)), (1, eI (nI m)), (0, eR 12 0)] dX12_begins_124 rfl rfl (nI_add r 1) (by decide) rfl ?_
      refine ez_goto 104 dX12_begins_127 (by decide) ?_
      exact ih (q.1.2.1 m - (r + 1)) (by omega) (r + 1) _ rfl (by omega) (hF.st rfl) (fun x hx => by
        rw [ez_rd]
        by_cases e : x = r
        · rw [if_pos ⟨rfl, rfl, e⟩, e]
        · rw [if_neg (fun z => e z.2.2)]; exact hv x (by omega))
set_option maxRecDepth 20000 in
theorem lp_mbt (g : EzH) (d : Nat) {q : EpS} (m s c : Nat) (M : EzM) (hd : 3 ≤ d) (hW : WF q) (hC : RM q M) (hs : s < 4) (h0 : 0 < q.2.2.2.1.1 s) (hm : m < q.1.1) (hc : c < 2) (he : q.2.2.2.1.2.1 s % 2 = 0) : ∀ (z : Nat) (i : Nat), q.2.2.2.1.2.1 s - i = z → i ≤ q.2.2.2.1.2.1 s → (∀ x, x < i → q.2.2.2.1.2.2 s x = nI (b_it (q.2.2.2.1.2.2 s) x)) → Ez (true, g) mX12_begins d 58 [(4, eI (nI i)), (3, eI (nI c)), (2, eI (nI s)), (1, eI (nI m)), (0, eR 12 0)] [] M (fun r M' => r = some (eI (S_begins q (nI m) (nI s) (nI c))) ∧ RM q M' ∧ FX CM M M') := by
  intro z
  induction z using Nat.strongRecOn with
  | ind z ih =>
    intro i hz hi hv
    have s40 := (hW.2.2.2.1 s hs).2 h0
    have q4 := hW.1.1
    refine ez_iload 60 dX12_begins_58 rfl rfl ?_
    refine ez_aload_n 61 dX12_begins_60 rfl rfl ?_
    refine ez_getf 64 (eR 72 0) dX12_begins_61 rfl fl_X12_105 (by show 0 < 1; omega) rfl ?_
    refine ez_iload_n 65 dX12_begins_64 rfl rfl ?_
    refine ez_ialdN s 66 dX12_begins_65 rfl (by decide) (by show 0 < 1; omega) (by show s < 4; omega) ?_
    refine ez_top (nI (q.2.2.2.1.2.1 s)) (((hC.2.2.2.1 s (by omega)).2 (by omega)).2.1) ?_
    refine ez_ncmp_ge 69 101 dX12_begins_66 rfl (by decide) (by omega) (by omega) (fun h66 => ?_) (fun h66 => ?_)
    · refine ez_iconst 102 dX12_begins_101 rfl (nI 0) (by decide) ?_
      refine ez_istore 104 [(4, eI (nI 0)), (3, eI (nI c)), (2, eI (nI s)), (1, eI (nI m)), (0, eR 12 0)] dX12_begins_102 rfl (by decide) rfl ?_
      refine ez_drop [(4, eI (nI 0)), (3, eI (nI c)), (2, eI (nI s)), (1, eI (nI m)), (0, eR 12 0)] (by simp) ?_
      exact lp_mbw g d m s c M hd hW hC hs h0 hm hc ⟨he, fun x hx => hv x (by omega)⟩ _ 0 M rfl (by omega) FX.rf (fun x hx => absurd hx (Nat.not_lt_zero x))
    · refine ez_aload_n 70 dX12_begins_69 rfl rfl ?_
      refine ez_getf 73 (eR 73 0) dX12_begins_70 rfl fl_X12_108 (by show 0 < 1; omega) rfl ?_
      refine ez_bipush 75 dX12_begins_73 rfl (nI 40) (by decide) ?_
      refine ez_iload_n 76 dX12_begins_75 rfl rfl ?_
      refine ez_imul 77 dX12_begins_76 rfl ?_
      refine ez_top (nI (40 * s)) (pk_mul _ _) ?_
      refine ez_iload 79 dX12_begins_77 rfl rfl ?_
      refine ez_iadd 80 dX12_begins_79 rfl ?_
      refine ez_top (nI (40 * s + i)) (nI_add _ _) ?_
      refine ez_ialdN (40 * s + i) 81 dX12_begins_80 rfl (by decide) (by show 0 < 1; omega) (by show 40 * s + i < 160; omega) ?_
      refine ez_top (q.2.2.2.1.2.2 s i) (((hC.2.2.2.1 s hs).2 h0).2.2 i (by omega)) ?_
      refine ez_i2l 82 dX12_begins_81 rfl ?_
      refine ez_lconst 83 dX12_begins_82 rfl (nI 0).toInt64 (by decide) ?_
      refine ez_ldc2 86 dX12_begins_83 rfl 3 cn_X12_168 ?_
      refine ez_topL (nI 3).toInt64 (by decide) ?_
      refine ez_callS 89 [eL ((q.2.2.2.1.2.2 s i).toInt64), eL ((nI 0).toInt64), eL ((nI 3).toInt64)] [] dX12_begins_86 rfl rfl ok_X12_in st_X12_in ln_X12_133 (by omega) (Nat.le_of_ble_eq_true rfl) (c_in_k g (d - 1) (q.2.2.2.1.2.2 s i) 3 M (by decide)) (fun r86 M86 q86 => ?_)
      obtain ⟨e86, ⟨rfl, i86⟩ | ⟨j86, b86, x86, rfl⟩⟩ := q86
      · rw [e86]
        show Ez (true, g) mX12_begins d 89 [(4, eI (nI i)), (3, eI (nI c)), (2, eI (nI s)), (1, eI (nI m)), (0, eR 12 0)] [eI (nI 0)] M _
        refine ez_nif_ne 92 95 dX12_begins_89 rfl (by decide) (by omega) (fun h89 => ?_) (fun h89 => ?_)
        · exact absurd h89 (by decide)
        · refine ez_bipush 94 dX12_begins_92 rfl (-2) (by decide) ?_
          refine ez_iret .int dX12_begins_94 rfl rfl ?_
          have k9 : ¬ BK (q.2.2.2.1.2.2 s) (q.2.2.2.1.2.1 s) := fun z => by
            rw [z.2 i (by omega), ep_ix_nI (b_it4 _ i) (by decide)] at i86
            cases i86
          refine ⟨?_, hC, FX.rf⟩
          unfold S_begins
          rw [ep_ix_nI hm (by omega), ep_ix_nI hs (by decide), ep_ix_nI hc (by decide)]
          simp only []
          rw [if_neg (by omega), if_pos k9]
      · rw [e86]
        have i86 : ep_ix (q.2.2.2.1.2.2 s i) 4 = some j86 := by rw [x86]; exact ep_ix_nI b86 (by omega)
        show Ez (true, g) mX12_begins d 89 [(4, eI (nI i)), (3, eI (nI c)), (2, eI (nI s)), (1, eI (nI m)), (0, eR 12 0)] [eI (nI 1)] M _
        refine ez_nif_ne 92 95 dX12_begins_89 rfl (by decide) (by omega) (fun h89 => ?_) (fun h89 => ?_)
        · refine ez_iinc 98 (nI (i + 1)) [(4, eI (nI (i + 1))), (3, eI (nI c)), (2, eI (nI s)), (1, eI (nI m)), (0, eR 12 0)] dX12_begins_95 rfl rfl (nI_add i 1) (by decide) rfl ?_
          refine ez_goto 58 dX12_begins_98 (by decide) ?_
          exact ih (q.2.2.2.1.2.1 s - (i + 1)) (by omega) (i + 1) rfl (by omega) (fun x hx => by
            by_cases e : x = i
            · rw [e]
              unfold b_it
              rw [x86, nI_clamp (by omega), Nat.mod_eq_of_lt b86]
            · exact hv x (by omega))
        · exact absurd h89 (by decide)
set_option maxRecDepth 20000 in
theorem c_X12_begins (g : EzH) (d : Nat) {q : EpS} (x y z : Int32) (M : EzM) (hd : 3 ≤ d) (hW : WF q) (hC : RM q M) : Ezc (true, g) mX12_begins d [eR 12 0, eI x, eI y, eI z] M (fun r M' => r = some (eI (S_begins q x y z)) ∧ RM q M' ∧ FX CM M M') := by
  refine Ezc.of (by decide +kernel) (Nat.le_of_ble_eq_true rfl) ?_
  have q8 := hW.2.1.1
  have q4 := hW.1.1
  have qx := hW.2.2.2.2.1
  show Ez (true, g) mX12_begins d 0 [(0, eR 12 0), (1, eI x), (2, eI y), (3, eI z)] [] M _
  refine ez_aload_n 1 dX12_begins_0 rfl rfl ?_
  refine ez_iload_n 2 dX12_begins_1 rfl rfl ?_
  refine ez_callV 5 [eI x] [] dX12_begins_2 rfl rfl ok_X12_isMaze in_X12_isMaze (by decide) (by show 0 < 1; omega) ln_X12_137 (by omega) (Nat.le_of_ble_eq_true rfl) (c_X12_isMaze g (d - 1) x q.1.1 M (by omega) hC.1.1 (by omega)) (fun r2 M2 q2 => ?_)
  obtain ⟨e2, ⟨rfl, i2⟩ | ⟨j2, b2, rfl, rfl⟩⟩ := q2
  · rw [e2]
    show Ez (true, g) mX12_begins d 5 [(0, eR 12 0), (1, eI x), (2, eI y), (3, eI z)] [eI (nI 0)] M _
    refine ez_nif_eq 8 25 dX12_begins_5 rfl (by decide) (by omega) (fun h5 => ?_) (fun h5 => ?_)
    · refine ez_bipush 27 dX12_begins_25 rfl (-2) (by decide) ?_
      refine ez_iret .int dX12_begins_27 rfl rfl ?_
      exact ⟨by simp [S_begins, i2], hC, FX.rf⟩
    · exact absurd h5 (by decide)
  · rw [e2]
    have i2 : ep_ix (nI j2) q.1.1 = some j2 := ep_ix_nI b2 (by omega)
    show Ez (true, g) mX12_begins d 5 [(0, eR 12 0), (1, eI (nI j2)), (2, eI y), (3, eI z)] [eI (nI 1)] M _
    refine ez_nif_eq 8 25 dX12_begins_5 rfl (by decide) (by omega) (fun h5 => ?_) (fun h5 => ?_)
    · exact absurd h5 (by decide)
    · refine ez_iload_n 9 dX12_begins_8 rfl rfl ?_
      refine ez_callS 12 [eI y] [] dX12_begins_9 rfl rfl ok_X12_isSheet st_X12_isSheet ln_X12_384 (by omega) (Nat.le_of_ble_eq_true rfl) (c_X12_isSheet g (d - 1) y M (by omega)) (fun r9 M9 q9 => ?_)
      obtain ⟨e9, ⟨rfl, i9⟩ | ⟨j9, b9, rfl, rfl⟩⟩ := q9
      · rw [e9]
        show Ez (true, g) mX12_begins d 12 [(0, eR 12 0), (1, eI (nI j2)), (2, eI y), (3, eI z)] [eI (nI 0)] M _
        refine ez_nif_eq 15 25 dX12_begins_12 rfl (by decide) (by omega) (fun h12 => ?_) (fun h12 => ?_)
        · refine ez_bipush 27 dX12_begins_25 rfl (-2) (by decide) ?_
          refine ez_iret .int dX12_begins_27 rfl rfl ?_
          exact ⟨by simp [S_begins, i2, i9], hC, FX.rf⟩
        · exact absurd h12 (by decide)
      · rw [e9]
        have i9 : ep_ix (nI j9) 4 = some j9 := ep_ix_nI b9 (by omega)
        show Ez (true, g) mX12_begins d 12 [(0, eR 12 0), (1, eI (nI j2)), (2, eI (nI j9)), (3, eI z)] [eI (nI 1)] M _
        refine ez_nif_eq 15 25 dX12_begins_12 rfl (by decide) (by omega) (fun h12 => ?_) (fun h12 => ?_)
        · exact absurd h12 (by decide)
        · refine ez_iload_n 16 dX12_begins_15 rfl rfl ?_
          refine ez_i2l 17 dX12_begins_16 rfl ?_
          refine ez_lconst 18 dX12_begins_17 rfl (nI 0).toInt64 (by decide) ?_
          refine ez_lconst 19 dX12_begins_18 rfl (nI 1).toInt64 (by decide) ?_
          refine ez_callS 22 [eL z.toInt64, eL ((nI 0).toInt64), eL ((nI 1).toInt64)] [] dX12_begins_19 rfl rfl ok_X12_in st_X12_in ln_X12_133 (by omega) (Nat.le_of_ble_eq_true rfl) (c_in_k g (d - 1) z 1 M (by decide)) (fun r19 M19 q19 => ?_)
          obtain ⟨e19, ⟨rfl, i19⟩ | ⟨j19, b19, rfl, rfl⟩⟩ := q19
          · rw [e19]
            show Ez (true, g) mX12_begins d 22 [(0, eR 12 0), (1, eI (nI j2)), (2, eI (nI j9)), (3, eI z)] [eI (nI 0)] M _
            refine ez_nif_ne 25 28 dX12_begins_22 rfl (by decide) (by omega) (fun h22 => ?_) (fun h22 => ?_)
            · exact absurd h22 (by decide)
            · refine ez_bipush 27 dX12_begins_25 rfl (-2) (by decide) ?_
              refine ez_iret .int dX12_begins_27 rfl rfl ?_
              exact ⟨by simp [S_begins, i2, i9, i19], hC, FX.rf⟩
          · rw [e19]
            have i19 : ep_ix (nI j19) 2 = some j19 := ep_ix_nI b19 (by omega)
            show Ez (true, g) mX12_begins d 22 [(0, eR 12 0), (1, eI (nI j2)), (2, eI (nI j9)), (3, eI (nI j19))] [eI (nI 1)] M _
            refine ez_nif_ne 25 28 dX12_begins_22 rfl (by decide) (by omega) (fun h22 => ?_) (fun h22 => ?_)
            · by_cases hth : q.2.2.2.1.1 j9 = 0
              · skip
                refine ez_aload_n 29 dX12_begins_28 rfl rfl ?_
                refine ez_getf 32 (eR 70 0) dX12_begins_29 rfl fl_X12_99 (by show 0 < 1; omega) rfl ?_
                refine ez_iload_n 33 dX12_begins_32 rfl rfl ?_
                refine ez_zaldN j9 34 dX12_begins_33 rfl (by decide) (by show 0 < 1; omega) (by show j9 < 4; omega) ?_
                refine ez_top (nI 0) (by rw [(hC.2.2.2.1 j9 (by omega)).1, if_pos hth]) ?_
                refine ez_nif_ne 37 40 dX12_begins_34 rfl (by decide) (by omega) (fun h34 => ?_) (fun h34 => ?_)
                · exact absurd h34 (by decide)
                · refine ez_bipush 39 dX12_begins_37 rfl (-11) (by decide) ?_
                  refine ez_iret .int dX12_begins_39 rfl rfl ?_
                  exact ⟨by simp only [S_begins, i2, i9, i19]; rw [if_pos hth], hC, FX.rf⟩
              · have p9 := Nat.pos_of_ne_zero hth
                have z9 := (hW.2.2.2.1 j9 (by omega)).2 p9
                refine ez_aload_n 29 dX12_begins_28 rfl rfl ?_
                refine ez_getf 32 (eR 70 0) dX12_begins_29 rfl fl_X12_99 (by show 0 < 1; omega) rfl ?_
                refine ez_iload_n 33 dX12_begins_32 rfl rfl ?_
                refine ez_zaldN j9 34 dX12_begins_33 rfl (by decide) (by show 0 < 1; omega) (by show j9 < 4; omega) ?_
                refine ez_top (nI 1) (by rw [(hC.2.2.2.1 j9 (by omega)).1, if_neg hth]) ?_
                refine ez_nif_ne 37 40 dX12_begins_34 rfl (by decide) (by omega) (fun h34 => ?_) (fun h34 => ?_)
                · refine ez_aload_n 41 dX12_begins_40 rfl rfl ?_
                  refine ez_getf 44 (eR 72 0) dX12_begins_41 rfl fl_X12_105 (by show 0 < 1; omega) rfl ?_
                  refine ez_iload_n 45 dX12_begins_44 rfl rfl ?_
                  refine ez_ialdN j9 46 dX12_begins_45 rfl (by decide) (by show 0 < 1; omega) (by show j9 < 4; omega) ?_
                  refine ez_top (nI (q.2.2.2.1.2.1 j9)) (((hC.2.2.2.1 j9 (by omega)).2 (by omega)).2.1) ?_
                  refine ez_iconst 47 dX12_begins_46 rfl (nI 2) (by decide) ?_
                  refine ez_irem 48 dX12_begins_47 rfl (by decide) ?_
                  refine ez_top (nI ((q.2.2.2.1.2.1 j9) % 2)) (pk_rem (by omega) (by omega) (by omega)) ?_
                  refine ez_iconst 49 dX12_begins_48 rfl (nI 1) (by decide) ?_
                  refine ez_ncmp_ne 52 55 dX12_begins_49 rfl (by decide) (by omega) (by omega) (fun h49 => ?_) (fun h49 => ?_)
                  · refine ez_iconst 56 dX12_begins_55 rfl (nI 0) (by decide) ?_
                    refine ez_istore 58 [(4, eI (nI 0)), (0, eR 12 0), (1, eI (nI j2)), (2, eI (nI j9)), (3, eI (nI j19))] dX12_begins_56 rfl (by decide) rfl ?_
                    refine ez_drop [(4, eI (nI 0)), (3, eI (nI j19)), (2, eI (nI j9)), (1, eI (nI j2)), (0, eR 12 0)] (by simp) ?_
                    exact lp_mbt g d j2 j9 j19 M hd hW hC (by omega) p9 b2 b19 (by omega) _ 0 rfl (by omega) (fun x hx => absurd hx (Nat.not_lt_zero x))
                  · refine ez_bipush 54 dX12_begins_52 rfl (-2) (by decide) ?_
                    refine ez_iret .int dX12_begins_54 rfl rfl ?_
                    exact ⟨by simp only [S_begins, i2, i9, i19]; rw [if_neg hth, if_pos (fun z => absurd z.1 (by omega))], hC, FX.rf⟩
                · exact absurd h34 (by decide)
            · exact absurd h22 (by decide)
