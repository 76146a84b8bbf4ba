/-! copy -/
def s_cp (si : Nat → Nat → Int32) (s a t b c : Nat) : Nat → Nat → Int32 := fun x i => if x = t ∧ b ≤ i ∧ i < b + c then si s (a + (i - b)) else si x i
def S_copy (q : EpS) (x i y j n : Int32) : Int32 × EpS := match ep_ix x 4 with
  | none => (-2, q)
  | some s => match ep_ix y 4 with
    | none => (-2, q)
    | some t => if q.2.2.2.1.1 s = 0 ∨ q.2.2.2.1.1 t = 0 then (-11, q) else if ¬ q.2.2.2.1.1 s - 1 = q.2.2.2.1.1 t - 1 then (-13, q) else match ep_ix n 41 with
      | none => (-12, q)
      | some c => match ep_ix i 41 with
        | none => (-12, q)
        | some a => match ep_ix j 41 with
          | none => (-12, q)
          | some b => if a + c ≤ q.2.2.2.1.2.1 s ∧ b + c ≤ q.2.2.2.1.2.1 t then (nI c, q.1, q.2.1, q.2.2.1, (q.2.2.2.1.1, q.2.2.2.1.2.1, s_cp (q.2.2.2.1.2.2) s a t b c), q.2.2.2.2) else (-12, q)
theorem copy_bad {q : EpS} {x i y j n : Int32} {s t : Nat} (h1 : ep_ix x 4 = some s) (h2 : ep_ix y 4 = some t) (h3 : ¬ (q.2.2.2.1.1 s = 0 ∨ q.2.2.2.1.1 t = 0)) (h4 : q.2.2.2.1.1 s - 1 = q.2.2.2.1.1 t - 1) (h : ∀ c a b, ep_ix n 41 = some c → ep_ix i 41 = some a → ep_ix j 41 = some b → ¬ (a + c ≤ q.2.2.2.1.2.1 s ∧ b + c ≤ q.2.2.2.1.2.1 t)) : S_copy q x i y j n = (-12, q) := by
  unfold S_copy
  rw [h1, h2]
  simp only []
  rw [if_neg h3, if_neg (fun z => z h4)]
  cases e1 : ep_ix n 41 with
  | none => rfl
  | some c =>
    simp only []
    cases e2 : ep_ix i 41 with
    | none => rfl
    | some a =>
      simp only []
      cases e3 : ep_ix j 41 with
      | none => rfl
      | some b => simp only []; rw [if_neg (h c a b e1 e2 e3)]
theorem er_hasI {n : Nat} {x y : Int32} (hn : n ≤ 40) : (ep_has (nI n) x y = nI 0 ∧ ∀ a c, ep_ix x 41 = some a → ep_ix y 41 = some c → ¬ a + c ≤ n) ∨ ∃ a c, x = nI a ∧ y = nI c ∧ a + c ≤ n ∧ ep_has (nI n) x y = nI 1 := by
  have e0 : (0 : Int32).toInt = 0 := by decide
  have en := nI_toInt (n := n) (by omega)
  by_cases q : x < 0 ∨ y < 0 ∨ nI n < y ∨ nI n - y < x
  · refine Or.inl ⟨by unfold ep_has; rw [if_pos q], fun a c ha hc h => ?_⟩
    have a1 := ep_ix_in ha
    have c1 := ep_ix_in hc
    have ex := ep_ix_some (by decide) ha
    have ey := ep_ix_some (by decide) hc
    subst ex ey
    rcases q with z | z | z | z
    · exact nI_pos (by omega) z
    · exact nI_pos (by omega) z
    · rw [Int32.lt_iff_toInt_lt, en, nI_toInt (by omega)] at z; omega
    · rw [pk_sub (by omega), Int32.lt_iff_toInt_lt, nI_toInt (by omega), nI_toInt (by omega)] at z; omega
  · have g1 : ¬ x < 0 := fun z => q (Or.inl z)
    have g2 : ¬ y < 0 := fun z => q (Or.inr (Or.inl z))
    have g3 : ¬ nI n < y := fun z => q (Or.inr (Or.inr (Or.inl z)))
    have g4 : ¬ nI n - y < x := fun z => q (Or.inr (Or.inr (Or.inr z)))
    obtain ⟨c, hc, rfl⟩ := ep_ix_rng (n := n) g2 (Int32.not_lt.mp g3) (by omega)
    rw [pk_sub (by omega)] at g4
    obtain ⟨a, ha, rfl⟩ := ep_ix_rng (n := n - c) g1 (Int32.not_lt.mp g4) (by omega)
    exact Or.inr ⟨a, c, rfl, rfl, by omega, by unfold ep_has; rw [if_neg q]⟩
theorem RCs_cp {ss sn : Nat → Nat} {si : Nat → Nat → Int32} {M : EzM} {s a t b c : Nat} (hs : s < 4) (ht : t < 4) (h0 : 0 < ss s) (hR : RCs ss sn si M) (ha : a + c ≤ sn s) : RCs ss sn (s_cp si s a t b c) (ez_row M 22 t (va_cpy (M.1 22 s) (M.1 22 t) a b c)) := by
  intro x hx
  obtain ⟨h1, h2⟩ := hR x hx
  refine ⟨fun h => by rw [ez_rdr, if_neg (by omega)]; exact h1 h, fun h => ?_⟩
  obtain ⟨a1, a2, a3⟩ := h2 h
  refine ⟨by rw [ez_rdr, if_neg (by omega)]; exact a1, by rw [ez_rdr, if_neg (by omega)]; exact a2, fun i hi => ?_⟩
  rw [ez_rdr]
  unfold s_cp va_cpy
  by_cases e : x = t
  · subst e
    rw [if_pos ⟨rfl, rfl⟩]
    by_cases z : b ≤ i ∧ i < b + c
    · rw [if_pos z, if_pos ⟨rfl, z⟩]
      exact ((hR s hs).2 h0).2.2 _ (by omega)
    · rw [if_neg z, if_neg (fun y => z y.2)]
      exact a3 i hi
  · rw [if_neg (fun y => e y.2), if_neg (fun y => e y.1)]
    exact a3 i hi
set_option maxRecDepth 20000 in
theorem c_X11_copy (G : EzG) (d : Nat) {q : EpS} (x i y j n : Int32) (M : EzM) (hd : 3 ≤ d) (hW : WF q) (hC : RC q M) : Ezc G mX11_copy d [eR 11 0, eI x, eI i, eI y, eI j, eI n] M (fun r M' => r = some (eI (S_copy q x i y j n).1) ∧ RC (S_copy q x i y j n).2 M' ∧ FX CC M M') := by
  refine Ezc.of (by decide +kernel) (Nat.le_of_ble_eq_true rfl) ?_
  have q8 := hW.2.1.1
  have q4 := hW.1.1
  have qx := hW.2.2.2.2.1
  show Ez G mX11_copy d 0 [(0, eR 11 0), (1, eI x), (2, eI i), (3, eI y), (4, eI j), (5, eI n)] [] M _
  refine ez_aload_n 1 dX11_copy_0 rfl rfl ?_
  refine ez_iload_n 2 dX11_copy_1 rfl rfl ?_
  refine ez_callV 5 [eI x] [] dX11_copy_2 rfl rfl ok_X11_sheetAt in_X11_sheetAt (by decide) (by show 0 < 1; omega) ln_X11_266 (by omega) (Nat.le_of_ble_eq_true rfl) (c_X11_sheetAt G (d - 1) x M (by omega)) (fun r2 M2 q2 => ?_)
  obtain ⟨e2, ⟨rfl, i2⟩ | ⟨j2, b2, rfl, rfl⟩⟩ := q2
  · rw [e2]
    show Ez G mX11_copy d 5 [(0, eR 11 0), (1, eI x), (2, eI i), (3, eI y), (4, eI j), (5, eI n)] [eN] M _
    refine ez_astore 7 [(6, eN), (0, eR 11 0), (1, eI x), (2, eI i), (3, eI y), (4, eI j), (5, eI n)] dX11_copy_5 rfl (by decide) rfl ?_
    refine ez_aload_n 8 dX11_copy_7 rfl rfl ?_
    refine ez_iload_n 9 dX11_copy_8 rfl rfl ?_
    refine ez_callV 12 [eI y] [] dX11_copy_9 rfl rfl ok_X11_sheetAt in_X11_sheetAt (by decide) (by show 0 < 1; omega) ln_X11_266 (by omega) (Nat.le_of_ble_eq_true rfl) (c_X11_sheetAt G (d - 1) y M (by omega)) (fun r9 M9 q9 => ?_)
    obtain ⟨e9, ⟨rfl, i9⟩ | ⟨j9, b9, rfl, rfl⟩⟩ := q9
    · rw [e9]
      show Ez G mX11_copy d 12 [(6, eN), (0, eR 11 0), (1, eI x), (2, eI i), (3, eI y), (4, eI j), (5, eI n)] [eN] M _
      refine ez_astore 14 [(7, eN), (6, eN), (0, eR 11 0), (1, eI x), (2, eI i), (3, eI y), (4, eI j), (5, eI n)] dX11_copy_12 rfl (by decide) rfl ?_
      refine ez_aload 16 dX11_copy_14 rfl rfl ?_
      refine ez_ifnull_n 24 dX11_copy_16 (by decide) ?_
      refine ez_bipush 26 dX11_copy_24 rfl (-2) (by decide) ?_
      refine ez_iret .int dX11_copy_26 rfl rfl ?_
      have eS : S_copy q x i y j n = (-2, q) := by simp [S_copy, i2]
      exact ⟨by rw [eS], by rw [eS]; exact hC, FX.rf⟩
    · rw [e9]
      have i9 : ep_ix (nI j9) 4 = some j9 := ep_ix_nI b9 (by omega)
      show Ez G mX11_copy d 12 [(6, eN), (0, eR 11 0), (1, eI x), (2, eI i), (3, eI (nI j9)), (4, eI j), (5, eI n)] [eR 4 j9] M _
      refine ez_astore 14 [(7, eR 4 j9), (6, eN), (0, eR 11 0), (1, eI x), (2, eI i), (3, eI (nI j9)), (4, eI j), (5, eI n)] dX11_copy_12 rfl (by decide) rfl ?_
      refine ez_aload 16 dX11_copy_14 rfl rfl ?_
      refine ez_ifnull_n 24 dX11_copy_16 (by decide) ?_
      refine ez_bipush 26 dX11_copy_24 rfl (-2) (by decide) ?_
      refine ez_iret .int dX11_copy_26 rfl rfl ?_
      have eS : S_copy q x i (nI j9) j n = (-2, q) := by simp [S_copy, i2]
      exact ⟨by rw [eS], by rw [eS]; exact hC, FX.rf⟩
  · rw [e2]
    have i2 : ep_ix (nI j2) 4 = some j2 := ep_ix_nI b2 (by omega)
    show Ez G mX11_copy d 5 [(0, eR 11 0), (1, eI (nI j2)), (2, eI i), (3, eI y), (4, eI j), (5, eI n)] [eR 4 j2] M _
    refine ez_astore 7 [(6, eR 4 j2), (0, eR 11 0), (1, eI (nI j2)), (2, eI i), (3, eI y), (4, eI j), (5, eI n)] dX11_copy_5 rfl (by decide) rfl ?_
    refine ez_aload_n 8 dX11_copy_7 rfl rfl ?_
    refine ez_iload_n 9 dX11_copy_8 rfl rfl ?_
    refine ez_callV 12 [eI y] [] dX11_copy_9 rfl rfl ok_X11_sheetAt in_X11_sheetAt (by decide) (by show 0 < 1; omega) ln_X11_266 (by omega) (Nat.le_of_ble_eq_true rfl) (c_X11_sheetAt G (d - 1) y M (by omega)) (fun r9 M9 q9 => ?_)
    obtain ⟨e9, ⟨rfl, i9⟩ | ⟨j9, b9, rfl, rfl⟩⟩ := q9
    · rw [e9]
      show Ez G mX11_copy d 12 [(6, eR 4 j2), (0, eR 11 0), (1, eI (nI j2)), (2, eI i), (3, eI y), (4, eI j), (5, eI n)] [eN] M _
      refine ez_astore 14 [(7, eN), (6, eR 4 j2), (0, eR 11 0), (1, eI (nI j2)), (2, eI i), (3, eI y), (4, eI j), (5, eI n)] dX11_copy_12 rfl (by decide) rfl ?_
      refine ez_aload 16 dX11_copy_14 rfl rfl ?_
      refine ez_ifnull_r 19 dX11_copy_16 rfl ?_
      refine ez_aload 21 dX11_copy_19 rfl rfl ?_
      refine ez_ifnonnull_n 24 dX11_copy_21 rfl ?_
      refine ez_bipush 26 dX11_copy_24 rfl (-2) (by decide) ?_
      refine ez_iret .int dX11_copy_26 rfl rfl ?_
      have eS : S_copy q (nI j2) i y j n = (-2, q) := by simp [S_copy, i2, i9]
      exact ⟨by rw [eS], by rw [eS]; exact hC, FX.rf⟩
    · rw [e9]
      have i9 : ep_ix (nI j9) 4 = some j9 := ep_ix_nI b9 (by omega)
      show Ez G mX11_copy d 12 [(6, eR 4 j2), (0, eR 11 0), (1, eI (nI j2)), (2, eI i), (3, eI (nI j9)), (4, eI j), (5, eI n)] [eR 4 j9] M _
      refine ez_astore 14 [(7, eR 4 j9), (6, eR 4 j2), (0, eR 11 0), (1, eI (nI j2)), (2, eI i), (3, eI (nI j9)), (4, eI j), (5, eI n)] dX11_copy_12 rfl (by decide) rfl ?_
      refine ez_aload 16 dX11_copy_14 rfl rfl ?_
      refine ez_ifnull_r 19 dX11_copy_16 rfl ?_
      refine ez_aload 21 dX11_copy_19 rfl rfl ?_
      refine ez_ifnonnull_r 27 dX11_copy_21 (by decide) ?_
      refine ez_aload 29 dX11_copy_27 rfl rfl ?_
      refine ez_callV 32 [] [] dX11_copy_29 rfl rfl ok_X4_isMissing in_X4_isMissing (by decide) (by show j2 < 4; omega) ln_X11_270 (by omega) (Nat.le_of_ble_eq_true rfl) (c_isMissing_c G (d - 1) j2 q.2.2.2.1.1 q.2.2.2.1.2.1 q.2.2.2.1.2.2 M (by omega) hW.2.2.2.1 hC.2.2.2.1) (fun r29 M29 q29 => ?_)
      obtain ⟨e29, ⟨rfl, s29⟩ | ⟨rfl, s29⟩⟩ := q29
      · rw [e29]
        show Ez G mX11_copy d 32 [(7, eR 4 j9), (6, eR 4 j2), (0, eR 11 0), (1, eI (nI j2)), (2, eI i), (3, eI (nI j9)), (4, eI j), (5, eI n)] [eI (nI 1)] M _
        refine ez_nif_ne 35 43 dX11_copy_32 rfl (by decide) (by omega) (fun h32 => ?_) (fun h32 => ?_)
        · refine ez_bipush 45 dX11_copy_43 rfl (-11) (by decide) ?_
          refine ez_iret .int dX11_copy_45 rfl rfl ?_
          have eS : S_copy q (nI j2) i (nI j9) j n = (-11, q) := by simp only [S_copy, i2, i9]; rw [if_pos (Or.inl s29)]
          exact ⟨by rw [eS], by rw [eS]; exact hC, FX.rf⟩
        · exact absurd h32 (by decide)
      · rw [e29]
        have p29 := Nat.pos_of_ne_zero s29
        have z29 := (hW.2.2.2.1 j2 (by omega)).2 p29
        have o29 := (hW.2.2.2.1 j2 (by omega)).1
        show Ez G mX11_copy d 32 [(7, eR 4 j9), (6, eR 4 j2), (0, eR 11 0), (1, eI (nI j2)), (2, eI i), (3, eI (nI j9)), (4, eI j), (5, eI n)] [eI (nI 0)] M _
        refine ez_nif_ne 35 43 dX11_copy_32 rfl (by decide) (by omega) (fun h32 => ?_) (fun h32 => ?_)
        · exact absurd h32 (by decide)
        · refine ez_aload 37 dX11_copy_35 rfl rfl ?_
          refine ez_callV 40 [] [] dX11_copy_37 rfl rfl ok_X4_isMissing in_X4_isMissing (by decide) (by show j9 < 4; omega) ln_X11_270 (by omega) (Nat.le_of_ble_eq_true rfl) (c_isMissing_c G (d - 1) j9 q.2.2.2.1.1 q.2.2.2.1.2.1 q.2.2.2.1.2.2 M (by omega) hW.2.2.2.1 hC.2.2.2.1) (fun r37 M37 q37 => ?_)
          obtain ⟨e37, ⟨rfl, s37⟩ | ⟨rfl, s37⟩⟩ := q37
          · rw [e37]
            show Ez G mX11_copy d 40 [(7, eR 4 j9), (6, eR 4 j2), (0, eR 11 0), (1, eI (nI j2)), (2, eI i), (3, eI (nI j9)), (4, eI j), (5, eI n)] [eI (nI 1)] M _
            refine ez_nif_eq 43 46 dX11_copy_40 rfl (by decide) (by omega) (fun h40 => ?_) (fun h40 => ?_)
            · exact absurd h40 (by decide)
            · refine ez_bipush 45 dX11_copy_43 rfl (-11) (by decide) ?_
              refine ez_iret .int dX11_copy_45 rfl rfl ?_
              have eS : S_copy q (nI j2) i (nI j9) j n = (-11, q) := by simp only [S_copy, i2, i9]; rw [if_pos (Or.inr s37)]
              exact ⟨by rw [eS], by rw [eS]; exact hC, FX.rf⟩
          · rw [e37]
            have p37 := Nat.pos_of_ne_zero s37
            have z37 := (hW.2.2.2.1 j9 (by omega)).2 p37
            have o37 := (hW.2.2.2.1 j9 (by omega)).1
            show Ez G mX11_copy d 40 [(7, eR 4 j9), (6, eR 4 j2), (0, eR 11 0), (1, eI (nI j2)), (2, eI i), (3, eI (nI j9)), (4, eI j), (5, eI n)] [eI (nI 0)] M _
            refine ez_nif_eq 43 46 dX11_copy_40 rfl (by decide) (by omega) (fun h40 => ?_) (fun h40 => ?_)
            · refine ez_aload 48 dX11_copy_46 rfl rfl ?_
              refine ez_getf 51 (eI (M.1 4 j2 0)) dX11_copy_48 rfl fl_X11_314 (by show j2 < 4; omega) rfl ?_
              refine ez_top (nI (q.2.2.2.1.1 j2 - 1)) (((hC.2.2.2.1 j2 (by omega)).2 (by omega)).1) ?_
              refine ez_aload 53 dX11_copy_51 rfl rfl ?_
              refine ez_getf 56 (eI (M.1 4 j9 0)) dX11_copy_53 rfl fl_X11_314 (by show j9 < 4; omega) rfl ?_
              refine ez_top (nI (q.2.2.2.1.1 j9 - 1)) (((hC.2.2.2.1 j9 (by omega)).2 (by omega)).1) ?_
              refine ez_ncmp_eq 59 62 dX11_copy_56 rfl (by decide) (by omega) (by omega) (fun h56 => ?_) (fun h56 => ?_)
              · refine ez_aload 64 dX11_copy_62 rfl rfl ?_
                refine ez_iload_n 65 dX11_copy_64 rfl rfl ?_
                refine ez_iload 67 dX11_copy_65 rfl rfl ?_
                refine ez_callV 70 [eI i, eI n] [] dX11_copy_67 rfl rfl ok_X4_hasItems in_X4_hasItems (by decide) (by show j2 < 4; omega) ln_X11_317 (by omega) (Nat.le_of_ble_eq_true rfl) (c_X4_hasItems G (d - 1) j2 i n M (by omega)) (fun r67 M67 q67 => ?_)
                obtain ⟨rfl, e67⟩ := q67
                rw [e67, ((hC.2.2.2.1 j2 (by omega)).2 (by omega)).2.1]
                rcases er_hasI (n := q.2.2.2.1.2.1 j2) (x := i) (y := n) (by omega) with ⟨k67, n67⟩ | zz67
                · rw [k67]
                  show Ez G mX11_copy d 70 [(7, eR 4 j9), (6, eR 4 j2), (0, eR 11 0), (1, eI (nI j2)), (2, eI i), (3, eI (nI j9)), (4, eI j), (5, eI n)] [eI (nI 0)] M _
                  refine ez_nif_eq 73 85 dX11_copy_70 rfl (by decide) (by omega) (fun h70 => ?_) (fun h70 => ?_)
                  · refine ez_bipush 87 dX11_copy_85 rfl (-12) (by decide) ?_
                    refine ez_iret .int dX11_copy_87 rfl rfl ?_
                    have eS : S_copy q (nI j2) i (nI j9) j n = (-12, q) := copy_bad i2 i9 (fun z => z.elim s29 s37) h56 (fun c a b e1 e2 e3 z => n67 a c e2 e1 z.1)
                    exact ⟨by rw [eS], by rw [eS]; exact hC, FX.rf⟩
                  · exact absurd h70 (by decide)
                · obtain ⟨a67, c67, rfl, rfl, l67, k67⟩ := zz67
                  rw [k67]
                  show Ez G mX11_copy d 70 [(7, eR 4 j9), (6, eR 4 j2), (0, eR 11 0), (1, eI (nI j2)), (2, eI (nI a67)), (3, eI (nI j9)), (4, eI j), (5, eI (nI c67))] [eI (nI 1)] M _
                  refine ez_nif_eq 73 85 dX11_copy_70 rfl (by decide) (by omega) (fun h70 => ?_) (fun h70 => ?_)
                  · exact absurd h70 (by decide)
                  · refine ez_aload 75 dX11_copy_73 rfl rfl ?_
                    refine ez_iload 77 dX11_copy_75 rfl rfl ?_
                    refine ez_iload 79 dX11_copy_77 rfl rfl ?_
                    refine ez_callV 82 [eI j, eI (nI c67)] [] dX11_copy_79 rfl rfl ok_X4_hasItems in_X4_hasItems (by decide) (by show j9 < 4; omega) ln_X11_317 (by omega) (Nat.le_of_ble_eq_true rfl) (c_X4_hasItems G (d - 1) j9 j (nI c67) M (by omega)) (fun r79 M79 q79 => ?_)
                    obtain ⟨rfl, e79⟩ := q79
                    rw [e79, ((hC.2.2.2.1 j9 (by omega)).2 (by omega)).2.1]
                    rcases er_hasI (n := q.2.2.2.1.2.1 j9) (x := j) (y := nI c67) (by omega) with ⟨k79, n79⟩ | zz79
                    · rw [k79]
                      show Ez G mX11_copy d 82 [(7, eR 4 j9), (6, eR 4 j2), (0, eR 11 0), (1, eI (nI j2)), (2, eI (nI a67)), (3, eI (nI j9)), (4, eI j), (5, eI (nI c67))] [eI (nI 0)] M _
                      refine ez_nif_ne 85 88 dX11_copy_82 rfl (by decide) (by omega) (fun h82 => ?_) (fun h82 => ?_)
                      · exact absurd h82 (by decide)
                      · refine ez_bipush 87 dX11_copy_85 rfl (-12) (by decide) ?_
                        refine ez_iret .int dX11_copy_87 rfl rfl ?_
                        have eS : S_copy q (nI j2) (nI a67) (nI j9) j (nI c67) = (-12, q) := copy_bad i2 i9 (fun z => z.elim s29 s37) h56 (fun c a b e1 e2 e3 z => n79 b c e3 e1 z.2)
                        exact ⟨by rw [eS], by rw [eS]; exact hC, FX.rf⟩
                    · obtain ⟨a79, c79, rfl, y79, l79, k79⟩ := zz79
                      rw [k79]
                      have c9 : c67 = c79 := (nI_eq (by omega) (by omega)).mp y79
                      subst c9
                      show Ez G mX11_copy d 82 [(7, eR 4 j9), (6, eR 4 j2), (0, eR 11 0), (1, eI (nI j2)), (2, eI (nI a67)), (3, eI (nI j9)), (4, eI (nI a79)), (5, eI (nI c67))] [eI (nI 1)] M _
                      refine ez_nif_ne 85 88 dX11_copy_82 rfl (by decide) (by omega) (fun h82 => ?_) (fun h82 => ?_)
                      · refine ez_aload 90 dX11_copy_88 rfl rfl ?_
                        refine ez_getf 93 (eR 22 j2) dX11_copy_90 rfl fl_X11_308 (by show j2 < 4; omega) rfl ?_
                        refine ez_iload_n 94 dX11_copy_93 rfl rfl ?_
                        refine ez_aload 96 dX11_copy_94 rfl rfl ?_
                        refine ez_getf 99 (eR 22 j9) dX11_copy_96 rfl fl_X11_308 (by show j9 < 4; omega) rfl ?_
                        refine ez_iload 101 dX11_copy_99 rfl rfl ?_
                        refine ez_iload 103 dX11_copy_101 rfl rfl ?_
                        refine ez_copy 106 dX11_copy_103 rfl (by decide) (by show j2 < 4; omega) (by decide) (by show j9 < 4; omega) ac_X11_320 (Nat.le_of_ble_eq_true rfl) (by omega) (by decide) (nI_pos (by omega)) (nI_pos (by omega)) (nI_pos (by omega)) (by rw [nI_clamp (by omega), nI_clamp (by omega)]; show a67 + c67 ≤ 40; omega) (by rw [nI_clamp (by omega), nI_clamp (by omega)]; show a79 + c67 ≤ 40; omega) ?_
                        rw [nI_clamp (show a67 < 2 ^ 31 by omega), nI_clamp (show a79 < 2 ^ 31 by omega), nI_clamp (show c67 < 2 ^ 31 by omega)]
                        refine ez_iload 108 dX11_copy_106 rfl rfl ?_
                        refine ez_iret .int dX11_copy_108 rfl rfl ?_
                        have eS : S_copy q (nI j2) (nI a67) (nI j9) (nI a79) (nI c67) = (nI c67, q.1, q.2.1, q.2.2.1, (q.2.2.2.1.1, q.2.2.2.1.2.1, s_cp (q.2.2.2.1.2.2) j2 a67 j9 a79 c67), q.2.2.2.2) := by
                          simp only [S_copy, i2, i9, ep_ix_nI (show c67 < 41 by omega) (by decide), ep_ix_nI (show a67 < 41 by omega) (by decide), ep_ix_nI (show a79 < 41 by omega) (by decide)]
                          rw [if_neg (fun z => z.elim s29 s37), if_neg (fun z => z h56), if_pos ⟨l67, l79⟩]
                        have hF : FX (fun k i s => k = 22 ∧ i = j9) M (ez_row M 22 j9 (va_cpy (M.1 22 j2) (M.1 22 j9) a67 a79 c67)) := FX.rf.row (fun s => by omega)
                        rw [eS]
                        refine ⟨rfl, ?_, hF.up (fun k i s z => by unfold CC; omega)⟩
                        have hsC := RCs_cp (s := j2) (a := a67) (t := j9) (b := a79) (c := c67) b2 b9 p29 hC.2.2.2.1 l67
                        obtain ⟨a1, a2, a3, a4, a5, a6, a7⟩ := hC
                        obtain ⟨w1, w2, w3, w4, w5, w6⟩ := hW
                        have h4 := w1.1
                        have h8 := w2.1
                        exact ⟨RCm.fx a1 hF h4 ⟨by omega, fun m _ => ⟨by omega, fun x => ⟨by omega, by omega, by omega⟩⟩⟩, RCw.fx a2 hF h8 ⟨by omega, fun w _ x => ⟨by omega, by omega⟩⟩, RCt.fx a3 hF ⟨by omega, fun i => by omega⟩, hsC, RCx.fx a5 hF w5.2.1 ⟨by omega, by omega, fun i s _ => ⟨by omega, by omega⟩⟩, RCi.fx a6 hF (fun q => ⟨Nat.le_trans (w6.2 q).1 h4, Nat.le_trans (w6.2 q).2.1 h8⟩) ⟨fun s _ => by omega, fun i _ _ s => by omega, fun i _ _ s => ⟨by omega, by omega⟩⟩, by rw [hF _ _ _ (by omega)]; exact a7⟩
                      · exact absurd h82 (by decide)
              · refine ez_bipush 61 dX11_copy_59 rfl (-13) (by decide) ?_
                refine ez_iret .int dX11_copy_61 rfl rfl ?_
                have eS : S_copy q (nI j2) i (nI j9) j n = (-13, q) := by simp only [S_copy, i2, i9]; rw [if_neg (fun z => z.elim s29 s37), if_pos h56]
                exact ⟨by rw [eS], by rw [eS]; exact hC, FX.rf⟩
            · exact absurd h40 (by decide)
