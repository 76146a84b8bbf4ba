/-! ring -/
def er_fst (p : Nat → Bool) : Nat → Option Nat
  | 0 => none
  | k + 1 => match er_fst p k with
    | some i => some i
    | none => if p k then some k else none
theorem er_fst_s0 {p : Nat → Bool} {k i : Nat} (h : er_fst p k = some i) : er_fst p (k + 1) = some i := by
  show (match er_fst p k with
    | some i => some i
    | none => if p k then some k else none) = some i
  rw [h]
theorem er_fst_s1 {p : Nat → Bool} {k : Nat} (h : er_fst p k = none) : er_fst p (k + 1) = if p k then some k else none := by
  show (match er_fst p k with
    | some i => some i
    | none => if p k then some k else none) = _
  rw [h]
theorem er_fst_none {p : Nat → Bool} {k : Nat} (h : ∀ j, j < k → p j = false) : er_fst p k = none := by
  induction k with
  | zero => rfl
  | succ k ih =>
    rw [er_fst_s1 (ih (fun j hj => h j (by omega))), h k (by omega)]
    rfl
theorem er_fst_some {p : Nat → Bool} {i k : Nat} (h1 : p i = true) (h2 : ∀ j, j < i → p j = false) (h : i < k) : er_fst p k = some i := by
  induction k with
  | zero => omega
  | succ k ih =>
    by_cases e : i = k
    · subst e
      rw [er_fst_s1 (er_fst_none h2), h1]
      rfl
    · exact er_fst_s0 (ih (by omega))
theorem er_fst_ex {p : Nat → Bool} {j : Nat} (z : p j = true) {k : Nat} (h : j < k) : ∃ i, er_fst p k = some i := by
  induction k with
  | zero => omega
  | succ k ih =>
    cases e : er_fst p k with
    | some i => exact ⟨i, er_fst_s0 e⟩
    | none =>
      by_cases q : j = k
      · subst q
        exact ⟨j, by rw [er_fst_s1 e, z]; rfl⟩
      · obtain ⟨i, e2⟩ := ih (by omega)
        rw [e] at e2
        cases e2
theorem er_fst_in {p : Nat → Bool} {i k : Nat} (h : er_fst p k = some i) : i < k ∧ p i = true ∧ ∀ j, j < i → p j = false := by
  induction k with
  | zero => cases h
  | succ k ih =>
    cases e : er_fst p k with
    | some j =>
      rw [er_fst_s0 e] at h
      cases h
      have := ih e
      exact ⟨by omega, this.2⟩
    | none =>
      rw [er_fst_s1 e] at h
      by_cases q : p k = true
      · rw [if_pos q] at h
        cases h
        refine ⟨by omega, q, fun j hj => ?_⟩
        cases z : p j with
        | false => rfl
        | true =>
          obtain ⟨i9, e8⟩ := er_fst_ex z hj
          rw [e] at e8
          cases e8
      · rw [if_neg q] at h
        cases h
theorem er_pk (x y : Int64) {s : Nat} (hs : s < 63) (hx : x.toBitVec.toNat * 2 ^ s < 2 ^ 64) (hy : y.toBitVec.toNat < 2 ^ s) : ((x <<< ((nI s).toInt64 &&& 63)) ||| y).toBitVec.toNat = x.toBitVec.toNat * 2 ^ s + y.toBitVec.toNat := by
  show (((x <<< ((nI s).toInt64 &&& 63)).toBitVec ||| y.toBitVec)).toNat = _
  rw [BitVec.toNat_or, Int64.toBitVec_shiftLeft]
  show ((x.toBitVec <<< (((nI s).toInt64 &&& 63).toBitVec.smod 64#64).toNat).toNat ||| _) = _
  rw [ep_s64 s (by omega), BitVec.toNat_shiftLeft, Nat.shiftLeft_eq, Nat.mod_eq_of_lt hx, ← Nat.shiftLeft_eq, ← Nat.shiftLeft_add_eq_or_of_lt hy]
theorem er_i64 : ∀ a, a < 128 → (nI a).toInt64.toBitVec.toNat = a := by decide +kernel
def er_pa (p : Nat → Nat) : Nat → Int64
  | 0 => (nI 0).toInt64
  | r + 1 => (er_pa p r <<< ((nI 7).toInt64 &&& 63)) ||| (nI (p r)).toInt64
def er_na (p : Nat → Nat) : Nat → Nat
  | 0 => 0
  | r + 1 => er_na p r * 128 + p r
theorem er_na_v (p : Nat → Nat) : ∀ n, n ≤ 9 → (∀ r, r < n → p r < 128) → (er_pa p n).toBitVec.toNat = er_na p n ∧ er_na p n < 128 ^ n
  | 0, _, _ => ⟨by show (nI 0).toInt64.toBitVec.toNat = 0; decide, by show 0 < 1; omega⟩
  | n + 1, hn, h => by
    obtain ⟨e1, e2⟩ := er_na_v p n (by omega) (fun r hr => h r (by omega))
    have hp := h n (by omega)
    have hb : 128 ^ n * 128 ≤ 2 ^ 63 := by
      rcases (show n = 0 ∨ n = 1 ∨ n = 2 ∨ n = 3 ∨ n = 4 ∨ n = 5 ∨ n = 6 ∨ n = 7 ∨ n = 8 by omega) with rfl | rfl | rfl | rfl | rfl | rfl | rfl | rfl | rfl <;> decide
    have hx : (er_pa p n).toBitVec.toNat * 2 ^ 7 < 2 ^ 64 := by
      rw [e1]
      generalize 128 ^ n = P at *
      omega
    have hy : (nI (p n)).toInt64.toBitVec.toNat = p n := er_i64 _ (by omega)
    refine ⟨?_, ?_⟩
    · show ((er_pa p n <<< ((nI 7).toInt64 &&& 63)) ||| (nI (p n)).toInt64).toBitVec.toNat = _
      rw [er_pk _ _ (by decide) hx (by rw [hy]; omega), hy, e1]
      rfl
    · show er_na p n * 128 + p n < _
      rw [Nat.pow_succ]
      generalize 128 ^ n = P at *
      omega
theorem er_na_i (p p' : Nat → Nat) : ∀ n, (∀ r, r < n → p r < 128 ∧ p' r < 128) → er_na p n = er_na p' n → ∀ r, r < n → p r = p' r
  | 0, _, e => fun r hr => by omega
  | n + 1, h, e => by
    have e2 : er_na p n * 128 + p n = er_na p' n * 128 + p' n := e
    obtain ⟨h1, h2⟩ := h n (by omega)
    have e3 : er_na p n = er_na p' n := by omega
    have e4 : p n = p' n := by omega
    have ih := er_na_i p p' n (fun r hr => h r (by omega)) e3
    exact fun r hr => by
      by_cases q : r = n
      · rw [q]; exact e4
      · exact ih r (by omega)
def er_pb (c : Nat) (p : Nat → Nat) : Nat → Int64
  | 0 => (nI c).toInt64
  | r + 1 => (er_pb c p r <<< ((nI 4).toInt64 &&& 63)) ||| (nI (p r)).toInt64
def er_nb (c : Nat) (p : Nat → Nat) : Nat → Nat
  | 0 => c
  | r + 1 => er_nb c p r * 16 + p r
theorem er_nb_v (c : Nat) (p : Nat → Nat) (hc : c < 128) : ∀ n, n ≤ 10 → (∀ r, r < n → p r < 16) → (er_pb c p n).toBitVec.toNat = er_nb c p n ∧ er_nb c p n < 128 * 16 ^ n
  | 0, _, _ => ⟨er_i64 c hc, by show c < 128 * 1; omega⟩
  | n + 1, hn, h => by
    obtain ⟨e1, e2⟩ := er_nb_v c p hc n (by omega) (fun r hr => h r (by omega))
    have hp := h n (by omega)
    have hb : 128 * 16 ^ n * 16 ≤ 2 ^ 63 := by
      rcases (show n = 0 ∨ n = 1 ∨ n = 2 ∨ n = 3 ∨ n = 4 ∨ n = 5 ∨ n = 6 ∨ n = 7 ∨ n = 8 ∨ n = 9 by omega) with rfl | rfl | rfl | rfl | rfl | rfl | rfl | rfl | rfl | rfl <;> decide
    have hx : (er_pb c p n).toBitVec.toNat * 2 ^ 4 < 2 ^ 64 := by
      rw [e1]
      generalize 128 * 16 ^ n = P at *
      omega
    have hy : (nI (p n)).toInt64.toBitVec.toNat = p n := er_i64 _ (by omega)
    refine ⟨?_, ?_⟩
    · show ((er_pb c p n <<< ((nI 4).toInt64 &&& 63)) ||| (nI (p n)).toInt64).toBitVec.toNat = _
      rw [er_pk _ _ (by decide) hx (by rw [hy]; omega), hy, e1]
      rfl
    · show er_nb c p n * 16 + p n < _
      rw [Nat.pow_succ, ← Nat.mul_assoc]
      generalize 128 * 16 ^ n = P at *
      omega
theorem er_nb_i (c c' : Nat) (p p' : Nat → Nat) : ∀ n, (∀ r, r < n → p r < 16 ∧ p' r < 16) → er_nb c p n = er_nb c' p' n → c = c' ∧ ∀ r, r < n → p r = p' r
  | 0, _, e => ⟨e, fun r hr => by omega⟩
  | n + 1, h, e => by
    have e2 : er_nb c p n * 16 + p n = er_nb c' p' n * 16 + p' n := e
    obtain ⟨h1, h2⟩ := h n (by omega)
    have e3 : er_nb c p n = er_nb c' p' n := by omega
    have e4 : p n = p' n := by omega
    have ih := er_nb_i c c' p p' n (fun r hr => h r (by omega)) e3
    exact ⟨ih.1, fun r hr => by
      by_cases q : r = n
      · rw [q]; exact e4
      · exact ih.2 r (by omega)⟩
def er_pz (S : EpW) : Int64 := (((er_pb (S.2.2.2.2.2 9) S.2.2.2.2.1 10 <<< ((nI 4).toInt64 &&& 63)) ||| (nI S.1).toInt64) <<< ((nI 2).toInt64 &&& 63)) ||| (nI S.2.1).toInt64
noncomputable def er_al (S T : EpW) : Bool := @decide (S.1 = T.1 ∧ S.2.1 = T.2.1 ∧ S.2.2.1 = T.2.2.1 ∧ ∀ r, r < 10 → S.2.2.2.2.1 r = T.2.2.2.2.1 r ∧ S.2.2.2.2.2 r = T.2.2.2.2.2 r) (Classical.propDecidable _)
theorem er_al_iff {S T : EpW} : er_al S T = true ↔ (S.1 = T.1 ∧ S.2.1 = T.2.1 ∧ S.2.2.1 = T.2.2.1 ∧ ∀ r, r < 10 → S.2.2.2.2.1 r = T.2.2.2.2.1 r ∧ S.2.2.2.2.2 r = T.2.2.2.2.2 r) := by
  unfold er_al
  exact @decide_eq_true_iff _ (Classical.propDecidable _)
theorem er_pz_v {n : Nat} {S : EpW} (hn : n ≤ 10) (h : WFS n S) : (er_pz S).toBitVec.toNat = (er_nb (S.2.2.2.2.2 9) S.2.2.2.2.1 10 * 16 + S.1) * 4 + S.2.1 := by
  have hs := h.1
  have hc := h.2.1
  have h9 := (h.2.2 9 (by omega)).2
  obtain ⟨e1, e2⟩ := er_nb_v (S.2.2.2.2.2 9) S.2.2.2.2.1 (by omega) 10 (by omega) (fun r hr => (h.2.2 r hr).1)
  have b : 128 * 16 ^ 10 = 140737488355328 := by decide
  rw [b] at e2
  have i1 := er_i64 S.1 (by omega)
  have i2 := er_i64 S.2.1 (by omega)
  have k1 := er_pk (er_pb (S.2.2.2.2.2 9) S.2.2.2.2.1 10) (nI S.1).toInt64 (s := 4) (by decide) (by rw [e1]; omega) (by rw [i1]; omega)
  have k2 := er_pk ((er_pb (S.2.2.2.2.2 9) S.2.2.2.2.1 10 <<< ((nI 4).toInt64 &&& 63)) ||| (nI S.1).toInt64) (nI S.2.1).toInt64 (s := 2) (by decide) (by rw [k1, e1, i1]; omega) (by rw [i2]; omega)
  unfold er_pz
  rw [k2, k1, e1, i1, i2]
theorem er_al_key {n : Nat} {S T : EpW} (hn : n ≤ 10) (hS : WFS n S) (hT : WFS n T) : er_al S T = true ↔ (er_pa S.2.2.2.2.2 9 = er_pa T.2.2.2.2.2 9 ∧ er_pz S = er_pz T ∧ S.2.2.1 = T.2.2.1) := by
  rw [er_al_iff]
  constructor
  · rintro ⟨a1, a2, a3, a4⟩
    have key : ∀ (p p' : Nat → Nat) n, (∀ r, r < n → p r = p' r) → er_pa p n = er_pa p' n := by
      intro p p' n
      induction n with
      | zero => intro _; rfl
      | succ n ih =>
        intro h
        show (er_pa p n <<< ((nI 7).toInt64 &&& 63)) ||| (nI (p n)).toInt64 = (er_pa p' n <<< ((nI 7).toInt64 &&& 63)) ||| (nI (p' n)).toInt64
        rw [ih (fun r hr => h r (by omega)), h n (by omega)]
    have key2 : ∀ (c : Nat) (p p' : Nat → Nat) n, (∀ r, r < n → p r = p' r) → er_pb c p n = er_pb c p' n := by
      intro c p p' n
      induction n with
      | zero => intro _; rfl
      | succ n ih =>
        intro h
        show (er_pb c p n <<< ((nI 4).toInt64 &&& 63)) ||| (nI (p n)).toInt64 = (er_pb c p' n <<< ((nI 4).toInt64 &&& 63)) ||| (nI (p' n)).toInt64
        rw [ih (fun r hr => h r (by omega)), h n (by omega)]
    refine ⟨key _ _ _ (fun r hr => (a4 r (by omega)).2), ?_, a3⟩
    unfold er_pz
    rw [a1, a2, (a4 9 (by omega)).2, key2 _ _ _ 10 (fun r hr => (a4 r hr).1)]
  · rintro ⟨b1, b2, b3⟩
    have v1 := congrArg (fun x : Int64 => x.toBitVec.toNat) b1
    have v2 := congrArg (fun x : Int64 => x.toBitVec.toNat) b2
    have p7 : ∀ r, r < 10 → S.2.2.2.2.2 r < 128 ∧ T.2.2.2.2.2 r < 128 := fun r hr => by have := (hS.2.2 r hr).2; have := (hT.2.2 r hr).2; omega
    rw [(er_na_v _ 9 (by omega) (fun r hr => (p7 r (by omega)).1)).1, (er_na_v _ 9 (by omega) (fun r hr => (p7 r (by omega)).2)).1] at v1
    rw [er_pz_v hn hS, er_pz_v hn hT] at v2
    have i1 := er_na_i _ _ 9 (fun r hr => p7 r (by omega)) v1
    have s1 := hS.1
    have s2 := hS.2.1
    have t1 := hT.1
    have t2 := hT.2.1
    have i2 := er_nb_i _ _ _ _ 10 (fun r hr => ⟨(hS.2.2 r hr).1, (hT.2.2 r hr).1⟩) (show er_nb (S.2.2.2.2.2 9) S.2.2.2.2.1 10 = er_nb (T.2.2.2.2.2 9) T.2.2.2.2.1 10 by omega)
    refine ⟨by omega, by omega, b3, fun r hr => ⟨i2.2 r hr, ?_⟩⟩
    by_cases e : r = 9
    · rw [e]; exact i2.1
    · exact i1 r (by omega)
def TRk (k : Nat) (S : EpW) (M : EzM) : Prop := M.2 25 0 k = er_pa S.2.2.2.2.2 9 ∧ M.2 26 0 k = er_pz S ∧ M.1 27 0 k = S.2.2.1
theorem er_cmp_eq {x y : Int64} : lg_cmp x y = 0 ↔ x = y := by
  unfold lg_cmp
  by_cases h1 : x > y
  · rw [if_pos h1]
    refine ⟨fun h => absurd h (by decide), fun h => ?_⟩
    have h3 : y.toInt < x.toInt := Int64.lt_iff_toInt_lt.mp h1
    rw [h] at h3
    omega
  · rw [if_neg h1]
    by_cases h2 : x = y
    · rw [if_pos h2]; exact ⟨fun _ => h2, fun _ => rfl⟩
    · rw [if_neg h2]; exact ⟨fun h => absurd h (by decide), fun h => absurd h h2⟩
set_option maxRecDepth 20000 in
theorem lp_note (G : EzG) (d : Nat) {kind mz num : Nat} {S : EpW} {n : Nat} (k wi pi : Nat) (M : EzM) (hd : 1 ≤ d) (hk : k ≤ 200) (hwi : wi < 18) (hpi : pi < 9) (hn : n ≤ 10) (hS : WFS n S) (hR : RCW kind mz num S wi pi M) : ∀ (z : Nat) (t : Nat) (u : Int64) (v : Int64), 10 - t = z → t ≤ 10 → u = er_pa S.2.2.2.2.2 (min t 9) → v = er_pb (S.2.2.2.2.2 9) S.2.2.2.2.1 t → Ez G mX9_note d 27 [(8, eI (nI t)), (6, eL v), (4, eL u), (0, eR 9 0), (1, eI (nI k)), (2, eR 10 wi), (3, eR 20 pi)] [] M (fun r M' => r = none ∧ TRk k S M' ∧ FX (fun k' i s => k' = 27 ∧ s = k) M M' ∧ ∀ k' i s, s ≠ k → M'.2 k' i s = M.2 k' i s) := by
  intro z
  induction z using Nat.strongRecOn with
  | ind z ih =>
    intro t u v hz ht hu hv
    have s1 := hS.1
    refine ez_iload 29 dX9_note_27 rfl rfl ?_
    refine ez_bipush 31 dX9_note_29 rfl (nI 10) (by decide) ?_
    refine ez_ncmp_ge 34 79 dX9_note_31 rfl (by decide) (by omega) (by omega) (fun h31 => ?_) (fun h31 => ?_)
    · refine ez_aload_n 80 dX9_note_79 rfl rfl ?_
      refine ez_getf 83 (eR 25 0) dX9_note_80 rfl fl_X9_9 (by show 0 < 1; omega) rfl ?_
      refine ez_iload_n 84 dX9_note_83 rfl rfl ?_
      refine ez_lload 86 dX9_note_84 rfl rfl ?_
      refine ez_lastN k 87 dX9_note_86 rfl (by decide) (by show 0 < 1; omega) (by show k < 201; omega) ?_
      refine ez_aload_n 88 dX9_note_87 rfl rfl ?_
      refine ez_getf 91 (eR 26 0) dX9_note_88 rfl fl_X9_15 (by show 0 < 1; omega) rfl ?_
      refine ez_iload_n 92 dX9_note_91 rfl rfl ?_
      refine ez_lload 94 dX9_note_92 rfl rfl ?_
      refine ez_iconst 95 dX9_note_94 rfl (nI 4) (by decide) ?_
      refine ez_lshl 96 dX9_note_95 rfl ?_
      refine ez_aload_n 97 dX9_note_96 rfl rfl ?_
      refine ez_getf 100 (eI (M.1 10 wi 2)) dX9_note_97 rfl fl_X9_31 (by show wi < 18; omega) rfl ?_
      refine ez_top (nI S.1) hR.2.2.1 ?_
      refine ez_i2l 101 dX9_note_100 rfl ?_
      refine ez_lor 102 dX9_note_101 rfl ?_
      refine ez_iconst 103 dX9_note_102 rfl (nI 2) (by decide) ?_
      refine ez_lshl 104 dX9_note_103 rfl ?_
      refine ez_aload_n 105 dX9_note_104 rfl rfl ?_
      refine ez_getf 108 (eI (M.1 10 wi 3)) dX9_note_105 rfl fl_X9_35 (by show wi < 18; omega) rfl ?_
      refine ez_top (nI S.2.1) hR.2.2.2.1 ?_
      refine ez_i2l 109 dX9_note_108 rfl ?_
      refine ez_lor 110 dX9_note_109 rfl ?_
      refine ez_lastN k 111 dX9_note_110 rfl (by decide) (by show 0 < 1; omega) (by show k < 201; omega) ?_
      refine ez_aload_n 112 dX9_note_111 rfl rfl ?_
      refine ez_getf 115 (eR 27 0) dX9_note_112 rfl fl_X9_18 (by show 0 < 1; omega) rfl ?_
      refine ez_iload_n 116 dX9_note_115 rfl rfl ?_
      refine ez_aload_n 117 dX9_note_116 rfl rfl ?_
      refine ez_getf 120 (eI (M.1 10 wi 5)) dX9_note_117 rfl fl_X9_38 (by show wi < 18; omega) rfl ?_
      refine ez_top S.2.2.1 hR.2.2.2.2.2.1 ?_
      refine ez_iastN k 121 dX9_note_120 rfl (by decide) (by show 0 < 1; omega) (by show k < 201; omega) ?_
      refine ez_vret dX9_note_121 rfl ?_
      have e9 : t = 10 := by omega
      subst e9
      refine ⟨rfl, ⟨?_, ?_, ?_⟩, fun k' i s hc => ?_, fun k' i s hc => ?_⟩
      · rw [ez_rd2, ez_rdL, if_neg (by omega), ez_rdL, if_pos ⟨rfl, rfl, rfl⟩, hu]; rfl
      · rw [ez_rd2, ez_rdL, if_pos ⟨rfl, rfl, rfl⟩, hv]; rfl
      · rw [ez_rd, if_pos ⟨rfl, rfl, rfl⟩]
      · rw [ez_rd, if_neg (by omega)]; rfl
      · rw [ez_rd2, ez_rdL, if_neg (by omega), ez_rdL, if_neg (by omega)]
    · refine ez_iload 36 dX9_note_34 rfl rfl ?_
      refine ez_bipush 38 dX9_note_36 rfl (nI 9) (by decide) ?_
      refine ez_ncmp_ge 41 56 dX9_note_38 rfl (by decide) (by omega) (by omega) (fun h38 => ?_) (fun h38 => ?_)
      · refine ez_lload 58 dX9_note_56 rfl rfl ?_
        refine ez_iconst 59 dX9_note_58 rfl (nI 4) (by decide) ?_
        refine ez_lshl 60 dX9_note_59 rfl ?_
        refine ez_aload_n 61 dX9_note_60 rfl rfl ?_
        refine ez_getf 64 (eR 21 wi) dX9_note_61 rfl fl_X9_26 (by show wi < 18; omega) rfl ?_
        refine ez_iload 66 dX9_note_64 rfl rfl ?_
        refine ez_callSN 69 [eR 21 wi, eI (nI t)] [eL (v <<< ((nI 4).toInt64 &&& 63))] dX9_note_66 rfl rfl ok_X11_itemAt st_X11_itemAt "ElevenPebbles" nn_X9_22 (by omega) (Nat.le_of_ble_eq_true rfl) (c_itemAt_n G (d - 1) 21 wi t M (by decide) (by show wi < 18; omega) (by show t < 10; omega)) (fun r66 M66 q66 => ?_)
        obtain ⟨rfl, e66⟩ := q66
        rw [e66, show M.1 21 wi t = nI (S.2.2.2.2.1 t) from (hR.2.2.2.2.2.2.2 t (by omega)).1]
        show Ez G mX9_note d 69 [(8, eI (nI t)), (6, eL v), (4, eL u), (0, eR 9 0), (1, eI (nI k)), (2, eR 10 wi), (3, eR 20 pi)] [eI (nI (S.2.2.2.2.1 t)), eL (v <<< ((nI 4).toInt64 &&& 63))] M _
        refine ez_i2l 70 dX9_note_69 rfl ?_
        refine ez_lor 71 dX9_note_70 rfl ?_
        refine ez_lstore 73 [(6, eL ((v <<< ((nI 4).toInt64 &&& 63)) ||| ((nI (S.2.2.2.2.1 t)).toInt64))), (8, eI (nI t)), (4, eL u), (0, eR 9 0), (1, eI (nI k)), (2, eR 10 wi), (3, eR 20 pi)] dX9_note_71 rfl (by decide) rfl ?_
        refine ez_iinc 76 (nI (t + 1)) [(8, eI (nI (t + 1))), (6, eL ((v <<< ((nI 4).toInt64 &&& 63)) ||| ((nI (S.2.2.2.2.1 t)).toInt64))), (4, eL u), (0, eR 9 0), (1, eI (nI k)), (2, eR 10 wi), (3, eR 20 pi)] dX9_note_73 rfl rfl (nI_add t 1) (by decide) rfl ?_
        refine ez_goto 27 dX9_note_76 (by decide) ?_
        exact ih (10 - (t + 1)) (by omega) (t + 1) _ _ rfl (by omega) (by rw [hu, show min (t + 1) 9 = min t 9 by omega]) (by rw [hv]; rfl)
      · refine ez_lload 43 dX9_note_41 rfl rfl ?_
        refine ez_bipush 45 dX9_note_43 rfl (nI 7) (by decide) ?_
        refine ez_lshl 46 dX9_note_45 rfl ?_
        refine ez_aload_n 47 dX9_note_46 rfl rfl ?_
        refine ez_iload 49 dX9_note_47 rfl rfl ?_
        refine ez_callSN 52 [eR 20 pi, eI (nI t)] [eL (u <<< ((nI 7).toInt64 &&& 63))] dX9_note_49 rfl rfl ok_X11_itemAt st_X11_itemAt "ElevenPebbles" nn_X9_22 (by omega) (Nat.le_of_ble_eq_true rfl) (c_itemAt_n G (d - 1) 20 pi t M (by decide) (by show pi < 9; omega) (by show t < 10; omega)) (fun r49 M49 q49 => ?_)
        obtain ⟨rfl, e49⟩ := q49
        rw [e49, show M.1 20 pi t = nI (S.2.2.2.2.2 t) from (hR.2.2.2.2.2.2.2 t (by omega)).2]
        show Ez G mX9_note d 52 [(8, eI (nI t)), (6, eL v), (4, eL u), (0, eR 9 0), (1, eI (nI k)), (2, eR 10 wi), (3, eR 20 pi)] [eI (nI (S.2.2.2.2.2 t)), eL (u <<< ((nI 7).toInt64 &&& 63))] M _
        refine ez_i2l 53 dX9_note_52 rfl ?_
        refine ez_lor 54 dX9_note_53 rfl ?_
        refine ez_lstore 56 [(4, eL ((u <<< ((nI 7).toInt64 &&& 63)) ||| ((nI (S.2.2.2.2.2 t)).toInt64))), (8, eI (nI t)), (6, eL v), (0, eR 9 0), (1, eI (nI k)), (2, eR 10 wi), (3, eR 20 pi)] dX9_note_54 rfl (by decide) rfl ?_
        refine ez_lload 58 dX9_note_56 rfl rfl ?_
        refine ez_iconst 59 dX9_note_58 rfl (nI 4) (by decide) ?_
        refine ez_lshl 60 dX9_note_59 rfl ?_
        refine ez_aload_n 61 dX9_note_60 rfl rfl ?_
        refine ez_getf 64 (eR 21 wi) dX9_note_61 rfl fl_X9_26 (by show wi < 18; omega) rfl ?_
        refine ez_iload 66 dX9_note_64 rfl rfl ?_
        refine ez_callSN 69 [eR 21 wi, eI (nI t)] [eL (v <<< ((nI 4).toInt64 &&& 63))] dX9_note_66 rfl rfl ok_X11_itemAt st_X11_itemAt "ElevenPebbles" nn_X9_22 (by omega) (Nat.le_of_ble_eq_true rfl) (c_itemAt_n G (d - 1) 21 wi t M (by decide) (by show wi < 18; omega) (by show t < 10; omega)) (fun r66 M66 q66 => ?_)
        obtain ⟨rfl, e66⟩ := q66
        rw [e66, show M.1 21 wi t = nI (S.2.2.2.2.1 t) from (hR.2.2.2.2.2.2.2 t (by omega)).1]
        show Ez G mX9_note d 69 [(4, eL ((u <<< ((nI 7).toInt64 &&& 63)) ||| ((nI (S.2.2.2.2.2 t)).toInt64))), (8, eI (nI t)), (6, eL v), (0, eR 9 0), (1, eI (nI k)), (2, eR 10 wi), (3, eR 20 pi)] [eI (nI (S.2.2.2.2.1 t)), eL (v <<< ((nI 4).toInt64 &&& 63))] M _
        refine ez_i2l 70 dX9_note_69 rfl ?_
        refine ez_lor 71 dX9_note_70 rfl ?_
        refine ez_lstore 73 [(6, eL ((v <<< ((nI 4).toInt64 &&& 63)) ||| ((nI (S.2.2.2.2.1 t)).toInt64))), (4, eL ((u <<< ((nI 7).toInt64 &&& 63)) ||| ((nI (S.2.2.2.2.2 t)).toInt64))), (8, eI (nI t)), (0, eR 9 0), (1, eI (nI k)), (2, eR 10 wi), (3, eR 20 pi)] dX9_note_71 rfl (by decide) rfl ?_
        refine ez_iinc 76 (nI (t + 1)) [(8, eI (nI (t + 1))), (6, eL ((v <<< ((nI 4).toInt64 &&& 63)) ||| ((nI (S.2.2.2.2.1 t)).toInt64))), (4, eL ((u <<< ((nI 7).toInt64 &&& 63)) ||| ((nI (S.2.2.2.2.2 t)).toInt64))), (0, eR 9 0), (1, eI (nI k)), (2, eR 10 wi), (3, eR 20 pi)] dX9_note_73 rfl rfl (nI_add t 1) (by decide) rfl ?_
        refine ez_goto 27 dX9_note_76 (by decide) ?_
        exact ih (10 - (t + 1)) (by omega) (t + 1) _ _ rfl (by omega) (by rw [hu, show min (t + 1) 9 = min t 9 + 1 by omega]; show _ = (er_pa S.2.2.2.2.2 (min t 9) <<< ((nI 7).toInt64 &&& 63)) ||| (nI (S.2.2.2.2.2 (min t 9))).toInt64; rw [show min t 9 = t by omega]) (by rw [hv]; rfl)
set_option maxRecDepth 20000 in
theorem c_X9_note (G : EzG) (d : Nat) {kind mz num : Nat} {S : EpW} {n : Nat} (k wi pi : Nat) (M : EzM) (hd : 1 ≤ d) (hk : k ≤ 200) (hwi : wi < 18) (hpi : pi < 9) (hn : n ≤ 10) (hS : WFS n S) (hR : RCW kind mz num S wi pi M) : Ezc G mX9_note d [eR 9 0, eI (nI k), eR 10 wi, eR 20 pi] M (fun r M' => r = none ∧ TRk k S M' ∧ FX (fun k' i s => k' = 27 ∧ s = k) M M' ∧ ∀ k' i s, s ≠ k → M'.2 k' i s = M.2 k' i s) := by
  refine Ezc.of (by decide +kernel) (Nat.le_of_ble_eq_true rfl) ?_
  have s1 := hS.1
  show Ez G mX9_note d 0 [(0, eR 9 0), (1, eI (nI k)), (2, eR 10 wi), (3, eR 20 pi)] [] M _
  refine ez_iload_n 1 dX9_note_0 rfl rfl ?_
  refine ez_nif_lt 4 dX9_note_1 rfl (by omega) ?_
  refine ez_iload_n 5 dX9_note_4 rfl rfl ?_
  refine ez_sipush 8 dX9_note_5 rfl (nI 200) (by decide) ?_
  refine ez_ncmp_le 11 12 dX9_note_8 rfl (by decide) (by omega) (by omega) (fun h8 => ?_) (fun h8 => ?_)
  · refine ez_lconst 13 dX9_note_12 rfl (nI 0).toInt64 (by decide) ?_
    refine ez_lstore 15 [(4, eL ((nI 0).toInt64)), (0, eR 9 0), (1, eI (nI k)), (2, eR 10 wi), (3, eR 20 pi)] dX9_note_13 rfl (by decide) rfl ?_
    refine ez_aload_n 16 dX9_note_15 rfl rfl ?_
    refine ez_bipush 18 dX9_note_16 rfl (nI 9) (by decide) ?_
    refine ez_callSN 21 [eR 20 pi, eI (nI 9)] [] dX9_note_18 rfl rfl ok_X11_itemAt st_X11_itemAt "ElevenPebbles" nn_X9_22 (by omega) (Nat.le_of_ble_eq_true rfl) (c_itemAt_n G (d - 1) 20 pi 9 M (by decide) (by show pi < 9; omega) (by show 9 < 10; omega)) (fun r18 M18 q18 => ?_)
    obtain ⟨rfl, e18⟩ := q18
    rw [e18, show M.1 20 pi 9 = nI (S.2.2.2.2.2 9) from (hR.2.2.2.2.2.2.2 9 (by omega)).2]
    show Ez G mX9_note d 21 [(4, eL ((nI 0).toInt64)), (0, eR 9 0), (1, eI (nI k)), (2, eR 10 wi), (3, eR 20 pi)] [eI (nI (S.2.2.2.2.2 9))] M _
    refine ez_i2l 22 dX9_note_21 rfl ?_
    refine ez_lstore 24 [(6, eL ((nI (S.2.2.2.2.2 9)).toInt64)), (4, eL ((nI 0).toInt64)), (0, eR 9 0), (1, eI (nI k)), (2, eR 10 wi), (3, eR 20 pi)] dX9_note_22 rfl (by decide) rfl ?_
    refine ez_iconst 25 dX9_note_24 rfl (nI 0) (by decide) ?_
    refine ez_istore 27 [(8, eI (nI 0)), (6, eL ((nI (S.2.2.2.2.2 9)).toInt64)), (4, eL ((nI 0).toInt64)), (0, eR 9 0), (1, eI (nI k)), (2, eR 10 wi), (3, eR 20 pi)] dX9_note_25 rfl (by decide) rfl ?_
    exact lp_note G d k wi pi M hd hk hwi hpi hn hS hR _ 0 _ _ rfl (by omega) rfl rfl
  · exact absurd h8 (by omega)
set_option maxRecDepth 20000 in
theorem lp_elder (G : EzG) (d : Nat) {n : Nat} (k : Nat) (Sq : Nat → EpW) (M : EzM) (hk : k ≤ 200) (hn : n ≤ 10) (hS : ∀ i, i ≤ k → WFS n (Sq i)) (hT : ∀ i, i ≤ k → TRk i (Sq i) M) : ∀ (z : Nat) (i : Nat), k - i = z → i ≤ k → (∀ j, j < i → er_al (Sq j) (Sq k) = false) → Ez G mX9_elderLike d 2 [(2, eI (nI i)), (0, eR 9 0), (1, eI (nI k))] [] M (fun r M' => r = some (eI (ep_oi (er_fst (fun i => er_al (Sq i) (Sq k)) k))) ∧ M' = M) := by
  intro z
  induction z using Nat.strongRecOn with
  | ind z ih =>
    intro i hz hi hj0
    refine ez_iload_n 3 dX9_elderLike_2 rfl rfl ?_
    refine ez_iload_n 4 dX9_elderLike_3 rfl rfl ?_
    refine ez_ncmp_ge 7 69 dX9_elderLike_4 rfl (by decide) (by omega) (by omega) (fun h4 => ?_) (fun h4 => ?_)
    · refine ez_iconst 70 dX9_elderLike_69 rfl (-1) (by decide) ?_
      refine ez_iret .int dX9_elderLike_70 rfl rfl ?_
      exact ⟨by rw [er_fst_none (fun j hj => hj0 j (by omega))]; rfl, rfl⟩
    · refine ez_iload_n 8 dX9_elderLike_7 rfl rfl ?_
      refine ez_sipush 11 dX9_elderLike_8 rfl (nI 200) (by decide) ?_
      refine ez_ncmp_gt 14 69 dX9_elderLike_11 rfl (by decide) (by omega) (by omega) (fun h11 => ?_) (fun h11 => ?_)
      · refine ez_iconst 70 dX9_elderLike_69 rfl (-1) (by decide) ?_
        refine ez_iret .int dX9_elderLike_70 rfl rfl ?_
        omega
      · refine ez_aload_n 15 dX9_elderLike_14 rfl rfl ?_
        refine ez_getf 18 (eR 25 0) dX9_elderLike_15 rfl fl_X9_9 (by show 0 < 1; omega) rfl ?_
        refine ez_iload_n 19 dX9_elderLike_18 rfl rfl ?_
        refine ez_laldN i 20 dX9_elderLike_19 rfl (by decide) (by show 0 < 1; omega) (by show i < 201; omega) ?_
        refine ez_aload_n 21 dX9_elderLike_20 rfl rfl ?_
        refine ez_getf 24 (eR 25 0) dX9_elderLike_21 rfl fl_X9_9 (by show 0 < 1; omega) rfl ?_
        refine ez_iload_n 25 dX9_elderLike_24 rfl rfl ?_
        refine ez_laldN k 26 dX9_elderLike_25 rfl (by decide) (by show 0 < 1; omega) (by show k < 201; omega) ?_
        refine ez_lcmp 27 dX9_elderLike_26 rfl ?_
        refine ez_if_ne 30 63 dX9_elderLike_27 rfl (by decide) (fun h27 => ?_) (fun h27 => ?_)
        · refine ez_iinc 66 (nI (i + 1)) [(2, eI (nI (i + 1))), (0, eR 9 0), (1, eI (nI k))] dX9_elderLike_63 rfl rfl (nI_add i 1) (by decide) rfl ?_
          refine ez_goto 2 dX9_elderLike_66 (by decide) ?_
          have e9 : er_al (Sq i) (Sq k) = false := by
            cases q9 : er_al (Sq i) (Sq k) with
            | false => rfl
            | true =>
              have q8 := (er_al_key hn (hS i (by omega)) (hS k (by omega))).mp q9
              exact absurd rfl (fun _ : (0 : Nat) = 0 => h27 (er_cmp_eq.mpr (by rw [(hT i (by omega)).1, (hT k (by omega)).1]; exact q8.1)))
          exact ih (k - (i + 1)) (by omega) (i + 1) rfl (by omega) (fun j hj => by
            by_cases q7 : j = i
            · rw [q7]; exact e9
            · exact hj0 j (by omega))
        · refine ez_aload_n 31 dX9_elderLike_30 rfl rfl ?_
          refine ez_getf 34 (eR 26 0) dX9_elderLike_31 rfl fl_X9_15 (by show 0 < 1; omega) rfl ?_
          refine ez_iload_n 35 dX9_elderLike_34 rfl rfl ?_
          refine ez_laldN i 36 dX9_elderLike_35 rfl (by decide) (by show 0 < 1; omega) (by show i < 201; omega) ?_
          refine ez_aload_n 37 dX9_elderLike_36 rfl rfl ?_
          refine ez_getf 40 (eR 26 0) dX9_elderLike_37 rfl fl_X9_15 (by show 0 < 1; omega) rfl ?_
          refine ez_iload_n 41 dX9_elderLike_40 rfl rfl ?_
          refine ez_laldN k 42 dX9_elderLike_41 rfl (by decide) (by show 0 < 1; omega) (by show k < 201; omega) ?_
          refine ez_lcmp 43 dX9_elderLike_42 rfl ?_
          refine ez_if_ne 46 63 dX9_elderLike_43 rfl (by decide) (fun h43 => ?_) (fun h43 => ?_)
          · refine ez_iinc 66 (nI (i + 1)) [(2, eI (nI (i + 1))), (0, eR 9 0), (1, eI (nI k))] dX9_elderLike_63 rfl rfl (nI_add i 1) (by decide) rfl ?_
            refine ez_goto 2 dX9_elderLike_66 (by decide) ?_
            have e9 : er_al (Sq i) (Sq k) = false := by
              cases q9 : er_al (Sq i) (Sq k) with
              | false => rfl
              | true =>
                have q8 := (er_al_key hn (hS i (by omega)) (hS k (by omega))).mp q9
                exact absurd rfl (fun _ : (0 : Nat) = 0 => h43 (er_cmp_eq.mpr (by rw [(hT i (by omega)).2.1, (hT k (by omega)).2.1]; exact q8.2.1)))
            exact ih (k - (i + 1)) (by omega) (i + 1) rfl (by omega) (fun j hj => by
              by_cases q7 : j = i
              · rw [q7]; exact e9
              · exact hj0 j (by omega))
          · refine ez_aload_n 47 dX9_elderLike_46 rfl rfl ?_
            refine ez_getf 50 (eR 27 0) dX9_elderLike_47 rfl fl_X9_18 (by show 0 < 1; omega) rfl ?_
            refine ez_iload_n 51 dX9_elderLike_50 rfl rfl ?_
            refine ez_ialdN i 52 dX9_elderLike_51 rfl (by decide) (by show 0 < 1; omega) (by show i < 201; omega) ?_
            refine ez_aload_n 53 dX9_elderLike_52 rfl rfl ?_
            refine ez_getf 56 (eR 27 0) dX9_elderLike_53 rfl fl_X9_18 (by show 0 < 1; omega) rfl ?_
            refine ez_iload_n 57 dX9_elderLike_56 rfl rfl ?_
            refine ez_ialdN k 58 dX9_elderLike_57 rfl (by decide) (by show 0 < 1; omega) (by show k < 201; omega) ?_
            refine ez_icmp_ne 61 63 dX9_elderLike_58 rfl (by decide) (fun h58 => ?_) (fun h58 => ?_)
            · refine ez_iinc 66 (nI (i + 1)) [(2, eI (nI (i + 1))), (0, eR 9 0), (1, eI (nI k))] dX9_elderLike_63 rfl rfl (nI_add i 1) (by decide) rfl ?_
              refine ez_goto 2 dX9_elderLike_66 (by decide) ?_
              have e9 : er_al (Sq i) (Sq k) = false := by
                cases q9 : er_al (Sq i) (Sq k) with
                | false => rfl
                | true =>
                  have q8 := (er_al_key hn (hS i (by omega)) (hS k (by omega))).mp q9
                  exact absurd rfl (fun _ : (0 : Nat) = 0 => h58 (by rw [(hT i (by omega)).2.2, (hT k (by omega)).2.2]; exact q8.2.2))
              exact ih (k - (i + 1)) (by omega) (i + 1) rfl (by omega) (fun j hj => by
                by_cases q7 : j = i
                · rw [q7]; exact e9
                · exact hj0 j (by omega))
            · refine ez_iload_n 62 dX9_elderLike_61 rfl rfl ?_
              refine ez_iret .int dX9_elderLike_62 rfl rfl ?_
              have e9 : er_al (Sq i) (Sq k) = true := (er_al_key hn (hS i (by omega)) (hS k (by omega))).mpr ⟨by rw [← (hT i (by omega)).1, ← (hT k (by omega)).1]; exact er_cmp_eq.mp h27, by rw [← (hT i (by omega)).2.1, ← (hT k (by omega)).2.1]; exact er_cmp_eq.mp h43, by rw [← (hT i (by omega)).2.2, ← (hT k (by omega)).2.2]; exact h58⟩
              exact ⟨by rw [er_fst_some (p := fun i => er_al (Sq i) (Sq k)) (i := i) e9 hj0 (by omega)]; rfl, rfl⟩
set_option maxRecDepth 20000 in
theorem c_X9_elderLike (G : EzG) (d : Nat) {n : Nat} (k : Nat) (Sq : Nat → EpW) (M : EzM) (hk : k ≤ 200) (hn : n ≤ 10) (hS : ∀ i, i ≤ k → WFS n (Sq i)) (hT : ∀ i, i ≤ k → TRk i (Sq i) M) : Ezc G mX9_elderLike d [eR 9 0, eI (nI k)] M (fun r M' => r = some (eI (ep_oi (er_fst (fun i => er_al (Sq i) (Sq k)) k))) ∧ M' = M) := by
  refine Ezc.of (by decide +kernel) (Nat.le_of_ble_eq_true rfl) ?_
  show Ez G mX9_elderLike d 0 [(0, eR 9 0), (1, eI (nI k))] [] M _
  refine ez_iconst 1 dX9_elderLike_0 rfl (nI 0) (by decide) ?_
  refine ez_istore_n 2 [(2, eI (nI 0)), (0, eR 9 0), (1, eI (nI k))] dX9_elderLike_1 rfl (by decide) rfl ?_
  exact lp_elder G d k Sq M hk hn hS hT _ 0 rfl (by omega) (fun j hj => by omega)
def s_sq (q : EpS) (w : Nat) (t : Nat) : EpW := ep_nth (s_st q 1 w) t (s_get q.1 q.2.1 w)
noncomputable def s_el (q : EpS) (w t : Nat) : Option Nat := er_fst (fun i => er_al (s_sq q w i) (s_sq q w t)) t
noncomputable def s_lp (q : EpS) (w : Nat) : Option Nat := er_fst (fun t => (s_el q w (t + 1)).isSome) 200
noncomputable def S_ring (q : EpS) (x y : Int32) : Int32 := match ep_ix x q.2.1.1 with
  | none => -2
  | some w => match ep_ix y 2 with
    | none => -2
    | some c => match s_lp q w with
      | none => -1
      | some t => match s_el q w (t + 1) with
        | none => -1
        | some e => if c = 0 then nI e else nI (t + 1 - e)
theorem s_el_lt {q : EpS} {w t e : Nat} (h : s_el q w t = some e) : e < t := (er_fst_in h).1
theorem TRk.fx {k : Nat} {S : EpW} {M M' : EzM} {ch : Nat → Nat → Nat → Prop} (h : TRk k S M) (hF : FX ch M M') (hc : ¬ ch 27 0 k) (h2 : ∀ k' i, M'.2 k' i k = M.2 k' i k) : TRk k S M' := ⟨by rw [h2]; exact h.1, by rw [h2]; exact h.2.1, by rw [hF _ _ _ hc]; exact h.2.2⟩
set_option maxRecDepth 20000 in
theorem lp_till (G : EzG) (d : Nat) {q : EpS} (w : Nat) (M : EzM) (hd : 7 ≤ d) (hW : WF q) (hw : w < q.2.1.1) (gR : RCW (q.2.1.2.1 w 0) (q.2.1.2.1 w 1) (q.2.1.2.1 w 4) (s_get q.1 q.2.1 w) w (q.2.1.2.1 w 1) M) (gZ : RCz (q.2.1.2.1 w 1) (q.1.2.1 (q.2.1.2.1 w 1)) (s_lt q w) M) (gX : RCx q.2.2.2.2.1.1 q.2.2.2.2.1.2.1 q.2.2.2.2.1.2.2 M) (h5 : M.1 5 0 2 = nI 1) : ∀ (z : Nat) (t : Nat) (M1 : EzM), 200 - t = z → t ≤ 200 → RCW (q.2.1.2.1 w 0) (q.2.1.2.1 w 1) (q.2.1.2.1 w 4) (s_sq q w t) 16 4 M1 → (∀ i, i ≤ t → TRk i (s_sq q w i) M1) → (∀ j, j < t → (s_el q w (j + 1)).isSome = false) → FX SC M M1 → Ez G mX11_stepsTillSeenAgain d 37 [(3, eI (nI (t + 1))), (0, eR 11 0), (2, eR 1 (q.2.1.2.1 w 1))] [] M1 (fun r M' => FX SC M M' ∧ ((s_lp q w = none ∧ r = some (eI (-1))) ∨ ∃ t e, t < 200 ∧ s_lp q w = some t ∧ s_el q w (t + 1) = some e ∧ r = some (eI (nI (t + 1))) ∧ ∀ i, i ≤ t + 1 → TRk i (s_sq q w i) M')) := by
  intro z
  induction z using Nat.strongRecOn with
  | ind z ih =>
    intro t M1 hz ht hR hT hj hF
    have q8 := hW.2.1.1
    have q4 := hW.1.1
    have qx := hW.2.2.2.2.1
    obtain ⟨k0, k1, k2, k3, k4, k5⟩ := hW.2.1.2 w hw
    have gz := g_WFz hW.1 k1
    have gS := g_WFS hW hw
    have n10 := gz.2.1
    refine ez_iload_n 38 dX11_stepsTillSeenAgain_37 rfl rfl ?_
    refine ez_sipush 41 dX11_stepsTillSeenAgain_38 rfl (nI 200) (by decide) ?_
    refine ez_ncmp_gt 44 93 dX11_stepsTillSeenAgain_41 rfl (by decide) (by omega) (by omega) (fun h41 => ?_) (fun h41 => ?_)
    · refine ez_iconst 94 dX11_stepsTillSeenAgain_93 rfl (-1) (by decide) ?_
      refine ez_iret .int dX11_stepsTillSeenAgain_94 rfl rfl ?_
      exact ⟨hF, Or.inl ⟨er_fst_none (fun j hj9 => hj j (by omega)), rfl⟩⟩
    · refine ez_aload_n 45 dX11_stepsTillSeenAgain_44 rfl rfl ?_
      refine ez_aload_n 46 dX11_stepsTillSeenAgain_45 rfl rfl ?_
      refine ez_getf 49 (eR 10 16) dX11_stepsTillSeenAgain_46 rfl fl_X11_55 (by show 0 < 1; omega) rfl ?_
      refine ez_aload_n 50 dX11_stepsTillSeenAgain_49 rfl rfl ?_
      refine ez_aload_n 51 dX11_stepsTillSeenAgain_50 rfl rfl ?_
      refine ez_getf 54 (eR 20 4) dX11_stepsTillSeenAgain_51 rfl fl_X11_62 (by show 0 < 1; omega) rfl ?_
      refine ez_callV 57 [eR 10 16, eR 1 (q.2.1.2.1 w 1), eR 20 4] [] dX11_stepsTillSeenAgain_54 rfl rfl ok_X11_goOneStep in_X11_goOneStep (by decide) (by show 0 < 1; omega) ln_X11_211 (by omega) (Nat.le_of_ble_eq_true rfl) (c_X11_goOneStep G (d - 1) (S := s_sq q w t) (lt := (s_lt q w)) (bl := 1) (tf := q.2.2.2.2.1.2.2) 16 4 (q.2.1.2.1 w 1) M1 (by omega) (by omega) (by omega) (by omega) k0 k4 gz (WFS_nth gz t _ gS) qx (by omega) hR (gZ.fx hF ⟨by unfold SC; omega, fun x => by unfold SC; omega⟩) (gX.fx hF qx.2.1 ⟨by unfold SC; omega, by unfold SC; omega, fun i s hi => by unfold SC; omega⟩) (by rw [hF _ _ _ (by unfold SC; omega)]; exact h5)) (fun r54 M54 q54 => ?_)
      obtain ⟨rfl, R54, f54, l54⟩ := q54
      have F54 := hF.tr (f54.up (fun k i s z => by unfold SC; omega))
      show Ez G mX11_stepsTillSeenAgain d 57 [(3, eI (nI (t + 1))), (0, eR 11 0), (2, eR 1 (q.2.1.2.1 w 1))] [] M54 _
      refine ez_aload_n 58 dX11_stepsTillSeenAgain_57 rfl rfl ?_
      refine ez_getf 61 (eR 9 0) dX11_stepsTillSeenAgain_58 rfl fl_X11_69 (by show 0 < 1; omega) rfl ?_
      refine ez_iload_n 62 dX11_stepsTillSeenAgain_61 rfl rfl ?_
      refine ez_aload_n 63 dX11_stepsTillSeenAgain_62 rfl rfl ?_
      refine ez_getf 66 (eR 10 16) dX11_stepsTillSeenAgain_63 rfl fl_X11_55 (by show 0 < 1; omega) rfl ?_
      refine ez_aload_n 67 dX11_stepsTillSeenAgain_66 rfl rfl ?_
      refine ez_getf 70 (eR 20 4) dX11_stepsTillSeenAgain_67 rfl fl_X11_62 (by show 0 < 1; omega) rfl ?_
      refine ez_callV 73 [eI (nI (t + 1)), eR 10 16, eR 20 4] [] dX11_stepsTillSeenAgain_70 rfl rfl ok_X9_note in_X9_note (by decide) (by show 0 < 1; omega) ln_X11_374 (by omega) (Nat.le_of_ble_eq_true rfl) (c_X9_note G (d - 1) (S := s_sq q w (t + 1)) (n := q.1.2.1 (q.2.1.2.1 w 1)) (t + 1) 16 4 M54 (by omega) (by omega) (by omega) (by omega) n10 (WFS_nth gz (t + 1) _ gS) R54) (fun r70 M70 q70 => ?_)
      obtain ⟨rfl, T70, f70, l70⟩ := q70
      show Ez G mX11_stepsTillSeenAgain d 73 [(3, eI (nI (t + 1))), (0, eR 11 0), (2, eR 1 (q.2.1.2.1 w 1))] [] M70 _
      have R70 : RCW (q.2.1.2.1 w 0) (q.2.1.2.1 w 1) (q.2.1.2.1 w 4) (s_sq q w (t + 1)) 16 4 M70 := RCW.fx R54 f70 (fun s => by omega)
      have F70 := F54.tr (f70.up (fun k i s z => by unfold SC; omega))
      have T9 : ∀ i, i ≤ t + 1 → TRk i (s_sq q w i) M70 := fun i hi => by
        by_cases e : i = t + 1
        · rw [e]; exact T70
        · exact ((hT i (by omega)).fx (f54.tr (FX.rf)) (by omega) (fun k' i' => by rw [l54])).fx f70 (by omega) (fun k' i' => l70 k' i' i e)
      refine ez_aload_n 74 dX11_stepsTillSeenAgain_73 rfl rfl ?_
      refine ez_getf 77 (eR 9 0) dX11_stepsTillSeenAgain_74 rfl fl_X11_69 (by show 0 < 1; omega) rfl ?_
      refine ez_iload_n 78 dX11_stepsTillSeenAgain_77 rfl rfl ?_
      refine ez_callV 81 [eI (nI (t + 1))] [] dX11_stepsTillSeenAgain_78 rfl rfl ok_X9_elderLike in_X9_elderLike (by decide) (by show 0 < 1; omega) ln_X11_229 (by omega) (Nat.le_of_ble_eq_true rfl) (c_X9_elderLike G (d - 1) (n := q.1.2.1 (q.2.1.2.1 w 1)) (t + 1) (s_sq q w) M70 (by omega) n10 (fun i hi => WFS_nth gz i _ gS) T9) (fun r78 M78 q78 => ?_)
      obtain ⟨rfl, e78⟩ := q78
      rw [e78]
      show Ez G mX11_stepsTillSeenAgain d 81 [(3, eI (nI (t + 1))), (0, eR 11 0), (2, eR 1 (q.2.1.2.1 w 1))] [eI (ep_oi (s_el q w (t + 1)))] M70 _
      cases hel : s_el q w (t + 1) with
      | none =>
        show Ez G mX11_stepsTillSeenAgain d 81 _ [eI (-1)] M70 _
        refine ez_iconst 82 dX11_stepsTillSeenAgain_81 rfl (-1) (by decide) ?_
        refine ez_icmp_eq 85 87 dX11_stepsTillSeenAgain_82 rfl (by decide) (fun h82 => ?_) (fun h82 => ?_)
        · refine ez_iinc 90 (nI (t + 1 + 1)) [(3, eI (nI (t + 1 + 1))), (0, eR 11 0), (2, eR 1 (q.2.1.2.1 w 1))] dX11_stepsTillSeenAgain_87 rfl rfl (nI_add (t + 1) 1) (by decide) rfl ?_
          refine ez_goto 37 dX11_stepsTillSeenAgain_90 (by decide) ?_
          exact ih (200 - (t + 1)) (by omega) (t + 1) _ rfl (by omega) R70 T9 (fun j hj9 => by
            by_cases e : j = t
            · rw [e, hel]; rfl
            · exact hj j (by omega)) F70
        · exact absurd rfl h82
      | some c =>
        have c9 := s_el_lt hel
        show Ez G mX11_stepsTillSeenAgain d 81 _ [eI (nI c)] M70 _
        refine ez_iconst 82 dX11_stepsTillSeenAgain_81 rfl (-1) (by decide) ?_
        refine ez_icmp_eq 85 87 dX11_stepsTillSeenAgain_82 rfl (by decide) (fun h82 => ?_) (fun h82 => ?_)
        · exact absurd h82 (ep_m1 (by omega))
        · refine ez_iload_n 86 dX11_stepsTillSeenAgain_85 rfl rfl ?_
          refine ez_iret .int dX11_stepsTillSeenAgain_86 rfl rfl ?_
          exact ⟨F70, Or.inr ⟨t, c, by omega, er_fst_some (p := fun t => (s_el q w (t + 1)).isSome) (by show (s_el q w (t + 1)).isSome = true; rw [hel]; rfl) hj (by omega), hel, rfl, T9⟩⟩
set_option maxRecDepth 20000 in
theorem c_X11_stepsTillSeenAgain (G : EzG) (d : Nat) {q : EpS} (w : Nat) (M : EzM) (hd : 7 ≤ d) (hW : WF q) (hw : w < q.2.1.1) (gR : RCW (q.2.1.2.1 w 0) (q.2.1.2.1 w 1) (q.2.1.2.1 w 4) (s_get q.1 q.2.1 w) w (q.2.1.2.1 w 1) M) (gZ : RCz (q.2.1.2.1 w 1) (q.1.2.1 (q.2.1.2.1 w 1)) (s_lt q w) M) (gX : RCx q.2.2.2.2.1.1 q.2.2.2.2.1.2.1 q.2.2.2.2.1.2.2 M) (h5 : M.1 5 0 2 = nI 1) : Ezc G mX11_stepsTillSeenAgain d [eR 11 0, eR 10 w, eR 1 (q.2.1.2.1 w 1)] M (fun r M' => FX SC M M' ∧ ((s_lp q w = none ∧ r = some (eI (-1))) ∨ ∃ t e, t < 200 ∧ s_lp q w = some t ∧ s_el q w (t + 1) = some e ∧ r = some (eI (nI (t + 1))) ∧ ∀ i, i ≤ t + 1 → TRk i (s_sq q w i) M')) := by
  refine Ezc.of (by decide +kernel) (Nat.le_of_ble_eq_true rfl) ?_
  have q8 := hW.2.1.1
  have q4 := hW.1.1
  have qx := hW.2.2.2.2.1
  obtain ⟨k0, k1, k2, k3, k4, k5⟩ := hW.2.1.2 w hw
  have gz := g_WFz hW.1 k1
  have gS := g_WFS hW hw
  have n10 := gz.2.1
  show Ez G mX11_stepsTillSeenAgain d 0 [(0, eR 11 0), (1, eR 10 w), (2, eR 1 (q.2.1.2.1 w 1))] [] M _
  refine ez_aload_n 1 dX11_stepsTillSeenAgain_0 rfl rfl ?_
  refine ez_getf 4 (eR 10 16) dX11_stepsTillSeenAgain_1 rfl fl_X11_55 (by show 0 < 1; omega) rfl ?_
  refine ez_aload_n 5 dX11_stepsTillSeenAgain_4 rfl rfl ?_
  refine ez_callV 8 [eR 10 w] [] dX11_stepsTillSeenAgain_5 rfl rfl ok_X10_become in_X10_become (by decide) (by show 16 < 18; omega) ln_X11_214 (by omega) (Nat.le_of_ble_eq_true rfl) (c_X10_become G (d - 1) 16 w M (by omega) (by omega) (by omega) (by omega)) (fun r5 M5 q5 => ?_)
  obtain ⟨rfl, b5a, b5b, f5, l5⟩ := q5
  show Ez G mX11_stepsTillSeenAgain d 8 [(0, eR 11 0), (1, eR 10 w), (2, eR 1 (q.2.1.2.1 w 1))] [] M5 _
  refine ez_aload_n 9 dX11_stepsTillSeenAgain_8 rfl rfl ?_
  refine ez_getf 12 (eR 20 (q.2.1.2.1 w 1)) dX11_stepsTillSeenAgain_9 rfl fl_X11_156 (show q.2.1.2.1 w 1 < 4 by omega) rfl ?_
  refine ez_aload_n 13 dX11_stepsTillSeenAgain_12 rfl rfl ?_
  refine ez_getf 16 (eR 20 4) dX11_stepsTillSeenAgain_13 rfl fl_X11_62 (by show 0 < 1; omega) rfl ?_
  refine ez_callS 19 [eR 20 (q.2.1.2.1 w 1), eR 20 4] [] dX11_stepsTillSeenAgain_16 rfl rfl ok_X11_copyRow st_X11_copyRow ln_X11_217 (by omega) (Nat.le_of_ble_eq_true rfl) (c_copyRow_20 G (d - 1) (q.2.1.2.1 w 1) 4 M5 (by omega) (show q.2.1.2.1 w 1 < 9 by omega) (by show 4 < 9; omega)) (fun r16 M16 q16 => ?_)
  obtain ⟨rfl, e16⟩ := q16
  rw [e16]
  show Ez G mX11_stepsTillSeenAgain d 19 [(0, eR 11 0), (1, eR 10 w), (2, eR 1 (q.2.1.2.1 w 1))] [] (ez_row M5 20 4 (ep_fl (M5.1 20 (q.2.1.2.1 w 1)) (M5.1 20 4) 10)) _
  have F16 : FX (fun k i s => k = 20 ∧ i = 4) M5 (ez_row M5 20 4 (ep_fl (M5.1 20 (q.2.1.2.1 w 1)) (M5.1 20 4) 10)) := FX.rf.row (fun s => by omega)
  have G16 : FX SC M (ez_row M5 20 4 (ep_fl (M5.1 20 (q.2.1.2.1 w 1)) (M5.1 20 4) 10)) := (f5.up (fun k i s z => by unfold SC; omega)).tr (F16.up (fun k i s z => by unfold SC; omega))
  have R16 : RCW (q.2.1.2.1 w 0) (q.2.1.2.1 w 1) (q.2.1.2.1 w 4) (s_get q.1 q.2.1 w) 16 4 (ez_row M5 20 4 (ep_fl (M5.1 20 (q.2.1.2.1 w 1)) (M5.1 20 4) 10)) := RCW_become gR b5a b5b (F16.up (fun k i s z => z.1)) (fun r hr => by rw [ez_rdr, if_pos ⟨rfl, rfl⟩, ep_fl_in hr, f5 _ _ _ (by omega)])
  refine ez_aload_n 20 dX11_stepsTillSeenAgain_19 rfl rfl ?_
  refine ez_getf 23 (eR 9 0) dX11_stepsTillSeenAgain_20 rfl fl_X11_69 (by show 0 < 1; omega) rfl ?_
  refine ez_iconst 24 dX11_stepsTillSeenAgain_23 rfl (nI 0) (by decide) ?_
  refine ez_aload_n 25 dX11_stepsTillSeenAgain_24 rfl rfl ?_
  refine ez_getf 28 (eR 10 16) dX11_stepsTillSeenAgain_25 rfl fl_X11_55 (by show 0 < 1; omega) rfl ?_
  refine ez_aload_n 29 dX11_stepsTillSeenAgain_28 rfl rfl ?_
  refine ez_getf 32 (eR 20 4) dX11_stepsTillSeenAgain_29 rfl fl_X11_62 (by show 0 < 1; omega) rfl ?_
  refine ez_callV 35 [eI (nI 0), eR 10 16, eR 20 4] [] dX11_stepsTillSeenAgain_32 rfl rfl ok_X9_note in_X9_note (by decide) (by show 0 < 1; omega) ln_X11_374 (by omega) (Nat.le_of_ble_eq_true rfl) (c_X9_note G (d - 1) (S := (s_get q.1 q.2.1 w)) (n := q.1.2.1 (q.2.1.2.1 w 1)) 0 16 4 (ez_row M5 20 4 (ep_fl (M5.1 20 (q.2.1.2.1 w 1)) (M5.1 20 4) 10)) (by omega) (by omega) (by omega) (by omega) n10 gS R16) (fun r32 M32 q32 => ?_)
  obtain ⟨rfl, T32, f32, l32⟩ := q32
  show Ez G mX11_stepsTillSeenAgain d 35 [(0, eR 11 0), (1, eR 10 w), (2, eR 1 (q.2.1.2.1 w 1))] [] M32 _
  refine ez_iconst 36 dX11_stepsTillSeenAgain_35 rfl (nI 1) (by decide) ?_
  refine ez_istore_n 37 [(3, eI (nI 1)), (0, eR 11 0), (1, eR 10 w), (2, eR 1 (q.2.1.2.1 w 1))] dX11_stepsTillSeenAgain_36 rfl (by decide) rfl ?_
  refine ez_drop [(3, eI (nI (0 + 1))), (0, eR 11 0), (2, eR 1 (q.2.1.2.1 w 1))] (by simp) ?_
  exact lp_till G d w M hd hW hw gR gZ gX h5 _ 0 M32 rfl (by omega) (RCW.fx R16 f32 (fun s => by omega)) (fun i hi => by rw [show i = 0 by omega]; exact T32) (fun j hj => by omega) (G16.tr (f32.up (fun k i s z => by unfold SC; omega)))
theorem FX.sc5 {M M' : EzM} {v : Int32} (hF : FX (fun k i s => SC k i s ∨ (k = 5 ∧ i = 0 ∧ s = 2)) M M') (h0 : M.1 5 0 2 = v) (h1 : M'.1 5 0 2 = v) : FX SC M M' := fun k i s hc => by
  by_cases e : k = 5 ∧ i = 0 ∧ s = 2
  · obtain ⟨rfl, rfl, rfl⟩ := e
    rw [h0, h1]
  · exact hF k i s (fun z => z.elim hc e)
set_option maxRecDepth 20000 in
theorem c_X11_ring (G : EzG) (d : Nat) {q : EpS} (x y : Int32) (M : EzM) (hd : 8 ≤ d) (hW : WF q) (hC : RC q M) : Ezc G mX11_ring d [eR 11 0, eI x, eI y] M (fun r M' => r = some (eI (S_ring q x y)) ∧ RC q M' ∧ FX CC M M') := by
  refine Ezc.of (by decide +kernel) (Nat.le_of_ble_eq_true rfl) ?_
  have q8 := hW.2.1.1
  have q4 := hW.1.1
  have qx := hW.2.2.2.2.1
  show Ez G mX11_ring d 0 [(0, eR 11 0), (1, eI x), (2, eI y)] [] M _
  refine ez_aload_n 1 dX11_ring_0 rfl rfl ?_
  refine ez_iload_n 2 dX11_ring_1 rfl rfl ?_
  refine ez_callV 5 [eI x] [] dX11_ring_2 rfl rfl ok_X11_walkerAt in_X11_walkerAt (by decide) (by show 0 < 1; omega) ln_X11_185 (by omega) (Nat.le_of_ble_eq_true rfl) (c_X11_walkerAt G (d - 1) x q.2.1.1 M (by omega) hC.2.1.1 (by omega)) (fun r2 M2 q2 => ?_)
  obtain ⟨e2, ⟨rfl, i2⟩ | ⟨j2, b2, rfl, rfl⟩⟩ := q2
  · rw [e2]
    show Ez G mX11_ring d 5 [(0, eR 11 0), (1, eI x), (2, eI y)] [eN] M _
    refine ez_astore_n 6 [(3, eN), (0, eR 11 0), (1, eI x), (2, eI y)] dX11_ring_5 rfl (by decide) rfl ?_
    refine ez_aload_n 7 dX11_ring_6 rfl rfl ?_
    refine ez_ifnull_n 18 dX11_ring_7 (by decide) ?_
    refine ez_bipush 20 dX11_ring_18 rfl (-2) (by decide) ?_
    refine ez_iret .int dX11_ring_20 rfl rfl ?_
    exact ⟨by simp [S_ring, i2], hC, FX.rf⟩
  · rw [e2]
    have i2 : ep_ix (nI j2) q.2.1.1 = some j2 := ep_ix_nI b2 (by omega)
    obtain ⟨k0, k1, k2, k3, k4, k5⟩ := hW.2.1.2 j2 b2
    have gz := g_WFz hW.1 k1
    have gS := g_WFS hW b2
    have gZ := g_RCz hC.1 k1
    have gR := g_RCW hC.1 hC.2.1 b2 k1
    have n10 := gz.2.1
    have gX := hC.2.2.2.2.1
    show Ez G mX11_ring d 5 [(0, eR 11 0), (1, eI (nI j2)), (2, eI y)] [eR 10 j2] M _
    refine ez_astore_n 6 [(3, eR 10 j2), (0, eR 11 0), (1, eI (nI j2)), (2, eI y)] dX11_ring_5 rfl (by decide) rfl ?_
    refine ez_aload_n 7 dX11_ring_6 rfl rfl ?_
    refine ez_ifnull_r 10 dX11_ring_7 rfl ?_
    refine ez_iload_n 11 dX11_ring_10 rfl rfl ?_
    refine ez_iconst 12 dX11_ring_11 rfl (nI 2) (by decide) ?_
    refine ez_callS 15 [eI y, eI (nI 2)] [] dX11_ring_12 rfl rfl ok_X11_isInside st_X11_isInside ln_X11_134 (by omega) (Nat.le_of_ble_eq_true rfl) (c_isInside_c G (d - 1) y 2 M (by omega)) (fun r12 M12 q12 => ?_)
    obtain ⟨e12, ⟨rfl, i12⟩ | ⟨j12, b12, rfl, rfl⟩⟩ := q12
    · rw [e12]
      show Ez G mX11_ring d 15 [(3, eR 10 j2), (0, eR 11 0), (1, eI (nI j2)), (2, eI y)] [eI (nI 0)] M _
      refine ez_nif_ne 18 21 dX11_ring_15 rfl (by decide) (by omega) (fun h15 => ?_) (fun h15 => ?_)
      · exact absurd h15 (by decide)
      · refine ez_bipush 20 dX11_ring_18 rfl (-2) (by decide) ?_
        refine ez_iret .int dX11_ring_20 rfl rfl ?_
        exact ⟨by simp [S_ring, i2, i12], hC, FX.rf⟩
    · rw [e12]
      have i12 : ep_ix (nI j12) 2 = some j12 := ep_ix_nI b12 (by omega)
      show Ez G mX11_ring d 15 [(3, eR 10 j2), (0, eR 11 0), (1, eI (nI j2)), (2, eI (nI j12))] [eI (nI 1)] M _
      refine ez_nif_ne 18 21 dX11_ring_15 rfl (by decide) (by omega) (fun h15 => ?_) (fun h15 => ?_)
      · refine ez_aload_n 22 dX11_ring_21 rfl rfl ?_
        refine ez_aload_n 23 dX11_ring_22 rfl rfl ?_
        refine ez_getf 26 (eI (M.1 10 j2 1)) dX11_ring_23 rfl fl_X11_173 (by show j2 < 18; omega) rfl ?_
        refine ez_top (nI (q.2.1.2.1 j2 1)) gR.2.1 ?_
        refine ez_callV 29 [eI (nI (q.2.1.2.1 j2 1))] [] dX11_ring_26 rfl rfl ok_X11_mazeAt in_X11_mazeAt (by decide) (by show 0 < 1; omega) ln_X11_141 (by omega) (Nat.le_of_ble_eq_true rfl) (c_mazeAt_n G (d - 1) (q.2.1.2.1 j2 1) q.1.1 M (by omega) hC.1.1 q4 k1) (fun r26 M26 q26 => ?_)
        obtain ⟨rfl, e26⟩ := q26
        rw [e26]
        show Ez G mX11_ring d 29 [(3, eR 10 j2), (0, eR 11 0), (1, eI (nI j2)), (2, eI (nI j12))] [eR 1 (q.2.1.2.1 j2 1)] M _
        refine ez_astore 31 [(4, eR 1 (q.2.1.2.1 j2 1)), (3, eR 10 j2), (0, eR 11 0), (1, eI (nI j2)), (2, eI (nI j12))] dX11_ring_29 rfl (by decide) rfl ?_
        refine ez_aload 33 dX11_ring_31 rfl rfl ?_
        refine ez_ifnonnull_r 39 dX11_ring_33 (by decide) ?_
        refine ez_aload_n 40 dX11_ring_39 rfl rfl ?_
        refine ez_getf 43 (eR 5 0) dX11_ring_40 rfl fl_X11_50 (by show 0 < 1; omega) rfl ?_
        refine ez_iconst 44 dX11_ring_43 rfl (nI 1) (by decide) ?_
        refine ez_putf 47 .boolean dX11_ring_44 rfl fp_X11_221 (by show 0 < 1; omega) rfl (by decide) (by decide) (by decide) ?_
        have F44 : FX (fun k i s => k = 5 ∧ i = 0 ∧ s = 2) M (ez_st M 5 0 2 (nI 1)) := FX.rf.st (by omega)
        refine ez_aload_n 48 dX11_ring_47 rfl rfl ?_
        refine ez_aload_n 49 dX11_ring_48 rfl rfl ?_
        refine ez_aload 51 dX11_ring_49 rfl rfl ?_
        refine ez_callV 54 [eR 10 j2, eR 1 (q.2.1.2.1 j2 1)] [] dX11_ring_51 rfl rfl ok_X11_stepsTillSeenAgain in_X11_stepsTillSeenAgain (by decide) (by show 0 < 1; omega) ln_X11_225 (by omega) (Nat.le_of_ble_eq_true rfl) (c_X11_stepsTillSeenAgain G (d - 1) (q := q) j2 (ez_st M 5 0 2 (nI 1)) (by omega) hW b2 (gR.fx F44 (fun s => by omega)) (gZ.fx F44 ⟨by omega, fun x => by omega⟩) (gX.fx F44 qx.2.1 ⟨by omega, by omega, fun i s hi => by omega⟩) (by simp [ez_rd])) (fun r51 M51 q51 => ?_)
        obtain ⟨f51, ⟨n51, rfl⟩ | ⟨t, e, t200, n51, m51, rfl, T51⟩⟩ := q51
        · show Ez G mX11_ring d 54 [(4, eR 1 (q.2.1.2.1 j2 1)), (3, eR 10 j2), (0, eR 11 0), (1, eI (nI j2)), (2, eI (nI j12))] [eI (-1)] M51 _
          refine ez_istore 56 [(5, eI (-1)), (4, eR 1 (q.2.1.2.1 j2 1)), (3, eR 10 j2), (0, eR 11 0), (1, eI (nI j2)), (2, eI (nI j12))] dX11_ring_54 rfl (by decide) rfl ?_
          refine ez_aload_n 57 dX11_ring_56 rfl rfl ?_
          refine ez_getf 60 (eR 5 0) dX11_ring_57 rfl fl_X11_50 (by show 0 < 1; omega) rfl ?_
          refine ez_iconst 61 dX11_ring_60 rfl (nI 0) (by decide) ?_
          refine ez_putf 64 .boolean dX11_ring_61 rfl fp_X11_221 (by show 0 < 1; omega) rfl (by decide) (by decide) (by decide) ?_
          have F60 : FX SC M (ez_st M51 5 0 2 (nI 0)) := FX.sc5 (((F44.up (fun k i s z => Or.inr z)).tr (f51.up (fun k i s z => Or.inl z))).st (Or.inr ⟨rfl, rfl, rfl⟩)) hC.2.2.2.2.2.2 (by simp [ez_rd])
          refine ez_iload 66 dX11_ring_64 rfl rfl ?_
          refine ez_iconst 67 dX11_ring_66 rfl (-1) (by decide) ?_
          refine ez_icmp_ne 70 72 dX11_ring_67 rfl (by decide) (fun h67 => ?_) (fun h67 => ?_)
          · exact absurd rfl h67
          · refine ez_iconst 71 dX11_ring_70 rfl (-1) (by decide) ?_
            refine ez_iret .int dX11_ring_71 rfl rfl ?_
            exact ⟨by simp [S_ring, i2, i12, n51], RC.sc hW hC F60, F60.scc⟩
        · have e9 := s_el_lt m51
          show Ez G mX11_ring d 54 [(4, eR 1 (q.2.1.2.1 j2 1)), (3, eR 10 j2), (0, eR 11 0), (1, eI (nI j2)), (2, eI (nI j12))] [eI (nI (t + 1))] M51 _
          refine ez_istore 56 [(5, eI (nI (t + 1))), (4, eR 1 (q.2.1.2.1 j2 1)), (3, eR 10 j2), (0, eR 11 0), (1, eI (nI j2)), (2, eI (nI j12))] dX11_ring_54 rfl (by decide) rfl ?_
          refine ez_aload_n 57 dX11_ring_56 rfl rfl ?_
          refine ez_getf 60 (eR 5 0) dX11_ring_57 rfl fl_X11_50 (by show 0 < 1; omega) rfl ?_
          refine ez_iconst 61 dX11_ring_60 rfl (nI 0) (by decide) ?_
          refine ez_putf 64 .boolean dX11_ring_61 rfl fp_X11_221 (by show 0 < 1; omega) rfl (by decide) (by decide) (by decide) ?_
          have F60 : FX SC M (ez_st M51 5 0 2 (nI 0)) := FX.sc5 (((F44.up (fun k i s z => Or.inr z)).tr (f51.up (fun k i s z => Or.inl z))).st (Or.inr ⟨rfl, rfl, rfl⟩)) hC.2.2.2.2.2.2 (by simp [ez_rd])
          refine ez_iload 66 dX11_ring_64 rfl rfl ?_
          refine ez_iconst 67 dX11_ring_66 rfl (-1) (by decide) ?_
          refine ez_icmp_ne 70 72 dX11_ring_67 rfl (by decide) (fun h67 => ?_) (fun h67 => ?_)
          · refine ez_aload_n 73 dX11_ring_72 rfl rfl ?_
            refine ez_getf 76 (eR 9 0) dX11_ring_73 rfl fl_X11_69 (by show 0 < 1; omega) rfl ?_
            refine ez_iload 78 dX11_ring_76 rfl rfl ?_
            refine ez_callV 81 [eI (nI (t + 1))] [] dX11_ring_78 rfl rfl ok_X9_elderLike in_X9_elderLike (by decide) (by show 0 < 1; omega) ln_X11_229 (by omega) (Nat.le_of_ble_eq_true rfl) (c_X9_elderLike G (d - 1) (n := q.1.2.1 (q.2.1.2.1 j2 1)) (t + 1) (s_sq q j2) (ez_st M51 5 0 2 (nI 0)) (by omega) n10 (fun i hi => WFS_nth gz i _ gS) (fun i hi => (T51 i hi).fx (ch := fun k i s => k = 5) (FX.rf.st (by omega)) (by omega) (fun k i => rfl))) (fun r78 M78 q78 => ?_)
            obtain ⟨e78, h78⟩ := q78
            have e78' : r78 = some (eI (nI e)) := by rw [e78, show er_fst (fun i => er_al (s_sq q j2 i) (s_sq q j2 (t + 1))) (t + 1) = some e from m51]; rfl
            clear e78
            subst e78'
            subst h78
            show Ez G mX11_ring d 81 [(5, eI (nI (t + 1))), (4, eR 1 (q.2.1.2.1 j2 1)), (3, eR 10 j2), (0, eR 11 0), (1, eI (nI j2)), (2, eI (nI j12))] [eI (nI e)] (ez_st M51 5 0 2 (nI 0)) _
            refine ez_istore 83 [(6, eI (nI e)), (5, eI (nI (t + 1))), (4, eR 1 (q.2.1.2.1 j2 1)), (3, eR 10 j2), (0, eR 11 0), (1, eI (nI j2)), (2, eI (nI j12))] dX11_ring_81 rfl (by decide) rfl ?_
            refine ez_iload_n 84 dX11_ring_83 rfl rfl ?_
            refine ez_nif_ne 87 92 dX11_ring_84 rfl (by decide) (by omega) (fun h84 => ?_) (fun h84 => ?_)
            · refine ez_iload 94 dX11_ring_92 rfl rfl ?_
              refine ez_iload 96 dX11_ring_94 rfl rfl ?_
              refine ez_isub 97 dX11_ring_96 rfl ?_
              refine ez_top (nI (t + 1 - e)) (pk_sub (by omega)) ?_
              refine ez_iret .int dX11_ring_97 rfl rfl ?_
              exact ⟨by simp only [S_ring, i2, i12, n51, m51]; rw [if_neg (show ¬ j12 = 0 by omega)], RC.sc hW hC F60, F60.scc⟩
            · refine ez_iload 89 dX11_ring_87 rfl rfl ?_
              refine ez_goto 97 dX11_ring_89 (by decide) ?_
              refine ez_iret .int dX11_ring_97 rfl rfl ?_
              exact ⟨by simp only [S_ring, i2, i12, n51, m51]; rw [if_pos (show j12 = 0 by omega)], RC.sc hW hC F60, F60.scc⟩
          · exact absurd h67 (ep_m1 (by omega))
      · exact absurd h15 (by decide)
