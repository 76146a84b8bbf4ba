/-! a rule's code as a machine with a stack; comesTo; rows copied -/
theorem ez_mminN : Lib.Math.min.name = yJ9_min_7cf53 := by decide +kernel
theorem ez_mminC : Lib.Math.min.code = cJ9_min_7cf53 := by decide +kernel
theorem ez_mmin {G : EzG} {yy : MethodName} {cc : ByteArray} {ml : Nat} {rt : Option FieldType} {d pc : Nat} {ls : List (Nat × EzV)} {st : List EzV} {M : EzM} {P : Option EzV → EzM → Prop} {idx : Nat} {x y : Int32} (n : Nat) (hd : decode cc pc = .ok (.invokestatic idx, 3)) (hn : pc + 3 = n) (hl0 : Cond.methodLink yy.cls idx (mJ9_min_7cf53).1 ∈ ez_tbl) (hdd : 1 ≤ d) (h8 : ez_ss st ≤ 8) (kk : Ez G (yy, cc, ml, rt) d n ls (eI (if y < x then y else x) :: st) M P) : Ez G (yy, cc, ml, rt) d pc ls (eI y :: eI x :: st) M P := by
  subst hn
  intro p e s m args below meth c H locs lsA hx hb hr hml hown hts hlk hK hD hP hS hl
  exact va_mmin hx hb (hml.trans hl.1.symm) hown (by rw [ez_mminN]; exact hts _ (List.mem_cons_of_mem _ hl0)) (by rw [ez_mminN]; exact hts _ (List.mem_cons_of_mem _ st_J9_min_7cf53)) (hts _ (List.mem_cons_of_mem _ ok_J9_min_7cf53.2.1)) (by rw [ez_mminN, ez_mminC]; exact hts _ (List.mem_cons_of_mem _ ok_J9_min_7cf53.1)) hdd (by show _ ≤ 128 * d; rw [ez_ssum]; omega) (Nat.zero_le _) (Nat.zero_le _) hd (kk p e s m args below meth c H locs lsA hx hb hr hml hown hts hlk hK hD hP hS hl)
theorem ez_mmaxN : Lib.Math.max.name = yJ9_max_7cf53 := by decide +kernel
theorem ez_mmaxC : Lib.Math.max.code = cJ9_max_7cf53 := by decide +kernel
theorem ez_mmax {G : EzG} {yy : MethodName} {cc : ByteArray} {ml : Nat} {rt : Option FieldType} {d pc : Nat} {ls : List (Nat × EzV)} {st : List EzV} {M : EzM} {P : Option EzV → EzM → Prop} {idx : Nat} {x y : Int32} (n : Nat) (hd : decode cc pc = .ok (.invokestatic idx, 3)) (hn : pc + 3 = n) (hl0 : Cond.methodLink yy.cls idx (mJ9_max_7cf53).1 ∈ ez_tbl) (hdd : 1 ≤ d) (h8 : ez_ss st ≤ 8) (kk : Ez G (yy, cc, ml, rt) d n ls (eI (if x < y then y else x) :: st) M P) : Ez G (yy, cc, ml, rt) d pc ls (eI y :: eI x :: st) M P := by
  subst hn
  intro p e s m args below meth c H locs lsA hx hb hr hml hown hts hlk hK hD hP hS hl
  exact va_mmax hx hb (hml.trans hl.1.symm) hown (by rw [ez_mmaxN]; exact hts _ (List.mem_cons_of_mem _ hl0)) (by rw [ez_mmaxN]; exact hts _ (List.mem_cons_of_mem _ st_J9_max_7cf53)) (hts _ (List.mem_cons_of_mem _ ok_J9_max_7cf53.2.1)) (by rw [ez_mmaxN, ez_mmaxC]; exact hts _ (List.mem_cons_of_mem _ ok_J9_max_7cf53.1)) hdd (by show _ ≤ 128 * d; rw [ez_ssum]; omega) (Nat.zero_le _) (Nat.zero_le _) hd (kk p e s m args below meth c H locs lsA hx hb hr hml hown hts hlk hK hD hP hS hl)
theorem ez_nmin {a b : Nat} (ha : a < 2 ^ 31) (hb : b < 2 ^ 31) : (if nI b < nI a then nI b else nI a) = nI (min a b) := by
  by_cases h : b < a
  · rw [if_pos ((nI_ltI hb ha).mpr h), Nat.min_eq_right (by omega)]
  · rw [if_neg (fun q => h ((nI_ltI hb ha).mp q)), Nat.min_eq_left (by omega)]
theorem ez_nmax {a b : Nat} (ha : a < 2 ^ 31) (hb : b < 2 ^ 31) : (if nI a < nI b then nI b else nI a) = nI (max a b) := by
  by_cases h : a < b
  · rw [if_pos ((nI_ltI ha hb).mpr h), Nat.max_eq_right (by omega)]
  · rw [if_neg (fun q => h ((nI_ltI ha hb).mp q)), Nat.max_eq_left (by omega)]
set_option maxRecDepth 20000 in
theorem c_X3_truth (G : EzG) (d : Nat) (b : Nat) (M : EzM) (hb : b < 2) : Ezc G mX3_truth d [eI (nI b)] M (fun r M' => r = some (eI (nI b)) ∧ M' = M) := by
  refine Ezc.of (by decide +kernel) (Nat.le_of_ble_eq_true rfl) ?_
  show Ez G mX3_truth d 0 [(0, eI (nI b))] [] M _
  refine ez_iload_n 1 dX3_truth_0 rfl rfl ?_
  refine ez_nif_eq 4 8 dX3_truth_1 rfl (by decide) (by omega) (fun h1 => ?_) (fun h1 => ?_)
  · refine ez_iconst 9 dX3_truth_8 rfl (nI 0) (by decide) ?_
    refine ez_iret .int dX3_truth_9 rfl rfl ?_
    exact ⟨by rw [show 0 = b by omega], rfl⟩
  · refine ez_iconst 5 dX3_truth_4 rfl (nI 1) (by decide) ?_
    refine ez_goto 9 dX3_truth_5 (by decide) ?_
    refine ez_iret .int dX3_truth_9 rfl rfl ?_
    exact ⟨by rw [show 1 = b by omega], rfl⟩
def ep_jn (x a b : Int32) : Int32 := if x = -20 then ep_tr (¬ a = 0 ∨ ¬ b = 0) else if x = -21 then ep_tr (¬ a = 0 ∧ ¬ b = 0) else if x = -23 then ep_tr (a < b) else if x = -24 then ep_tr (a = b) else if x = -25 then a + b else if x = -26 then a - b else a * b
set_option maxRecDepth 20000 in
theorem c_X3_joined (G : EzG) (d : Nat) (x a b : Int32) (M : EzM) (hd : 1 ≤ d) : Ezc G mX3_joined d [eI x, eI a, eI b] M (fun r M' => r = some (eI (ep_jn x a b)) ∧ M' = M) := by
  refine Ezc.of (by decide +kernel) (Nat.le_of_ble_eq_true rfl) ?_
  show Ez G mX3_joined d 0 [(0, eI x), (1, eI a), (2, eI b)] [] M _
  refine ez_iload_n 1 dX3_joined_0 rfl rfl ?_
  by_cases e1_m26 : x = (-26)
  · subst e1_m26
    refine ez_tabIn (off := 109) 110 dX3_joined_1 (by decide) (by decide) (by decide) (by decide) ?_
    refine ez_iload_n 111 dX3_joined_110 rfl rfl ?_
    refine ez_iload_n 112 dX3_joined_111 rfl rfl ?_
    refine ez_isub 113 dX3_joined_112 rfl ?_
    refine ez_iret .int dX3_joined_113 rfl rfl ?_
    exact ⟨by simp [ep_jn, ep_tr], rfl⟩
  by_cases e1_m25 : x = (-25)
  · subst e1_m25
    refine ez_tabIn (off := 105) 106 dX3_joined_1 (by decide) (by decide) (by decide) (by decide) ?_
    refine ez_iload_n 107 dX3_joined_106 rfl rfl ?_
    refine ez_iload_n 108 dX3_joined_107 rfl rfl ?_
    refine ez_iadd 109 dX3_joined_108 rfl ?_
    refine ez_iret .int dX3_joined_109 rfl rfl ?_
    exact ⟨by simp [ep_jn, ep_tr], rfl⟩
  by_cases e1_m24 : x = (-24)
  · subst e1_m24
    refine ez_tabIn (off := 91) 92 dX3_joined_1 (by decide) (by decide) (by decide) (by decide) ?_
    refine ez_iload_n 93 dX3_joined_92 rfl rfl ?_
    refine ez_iload_n 94 dX3_joined_93 rfl rfl ?_
    refine ez_icmp_ne 97 101 dX3_joined_94 rfl (by decide) (fun h94 => ?_) (fun h94 => ?_)
    · refine ez_iconst 102 dX3_joined_101 rfl (nI 0) (by decide) ?_
      refine ez_callS 105 [eI (nI 0)] [] dX3_joined_102 rfl rfl ok_X3_truth st_X3_truth ln_X3_43 (by omega) (Nat.le_of_ble_eq_true rfl) (c_X3_truth G (d - 1) 0 M (by omega)) (fun r102 M102 q102 => ?_)
      obtain ⟨rfl, e102⟩ := q102
      rw [e102]
      show Ez G mX3_joined d 105 [(0, eI (-24)), (1, eI a), (2, eI b)] [eI (nI 0)] M _
      refine ez_iret .int dX3_joined_105 rfl rfl ?_
      exact ⟨by simp [ep_jn, ep_tr, h94], rfl⟩
    · refine ez_iconst 98 dX3_joined_97 rfl (nI 1) (by decide) ?_
      refine ez_goto 102 dX3_joined_98 (by decide) ?_
      refine ez_callS 105 [eI (nI 1)] [] dX3_joined_102 rfl rfl ok_X3_truth st_X3_truth ln_X3_43 (by omega) (Nat.le_of_ble_eq_true rfl) (c_X3_truth G (d - 1) 1 M (by omega)) (fun r102 M102 q102 => ?_)
      obtain ⟨rfl, e102⟩ := q102
      rw [e102]
      show Ez G mX3_joined d 105 [(0, eI (-24)), (1, eI a), (2, eI b)] [eI (nI 1)] M _
      refine ez_iret .int dX3_joined_105 rfl rfl ?_
      exact ⟨by simp [ep_jn, ep_tr, h94], rfl⟩
  by_cases e1_m23 : x = (-23)
  · subst e1_m23
    refine ez_tabIn (off := 77) 78 dX3_joined_1 (by decide) (by decide) (by decide) (by decide) ?_
    refine ez_iload_n 79 dX3_joined_78 rfl rfl ?_
    refine ez_iload_n 80 dX3_joined_79 rfl rfl ?_
    refine ez_icmp_ge 83 87 dX3_joined_80 rfl (by decide) (fun h80 => ?_) (fun h80 => ?_)
    · refine ez_iconst 88 dX3_joined_87 rfl (nI 0) (by decide) ?_
      refine ez_callS 91 [eI (nI 0)] [] dX3_joined_88 rfl rfl ok_X3_truth st_X3_truth ln_X3_43 (by omega) (Nat.le_of_ble_eq_true rfl) (c_X3_truth G (d - 1) 0 M (by omega)) (fun r88 M88 q88 => ?_)
      obtain ⟨rfl, e88⟩ := q88
      rw [e88]
      show Ez G mX3_joined d 91 [(0, eI (-23)), (1, eI a), (2, eI b)] [eI (nI 0)] M _
      refine ez_iret .int dX3_joined_91 rfl rfl ?_
      exact ⟨by simp [ep_jn, ep_tr, Int32.not_lt.mpr h80], rfl⟩
    · refine ez_iconst 84 dX3_joined_83 rfl (nI 1) (by decide) ?_
      refine ez_goto 88 dX3_joined_84 (by decide) ?_
      refine ez_callS 91 [eI (nI 1)] [] dX3_joined_88 rfl rfl ok_X3_truth st_X3_truth ln_X3_43 (by omega) (Nat.le_of_ble_eq_true rfl) (c_X3_truth G (d - 1) 1 M (by omega)) (fun r88 M88 q88 => ?_)
      obtain ⟨rfl, e88⟩ := q88
      rw [e88]
      show Ez G mX3_joined d 91 [(0, eI (-23)), (1, eI a), (2, eI b)] [eI (nI 1)] M _
      refine ez_iret .int dX3_joined_91 rfl rfl ?_
      exact ⟨by simp [ep_jn, ep_tr, Int32.not_le.mp h80], rfl⟩
  by_cases e1_m22 : x = (-22)
  · subst e1_m22
    refine ez_tabIn (off := 113) 114 dX3_joined_1 (by decide) (by decide) (by decide) (by decide) ?_
    refine ez_iload_n 115 dX3_joined_114 rfl rfl ?_
    refine ez_iload_n 116 dX3_joined_115 rfl rfl ?_
    refine ez_imul 117 dX3_joined_116 rfl ?_
    refine ez_iret .int dX3_joined_117 rfl rfl ?_
    exact ⟨by simp [ep_jn, ep_tr], rfl⟩
  by_cases e1_m21 : x = (-21)
  · subst e1_m21
    refine ez_tabIn (off := 60) 61 dX3_joined_1 (by decide) (by decide) (by decide) (by decide) ?_
    refine ez_iload_n 62 dX3_joined_61 rfl rfl ?_
    refine ez_if_eq 65 73 dX3_joined_62 rfl (by decide) (fun h62 => ?_) (fun h62 => ?_)
    · refine ez_iconst 74 dX3_joined_73 rfl (nI 0) (by decide) ?_
      refine ez_callS 77 [eI (nI 0)] [] dX3_joined_74 rfl rfl ok_X3_truth st_X3_truth ln_X3_43 (by omega) (Nat.le_of_ble_eq_true rfl) (c_X3_truth G (d - 1) 0 M (by omega)) (fun r74 M74 q74 => ?_)
      obtain ⟨rfl, e74⟩ := q74
      rw [e74]
      show Ez G mX3_joined d 77 [(0, eI (-21)), (1, eI a), (2, eI b)] [eI (nI 0)] M _
      refine ez_iret .int dX3_joined_77 rfl rfl ?_
      exact ⟨by simp [ep_jn, ep_tr, h62], rfl⟩
    · refine ez_iload_n 66 dX3_joined_65 rfl rfl ?_
      refine ez_if_eq 69 73 dX3_joined_66 rfl (by decide) (fun h66 => ?_) (fun h66 => ?_)
      · refine ez_iconst 74 dX3_joined_73 rfl (nI 0) (by decide) ?_
        refine ez_callS 77 [eI (nI 0)] [] dX3_joined_74 rfl rfl ok_X3_truth st_X3_truth ln_X3_43 (by omega) (Nat.le_of_ble_eq_true rfl) (c_X3_truth G (d - 1) 0 M (by omega)) (fun r74 M74 q74 => ?_)
        obtain ⟨rfl, e74⟩ := q74
        rw [e74]
        show Ez G mX3_joined d 77 [(0, eI (-21)), (1, eI a), (2, eI b)] [eI (nI 0)] M _
        refine ez_iret .int dX3_joined_77 rfl rfl ?_
        exact ⟨by simp [ep_jn, ep_tr, h62, h66], rfl⟩
      · refine ez_iconst 70 dX3_joined_69 rfl (nI 1) (by decide) ?_
        refine ez_goto 74 dX3_joined_70 (by decide) ?_
        refine ez_callS 77 [eI (nI 1)] [] dX3_joined_74 rfl rfl ok_X3_truth st_X3_truth ln_X3_43 (by omega) (Nat.le_of_ble_eq_true rfl) (c_X3_truth G (d - 1) 1 M (by omega)) (fun r74 M74 q74 => ?_)
        obtain ⟨rfl, e74⟩ := q74
        rw [e74]
        show Ez G mX3_joined d 77 [(0, eI (-21)), (1, eI a), (2, eI b)] [eI (nI 1)] M _
        refine ez_iret .int dX3_joined_77 rfl rfl ?_
        exact ⟨by simp [ep_jn, ep_tr, h62, h66], rfl⟩
  by_cases e1_m20 : x = (-20)
  · subst e1_m20
    refine ez_tabIn (off := 43) 44 dX3_joined_1 (by decide) (by decide) (by decide) (by decide) ?_
    refine ez_iload_n 45 dX3_joined_44 rfl rfl ?_
    refine ez_if_ne 48 52 dX3_joined_45 rfl (by decide) (fun h45 => ?_) (fun h45 => ?_)
    · refine ez_iconst 53 dX3_joined_52 rfl (nI 1) (by decide) ?_
      refine ez_goto 57 dX3_joined_53 (by decide) ?_
      refine ez_callS 60 [eI (nI 1)] [] dX3_joined_57 rfl rfl ok_X3_truth st_X3_truth ln_X3_43 (by omega) (Nat.le_of_ble_eq_true rfl) (c_X3_truth G (d - 1) 1 M (by omega)) (fun r57 M57 q57 => ?_)
      obtain ⟨rfl, e57⟩ := q57
      rw [e57]
      show Ez G mX3_joined d 60 [(0, eI (-20)), (1, eI a), (2, eI b)] [eI (nI 1)] M _
      refine ez_iret .int dX3_joined_60 rfl rfl ?_
      exact ⟨by simp [ep_jn, ep_tr, h45], rfl⟩
    · refine ez_iload_n 49 dX3_joined_48 rfl rfl ?_
      refine ez_if_eq 52 56 dX3_joined_49 rfl (by decide) (fun h49 => ?_) (fun h49 => ?_)
      · refine ez_iconst 57 dX3_joined_56 rfl (nI 0) (by decide) ?_
        refine ez_callS 60 [eI (nI 0)] [] dX3_joined_57 rfl rfl ok_X3_truth st_X3_truth ln_X3_43 (by omega) (Nat.le_of_ble_eq_true rfl) (c_X3_truth G (d - 1) 0 M (by omega)) (fun r57 M57 q57 => ?_)
        obtain ⟨rfl, e57⟩ := q57
        rw [e57]
        show Ez G mX3_joined d 60 [(0, eI (-20)), (1, eI a), (2, eI b)] [eI (nI 0)] M _
        refine ez_iret .int dX3_joined_60 rfl rfl ?_
        exact ⟨by simp [ep_jn, ep_tr, h45, h49], rfl⟩
      · refine ez_iconst 53 dX3_joined_52 rfl (nI 1) (by decide) ?_
        refine ez_goto 57 dX3_joined_53 (by decide) ?_
        refine ez_callS 60 [eI (nI 1)] [] dX3_joined_57 rfl rfl ok_X3_truth st_X3_truth ln_X3_43 (by omega) (Nat.le_of_ble_eq_true rfl) (c_X3_truth G (d - 1) 1 M (by omega)) (fun r57 M57 q57 => ?_)
        obtain ⟨rfl, e57⟩ := q57
        rw [e57]
        show Ez G mX3_joined d 60 [(0, eI (-20)), (1, eI a), (2, eI b)] [eI (nI 1)] M _
        refine ez_iret .int dX3_joined_60 rfl rfl ?_
        exact ⟨by simp [ep_jn, ep_tr, h45, h49], rfl⟩
  refine ez_tabOut 114 dX3_joined_1 (by have ze1_m26 : ¬ (x).toInt = -26 := fun q9 => e1_m26 (Int32.toInt_inj.mp (q9.trans (by decide))); have ze1_m25 : ¬ (x).toInt = -25 := fun q9 => e1_m25 (Int32.toInt_inj.mp (q9.trans (by decide))); have ze1_m24 : ¬ (x).toInt = -24 := fun q9 => e1_m24 (Int32.toInt_inj.mp (q9.trans (by decide))); have ze1_m23 : ¬ (x).toInt = -23 := fun q9 => e1_m23 (Int32.toInt_inj.mp (q9.trans (by decide))); have ze1_m22 : ¬ (x).toInt = -22 := fun q9 => e1_m22 (Int32.toInt_inj.mp (q9.trans (by decide))); have ze1_m21 : ¬ (x).toInt = -21 := fun q9 => e1_m21 (Int32.toInt_inj.mp (q9.trans (by decide))); have ze1_m20 : ¬ (x).toInt = -20 := fun q9 => e1_m20 (Int32.toInt_inj.mp (q9.trans (by decide))); omega) (by decide) ?_
  refine ez_iload_n 115 dX3_joined_114 rfl rfl ?_
  refine ez_iload_n 116 dX3_joined_115 rfl rfl ?_
  refine ez_imul 117 dX3_joined_116 rfl ?_
  refine ez_iret .int dX3_joined_117 rfl rfl ?_
  exact ⟨by simp [ep_jn, ep_tr, e1_m26, e1_m25, e1_m24, e1_m23, e1_m22, e1_m21, e1_m20], rfl⟩
def ep_s1 (nm : Nat → Int32) (it : Int32) (s : Nat → Int32) (t : Nat) : Option ((Nat → Int32) × Nat) :=
  if it ≤ -20 then
    (if it = -22 ∨ it = -28 then (if 1 ≤ t then some (upd s (t - 1) (if it = -28 then - s (t - 1) else ep_tr (s (t - 1) = 0)), t) else none)
    else (if 2 ≤ t then some (upd s (t - 2) (ep_jn it (s (t - 2)) (s (t - 1))), t - 1) else none))
  else if t < 64 then (if it < 0 then (match ep_ix (-10 - it) 6 with
      | none => none
      | some j => some (upd s t (nm j), t + 1)) else some (upd s t it, t + 1)) else none
def ep_xs (nm : Nat → Int32) : List Int32 → (Nat → Int32) → Nat → Option ((Nat → Int32) × Nat)
  | [], s, t => some (s, t)
  | it :: c, s, t => (ep_s1 nm it s t).bind (fun q => ep_xs nm c q.1 q.2)
theorem ep_xs_app (nm : Nat → Int32) : ∀ (c c2 : List Int32) (s : Nat → Int32) (t : Nat), ep_xs nm (c ++ c2) s t = (ep_xs nm c s t).bind (fun q => ep_xs nm c2 q.1 q.2)
  | [], c2, s, t => rfl
  | it :: c, c2, s, t => by
    show (ep_s1 nm it s t).bind _ = ((ep_s1 nm it s t).bind _).bind _
    cases ep_s1 nm it s t with
    | none => rfl
    | some q => exact ep_xs_app nm c c2 q.1 q.2
theorem ep_xs_cons {nm : Nat → Int32} {it : Int32} {c : List Int32} {s : Nat → Int32} {t : Nat} {z : (Nat → Int32) × Nat} (h : ep_xs nm (it :: c) s t = some z) : ∃ q, ep_s1 nm it s t = some q ∧ ep_xs nm c q.1 q.2 = some z := by
  have h1 : (ep_s1 nm it s t).bind (fun q => ep_xs nm c q.1 q.2) = some z := h
  cases h2 : ep_s1 nm it s t with
  | none => rw [h2] at h1; cases h1
  | some q => rw [h2] at h1; exact ⟨q, rfl, h1⟩
theorem ep_s1_u {nm : Nat → Int32} {it : Int32} {s : Nat → Int32} {t : Nat} {q : (Nat → Int32) × Nat} (h : ep_s1 nm it s t = some q) (h0 : it ≤ -20) (h1 : it = -22 ∨ it = -28) : 1 ≤ t ∧ q = (upd s (t - 1) (if it = -28 then - s (t - 1) else ep_tr (s (t - 1) = 0)), t) := by
  unfold ep_s1 at h
  rw [if_pos h0, if_pos h1] at h
  by_cases ht : 1 ≤ t
  · rw [if_pos ht] at h; exact ⟨ht, (Option.some.inj h).symm⟩
  · rw [if_neg ht] at h; cases h
theorem ep_s1_b {nm : Nat → Int32} {it : Int32} {s : Nat → Int32} {t : Nat} {q : (Nat → Int32) × Nat} (h : ep_s1 nm it s t = some q) (h0 : it ≤ -20) (h1 : ¬ it = -22) (h2 : ¬ it = -28) : 2 ≤ t ∧ q = (upd s (t - 2) (ep_jn it (s (t - 2)) (s (t - 1))), t - 1) := by
  unfold ep_s1 at h
  rw [if_pos h0, if_neg (by simp [h1, h2])] at h
  by_cases ht : 2 ≤ t
  · rw [if_pos ht] at h; exact ⟨ht, (Option.some.inj h).symm⟩
  · rw [if_neg ht] at h; cases h
theorem ep_s1_n {nm : Nat → Int32} {it : Int32} {s : Nat → Int32} {t : Nat} {q : (Nat → Int32) × Nat} (h : ep_s1 nm it s t = some q) (h0 : ¬ it ≤ -20) (h1 : it < 0) : t < 64 ∧ ∃ j, j < 6 ∧ -10 - it = nI j ∧ q = (upd s t (nm j), t + 1) := by
  unfold ep_s1 at h
  rw [if_neg h0] at h
  by_cases ht : t < 64
  · rw [if_pos ht, if_pos h1] at h
    rcases pk_ix (-10 - it) (show 6 < 2 ^ 31 by decide) with a | a | ⟨j, hj, e⟩
    · rw [show ep_ix (-10 - it) 6 = none by simp [ep_ix, a]] at h; cases h
    · rw [show ep_ix (-10 - it) 6 = none by simp [ep_ix, a]] at h; cases h
    · rw [e, ep_ix_nI hj (by decide)] at h
      exact ⟨ht, j, hj, e, (Option.some.inj h).symm⟩
  · rw [if_neg ht] at h; cases h
theorem ep_s1_l {nm : Nat → Int32} {it : Int32} {s : Nat → Int32} {t : Nat} {q : (Nat → Int32) × Nat} (h : ep_s1 nm it s t = some q) (h0 : ¬ it ≤ -20) (h1 : ¬ it < 0) : t < 64 ∧ q = (upd s t it, t + 1) := by
  unfold ep_s1 at h
  rw [if_neg h0] at h
  by_cases ht : t < 64
  · rw [if_pos ht, if_neg h1] at h
    exact ⟨ht, (Option.some.inj h).symm⟩
  · rw [if_neg ht] at h; cases h
theorem ep_s1_t {nm : Nat → Int32} {it : Int32} {s : Nat → Int32} {t : Nat} {q : (Nat → Int32) × Nat} (h : ep_s1 nm it s t = some q) (ht : t ≤ 64) : q.2 ≤ 64 := by
  by_cases h0 : it ≤ -20
  · by_cases h1 : it = -22 ∨ it = -28
    · rw [(ep_s1_u h h0 h1).2]; exact ht
    · rw [(ep_s1_b h h0 (fun z => h1 (Or.inl z)) (fun z => h1 (Or.inr z))).2]; show t - 1 ≤ 64; omega
  · by_cases h1 : it < 0
    · obtain ⟨a, j, _, _, e⟩ := ep_s1_n h h0 h1
      rw [e]; exact a
    · obtain ⟨a, e⟩ := ep_s1_l h h0 h1
      rw [e]; exact a
set_option maxRecDepth 20000 in
theorem lp_comesTo (G : EzG) (d : Nat) (i e : Nat) (nm s2 : Nat → Int32) (t2 : Nat) (M : EzM) (hd : 2 ≤ d) (hi : i < 7) (he : e ≤ 160) : ∀ (c : List Int32) (k t : Nat) (s : Nat → Int32) (M1 : EzM), (k + c.length = e) → (∀ j, j < c.length → M1.1 16 i (k + j) = c.getD j 0) → (∀ j, j < 6 → M1.1 23 0 j = nm j) → (M1.1 24 0 = s) → (M1 = ez_row M 24 0 s) → (t ≤ 64) → (ep_xs nm c s t = some (s2, t2)) → Ez G mX3_comesTo d 49 [(7, eI (nI k)), (6, eI (nI t)), (5, eI (nI e)), (0, eR 3 i), (2, eR 23 0), (3, eR 24 0)] [] M1 (fun r M' => r = some (eI (s2 0)) ∧ M' = ez_row M 24 0 s2) := by
  intro c
  induction c with
  | nil =>
    intro k t s M1 hk hc hnm hs hM ht hx
    obtain ⟨rfl, rfl⟩ : s = s2 ∧ t = t2 := by cases hx; exact ⟨rfl, rfl⟩
    have hk2 : k = e := hk
    refine ez_iload 51 dX3_comesTo_49 rfl rfl ?_
    refine ez_iload 53 dX3_comesTo_51 rfl rfl ?_
    refine ez_ncmp_ge 56 200 dX3_comesTo_53 rfl (by decide) (by omega) (by omega) (fun h53 => ?_) (fun h53 => ?_)
    · refine ez_aload_n 201 dX3_comesTo_200 rfl rfl ?_
      refine ez_iconst 202 dX3_comesTo_201 rfl (nI 0) (by decide) ?_
      refine ez_callSN 205 [eR 24 0, eI (nI 0)] [] dX3_comesTo_202 rfl rfl ok_X11_itemAt st_X11_itemAt "ElevenPebbles" nn_X3_30 (by omega) (Nat.le_of_ble_eq_true rfl) (c_itemAt_n G (d - 1) 24 0 0 M1 (by decide) (by show 0 < 1; omega) (by show 0 < 64; omega)) (fun r202 M202 q202 => ?_)
      obtain ⟨rfl, e202⟩ := q202
      rw [e202]
      show Ez G mX3_comesTo d 205 [(7, eI (nI k)), (6, eI (nI t)), (5, eI (nI e)), (0, eR 3 i), (2, eR 23 0), (3, eR 24 0)] [eI (M1.1 24 0 0)] M1 _
      refine ez_iret .int dX3_comesTo_205 rfl rfl ?_
      exact ⟨by rw [hs], hM⟩
    · exfalso; omega
  | cons it c ih =>
    intro k t s M1 hk hc hnm hs hM ht hx
    rw [List.length_cons] at hk
    have hit : M1.1 16 i k = it := hc 0 (by simp)
    obtain ⟨q, hq1, hq2⟩ := ep_xs_cons hx
    have hq3 := ep_s1_t hq1 ht
    refine ez_iload 51 dX3_comesTo_49 rfl rfl ?_
    refine ez_iload 53 dX3_comesTo_51 rfl rfl ?_
    refine ez_ncmp_ge 56 200 dX3_comesTo_53 rfl (by decide) (by omega) (by omega) (fun h53 => ?_) (fun h53 => ?_)
    · exfalso; omega
    · refine ez_aload_n 57 dX3_comesTo_56 rfl rfl ?_
      refine ez_getf 60 (eR 16 i) dX3_comesTo_57 rfl fl_X3_9 (by show i < 7; omega) rfl ?_
      refine ez_iload 62 dX3_comesTo_60 rfl rfl ?_
      refine ez_ialdN k 63 dX3_comesTo_62 rfl (by decide) (by show i < 7; omega) (by show k < 160; omega) ?_
      refine ez_top it hit ?_
      refine ez_istore 65 [(8, eI it), (7, eI (nI k)), (6, eI (nI t)), (5, eI (nI e)), (0, eR 3 i), (2, eR 23 0), (3, eR 24 0)] dX3_comesTo_63 rfl (by decide) rfl ?_
      refine ez_iload 67 dX3_comesTo_65 rfl rfl ?_
      refine ez_bipush 69 dX3_comesTo_67 rfl (-20) (by decide) ?_
      refine ez_icmp_le 72 103 dX3_comesTo_69 rfl (by decide) (fun h69 => ?_) (fun h69 => ?_)
      · refine ez_iload 105 dX3_comesTo_103 rfl rfl ?_
        refine ez_bipush 107 dX3_comesTo_105 rfl (-22) (by decide) ?_
        refine ez_icmp_eq 110 117 dX3_comesTo_107 rfl (by decide) (fun h107 => ?_) (fun h107 => ?_)
        · obtain ⟨t1, ee⟩ := ep_s1_u hq1 h69 (Or.inl h107)
          refine ez_aload_n 118 dX3_comesTo_117 rfl rfl ?_
          refine ez_iload 120 dX3_comesTo_118 rfl rfl ?_
          refine ez_iconst 121 dX3_comesTo_120 rfl (nI 1) (by decide) ?_
          refine ez_isub 122 dX3_comesTo_121 rfl ?_
          refine ez_top (nI (t - 1)) (pk_sub (by omega)) ?_
          refine ez_callSN 125 [eR 24 0, eI (nI (t - 1))] [] dX3_comesTo_122 rfl rfl ok_X11_itemAt st_X11_itemAt "ElevenPebbles" nn_X3_30 (by omega) (Nat.le_of_ble_eq_true rfl) (c_itemAt_n G (d - 1) 24 0 (t - 1) M1 (by decide) (by show 0 < 1; omega) (by show t - 1 < 64; omega)) (fun r122 M122 q122 => ?_)
          obtain ⟨rfl, e122⟩ := q122
          rw [e122, show M1.1 24 0 (t - 1) = s (t - 1) from (by rw [hs])]
          show Ez G mX3_comesTo d 125 [(8, eI it), (7, eI (nI k)), (6, eI (nI t)), (5, eI (nI e)), (0, eR 3 i), (2, eR 23 0), (3, eR 24 0)] [eI (s (t - 1))] M1 _
          refine ez_istore 127 [(9, eI (s (t - 1))), (8, eI it), (7, eI (nI k)), (6, eI (nI t)), (5, eI (nI e)), (0, eR 3 i), (2, eR 23 0), (3, eR 24 0)] dX3_comesTo_125 rfl (by decide) rfl ?_
          refine ez_aload_n 128 dX3_comesTo_127 rfl rfl ?_
          refine ez_iload 130 dX3_comesTo_128 rfl rfl ?_
          refine ez_iconst 131 dX3_comesTo_130 rfl (nI 1) (by decide) ?_
          refine ez_isub 132 dX3_comesTo_131 rfl ?_
          refine ez_top (nI (t - 1)) (pk_sub (by omega)) ?_
          refine ez_iload 134 dX3_comesTo_132 rfl rfl ?_
          refine ez_bipush 136 dX3_comesTo_134 rfl (-28) (by decide) ?_
          refine ez_icmp_ne 139 145 dX3_comesTo_136 rfl (by decide) (fun h136 => ?_) (fun h136 => ?_)
          · refine ez_iload 147 dX3_comesTo_145 rfl rfl ?_
            refine ez_if_ne 150 154 dX3_comesTo_147 rfl (by decide) (fun h147 => ?_) (fun h147 => ?_)
            · refine ez_iconst 155 dX3_comesTo_154 rfl (nI 0) (by decide) ?_
              refine ez_callS 158 [eI (nI 0)] [eI (nI (t - 1)), eR 24 0] dX3_comesTo_155 rfl rfl ok_X3_truth st_X3_truth ln_X3_43 (by omega) (Nat.le_of_ble_eq_true rfl) (c_X3_truth G (d - 1) 0 M1 (by omega)) (fun r155 M155 q155 => ?_)
              obtain ⟨rfl, e155⟩ := q155
              rw [e155]
              show Ez G mX3_comesTo d 158 [(9, eI (s (t - 1))), (8, eI it), (7, eI (nI k)), (6, eI (nI t)), (5, eI (nI e)), (0, eR 3 i), (2, eR 23 0), (3, eR 24 0)] [eI (nI 0), eI (nI (t - 1)), eR 24 0] M1 _
              refine ez_top (if it = -28 then - s (t - 1) else ep_tr (s (t - 1) = 0)) (by simp [ep_tr, h136, h147]) ?_
              refine ez_callSN 161 [eR 24 0, eI (nI (t - 1)), eI (if it = -28 then - s (t - 1) else ep_tr (s (t - 1) = 0))] [] dX3_comesTo_158 rfl rfl ok_X11_setItem st_X11_setItem "ElevenPebbles" nn_X3_22 (by omega) (Nat.le_of_ble_eq_true rfl) (c_setItem_n G (d - 1) 24 0 (t - 1) (if it = -28 then - s (t - 1) else ep_tr (s (t - 1) = 0)) M1 (by decide) (by show 0 < 1; omega) (by show t - 1 < 64; omega)) (fun r158 M158 q158 => ?_)
              obtain ⟨rfl, e158⟩ := q158
              rw [e158]
              show Ez G mX3_comesTo d 161 [(9, eI (s (t - 1))), (8, eI it), (7, eI (nI k)), (6, eI (nI t)), (5, eI (nI e)), (0, eR 3 i), (2, eR 23 0), (3, eR 24 0)] [] (ez_st M1 24 0 (t - 1) (if it = -28 then - s (t - 1) else ep_tr (s (t - 1) = 0))) _
              refine ez_goto 194 dX3_comesTo_161 (by decide) ?_
              refine ez_iinc 197 (nI (k + 1)) [(7, eI (nI (k + 1))), (9, eI (s (t - 1))), (8, eI it), (6, eI (nI t)), (5, eI (nI e)), (0, eR 3 i), (2, eR 23 0), (3, eR 24 0)] dX3_comesTo_194 rfl rfl (nI_add k 1) (by decide) rfl ?_
              refine ez_goto 49 dX3_comesTo_197 (by decide) ?_
              refine ez_drop [(7, eI (nI (k + 1))), (6, eI (nI t)), (5, eI (nI e)), (0, eR 3 i), (2, eR 23 0), (3, eR 24 0)] (by simp) ?_
              rw [ee] at hq2 hq3
              exact ih (k + 1) t _ _ (by omega) (fun j hj => by rw [ez_rd, if_neg (by simp), show k + 1 + j = k + (j + 1) by omega]; exact hc (j + 1) (by simp; omega)) (fun j hj => by rw [ez_rd, if_neg (by simp)]; exact hnm j hj) (by rw [hM, ez_st_row, ez_row_1]) (by rw [hM, ez_st_row]) hq3 hq2
            · refine ez_iconst 151 dX3_comesTo_150 rfl (nI 1) (by decide) ?_
              refine ez_goto 155 dX3_comesTo_151 (by decide) ?_
              refine ez_callS 158 [eI (nI 1)] [eI (nI (t - 1)), eR 24 0] dX3_comesTo_155 rfl rfl ok_X3_truth st_X3_truth ln_X3_43 (by omega) (Nat.le_of_ble_eq_true rfl) (c_X3_truth G (d - 1) 1 M1 (by omega)) (fun r155 M155 q155 => ?_)
              obtain ⟨rfl, e155⟩ := q155
              rw [e155]
              show Ez G mX3_comesTo d 158 [(9, eI (s (t - 1))), (8, eI it), (7, eI (nI k)), (6, eI (nI t)), (5, eI (nI e)), (0, eR 3 i), (2, eR 23 0), (3, eR 24 0)] [eI (nI 1), eI (nI (t - 1)), eR 24 0] M1 _
              refine ez_top (if it = -28 then - s (t - 1) else ep_tr (s (t - 1) = 0)) (by simp [ep_tr, h136, h147]) ?_
              refine ez_callSN 161 [eR 24 0, eI (nI (t - 1)), eI (if it = -28 then - s (t - 1) else ep_tr (s (t - 1) = 0))] [] dX3_comesTo_158 rfl rfl ok_X11_setItem st_X11_setItem "ElevenPebbles" nn_X3_22 (by omega) (Nat.le_of_ble_eq_true rfl) (c_setItem_n G (d - 1) 24 0 (t - 1) (if it = -28 then - s (t - 1) else ep_tr (s (t - 1) = 0)) M1 (by decide) (by show 0 < 1; omega) (by show t - 1 < 64; omega)) (fun r158 M158 q158 => ?_)
              obtain ⟨rfl, e158⟩ := q158
              rw [e158]
              show Ez G mX3_comesTo d 161 [(9, eI (s (t - 1))), (8, eI it), (7, eI (nI k)), (6, eI (nI t)), (5, eI (nI e)), (0, eR 3 i), (2, eR 23 0), (3, eR 24 0)] [] (ez_st M1 24 0 (t - 1) (if it = -28 then - s (t - 1) else ep_tr (s (t - 1) = 0))) _
              refine ez_goto 194 dX3_comesTo_161 (by decide) ?_
              refine ez_iinc 197 (nI (k + 1)) [(7, eI (nI (k + 1))), (9, eI (s (t - 1))), (8, eI it), (6, eI (nI t)), (5, eI (nI e)), (0, eR 3 i), (2, eR 23 0), (3, eR 24 0)] dX3_comesTo_194 rfl rfl (nI_add k 1) (by decide) rfl ?_
              refine ez_goto 49 dX3_comesTo_197 (by decide) ?_
              refine ez_drop [(7, eI (nI (k + 1))), (6, eI (nI t)), (5, eI (nI e)), (0, eR 3 i), (2, eR 23 0), (3, eR 24 0)] (by simp) ?_
              rw [ee] at hq2 hq3
              exact ih (k + 1) t _ _ (by omega) (fun j hj => by rw [ez_rd, if_neg (by simp), show k + 1 + j = k + (j + 1) by omega]; exact hc (j + 1) (by simp; omega)) (fun j hj => by rw [ez_rd, if_neg (by simp)]; exact hnm j hj) (by rw [hM, ez_st_row, ez_row_1]) (by rw [hM, ez_st_row]) hq3 hq2
          · refine ez_iload 141 dX3_comesTo_139 rfl rfl ?_
            refine ez_ineg 142 dX3_comesTo_141 rfl ?_
            refine ez_goto 158 dX3_comesTo_142 (by decide) ?_
            refine ez_top (if it = -28 then - s (t - 1) else ep_tr (s (t - 1) = 0)) (by simp [ep_tr, h136]) ?_
            refine ez_callSN 161 [eR 24 0, eI (nI (t - 1)), eI (if it = -28 then - s (t - 1) else ep_tr (s (t - 1) = 0))] [] dX3_comesTo_158 rfl rfl ok_X11_setItem st_X11_setItem "ElevenPebbles" nn_X3_22 (by omega) (Nat.le_of_ble_eq_true rfl) (c_setItem_n G (d - 1) 24 0 (t - 1) (if it = -28 then - s (t - 1) else ep_tr (s (t - 1) = 0)) M1 (by decide) (by show 0 < 1; omega) (by show t - 1 < 64; omega)) (fun r158 M158 q158 => ?_)
            obtain ⟨rfl, e158⟩ := q158
            rw [e158]
            show Ez G mX3_comesTo d 161 [(9, eI (s (t - 1))), (8, eI it), (7, eI (nI k)), (6, eI (nI t)), (5, eI (nI e)), (0, eR 3 i), (2, eR 23 0), (3, eR 24 0)] [] (ez_st M1 24 0 (t - 1) (if it = -28 then - s (t - 1) else ep_tr (s (t - 1) = 0))) _
            refine ez_goto 194 dX3_comesTo_161 (by decide) ?_
            refine ez_iinc 197 (nI (k + 1)) [(7, eI (nI (k + 1))), (9, eI (s (t - 1))), (8, eI it), (6, eI (nI t)), (5, eI (nI e)), (0, eR 3 i), (2, eR 23 0), (3, eR 24 0)] dX3_comesTo_194 rfl rfl (nI_add k 1) (by decide) rfl ?_
            refine ez_goto 49 dX3_comesTo_197 (by decide) ?_
            refine ez_drop [(7, eI (nI (k + 1))), (6, eI (nI t)), (5, eI (nI e)), (0, eR 3 i), (2, eR 23 0), (3, eR 24 0)] (by simp) ?_
            rw [ee] at hq2 hq3
            exact ih (k + 1) t _ _ (by omega) (fun j hj => by rw [ez_rd, if_neg (by simp), show k + 1 + j = k + (j + 1) by omega]; exact hc (j + 1) (by simp; omega)) (fun j hj => by rw [ez_rd, if_neg (by simp)]; exact hnm j hj) (by rw [hM, ez_st_row, ez_row_1]) (by rw [hM, ez_st_row]) hq3 hq2
        · refine ez_iload 112 dX3_comesTo_110 rfl rfl ?_
          refine ez_bipush 114 dX3_comesTo_112 rfl (-28) (by decide) ?_
          refine ez_icmp_ne 117 164 dX3_comesTo_114 rfl (by decide) (fun h114 => ?_) (fun h114 => ?_)
          · obtain ⟨t2, ee⟩ := ep_s1_b hq1 h69 h107 h114
            refine ez_iinc 167 (nI (t - 1)) [(6, eI (nI (t - 1))), (8, eI it), (7, eI (nI k)), (5, eI (nI e)), (0, eR 3 i), (2, eR 23 0), (3, eR 24 0)] dX3_comesTo_164 rfl rfl (by rw [show Int32.ofInt (-1) = -nI 1 from by decide, ← Int32.sub_eq_add_neg]; exact pk_sub (by omega)) (by decide) rfl ?_
            refine ez_aload_n 168 dX3_comesTo_167 rfl rfl ?_
            refine ez_iload 170 dX3_comesTo_168 rfl rfl ?_
            refine ez_iconst 171 dX3_comesTo_170 rfl (nI 1) (by decide) ?_
            refine ez_isub 172 dX3_comesTo_171 rfl ?_
            refine ez_top (nI (t - 1 - 1)) (pk_sub (by omega)) ?_
            refine ez_iload 174 dX3_comesTo_172 rfl rfl ?_
            refine ez_aload_n 175 dX3_comesTo_174 rfl rfl ?_
            refine ez_iload 177 dX3_comesTo_175 rfl rfl ?_
            refine ez_iconst 178 dX3_comesTo_177 rfl (nI 1) (by decide) ?_
            refine ez_isub 179 dX3_comesTo_178 rfl ?_
            refine ez_top (nI (t - 1 - 1)) (pk_sub (by omega)) ?_
            refine ez_callSN 182 [eR 24 0, eI (nI (t - 1 - 1))] [eI it, eI (nI (t - 1 - 1)), eR 24 0] dX3_comesTo_179 rfl rfl ok_X11_itemAt st_X11_itemAt "ElevenPebbles" nn_X3_30 (by omega) (Nat.le_of_ble_eq_true rfl) (c_itemAt_n G (d - 1) 24 0 (t - 1 - 1) M1 (by decide) (by show 0 < 1; omega) (by show t - 1 - 1 < 64; omega)) (fun r179 M179 q179 => ?_)
            obtain ⟨rfl, e179⟩ := q179
            rw [e179, show M1.1 24 0 (t - 1 - 1) = s (t - 1 - 1) from (by rw [hs])]
            show Ez G mX3_comesTo d 182 [(6, eI (nI (t - 1))), (8, eI it), (7, eI (nI k)), (5, eI (nI e)), (0, eR 3 i), (2, eR 23 0), (3, eR 24 0)] [eI (s (t - 1 - 1)), eI it, eI (nI (t - 1 - 1)), eR 24 0] M1 _
            refine ez_aload_n 183 dX3_comesTo_182 rfl rfl ?_
            refine ez_iload 185 dX3_comesTo_183 rfl rfl ?_
            refine ez_callSN 188 [eR 24 0, eI (nI (t - 1))] [eI (s (t - 1 - 1)), eI it, eI (nI (t - 1 - 1)), eR 24 0] dX3_comesTo_185 rfl rfl ok_X11_itemAt st_X11_itemAt "ElevenPebbles" nn_X3_30 (by omega) (Nat.le_of_ble_eq_true rfl) (c_itemAt_n G (d - 1) 24 0 (t - 1) M1 (by decide) (by show 0 < 1; omega) (by show t - 1 < 64; omega)) (fun r185 M185 q185 => ?_)
            obtain ⟨rfl, e185⟩ := q185
            rw [e185, show M1.1 24 0 (t - 1) = s (t - 1) from (by rw [hs])]
            show Ez G mX3_comesTo d 188 [(6, eI (nI (t - 1))), (8, eI it), (7, eI (nI k)), (5, eI (nI e)), (0, eR 3 i), (2, eR 23 0), (3, eR 24 0)] [eI (s (t - 1)), eI (s (t - 1 - 1)), eI it, eI (nI (t - 1 - 1)), eR 24 0] M1 _
            refine ez_callS 191 [eI it, eI (s (t - 1 - 1)), eI (s (t - 1))] [eI (nI (t - 1 - 1)), eR 24 0] dX3_comesTo_188 rfl rfl ok_X3_joined st_X3_joined ln_X3_47 (by omega) (Nat.le_of_ble_eq_true rfl) (c_X3_joined G (d - 1) it (s (t - 1 - 1)) (s (t - 1)) M1 (by omega)) (fun r188 M188 q188 => ?_)
            obtain ⟨rfl, e188⟩ := q188
            rw [e188]
            show Ez G mX3_comesTo d 191 [(6, eI (nI (t - 1))), (8, eI it), (7, eI (nI k)), (5, eI (nI e)), (0, eR 3 i), (2, eR 23 0), (3, eR 24 0)] [eI (ep_jn it (s (t - 1 - 1)) (s (t - 1))), eI (nI (t - 1 - 1)), eR 24 0] M1 _
            refine ez_top (ep_jn it (s (t - 2)) (s (t - 1))) (by rw [show t - 1 - 1 = t - 2 by omega]) ?_
            rw [show t - 1 - 1 = t - 2 by omega]
            refine ez_callSN 194 [eR 24 0, eI (nI (t - 2)), eI (ep_jn it (s (t - 2)) (s (t - 1)))] [] dX3_comesTo_191 rfl rfl ok_X11_setItem st_X11_setItem "ElevenPebbles" nn_X3_22 (by omega) (Nat.le_of_ble_eq_true rfl) (c_setItem_n G (d - 1) 24 0 (t - 2) (ep_jn it (s (t - 2)) (s (t - 1))) M1 (by decide) (by show 0 < 1; omega) (by show t - 2 < 64; omega)) (fun r191 M191 q191 => ?_)
            obtain ⟨rfl, e191⟩ := q191
            rw [e191]
            show Ez G mX3_comesTo d 194 [(6, eI (nI (t - 1))), (8, eI it), (7, eI (nI k)), (5, eI (nI e)), (0, eR 3 i), (2, eR 23 0), (3, eR 24 0)] [] (ez_st M1 24 0 (t - 2) (ep_jn it (s (t - 2)) (s (t - 1)))) _
            refine ez_iinc 197 (nI (k + 1)) [(7, eI (nI (k + 1))), (6, eI (nI (t - 1))), (8, eI it), (5, eI (nI e)), (0, eR 3 i), (2, eR 23 0), (3, eR 24 0)] dX3_comesTo_194 rfl rfl (nI_add k 1) (by decide) rfl ?_
            refine ez_goto 49 dX3_comesTo_197 (by decide) ?_
            refine ez_drop [(7, eI (nI (k + 1))), (6, eI (nI (t - 1))), (5, eI (nI e)), (0, eR 3 i), (2, eR 23 0), (3, eR 24 0)] (by simp) ?_
            rw [ee] at hq2 hq3
            exact ih (k + 1) (t - 1) _ _ (by omega) (fun j hj => by rw [ez_rd, if_neg (by simp), show k + 1 + j = k + (j + 1) by omega]; exact hc (j + 1) (by simp; omega)) (fun j hj => by rw [ez_rd, if_neg (by simp)]; exact hnm j hj) (by rw [hM, ez_st_row, ez_row_1]) (by rw [hM, ez_st_row]) hq3 hq2
          · obtain ⟨t1, ee⟩ := ep_s1_u hq1 h69 (Or.inr h114)
            refine ez_aload_n 118 dX3_comesTo_117 rfl rfl ?_
            refine ez_iload 120 dX3_comesTo_118 rfl rfl ?_
            refine ez_iconst 121 dX3_comesTo_120 rfl (nI 1) (by decide) ?_
            refine ez_isub 122 dX3_comesTo_121 rfl ?_
            refine ez_top (nI (t - 1)) (pk_sub (by omega)) ?_
            refine ez_callSN 125 [eR 24 0, eI (nI (t - 1))] [] dX3_comesTo_122 rfl rfl ok_X11_itemAt st_X11_itemAt "ElevenPebbles" nn_X3_30 (by omega) (Nat.le_of_ble_eq_true rfl) (c_itemAt_n G (d - 1) 24 0 (t - 1) M1 (by decide) (by show 0 < 1; omega) (by show t - 1 < 64; omega)) (fun r122 M122 q122 => ?_)
            obtain ⟨rfl, e122⟩ := q122
            rw [e122, show M1.1 24 0 (t - 1) = s (t - 1) from (by rw [hs])]
            show Ez G mX3_comesTo d 125 [(8, eI it), (7, eI (nI k)), (6, eI (nI t)), (5, eI (nI e)), (0, eR 3 i), (2, eR 23 0), (3, eR 24 0)] [eI (s (t - 1))] M1 _
            refine ez_istore 127 [(9, eI (s (t - 1))), (8, eI it), (7, eI (nI k)), (6, eI (nI t)), (5, eI (nI e)), (0, eR 3 i), (2, eR 23 0), (3, eR 24 0)] dX3_comesTo_125 rfl (by decide) rfl ?_
            refine ez_aload_n 128 dX3_comesTo_127 rfl rfl ?_
            refine ez_iload 130 dX3_comesTo_128 rfl rfl ?_
            refine ez_iconst 131 dX3_comesTo_130 rfl (nI 1) (by decide) ?_
            refine ez_isub 132 dX3_comesTo_131 rfl ?_
            refine ez_top (nI (t - 1)) (pk_sub (by omega)) ?_
            refine ez_iload 134 dX3_comesTo_132 rfl rfl ?_
            refine ez_bipush 136 dX3_comesTo_134 rfl (-28) (by decide) ?_
            refine ez_icmp_ne 139 145 dX3_comesTo_136 rfl (by decide) (fun h136 => ?_) (fun h136 => ?_)
            · refine ez_iload 147 dX3_comesTo_145 rfl rfl ?_
              refine ez_if_ne 150 154 dX3_comesTo_147 rfl (by decide) (fun h147 => ?_) (fun h147 => ?_)
              · refine ez_iconst 155 dX3_comesTo_154 rfl (nI 0) (by decide) ?_
                refine ez_callS 158 [eI (nI 0)] [eI (nI (t - 1)), eR 24 0] dX3_comesTo_155 rfl rfl ok_X3_truth st_X3_truth ln_X3_43 (by omega) (Nat.le_of_ble_eq_true rfl) (c_X3_truth G (d - 1) 0 M1 (by omega)) (fun r155 M155 q155 => ?_)
                obtain ⟨rfl, e155⟩ := q155
                rw [e155]
                show Ez G mX3_comesTo d 158 [(9, eI (s (t - 1))), (8, eI it), (7, eI (nI k)), (6, eI (nI t)), (5, eI (nI e)), (0, eR 3 i), (2, eR 23 0), (3, eR 24 0)] [eI (nI 0), eI (nI (t - 1)), eR 24 0] M1 _
                refine ez_top (if it = -28 then - s (t - 1) else ep_tr (s (t - 1) = 0)) (by simp [ep_tr, h136, h147]) ?_
                refine ez_callSN 161 [eR 24 0, eI (nI (t - 1)), eI (if it = -28 then - s (t - 1) else ep_tr (s (t - 1) = 0))] [] dX3_comesTo_158 rfl rfl ok_X11_setItem st_X11_setItem "ElevenPebbles" nn_X3_22 (by omega) (Nat.le_of_ble_eq_true rfl) (c_setItem_n G (d - 1) 24 0 (t - 1) (if it = -28 then - s (t - 1) else ep_tr (s (t - 1) = 0)) M1 (by decide) (by show 0 < 1; omega) (by show t - 1 < 64; omega)) (fun r158 M158 q158 => ?_)
                obtain ⟨rfl, e158⟩ := q158
                rw [e158]
                show Ez G mX3_comesTo d 161 [(9, eI (s (t - 1))), (8, eI it), (7, eI (nI k)), (6, eI (nI t)), (5, eI (nI e)), (0, eR 3 i), (2, eR 23 0), (3, eR 24 0)] [] (ez_st M1 24 0 (t - 1) (if it = -28 then - s (t - 1) else ep_tr (s (t - 1) = 0))) _
                refine ez_goto 194 dX3_comesTo_161 (by decide) ?_
                refine ez_iinc 197 (nI (k + 1)) [(7, eI (nI (k + 1))), (9, eI (s (t - 1))), (8, eI it), (6, eI (nI t)), (5, eI (nI e)), (0, eR 3 i), (2, eR 23 0), (3, eR 24 0)] dX3_comesTo_194 rfl rfl (nI_add k 1) (by decide) rfl ?_
                refine ez_goto 49 dX3_comesTo_197 (by decide) ?_
                refine ez_drop [(7, eI (nI (k + 1))), (6, eI (nI t)), (5, eI (nI e)), (0, eR 3 i), (2, eR 23 0), (3, eR 24 0)] (by simp) ?_
                rw [ee] at hq2 hq3
                exact ih (k + 1) t _ _ (by omega) (fun j hj => by rw [ez_rd, if_neg (by simp), show k + 1 + j = k + (j + 1) by omega]; exact hc (j + 1) (by simp; omega)) (fun j hj => by rw [ez_rd, if_neg (by simp)]; exact hnm j hj) (by rw [hM, ez_st_row, ez_row_1]) (by rw [hM, ez_st_row]) hq3 hq2
              · refine ez_iconst 151 dX3_comesTo_150 rfl (nI 1) (by decide) ?_
                refine ez_goto 155 dX3_comesTo_151 (by decide) ?_
                refine ez_callS 158 [eI (nI 1)] [eI (nI (t - 1)), eR 24 0] dX3_comesTo_155 rfl rfl ok_X3_truth st_X3_truth ln_X3_43 (by omega) (Nat.le_of_ble_eq_true rfl) (c_X3_truth G (d - 1) 1 M1 (by omega)) (fun r155 M155 q155 => ?_)
                obtain ⟨rfl, e155⟩ := q155
                rw [e155]
                show Ez G mX3_comesTo d 158 [(9, eI (s (t - 1))), (8, eI it), (7, eI (nI k)), (6, eI (nI t)), (5, eI (nI e)), (0, eR 3 i), (2, eR 23 0), (3, eR 24 0)] [eI (nI 1), eI (nI (t - 1)), eR 24 0] M1 _
                refine ez_top (if it = -28 then - s (t - 1) else ep_tr (s (t - 1) = 0)) (by simp [ep_tr, h136, h147]) ?_
                refine ez_callSN 161 [eR 24 0, eI (nI (t - 1)), eI (if it = -28 then - s (t - 1) else ep_tr (s (t - 1) = 0))] [] dX3_comesTo_158 rfl rfl ok_X11_setItem st_X11_setItem "ElevenPebbles" nn_X3_22 (by omega) (Nat.le_of_ble_eq_true rfl) (c_setItem_n G (d - 1) 24 0 (t - 1) (if it = -28 then - s (t - 1) else ep_tr (s (t - 1) = 0)) M1 (by decide) (by show 0 < 1; omega) (by show t - 1 < 64; omega)) (fun r158 M158 q158 => ?_)
                obtain ⟨rfl, e158⟩ := q158
                rw [e158]
                show Ez G mX3_comesTo d 161 [(9, eI (s (t - 1))), (8, eI it), (7, eI (nI k)), (6, eI (nI t)), (5, eI (nI e)), (0, eR 3 i), (2, eR 23 0), (3, eR 24 0)] [] (ez_st M1 24 0 (t - 1) (if it = -28 then - s (t - 1) else ep_tr (s (t - 1) = 0))) _
                refine ez_goto 194 dX3_comesTo_161 (by decide) ?_
                refine ez_iinc 197 (nI (k + 1)) [(7, eI (nI (k + 1))), (9, eI (s (t - 1))), (8, eI it), (6, eI (nI t)), (5, eI (nI e)), (0, eR 3 i), (2, eR 23 0), (3, eR 24 0)] dX3_comesTo_194 rfl rfl (nI_add k 1) (by decide) rfl ?_
                refine ez_goto 49 dX3_comesTo_197 (by decide) ?_
                refine ez_drop [(7, eI (nI (k + 1))), (6, eI (nI t)), (5, eI (nI e)), (0, eR 3 i), (2, eR 23 0), (3, eR 24 0)] (by simp) ?_
                rw [ee] at hq2 hq3
                exact ih (k + 1) t _ _ (by omega) (fun j hj => by rw [ez_rd, if_neg (by simp), show k + 1 + j = k + (j + 1) by omega]; exact hc (j + 1) (by simp; omega)) (fun j hj => by rw [ez_rd, if_neg (by simp)]; exact hnm j hj) (by rw [hM, ez_st_row, ez_row_1]) (by rw [hM, ez_st_row]) hq3 hq2
            · refine ez_iload 141 dX3_comesTo_139 rfl rfl ?_
              refine ez_ineg 142 dX3_comesTo_141 rfl ?_
              refine ez_goto 158 dX3_comesTo_142 (by decide) ?_
              refine ez_top (if it = -28 then - s (t - 1) else ep_tr (s (t - 1) = 0)) (by simp [ep_tr, h136]) ?_
              refine ez_callSN 161 [eR 24 0, eI (nI (t - 1)), eI (if it = -28 then - s (t - 1) else ep_tr (s (t - 1) = 0))] [] dX3_comesTo_158 rfl rfl ok_X11_setItem st_X11_setItem "ElevenPebbles" nn_X3_22 (by omega) (Nat.le_of_ble_eq_true rfl) (c_setItem_n G (d - 1) 24 0 (t - 1) (if it = -28 then - s (t - 1) else ep_tr (s (t - 1) = 0)) M1 (by decide) (by show 0 < 1; omega) (by show t - 1 < 64; omega)) (fun r158 M158 q158 => ?_)
              obtain ⟨rfl, e158⟩ := q158
              rw [e158]
              show Ez G mX3_comesTo d 161 [(9, eI (s (t - 1))), (8, eI it), (7, eI (nI k)), (6, eI (nI t)), (5, eI (nI e)), (0, eR 3 i), (2, eR 23 0), (3, eR 24 0)] [] (ez_st M1 24 0 (t - 1) (if it = -28 then - s (t - 1) else ep_tr (s (t - 1) = 0))) _
              refine ez_goto 194 dX3_comesTo_161 (by decide) ?_
              refine ez_iinc 197 (nI (k + 1)) [(7, eI (nI (k + 1))), (9, eI (s (t - 1))), (8, eI it), (6, eI (nI t)), (5, eI (nI e)), (0, eR 3 i), (2, eR 23 0), (3, eR 24 0)] dX3_comesTo_194 rfl rfl (nI_add k 1) (by decide) rfl ?_
              refine ez_goto 49 dX3_comesTo_197 (by decide) ?_
              refine ez_drop [(7, eI (nI (k + 1))), (6, eI (nI t)), (5, eI (nI e)), (0, eR 3 i), (2, eR 23 0), (3, eR 24 0)] (by simp) ?_
              rw [ee] at hq2 hq3
              exact ih (k + 1) t _ _ (by omega) (fun j hj => by rw [ez_rd, if_neg (by simp), show k + 1 + j = k + (j + 1) by omega]; exact hc (j + 1) (by simp; omega)) (fun j hj => by rw [ez_rd, if_neg (by simp)]; exact hnm j hj) (by rw [hM, ez_st_row, ez_row_1]) (by rw [hM, ez_st_row]) hq3 hq2
      · refine ez_aload_n 73 dX3_comesTo_72 rfl rfl ?_
        refine ez_iload 75 dX3_comesTo_73 rfl rfl ?_
        refine ez_iload 77 dX3_comesTo_75 rfl rfl ?_
        refine ez_if_lt 80 85 dX3_comesTo_77 rfl (by decide) (fun h77 => ?_) (fun h77 => ?_)
        · obtain ⟨t64, j, hj, ej, ee⟩ := ep_s1_n hq1 h69 h77
          refine ez_aload_n 86 dX3_comesTo_85 rfl rfl ?_
          refine ez_bipush 88 dX3_comesTo_86 rfl (-10) (by decide) ?_
          refine ez_iload 90 dX3_comesTo_88 rfl rfl ?_
          refine ez_isub 91 dX3_comesTo_90 rfl ?_
          refine ez_top (nI j) ej ?_
          refine ez_callSN 94 [eR 23 0, eI (nI j)] [eI (nI t), eR 24 0] dX3_comesTo_91 rfl rfl ok_X11_itemAt st_X11_itemAt "ElevenPebbles" nn_X3_30 (by omega) (Nat.le_of_ble_eq_true rfl) (c_itemAt_n G (d - 1) 23 0 j M1 (by decide) (by show 0 < 1; omega) (by show j < 6; omega)) (fun r91 M91 q91 => ?_)
          obtain ⟨rfl, e91⟩ := q91
          rw [e91, show M1.1 23 0 j = nm j from (hnm j (by omega))]
          show Ez G mX3_comesTo d 94 [(8, eI it), (7, eI (nI k)), (6, eI (nI t)), (5, eI (nI e)), (0, eR 3 i), (2, eR 23 0), (3, eR 24 0)] [eI (nm j), eI (nI t), eR 24 0] M1 _
          refine ez_callSN 97 [eR 24 0, eI (nI t), eI (nm j)] [] dX3_comesTo_94 rfl rfl ok_X11_setItem st_X11_setItem "ElevenPebbles" nn_X3_22 (by omega) (Nat.le_of_ble_eq_true rfl) (c_setItem_n G (d - 1) 24 0 t (nm j) M1 (by decide) (by show 0 < 1; omega) (by show t < 64; omega)) (fun r94 M94 q94 => ?_)
          obtain ⟨rfl, e94⟩ := q94
          rw [e94]
          show Ez G mX3_comesTo d 97 [(8, eI it), (7, eI (nI k)), (6, eI (nI t)), (5, eI (nI e)), (0, eR 3 i), (2, eR 23 0), (3, eR 24 0)] [] (ez_st M1 24 0 t (nm j)) _
          refine ez_iinc 100 (nI (t + 1)) [(6, eI (nI (t + 1))), (8, eI it), (7, eI (nI k)), (5, eI (nI e)), (0, eR 3 i), (2, eR 23 0), (3, eR 24 0)] dX3_comesTo_97 rfl rfl (nI_add t 1) (by decide) rfl ?_
          refine ez_goto 194 dX3_comesTo_100 (by decide) ?_
          refine ez_iinc 197 (nI (k + 1)) [(7, eI (nI (k + 1))), (6, eI (nI (t + 1))), (8, eI it), (5, eI (nI e)), (0, eR 3 i), (2, eR 23 0), (3, eR 24 0)] dX3_comesTo_194 rfl rfl (nI_add k 1) (by decide) rfl ?_
          refine ez_goto 49 dX3_comesTo_197 (by decide) ?_
          refine ez_drop [(7, eI (nI (k + 1))), (6, eI (nI (t + 1))), (5, eI (nI e)), (0, eR 3 i), (2, eR 23 0), (3, eR 24 0)] (by simp) ?_
          rw [ee] at hq2 hq3
          exact ih (k + 1) (t + 1) _ _ (by omega) (fun j hj => by rw [ez_rd, if_neg (by simp), show k + 1 + j = k + (j + 1) by omega]; exact hc (j + 1) (by simp; omega)) (fun j hj => by rw [ez_rd, if_neg (by simp)]; exact hnm j hj) (by rw [hM, ez_st_row, ez_row_1]) (by rw [hM, ez_st_row]) hq3 hq2
        · obtain ⟨t64, ee⟩ := ep_s1_l hq1 h69 (fun z9 => h77 z9)
          refine ez_iload 82 dX3_comesTo_80 rfl rfl ?_
          refine ez_goto 94 dX3_comesTo_82 (by decide) ?_
          refine ez_callSN 97 [eR 24 0, eI (nI t), eI it] [] dX3_comesTo_94 rfl rfl ok_X11_setItem st_X11_setItem "ElevenPebbles" nn_X3_22 (by omega) (Nat.le_of_ble_eq_true rfl) (c_setItem_n G (d - 1) 24 0 t it M1 (by decide) (by show 0 < 1; omega) (by show t < 64; omega)) (fun r94 M94 q94 => ?_)
          obtain ⟨rfl, e94⟩ := q94
          rw [e94]
          show Ez G mX3_comesTo d 97 [(8, eI it), (7, eI (nI k)), (6, eI (nI t)), (5, eI (nI e)), (0, eR 3 i), (2, eR 23 0), (3, eR 24 0)] [] (ez_st M1 24 0 t it) _
          refine ez_iinc 100 (nI (t + 1)) [(6, eI (nI (t + 1))), (8, eI it), (7, eI (nI k)), (5, eI (nI e)), (0, eR 3 i), (2, eR 23 0), (3, eR 24 0)] dX3_comesTo_97 rfl rfl (nI_add t 1) (by decide) rfl ?_
          refine ez_goto 194 dX3_comesTo_100 (by decide) ?_
          refine ez_iinc 197 (nI (k + 1)) [(7, eI (nI (k + 1))), (6, eI (nI (t + 1))), (8, eI it), (5, eI (nI e)), (0, eR 3 i), (2, eR 23 0), (3, eR 24 0)] dX3_comesTo_194 rfl rfl (nI_add k 1) (by decide) rfl ?_
          refine ez_goto 49 dX3_comesTo_197 (by decide) ?_
          refine ez_drop [(7, eI (nI (k + 1))), (6, eI (nI (t + 1))), (5, eI (nI e)), (0, eR 3 i), (2, eR 23 0), (3, eR 24 0)] (by simp) ?_
          rw [ee] at hq2 hq3
          exact ih (k + 1) (t + 1) _ _ (by omega) (fun j hj => by rw [ez_rd, if_neg (by simp), show k + 1 + j = k + (j + 1) by omega]; exact hc (j + 1) (by simp; omega)) (fun j hj => by rw [ez_rd, if_neg (by simp)]; exact hnm j hj) (by rw [hM, ez_st_row, ez_row_1]) (by rw [hM, ez_st_row]) hq3 hq2
set_option maxRecDepth 20000 in
theorem c_X3_comesTo (G : EzG) (d : Nat) (i key bg e : Nat) (c : List Int32) (nm s2 : Nat → Int32) (t2 : Nat) (M : EzM) (hd : 3 ≤ d) (hi : i < 7) (hkey : key < 3) (he : M.1 17 i key = nI e) (hb1 : key = 0 → bg = 0) (hb2 : 0 < key → M.1 17 i (key - 1) = nI bg) (he2 : e ≤ 160) (hk : bg + c.length = e) (hc : ∀ j, j < c.length → M.1 16 i (bg + j) = c.getD j 0) (hnm : ∀ j, j < 6 → M.1 23 0 j = nm j) (hx : ep_xs nm c (M.1 24 0) 0 = some (s2, t2)) : Ezc G mX3_comesTo d [eR 3 i, eI (nI key), eR 23 0, eR 24 0] M (fun r M' => r = some (eI (s2 0)) ∧ M' = ez_row M 24 0 s2) := by
  refine Ezc.of (by decide +kernel) (Nat.le_of_ble_eq_true rfl) ?_
  show Ez G mX3_comesTo d 0 [(0, eR 3 i), (1, eI (nI key)), (2, eR 23 0), (3, eR 24 0)] [] M _
  refine ez_iload_n 1 dX3_comesTo_0 rfl rfl ?_
  refine ez_nif_le 4 17 dX3_comesTo_1 rfl (by decide) (by omega) (fun h1 => ?_) (fun h1 => ?_)
  · refine ez_iconst 18 dX3_comesTo_17 rfl (nI 0) (by decide) ?_
    refine ez_istore 20 [(4, eI (nI 0)), (0, eR 3 i), (1, eI (nI key)), (2, eR 23 0), (3, eR 24 0)] dX3_comesTo_18 rfl (by decide) rfl ?_
    refine ez_aload_n 21 dX3_comesTo_20 rfl rfl ?_
    refine ez_getf 24 (eR 17 i) dX3_comesTo_21 rfl fl_X3_15 (by show i < 7; omega) rfl ?_
    refine ez_iload_n 25 dX3_comesTo_24 rfl rfl ?_
    refine ez_callSN 28 [eR 17 i, eI (nI key)] [] dX3_comesTo_25 rfl rfl ok_X11_itemAt st_X11_itemAt "ElevenPebbles" nn_X3_30 (by omega) (Nat.le_of_ble_eq_true rfl) (c_itemAt_n G (d - 1) 17 i key M (by decide) (by show i < 7; omega) (by show key < 3; omega)) (fun r25 M25 q25 => ?_)
    obtain ⟨rfl, e25⟩ := q25
    rw [e25, show M.1 17 i key = nI e from he]
    show Ez G mX3_comesTo d 28 [(4, eI (nI 0)), (0, eR 3 i), (1, eI (nI key)), (2, eR 23 0), (3, eR 24 0)] [eI (nI e)] M _
    refine ez_aload_n 29 dX3_comesTo_28 rfl rfl ?_
    refine ez_getf 32 (eR 16 i) dX3_comesTo_29 rfl fl_X3_9 (by show i < 7; omega) rfl ?_
    refine ez_alen 33 (nI 160) dX3_comesTo_32 rfl (by decide) (by show i < 7; omega) rfl ?_
    refine ez_mmin 36 dX3_comesTo_33 rfl ln_X3_34 (by omega) (Nat.le_of_ble_eq_true rfl) ?_
    refine ez_top (nI (min e 160)) (ez_nmin (by omega) (by omega)) ?_
    refine ez_top (nI e) (by rw [show min e 160 = e by omega]) ?_
    refine ez_istore 38 [(5, eI (nI e)), (4, eI (nI 0)), (0, eR 3 i), (1, eI (nI key)), (2, eR 23 0), (3, eR 24 0)] dX3_comesTo_36 rfl (by decide) rfl ?_
    refine ez_iconst 39 dX3_comesTo_38 rfl (nI 0) (by decide) ?_
    refine ez_istore 41 [(6, eI (nI 0)), (5, eI (nI e)), (4, eI (nI 0)), (0, eR 3 i), (1, eI (nI key)), (2, eR 23 0), (3, eR 24 0)] dX3_comesTo_39 rfl (by decide) rfl ?_
    refine ez_iload 43 dX3_comesTo_41 rfl rfl ?_
    refine ez_iconst 44 dX3_comesTo_43 rfl (nI 0) (by decide) ?_
    refine ez_mmax 47 dX3_comesTo_44 rfl ln_X3_40 (by omega) (Nat.le_of_ble_eq_true rfl) ?_
    refine ez_top (nI (max 0 0)) (ez_nmax (by omega) (by omega)) ?_
    refine ez_top (nI bg) (by rw [show max 0 0 = bg by omega]) ?_
    refine ez_istore 49 [(7, eI (nI bg)), (6, eI (nI 0)), (5, eI (nI e)), (4, eI (nI 0)), (0, eR 3 i), (1, eI (nI key)), (2, eR 23 0), (3, eR 24 0)] dX3_comesTo_47 rfl (by decide) rfl ?_
    refine ez_drop [(7, eI (nI bg)), (6, eI (nI 0)), (5, eI (nI e)), (0, eR 3 i), (2, eR 23 0), (3, eR 24 0)] (by simp) ?_
    exact lp_comesTo G d i e nm s2 t2 M (by omega) hi he2 c bg 0 _ M hk hc hnm rfl (by rw [ez_row_self]) (by omega) hx
  · refine ez_aload_n 5 dX3_comesTo_4 rfl rfl ?_
    refine ez_getf 8 (eR 17 i) dX3_comesTo_5 rfl fl_X3_15 (by show i < 7; omega) rfl ?_
    refine ez_iload_n 9 dX3_comesTo_8 rfl rfl ?_
    refine ez_iconst 10 dX3_comesTo_9 rfl (nI 1) (by decide) ?_
    refine ez_isub 11 dX3_comesTo_10 rfl ?_
    refine ez_top (nI (key - 1)) (pk_sub (by omega)) ?_
    refine ez_callSN 14 [eR 17 i, eI (nI (key - 1))] [] dX3_comesTo_11 rfl rfl ok_X11_itemAt st_X11_itemAt "ElevenPebbles" nn_X3_30 (by omega) (Nat.le_of_ble_eq_true rfl) (c_itemAt_n G (d - 1) 17 i (key - 1) M (by decide) (by show i < 7; omega) (by show key - 1 < 3; omega)) (fun r11 M11 q11 => ?_)
    obtain ⟨rfl, e11⟩ := q11
    rw [e11, show M.1 17 i (key - 1) = nI bg from (hb2 (by omega))]
    show Ez G mX3_comesTo d 14 [(0, eR 3 i), (1, eI (nI key)), (2, eR 23 0), (3, eR 24 0)] [eI (nI bg)] M _
    refine ez_goto 18 dX3_comesTo_14 (by decide) ?_
    refine ez_istore 20 [(4, eI (nI bg)), (0, eR 3 i), (1, eI (nI key)), (2, eR 23 0), (3, eR 24 0)] dX3_comesTo_18 rfl (by decide) rfl ?_
    refine ez_aload_n 21 dX3_comesTo_20 rfl rfl ?_
    refine ez_getf 24 (eR 17 i) dX3_comesTo_21 rfl fl_X3_15 (by show i < 7; omega) rfl ?_
    refine ez_iload_n 25 dX3_comesTo_24 rfl rfl ?_
    refine ez_callSN 28 [eR 17 i, eI (nI key)] [] dX3_comesTo_25 rfl rfl ok_X11_itemAt st_X11_itemAt "ElevenPebbles" nn_X3_30 (by omega) (Nat.le_of_ble_eq_true rfl) (c_itemAt_n G (d - 1) 17 i key M (by decide) (by show i < 7; omega) (by show key < 3; omega)) (fun r25 M25 q25 => ?_)
    obtain ⟨rfl, e25⟩ := q25
    rw [e25, show M.1 17 i key = nI e from he]
    show Ez G mX3_comesTo d 28 [(4, eI (nI bg)), (0, eR 3 i), (1, eI (nI key)), (2, eR 23 0), (3, eR 24 0)] [eI (nI e)] M _
    refine ez_aload_n 29 dX3_comesTo_28 rfl rfl ?_
    refine ez_getf 32 (eR 16 i) dX3_comesTo_29 rfl fl_X3_9 (by show i < 7; omega) rfl ?_
    refine ez_alen 33 (nI 160) dX3_comesTo_32 rfl (by decide) (by show i < 7; omega) rfl ?_
    refine ez_mmin 36 dX3_comesTo_33 rfl ln_X3_34 (by omega) (Nat.le_of_ble_eq_true rfl) ?_
    refine ez_top (nI (min e 160)) (ez_nmin (by omega) (by omega)) ?_
    refine ez_top (nI e) (by rw [show min e 160 = e by omega]) ?_
    refine ez_istore 38 [(5, eI (nI e)), (4, eI (nI bg)), (0, eR 3 i), (1, eI (nI key)), (2, eR 23 0), (3, eR 24 0)] dX3_comesTo_36 rfl (by decide) rfl ?_
    refine ez_iconst 39 dX3_comesTo_38 rfl (nI 0) (by decide) ?_
    refine ez_istore 41 [(6, eI (nI 0)), (5, eI (nI e)), (4, eI (nI bg)), (0, eR 3 i), (1, eI (nI key)), (2, eR 23 0), (3, eR 24 0)] dX3_comesTo_39 rfl (by decide) rfl ?_
    refine ez_iload 43 dX3_comesTo_41 rfl rfl ?_
    refine ez_iconst 44 dX3_comesTo_43 rfl (nI 0) (by decide) ?_
    refine ez_mmax 47 dX3_comesTo_44 rfl ln_X3_40 (by omega) (Nat.le_of_ble_eq_true rfl) ?_
    refine ez_top (nI (max bg 0)) (ez_nmax (by omega) (by omega)) ?_
    refine ez_top (nI bg) (by rw [show max bg 0 = bg by omega]) ?_
    refine ez_istore 49 [(7, eI (nI bg)), (6, eI (nI 0)), (5, eI (nI e)), (4, eI (nI bg)), (0, eR 3 i), (1, eI (nI key)), (2, eR 23 0), (3, eR 24 0)] dX3_comesTo_47 rfl (by decide) rfl ?_
    refine ez_drop [(7, eI (nI bg)), (6, eI (nI 0)), (5, eI (nI e)), (0, eR 3 i), (2, eR 23 0), (3, eR 24 0)] (by simp) ?_
    exact lp_comesTo G d i e nm s2 t2 M (by omega) hi he2 c bg 0 _ M hk hc hnm rfl (by rw [ez_row_self]) (by omega) hx
