/-! the tape's lexer: bytes, tests, the end of a token, numerals, words -/
def ep_sb (x : Nat) : Int32 := (nI x).toInt8.toInt32
def ep_by (M : EzM) (p : Nat) : Int32 := if p < 160 then M.1 13 0 p else -1
def ep_isb (v : Int32) : Nat := if v = nI 32 ∨ v = nI 10 then 1 else 0
def ep_isl (v : Int32) : Nat := if v < nI 97 ∨ nI 122 < v then 0 else 1
def ep_isd (v : Int32) : Nat := if v < nI 48 ∨ nI 57 < v then 0 else 1
def ep_iss (v : Int32) : Nat := if v = nI 40 ∨ v = nI 41 ∨ v = nI 59 ∨ v = nI 43 ∨ v = nI 45 ∨ v = nI 42 ∨ v = nI 60 ∨ v = nI 61 then 1 else 0
theorem ep_isx : ∀ x, x < 256 → ep_isb (ep_sb x) = (if ep_bl x = true then 1 else 0) ∧ ep_isl (ep_sb x) = (if ep_le x = true then 1 else 0) ∧ ep_isd (ep_sb x) = (if ep_di x = true then 1 else 0) ∧ ep_iss (ep_sb x) = (if ep_sg x = true then 1 else 0) := by decide +kernel
theorem ep_sbx : ∀ x, x < 128 → ep_sb x = nI x := by decide +kernel
theorem ep_is2 (v : Int32) : ep_isb v < 2 ∧ ep_isl v < 2 ∧ ep_isd v < 2 ∧ ep_iss v < 2 := by
  unfold ep_isb ep_isl ep_isd ep_iss
  refine ⟨?_, ?_, ?_, ?_⟩ <;> split <;> omega
set_option maxRecDepth 20000 in
theorem c_X7_byteAt (G : EzG) (d : Nat) (p : Nat) (M : EzM) (hp : p ≤ 160) : Ezc G mX7_byteAt d [eR 7 0, eI (nI p)] M (fun r M' => r = some (eI (ep_by M p)) ∧ M' = M) := by
  refine Ezc.of (by decide +kernel) (Nat.le_of_ble_eq_true rfl) ?_
  show Ez G mX7_byteAt d 0 [(0, eR 7 0), (1, eI (nI p))] [] M _
  refine ez_iload_n 1 dX7_byteAt_0 rfl rfl ?_
  refine ez_nif_lt 4 dX7_byteAt_1 rfl (by omega) ?_
  refine ez_iload_n 5 dX7_byteAt_4 rfl rfl ?_
  refine ez_sipush 8 dX7_byteAt_5 rfl (nI 160) (by decide) ?_
  refine ez_ncmp_ge 11 20 dX7_byteAt_8 rfl (by decide) (by omega) (by omega) (fun h8 => ?_) (fun h8 => ?_)
  · refine ez_iconst 21 dX7_byteAt_20 rfl (-1) (by decide) ?_
    refine ez_iret .int dX7_byteAt_21 rfl rfl ?_
    exact ⟨by simp only [ep_by]; rw [if_neg (by omega)], rfl⟩
  · refine ez_aload_n 12 dX7_byteAt_11 rfl rfl ?_
    refine ez_getf 15 (eR 13 0) dX7_byteAt_12 rfl fl_X7_9 (by show 0 < 1; omega) rfl ?_
    refine ez_iload_n 16 dX7_byteAt_15 rfl rfl ?_
    refine ez_baldN p 17 dX7_byteAt_16 rfl (by decide) (by show 0 < 1; omega) (by show p < 160; omega) ?_
    refine ez_goto 21 dX7_byteAt_17 (by decide) ?_
    refine ez_iret .int dX7_byteAt_21 rfl rfl ?_
    exact ⟨by simp only [ep_by]; rw [if_pos (by omega)], rfl⟩
set_option maxRecDepth 20000 in
theorem c_X7_isBlank (G : EzG) (d : Nat) (v : Int32) (M : EzM)  : Ezc G mX7_isBlank d [eI v] M (fun r M' => r = some (eI (nI (ep_isb v))) ∧ M' = M) := by
  refine Ezc.of (by decide +kernel) (Nat.le_of_ble_eq_true rfl) ?_
  show Ez G mX7_isBlank d 0 [(0, eI v)] [] M _
  refine ez_iload_n 1 dX7_isBlank_0 rfl rfl ?_
  refine ez_bipush 3 dX7_isBlank_1 rfl (nI 32) (by decide) ?_
  refine ez_icmp_eq 6 12 dX7_isBlank_3 rfl (by decide) (fun h3 => ?_) (fun h3 => ?_)
  · refine ez_iconst 13 dX7_isBlank_12 rfl (nI 1) (by decide) ?_
    refine ez_goto 17 dX7_isBlank_13 (by decide) ?_
    refine ez_iret .boolean dX7_isBlank_17 rfl (by decide) ?_
    exact ⟨by simp [ep_isb, h3], rfl⟩
  · refine ez_iload_n 7 dX7_isBlank_6 rfl rfl ?_
    refine ez_bipush 9 dX7_isBlank_7 rfl (nI 10) (by decide) ?_
    refine ez_icmp_ne 12 16 dX7_isBlank_9 rfl (by decide) (fun h9 => ?_) (fun h9 => ?_)
    · refine ez_iconst 17 dX7_isBlank_16 rfl (nI 0) (by decide) ?_
      refine ez_iret .boolean dX7_isBlank_17 rfl (by decide) ?_
      exact ⟨by simp [ep_isb, h3, h9], rfl⟩
    · refine ez_iconst 13 dX7_isBlank_12 rfl (nI 1) (by decide) ?_
      refine ez_goto 17 dX7_isBlank_13 (by decide) ?_
      refine ez_iret .boolean dX7_isBlank_17 rfl (by decide) ?_
      exact ⟨by simp [ep_isb, h3, h9], rfl⟩
set_option maxRecDepth 20000 in
theorem c_X7_isLetter (G : EzG) (d : Nat) (v : Int32) (M : EzM)  : Ezc G mX7_isLetter d [eI v] M (fun r M' => r = some (eI (nI (ep_isl v))) ∧ M' = M) := by
  refine Ezc.of (by decide +kernel) (Nat.le_of_ble_eq_true rfl) ?_
  show Ez G mX7_isLetter d 0 [(0, eI v)] [] M _
  refine ez_iload_n 1 dX7_isLetter_0 rfl rfl ?_
  refine ez_bipush 3 dX7_isLetter_1 rfl (nI 97) (by decide) ?_
  refine ez_icmp_lt 6 16 dX7_isLetter_3 rfl (by decide) (fun h3 => ?_) (fun h3 => ?_)
  · refine ez_iconst 17 dX7_isLetter_16 rfl (nI 0) (by decide) ?_
    refine ez_iret .boolean dX7_isLetter_17 rfl (by decide) ?_
    exact ⟨by rw [ep_isl, if_pos (Or.inl h3)], rfl⟩
  · refine ez_iload_n 7 dX7_isLetter_6 rfl rfl ?_
    refine ez_bipush 9 dX7_isLetter_7 rfl (nI 122) (by decide) ?_
    refine ez_icmp_gt 12 16 dX7_isLetter_9 rfl (by decide) (fun h9 => ?_) (fun h9 => ?_)
    · refine ez_iconst 17 dX7_isLetter_16 rfl (nI 0) (by decide) ?_
      refine ez_iret .boolean dX7_isLetter_17 rfl (by decide) ?_
      exact ⟨by rw [ep_isl, if_pos (Or.inr h9)], rfl⟩
    · refine ez_iconst 13 dX7_isLetter_12 rfl (nI 1) (by decide) ?_
      refine ez_goto 17 dX7_isLetter_13 (by decide) ?_
      refine ez_iret .boolean dX7_isLetter_17 rfl (by decide) ?_
      exact ⟨by rw [ep_isl, if_neg (by simp only [not_or]; exact ⟨h3, Int32.not_lt.mpr (Int32.not_lt.mp h9)⟩)], rfl⟩
set_option maxRecDepth 20000 in
theorem c_X7_isDigit (G : EzG) (d : Nat) (v : Int32) (M : EzM)  : Ezc G mX7_isDigit d [eI v] M (fun r M' => r = some (eI (nI (ep_isd v))) ∧ M' = M) := by
  refine Ezc.of (by decide +kernel) (Nat.le_of_ble_eq_true rfl) ?_
  show Ez G mX7_isDigit d 0 [(0, eI v)] [] M _
  refine ez_iload_n 1 dX7_isDigit_0 rfl rfl ?_
  refine ez_bipush 3 dX7_isDigit_1 rfl (nI 48) (by decide) ?_
  refine ez_icmp_lt 6 16 dX7_isDigit_3 rfl (by decide) (fun h3 => ?_) (fun h3 => ?_)
  · refine ez_iconst 17 dX7_isDigit_16 rfl (nI 0) (by decide) ?_
    refine ez_iret .boolean dX7_isDigit_17 rfl (by decide) ?_
    exact ⟨by rw [ep_isd, if_pos (Or.inl h3)], rfl⟩
  · refine ez_iload_n 7 dX7_isDigit_6 rfl rfl ?_
    refine ez_bipush 9 dX7_isDigit_7 rfl (nI 57) (by decide) ?_
    refine ez_icmp_gt 12 16 dX7_isDigit_9 rfl (by decide) (fun h9 => ?_) (fun h9 => ?_)
    · refine ez_iconst 17 dX7_isDigit_16 rfl (nI 0) (by decide) ?_
      refine ez_iret .boolean dX7_isDigit_17 rfl (by decide) ?_
      exact ⟨by rw [ep_isd, if_pos (Or.inr h9)], rfl⟩
    · refine ez_iconst 13 dX7_isDigit_12 rfl (nI 1) (by decide) ?_
      refine ez_goto 17 dX7_isDigit_13 (by decide) ?_
      refine ez_iret .boolean dX7_isDigit_17 rfl (by decide) ?_
      exact ⟨by rw [ep_isd, if_neg (by simp only [not_or]; exact ⟨h3, Int32.not_lt.mpr (Int32.not_lt.mp h9)⟩)], rfl⟩
set_option maxRecDepth 20000 in
theorem c_X7_isSign (G : EzG) (d : Nat) (v : Int32) (M : EzM)  : Ezc G mX7_isSign d [eI v] M (fun r M' => r = some (eI (nI (ep_iss v))) ∧ M' = M) := by
  refine Ezc.of (by decide +kernel) (Nat.le_of_ble_eq_true rfl) ?_
  show Ez G mX7_isSign d 0 [(0, eI v)] [] M _
  refine ez_iload_n 1 dX7_isSign_0 rfl rfl ?_
  refine ez_bipush 3 dX7_isSign_1 rfl (nI 40) (by decide) ?_
  refine ez_icmp_eq 6 48 dX7_isSign_3 rfl (by decide) (fun h3 => ?_) (fun h3 => ?_)
  · refine ez_iconst 49 dX7_isSign_48 rfl (nI 1) (by decide) ?_
    refine ez_goto 53 dX7_isSign_49 (by decide) ?_
    refine ez_iret .boolean dX7_isSign_53 rfl (by decide) ?_
    exact ⟨by simp [ep_iss, h3], rfl⟩
  · refine ez_iload_n 7 dX7_isSign_6 rfl rfl ?_
    refine ez_bipush 9 dX7_isSign_7 rfl (nI 41) (by decide) ?_
    refine ez_icmp_eq 12 48 dX7_isSign_9 rfl (by decide) (fun h9 => ?_) (fun h9 => ?_)
    · refine ez_iconst 49 dX7_isSign_48 rfl (nI 1) (by decide) ?_
      refine ez_goto 53 dX7_isSign_49 (by decide) ?_
      refine ez_iret .boolean dX7_isSign_53 rfl (by decide) ?_
      exact ⟨by simp [ep_iss, h3, h9], rfl⟩
    · refine ez_iload_n 13 dX7_isSign_12 rfl rfl ?_
      refine ez_bipush 15 dX7_isSign_13 rfl (nI 59) (by decide) ?_
      refine ez_icmp_eq 18 48 dX7_isSign_15 rfl (by decide) (fun h15 => ?_) (fun h15 => ?_)
      · refine ez_iconst 49 dX7_isSign_48 rfl (nI 1) (by decide) ?_
        refine ez_goto 53 dX7_isSign_49 (by decide) ?_
        refine ez_iret .boolean dX7_isSign_53 rfl (by decide) ?_
        exact ⟨by simp [ep_iss, h3, h9, h15], rfl⟩
      · refine ez_iload_n 19 dX7_isSign_18 rfl rfl ?_
        refine ez_bipush 21 dX7_isSign_19 rfl (nI 43) (by decide) ?_
        refine ez_icmp_eq 24 48 dX7_isSign_21 rfl (by decide) (fun h21 => ?_) (fun h21 => ?_)
        · refine ez_iconst 49 dX7_isSign_48 rfl (nI 1) (by decide) ?_
          refine ez_goto 53 dX7_isSign_49 (by decide) ?_
          refine ez_iret .boolean dX7_isSign_53 rfl (by decide) ?_
          exact ⟨by simp [ep_iss, h3, h9, h15, h21], rfl⟩
        · refine ez_iload_n 25 dX7_isSign_24 rfl rfl ?_
          refine ez_bipush 27 dX7_isSign_25 rfl (nI 45) (by decide) ?_
          refine ez_icmp_eq 30 48 dX7_isSign_27 rfl (by decide) (fun h27 => ?_) (fun h27 => ?_)
          · refine ez_iconst 49 dX7_isSign_48 rfl (nI 1) (by decide) ?_
            refine ez_goto 53 dX7_isSign_49 (by decide) ?_
            refine ez_iret .boolean dX7_isSign_53 rfl (by decide) ?_
            exact ⟨by simp [ep_iss, h3, h9, h15, h21, h27], rfl⟩
          · refine ez_iload_n 31 dX7_isSign_30 rfl rfl ?_
            refine ez_bipush 33 dX7_isSign_31 rfl (nI 42) (by decide) ?_
            refine ez_icmp_eq 36 48 dX7_isSign_33 rfl (by decide) (fun h33 => ?_) (fun h33 => ?_)
            · refine ez_iconst 49 dX7_isSign_48 rfl (nI 1) (by decide) ?_
              refine ez_goto 53 dX7_isSign_49 (by decide) ?_
              refine ez_iret .boolean dX7_isSign_53 rfl (by decide) ?_
              exact ⟨by simp [ep_iss, h3, h9, h15, h21, h27, h33], rfl⟩
            · refine ez_iload_n 37 dX7_isSign_36 rfl rfl ?_
              refine ez_bipush 39 dX7_isSign_37 rfl (nI 60) (by decide) ?_
              refine ez_icmp_eq 42 48 dX7_isSign_39 rfl (by decide) (fun h39 => ?_) (fun h39 => ?_)
              · refine ez_iconst 49 dX7_isSign_48 rfl (nI 1) (by decide) ?_
                refine ez_goto 53 dX7_isSign_49 (by decide) ?_
                refine ez_iret .boolean dX7_isSign_53 rfl (by decide) ?_
                exact ⟨by simp [ep_iss, h3, h9, h15, h21, h27, h33, h39], rfl⟩
              · refine ez_iload_n 43 dX7_isSign_42 rfl rfl ?_
                refine ez_bipush 45 dX7_isSign_43 rfl (nI 61) (by decide) ?_
                refine ez_icmp_ne 48 52 dX7_isSign_45 rfl (by decide) (fun h45 => ?_) (fun h45 => ?_)
                · refine ez_iconst 53 dX7_isSign_52 rfl (nI 0) (by decide) ?_
                  refine ez_iret .boolean dX7_isSign_53 rfl (by decide) ?_
                  exact ⟨by simp [ep_iss, h3, h9, h15, h21, h27, h33, h39, h45], rfl⟩
                · refine ez_iconst 49 dX7_isSign_48 rfl (nI 1) (by decide) ?_
                  refine ez_goto 53 dX7_isSign_49 (by decide) ?_
                  refine ez_iret .boolean dX7_isSign_53 rfl (by decide) ?_
                  exact ⟨by simp [ep_iss, h3, h9, h15, h21, h27, h33, h39, h45], rfl⟩
def ep_pr (b : Nat → Nat) (wd nu i : Nat) : Bool := (decide (wd = 1) && ep_le (b i)) || (decide (nu = 1) && ep_di (b i))
theorem ep_byb {M : EzM} {n p : Nat} {b : Nat → Nat} (hb : ∀ i, i < n → b i < 256 ∧ M.1 13 0 i = ep_sb (b i)) (hn : n ≤ 160) (hp : p < n) : ep_by M p = ep_sb (b p) := by
  rw [ep_by, if_pos (by omega)]; exact (hb p hp).2
set_option maxRecDepth 20000 in
theorem lp_endOf (G : EzG) (d : Nat) (n wd nu : Nat) (b : Nat → Nat) (M : EzM) (hd : 1 ≤ d) (hn : n ≤ 160) (hsz : M.1 7 0 1 = nI n) (hb : ∀ i, i < n → b i < 256 ∧ M.1 13 0 i = ep_sb (b i)) (hw : wd < 2) (hnu : nu < 2) : ∀ (z : Nat) (q : Nat), n - q = z → q ≤ 161 → Ez G mX7_endOf d 23 [(4, eI (nI q)), (0, eR 7 0), (2, eI (nI wd)), (3, eI (nI nu))] [] M (fun r M' => r = some (eI (nI (ep_run (ep_pr b wd nu) n q))) ∧ M' = M) := by
  intro z
  induction z using Nat.strongRecOn with
  | ind z ih =>
    intro q hz hq
    have hE := ep_is2 (ep_by M q)
    refine ez_iload 25 dX7_endOf_23 rfl rfl ?_
    refine ez_aload_n 26 dX7_endOf_25 rfl rfl ?_
    refine ez_getf 29 (eI (M.1 7 0 1)) dX7_endOf_26 rfl fl_X7_29 (by show 0 < 1; omega) rfl ?_
    refine ez_top (nI n) hsz ?_
    refine ez_ncmp_ge 32 70 dX7_endOf_29 rfl (by decide) (by omega) (by omega) (fun h29 => ?_) (fun h29 => ?_)
    · refine ez_iload 72 dX7_endOf_70 rfl rfl ?_
      refine ez_iret .int dX7_endOf_72 rfl rfl ?_
      exact ⟨by rw [ep_run_st (by omega)], rfl⟩
    · have hx := ep_isx (b q) (hb q (by omega)).1
      have hy := ep_byb hb hn (show q < n by omega)
      refine ez_iload_n 33 dX7_endOf_32 rfl rfl ?_
      refine ez_nif_eq 36 48 dX7_endOf_33 rfl (by decide) (by omega) (fun h33 => ?_) (fun h33 => ?_)
      · refine ez_iload_n 49 dX7_endOf_48 rfl rfl ?_
        refine ez_nif_eq 52 70 dX7_endOf_49 rfl (by decide) (by omega) (fun h49 => ?_) (fun h49 => ?_)
        · refine ez_iload 72 dX7_endOf_70 rfl rfl ?_
          refine ez_iret .int dX7_endOf_72 rfl rfl ?_
          exact ⟨by
            rw [ep_run_st]
            rintro ⟨_, q8⟩
            simp only [ep_pr, Bool.or_eq_true, Bool.and_eq_true, decide_eq_true_eq] at q8
            rcases q8 with ⟨q1, q2⟩ | ⟨q1, q2⟩
            · omega
            · omega, rfl⟩
        · refine ez_aload_n 53 dX7_endOf_52 rfl rfl ?_
          refine ez_iload 55 dX7_endOf_53 rfl rfl ?_
          refine ez_callV 58 [eI (nI q)] [] dX7_endOf_55 rfl rfl ok_X7_byteAt in_X7_byteAt (by decide) (by show 0 < 1; omega) ln_X7_59 (by omega) (Nat.le_of_ble_eq_true rfl) (c_X7_byteAt G (d - 1) q M (by omega)) (fun r55 M55 q55 => ?_)
          obtain ⟨rfl, e55⟩ := q55
          rw [e55]
          show Ez G mX7_endOf d 58 [(4, eI (nI q)), (0, eR 7 0), (2, eI (nI wd)), (3, eI (nI nu))] [eI (ep_by M q)] M _
          refine ez_callS 61 [eI (ep_by M q)] [] dX7_endOf_58 rfl rfl ok_X7_isDigit st_X7_isDigit ln_X7_77 (by omega) (Nat.le_of_ble_eq_true rfl) (c_X7_isDigit G (d - 1) (ep_by M q) M) (fun r58 M58 q58 => ?_)
          obtain ⟨rfl, e58⟩ := q58
          rw [e58]
          show Ez G mX7_endOf d 61 [(4, eI (nI q)), (0, eR 7 0), (2, eI (nI wd)), (3, eI (nI nu))] [eI (nI (ep_isd (ep_by M q)))] M _
          refine ez_nif_eq 64 70 dX7_endOf_61 rfl (by decide) (by omega) (fun h61 => ?_) (fun h61 => ?_)
          · refine ez_iload 72 dX7_endOf_70 rfl rfl ?_
            refine ez_iret .int dX7_endOf_72 rfl rfl ?_
            exact ⟨by
              rw [ep_run_st]
              rintro ⟨_, q8⟩
              simp only [ep_pr, Bool.or_eq_true, Bool.and_eq_true, decide_eq_true_eq] at q8
              rcases q8 with ⟨q1, q2⟩ | ⟨q1, q2⟩
              · omega
              · rw [hy, hx.2.2.1, if_pos q2] at h61; omega, rfl⟩
          · refine ez_iinc 67 (nI (q + 1)) [(4, eI (nI (q + 1))), (0, eR 7 0), (2, eI (nI wd)), (3, eI (nI nu))] dX7_endOf_64 rfl rfl (nI_add q 1) (by decide) rfl ?_
            refine ez_goto 23 dX7_endOf_67 (by decide) ?_
            have hpr : ep_pr b wd nu q = true := by
              simp only [ep_pr, Bool.or_eq_true, Bool.and_eq_true, decide_eq_true_eq]
              refine Or.inr ⟨by omega, ?_⟩
              rw [hy, hx.2.2.1] at h61
              by_cases q9 : ep_di (b q) = true
              · exact q9
              · rw [if_neg q9] at h61; omega
            rw [ep_run_go (by omega) hpr]
            exact ih (n - (q + 1)) (by omega) (q + 1) rfl (by omega)
      · refine ez_aload_n 37 dX7_endOf_36 rfl rfl ?_
        refine ez_iload 39 dX7_endOf_37 rfl rfl ?_
        refine ez_callV 42 [eI (nI q)] [] dX7_endOf_39 rfl rfl ok_X7_byteAt in_X7_byteAt (by decide) (by show 0 < 1; omega) ln_X7_59 (by omega) (Nat.le_of_ble_eq_true rfl) (c_X7_byteAt G (d - 1) q M (by omega)) (fun r39 M39 q39 => ?_)
        obtain ⟨rfl, e39⟩ := q39
        rw [e39]
        show Ez G mX7_endOf d 42 [(4, eI (nI q)), (0, eR 7 0), (2, eI (nI wd)), (3, eI (nI nu))] [eI (ep_by M q)] M _
        refine ez_callS 45 [eI (ep_by M q)] [] dX7_endOf_42 rfl rfl ok_X7_isLetter st_X7_isLetter ln_X7_74 (by omega) (Nat.le_of_ble_eq_true rfl) (c_X7_isLetter G (d - 1) (ep_by M q) M) (fun r42 M42 q42 => ?_)
        obtain ⟨rfl, e42⟩ := q42
        rw [e42]
        show Ez G mX7_endOf d 45 [(4, eI (nI q)), (0, eR 7 0), (2, eI (nI wd)), (3, eI (nI nu))] [eI (nI (ep_isl (ep_by M q)))] M _
        refine ez_nif_ne 48 64 dX7_endOf_45 rfl (by decide) (by omega) (fun h45 => ?_) (fun h45 => ?_)
        · refine ez_iinc 67 (nI (q + 1)) [(4, eI (nI (q + 1))), (0, eR 7 0), (2, eI (nI wd)), (3, eI (nI nu))] dX7_endOf_64 rfl rfl (nI_add q 1) (by decide) rfl ?_
          refine ez_goto 23 dX7_endOf_67 (by decide) ?_
          have hpr : ep_pr b wd nu q = true := by
            simp only [ep_pr, Bool.or_eq_true, Bool.and_eq_true, decide_eq_true_eq]
            refine Or.inl ⟨by omega, ?_⟩
            rw [hy, hx.2.1] at h45
            by_cases q9 : ep_le (b q) = true
            · exact q9
            · rw [if_neg q9] at h45; omega
          rw [ep_run_go (by omega) hpr]
          exact ih (n - (q + 1)) (by omega) (q + 1) rfl (by omega)
        · refine ez_iload_n 49 dX7_endOf_48 rfl rfl ?_
          refine ez_nif_eq 52 70 dX7_endOf_49 rfl (by decide) (by omega) (fun h49 => ?_) (fun h49 => ?_)
          · refine ez_iload 72 dX7_endOf_70 rfl rfl ?_
            refine ez_iret .int dX7_endOf_72 rfl rfl ?_
            exact ⟨by
              rw [ep_run_st]
              rintro ⟨_, q8⟩
              simp only [ep_pr, Bool.or_eq_true, Bool.and_eq_true, decide_eq_true_eq] at q8
              rcases q8 with ⟨q1, q2⟩ | ⟨q1, q2⟩
              · rw [hy, hx.2.1, if_pos q2] at h45; omega
              · omega, rfl⟩
          · refine ez_aload_n 53 dX7_endOf_52 rfl rfl ?_
            refine ez_iload 55 dX7_endOf_53 rfl rfl ?_
            refine ez_callV 58 [eI (nI q)] [] dX7_endOf_55 rfl rfl ok_X7_byteAt in_X7_byteAt (by decide) (by show 0 < 1; omega) ln_X7_59 (by omega) (Nat.le_of_ble_eq_true rfl) (c_X7_byteAt G (d - 1) q M (by omega)) (fun r55 M55 q55 => ?_)
            obtain ⟨rfl, e55⟩ := q55
            rw [e55]
            show Ez G mX7_endOf d 58 [(4, eI (nI q)), (0, eR 7 0), (2, eI (nI wd)), (3, eI (nI nu))] [eI (ep_by M q)] M _
            refine ez_callS 61 [eI (ep_by M q)] [] dX7_endOf_58 rfl rfl ok_X7_isDigit st_X7_isDigit ln_X7_77 (by omega) (Nat.le_of_ble_eq_true rfl) (c_X7_isDigit G (d - 1) (ep_by M q) M) (fun r58 M58 q58 => ?_)
            obtain ⟨rfl, e58⟩ := q58
            rw [e58]
            show Ez G mX7_endOf d 61 [(4, eI (nI q)), (0, eR 7 0), (2, eI (nI wd)), (3, eI (nI nu))] [eI (nI (ep_isd (ep_by M q)))] M _
            refine ez_nif_eq 64 70 dX7_endOf_61 rfl (by decide) (by omega) (fun h61 => ?_) (fun h61 => ?_)
            · refine ez_iload 72 dX7_endOf_70 rfl rfl ?_
              refine ez_iret .int dX7_endOf_72 rfl rfl ?_
              exact ⟨by
                rw [ep_run_st]
                rintro ⟨_, q8⟩
                simp only [ep_pr, Bool.or_eq_true, Bool.and_eq_true, decide_eq_true_eq] at q8
                rcases q8 with ⟨q1, q2⟩ | ⟨q1, q2⟩
                · rw [hy, hx.2.1, if_pos q2] at h45; omega
                · rw [hy, hx.2.2.1, if_pos q2] at h61; omega, rfl⟩
            · refine ez_iinc 67 (nI (q + 1)) [(4, eI (nI (q + 1))), (0, eR 7 0), (2, eI (nI wd)), (3, eI (nI nu))] dX7_endOf_64 rfl rfl (nI_add q 1) (by decide) rfl ?_
              refine ez_goto 23 dX7_endOf_67 (by decide) ?_
              have hpr : ep_pr b wd nu q = true := by
                simp only [ep_pr, Bool.or_eq_true, Bool.and_eq_true, decide_eq_true_eq]
                refine Or.inr ⟨by omega, ?_⟩
                rw [hy, hx.2.2.1] at h61
                by_cases q9 : ep_di (b q) = true
                · exact q9
                · rw [if_neg q9] at h61; omega
              rw [ep_run_go (by omega) hpr]
              exact ih (n - (q + 1)) (by omega) (q + 1) rfl (by omega)
def ep_ed (b : Nat → Nat) (n p : Nat) : Nat := if n ≤ p then p + 1 else if ep_le (b p) = true then ep_lE b n p else if ep_di (b p) = true then ep_dE b n p else p + 1
theorem ep_lnd {x : Nat} (h : ep_le x = true) : ep_di x = false := by
  simp only [ep_le, Bool.and_eq_true, decide_eq_true_eq] at h
  simp only [ep_di, Bool.and_eq_false_iff, decide_eq_false_iff_not]
  omega
theorem ep_ed_run {M : EzM} {b : Nat → Nat} {n p : Nat} (hb : ∀ i, i < n → b i < 256 ∧ M.1 13 0 i = ep_sb (b i)) (hn : n ≤ 160) : ep_run (ep_pr b (ep_isl (ep_by M p)) (ep_isd (ep_by M p))) n (p + 1) = ep_ed b n p := by
  unfold ep_ed
  by_cases h0 : n ≤ p
  · rw [if_pos h0, ep_run_st (by omega)]
  rw [if_neg h0, ep_byb hb hn (by omega), (ep_isx _ (hb p (by omega)).1).2.1, (ep_isx _ (hb p (by omega)).1).2.2.1]
  by_cases h1 : ep_le (b p) = true
  · rw [if_pos h1, if_pos h1, if_neg (by rw [ep_lnd h1]; decide)]
    rw [show ep_lE b n p = ep_run _ n (p + 1) from ep_run_go (by omega) h1]
    congr 1 <;> (funext i; simp [ep_pr])
  rw [if_neg h1, if_neg h1]
  by_cases h2 : ep_di (b p) = true
  · rw [if_pos h2, if_pos h2]
    rw [show ep_dE b n p = ep_run _ n (p + 1) from ep_run_go (by omega) h2]
    congr 1 <;> (funext i; simp [ep_pr])
  · rw [if_neg h2, if_neg h2, ep_run_st]
    simp [ep_pr]
set_option maxRecDepth 20000 in
theorem c_X7_endOf (G : EzG) (d : Nat) (n p : Nat) (b : Nat → Nat) (M : EzM) (hd : 2 ≤ d) (hn : n ≤ 160) (hsz : M.1 7 0 1 = nI n) (hb : ∀ i, i < n → b i < 256 ∧ M.1 13 0 i = ep_sb (b i)) (hp : p ≤ n) : Ezc G mX7_endOf d [eR 7 0, eI (nI p)] M (fun r M' => r = some (eI (nI (ep_ed b n p))) ∧ M' = M) := by
  refine Ezc.of (by decide +kernel) (Nat.le_of_ble_eq_true rfl) ?_
  show Ez G mX7_endOf d 0 [(0, eR 7 0), (1, eI (nI p))] [] M _
  refine ez_aload_n 1 dX7_endOf_0 rfl rfl ?_
  refine ez_iload_n 2 dX7_endOf_1 rfl rfl ?_
  refine ez_callV 5 [eI (nI p)] [] dX7_endOf_2 rfl rfl ok_X7_byteAt in_X7_byteAt (by decide) (by show 0 < 1; omega) ln_X7_59 (by omega) (Nat.le_of_ble_eq_true rfl) (c_X7_byteAt G (d - 1) p M (by omega)) (fun r2 M2 q2 => ?_)
  obtain ⟨rfl, e2⟩ := q2
  rw [e2]
  show Ez G mX7_endOf d 5 [(0, eR 7 0), (1, eI (nI p))] [eI (ep_by M p)] M _
  refine ez_callS 8 [eI (ep_by M p)] [] dX7_endOf_5 rfl rfl ok_X7_isLetter st_X7_isLetter ln_X7_74 (by omega) (Nat.le_of_ble_eq_true rfl) (c_X7_isLetter G (d - 1) (ep_by M p) M) (fun r5 M5 q5 => ?_)
  obtain ⟨rfl, e5⟩ := q5
  rw [e5]
  show Ez G mX7_endOf d 8 [(0, eR 7 0), (1, eI (nI p))] [eI (nI (ep_isl (ep_by M p)))] M _
  refine ez_istore_n 9 [(2, eI (nI (ep_isl (ep_by M p)))), (0, eR 7 0), (1, eI (nI p))] dX7_endOf_8 rfl (by decide) rfl ?_
  refine ez_aload_n 10 dX7_endOf_9 rfl rfl ?_
  refine ez_iload_n 11 dX7_endOf_10 rfl rfl ?_
  refine ez_callV 14 [eI (nI p)] [] dX7_endOf_11 rfl rfl ok_X7_byteAt in_X7_byteAt (by decide) (by show 0 < 1; omega) ln_X7_59 (by omega) (Nat.le_of_ble_eq_true rfl) (c_X7_byteAt G (d - 1) p M (by omega)) (fun r11 M11 q11 => ?_)
  obtain ⟨rfl, e11⟩ := q11
  rw [e11]
  show Ez G mX7_endOf d 14 [(2, eI (nI (ep_isl (ep_by M p)))), (0, eR 7 0), (1, eI (nI p))] [eI (ep_by M p)] M _
  refine ez_callS 17 [eI (ep_by M p)] [] dX7_endOf_14 rfl rfl ok_X7_isDigit st_X7_isDigit ln_X7_77 (by omega) (Nat.le_of_ble_eq_true rfl) (c_X7_isDigit G (d - 1) (ep_by M p) M) (fun r14 M14 q14 => ?_)
  obtain ⟨rfl, e14⟩ := q14
  rw [e14]
  show Ez G mX7_endOf d 17 [(2, eI (nI (ep_isl (ep_by M p)))), (0, eR 7 0), (1, eI (nI p))] [eI (nI (ep_isd (ep_by M p)))] M _
  refine ez_istore_n 18 [(3, eI (nI (ep_isd (ep_by M p)))), (2, eI (nI (ep_isl (ep_by M p)))), (0, eR 7 0), (1, eI (nI p))] dX7_endOf_17 rfl (by decide) rfl ?_
  refine ez_iload_n 19 dX7_endOf_18 rfl rfl ?_
  refine ez_iconst 20 dX7_endOf_19 rfl (nI 1) (by decide) ?_
  refine ez_iadd 21 dX7_endOf_20 rfl ?_
  refine ez_top (nI (p + 1)) (nI_add _ _) ?_
  refine ez_istore 23 [(4, eI (nI (p + 1))), (3, eI (nI (ep_isd (ep_by M p)))), (2, eI (nI (ep_isl (ep_by M p)))), (0, eR 7 0), (1, eI (nI p))] dX7_endOf_21 rfl (by decide) rfl ?_
  refine ez_drop [(4, eI (nI (p + 1))), (0, eR 7 0), (2, eI (nI (ep_isl (ep_by M p)))), (3, eI (nI (ep_isd (ep_by M p))))] (by simp) ?_
  rw [← ep_ed_run hb hn]
  exact lp_endOf G d n _ _ b M (by omega) hn hsz hb (ep_is2 _).2.1 (ep_is2 _).2.2.1 _ (p + 1) rfl (by omega)
set_option maxRecDepth 20000 in
theorem lp_numeral (G : EzG) (d : Nat) (n p e : Nat) (b : Nat → Nat) (M : EzM) (hd : 1 ≤ d) (hn : n ≤ 160) (he : e ≤ n) (hpe : e - p ≤ 4) (hdi : ∀ i, p ≤ i → i < e → 48 ≤ b i ∧ b i ≤ 57) (hby : ∀ i, p ≤ i → i < e → ep_by M i = nI (b i)) : ∀ (z : Nat) (t : Nat), e - p - t = z → p + t ≤ e → Ez G mX7_numeralOf d 14 [(4, eI (nI (p + t))), (3, eI (nI (ep_dv b p t))), (0, eR 7 0), (2, eI (nI e))] [] M (fun r M' => r = some (eI (nI (1000 + ep_dv b p (e - p)))) ∧ M' = M) := by
  intro z
  induction z using Nat.strongRecOn with
  | ind z ih =>
    intro t hz ht
    refine ez_iload 16 dX7_numeralOf_14 rfl rfl ?_
    refine ez_iload_n 17 dX7_numeralOf_16 rfl rfl ?_
    refine ez_ncmp_ge 20 41 dX7_numeralOf_17 rfl (by decide) (by omega) (by omega) (fun h17 => ?_) (fun h17 => ?_)
    · refine ez_sipush 44 dX7_numeralOf_41 rfl (nI 1000) (by decide) ?_
      refine ez_iload_n 45 dX7_numeralOf_44 rfl rfl ?_
      refine ez_iadd 46 dX7_numeralOf_45 rfl ?_
      refine ez_top (nI (1000 + ep_dv b p t)) (nI_add _ _) ?_
      refine ez_iret .int dX7_numeralOf_46 rfl rfl ?_
      exact ⟨by rw [show e - p = t by omega], rfl⟩
    · have hdt := hdi (p + t) (by omega) (by omega)
      have hdv := ep_dv_lt b p t (fun i hi => (hdi (p + i) (by omega) (by omega)).2)
      have hpw : 10 ^ t ≤ 10 ^ 4 := Nat.pow_le_pow_right (by decide) (by omega)
      refine ez_bipush 22 dX7_numeralOf_20 rfl (nI 10) (by decide) ?_
      refine ez_iload_n 23 dX7_numeralOf_22 rfl rfl ?_
      refine ez_imul 24 dX7_numeralOf_23 rfl ?_
      refine ez_top (nI (10 * (ep_dv b p t))) (pk_mul _ _) ?_
      refine ez_aload_n 25 dX7_numeralOf_24 rfl rfl ?_
      refine ez_iload 27 dX7_numeralOf_25 rfl rfl ?_
      refine ez_callV 30 [eI (nI (p + t))] [eI (nI (10 * (ep_dv b p t)))] dX7_numeralOf_27 rfl rfl ok_X7_byteAt in_X7_byteAt (by decide) (by show 0 < 1; omega) ln_X7_59 (by omega) (Nat.le_of_ble_eq_true rfl) (c_X7_byteAt G (d - 1) (p + t) M (by omega)) (fun r27 M27 q27 => ?_)
      obtain ⟨rfl, e27⟩ := q27
      rw [e27, show ep_by M (p + t) = nI (b (p + t)) from (hby (p + t) (by omega) (by omega))]
      show Ez G mX7_numeralOf d 30 [(4, eI (nI (p + t))), (3, eI (nI (ep_dv b p t))), (0, eR 7 0), (2, eI (nI e))] [eI (nI (b (p + t))), eI (nI (10 * (ep_dv b p t)))] M _
      refine ez_iadd 31 dX7_numeralOf_30 rfl ?_
      refine ez_top (nI (10 * (ep_dv b p t) + b (p + t))) (nI_add _ _) ?_
      refine ez_bipush 33 dX7_numeralOf_31 rfl (nI 48) (by decide) ?_
      refine ez_isub 34 dX7_numeralOf_33 rfl ?_
      refine ez_top (nI (10 * (ep_dv b p t) + b (p + t) - 48)) (pk_sub (by omega)) ?_
      refine ez_istore_n 35 [(3, eI (nI (10 * (ep_dv b p t) + b (p + t) - 48))), (4, eI (nI (p + t))), (0, eR 7 0), (2, eI (nI e))] dX7_numeralOf_34 rfl (by decide) rfl ?_
      refine ez_iinc 38 (nI (p + t + 1)) [(4, eI (nI (p + t + 1))), (3, eI (nI (10 * (ep_dv b p t) + b (p + t) - 48))), (0, eR 7 0), (2, eI (nI e))] dX7_numeralOf_35 rfl rfl (nI_add (p + t) 1) (by decide) rfl ?_
      refine ez_goto 14 dX7_numeralOf_38 (by decide) ?_
      have e9 : 10 * ep_dv b p t + b (p + t) - 48 = ep_dv b p (t + 1) := by show _ = 10 * ep_dv b p t + (b (p + t) - 48); omega
      rw [e9]
      exact ih (e - p - (t + 1)) (by omega) (t + 1) rfl (by omega)
set_option maxRecDepth 20000 in
theorem c_X7_numeralOf (G : EzG) (d : Nat) (n p e : Nat) (b : Nat → Nat) (M : EzM) (hd : 1 ≤ d) (hn : n ≤ 160) (hp : p ≤ e) (he : e ≤ n) (hdi : ∀ i, p ≤ i → i < e → 48 ≤ b i ∧ b i ≤ 57) (hby : ∀ i, p ≤ i → i < e → ep_by M i = nI (b i)) : Ezc G mX7_numeralOf d [eR 7 0, eI (nI p), eI (nI e)] M (fun r M' => r = some (eI (nI (if 4 < e - p then 1 else 1000 + ep_dv b p (e - p)))) ∧ M' = M) := by
  refine Ezc.of (by decide +kernel) (Nat.le_of_ble_eq_true rfl) ?_
  show Ez G mX7_numeralOf d 0 [(0, eR 7 0), (1, eI (nI p)), (2, eI (nI e))] [] M _
  refine ez_iload_n 1 dX7_numeralOf_0 rfl rfl ?_
  refine ez_iload_n 2 dX7_numeralOf_1 rfl rfl ?_
  refine ez_isub 3 dX7_numeralOf_2 rfl ?_
  refine ez_top (nI (e - p)) (pk_sub (by omega)) ?_
  refine ez_iconst 4 dX7_numeralOf_3 rfl (nI 4) (by decide) ?_
  refine ez_ncmp_le 7 9 dX7_numeralOf_4 rfl (by decide) (by omega) (by omega) (fun h4 => ?_) (fun h4 => ?_)
  · refine ez_iconst 10 dX7_numeralOf_9 rfl (nI 0) (by decide) ?_
    refine ez_istore_n 11 [(3, eI (nI 0)), (0, eR 7 0), (1, eI (nI p)), (2, eI (nI e))] dX7_numeralOf_10 rfl (by decide) rfl ?_
    refine ez_iload_n 12 dX7_numeralOf_11 rfl rfl ?_
    refine ez_istore 14 [(4, eI (nI p)), (3, eI (nI 0)), (0, eR 7 0), (1, eI (nI p)), (2, eI (nI e))] dX7_numeralOf_12 rfl (by decide) rfl ?_
    refine ez_drop [(4, eI (nI (p + 0))), (3, eI (nI (ep_dv b p 0))), (0, eR 7 0), (2, eI (nI e))] (by simp [ep_dv]) ?_
    rw [if_neg (by omega)]
    exact lp_numeral G d n p e b M (by omega) hn he (by omega) hdi hby _ 0 rfl (by omega)
  · refine ez_iconst 8 dX7_numeralOf_7 rfl (nI 1) (by decide) ?_
    refine ez_iret .int dX7_numeralOf_8 rfl rfl ?_
    exact ⟨by rw [if_pos (by omega)], rfl⟩
theorem ep_wv_inj (b b2 : Nat → Nat) (q q2 : Nat) : ∀ (t t2 : Nat), (∀ i, i < t → 97 ≤ b (q + i) ∧ b (q + i) ≤ 122) → (∀ i, i < t2 → 97 ≤ b2 (q2 + i) ∧ b2 (q2 + i) ≤ 122) → ep_wv b q t = ep_wv b2 q2 t2 → t = t2 ∧ ∀ i, i < t → b (q + i) = b2 (q2 + i)
  | 0, 0, _, _, _ => ⟨rfl, fun i hi => by omega⟩
  | 0, t2 + 1, _, h2, h => by
    have h3 : (0 : Nat) = 27 * ep_wv b2 q2 t2 + (b2 (q2 + t2) - 96) := h
    have := h2 t2 (by omega)
    omega
  | t + 1, 0, h1, _, h => by
    have h3 : 27 * ep_wv b q t + (b (q + t) - 96) = 0 := h
    have := h1 t (by omega)
    omega
  | t + 1, t2 + 1, h1, h2, h => by
    have h3 : 27 * ep_wv b q t + (b (q + t) - 96) = 27 * ep_wv b2 q2 t2 + (b2 (q2 + t2) - 96) := h
    have a1 := h1 t (by omega)
    have a2 := h2 t2 (by omega)
    obtain ⟨e1, e2⟩ := ep_wv_inj b b2 q q2 t t2 (fun i hi => h1 i (by omega)) (fun i hi => h2 i (by omega)) (by omega)
    subst e1
    refine ⟨rfl, fun i hi => ?_⟩
    by_cases e : i = t
    · subst e; omega
    · exact e2 i (by omega)
def ep_wc (k i : Nat) : Nat := (ez_ch k i).toNatClampNeg
theorem ep_wck : ∀ k, k < 12 → ep_wv (ep_wc k) 0 (ez_sn.getD k 0) = ep_wn (10 + k) ∧ ez_sn.getD k 0 ≤ 8 ∧ ∀ i, i < ez_sn.getD k 0 → 97 ≤ ep_wc k (0 + i) ∧ ep_wc k (0 + i) ≤ 122 ∧ ez_ch k i = nI (ep_wc k (0 + i)) := by decide +kernel
def ep_mt (b : Nat → Nat) (p len k : Nat) : Prop := ez_sn.getD k 0 = len ∧ ∀ i, i < len → ez_ch k i = nI (b (p + i))
theorem ep_wv_cg (b b2 : Nat → Nat) (q q2 : Nat) : ∀ t, (∀ i, i < t → b (q + i) = b2 (q2 + i)) → ep_wv b q t = ep_wv b2 q2 t
  | 0, _ => rfl
  | t + 1, h => by
    show 27 * ep_wv b q t + (b (q + t) - 96) = 27 * ep_wv b2 q2 t + (b2 (q2 + t) - 96)
    rw [ep_wv_cg b b2 q q2 t (fun i hi => h i (by omega)), h t (by omega)]
theorem ep_mt_v {b : Nat → Nat} {p len k : Nat} (hk : k < 12) (hl : ∀ i, i < len → 97 ≤ b (p + i) ∧ b (p + i) ≤ 122) : ep_mt b p len k ↔ ep_wv b p len = ep_wn (10 + k) := by
  obtain ⟨a1, a2, a3⟩ := ep_wck k hk
  constructor
  · rintro ⟨h1, h2⟩
    rw [← a1, h1]
    refine ep_wv_cg _ _ _ _ _ (fun i hi => ?_)
    have h3 := (a3 i (by omega)).2.2
    rw [h2 i hi] at h3
    have := hl i hi
    have := (a3 i (by omega)).2.1
    exact (nI_eq (by omega) (by omega)).mp h3
  · intro h
    rw [← a1] at h
    obtain ⟨e1, e2⟩ := ep_wv_inj b (ep_wc k) p 0 len _ hl (fun i hi => ⟨(a3 i hi).1, (a3 i hi).2.1⟩) h
    exact ⟨e1.symm, fun i hi => by rw [(a3 i (by omega)).2.2, ← e2 i hi]⟩
theorem ep_mt_y {b : Nat → Nat} {p len k : Nat} (hk : k < 12) (hl : ∀ i, i < len → 97 ≤ b (p + i) ∧ b (p + i) ≤ 122) (h : ep_mt b p len k) : (if 8 < len then 1 else ep_fc (ep_wv b p len)) = 10 + k := by
  have h2 := (ep_wck k hk).2.1
  rw [h.1] at h2
  rw [if_neg (by omega), (ep_mt_v hk hl).mp h, ep_fc_c _ (by omega) (by omega)]
theorem ep_mt_n {b : Nat → Nat} {p len : Nat} (hl : ∀ i, i < len → 97 ≤ b (p + i) ∧ b (p + i) ≤ 122) (h : ∀ k, k < 12 → ¬ ep_mt b p len k) : (if 8 < len then 1 else ep_fc (ep_wv b p len)) = 1 := by
  by_cases h8 : 8 < len
  · rw [if_pos h8]
  rw [if_neg h8]
  rcases ep_fc_in (ep_wv b p len) with q | ⟨q1, q2, q3⟩
  · exact q
  · exact absurd ((ep_mt_v (k := ep_fc (ep_wv b p len) - 10) (by omega) hl).mpr (by rw [show 10 + (ep_fc (ep_wv b p len) - 10) = ep_fc (ep_wv b p len) by omega]; exact q3.symm)) (h _ (by omega))
set_option maxRecDepth 20000 in
theorem c_X7_wordAt (G : EzG) (d : Nat) (k : Nat) (M : EzM) (hk : k < 12) : Ezc G mX7_wordAt d [eI (nI k)] M (fun r M' => r = some (eR 100 k) ∧ M' = M) := by
  refine Ezc.of (by decide +kernel) (Nat.le_of_ble_eq_true rfl) ?_
  show Ez G mX7_wordAt d 0 [(0, eI (nI k))] [] M _
  refine ez_iload_n 1 dX7_wordAt_0 rfl rfl ?_
  by_cases e1_0 : k = 0
  · subst e1_0
    refine ez_tabIn (off := 59) 60 dX7_wordAt_1 (by decide) (by decide) (by decide) (by decide) ?_
    refine ez_ldcS 62 0 dX7_wordAt_60 rfl (by decide) rfl rfl ?_
    refine ez_aret (.object "java/lang/String") dX7_wordAt_62 rfl (Or.inl ⟨_, rfl⟩) ?_
    exact ⟨rfl, rfl⟩
  by_cases e1_1 : k = 1
  · subst e1_1
    refine ez_tabIn (off := 62) 63 dX7_wordAt_1 (by decide) (by decide) (by decide) (by decide) ?_
    refine ez_ldcS 65 1 dX7_wordAt_63 rfl (by decide) rfl rfl ?_
    refine ez_aret (.object "java/lang/String") dX7_wordAt_65 rfl (Or.inl ⟨_, rfl⟩) ?_
    exact ⟨rfl, rfl⟩
  by_cases e1_2 : k = 2
  · subst e1_2
    refine ez_tabIn (off := 65) 66 dX7_wordAt_1 (by decide) (by decide) (by decide) (by decide) ?_
    refine ez_ldcS 68 2 dX7_wordAt_66 rfl (by decide) rfl rfl ?_
    refine ez_aret (.object "java/lang/String") dX7_wordAt_68 rfl (Or.inl ⟨_, rfl⟩) ?_
    exact ⟨rfl, rfl⟩
  by_cases e1_3 : k = 3
  · subst e1_3
    refine ez_tabIn (off := 68) 69 dX7_wordAt_1 (by decide) (by decide) (by decide) (by decide) ?_
    refine ez_ldcS 71 3 dX7_wordAt_69 rfl (by decide) rfl rfl ?_
    refine ez_aret (.object "java/lang/String") dX7_wordAt_71 rfl (Or.inl ⟨_, rfl⟩) ?_
    exact ⟨rfl, rfl⟩
  by_cases e1_4 : k = 4
  · subst e1_4
    refine ez_tabIn (off := 71) 72 dX7_wordAt_1 (by decide) (by decide) (by decide) (by decide) ?_
    refine ez_ldcS 74 4 dX7_wordAt_72 rfl (by decide) rfl rfl ?_
    refine ez_aret (.object "java/lang/String") dX7_wordAt_74 rfl (Or.inl ⟨_, rfl⟩) ?_
    exact ⟨rfl, rfl⟩
  by_cases e1_5 : k = 5
  · subst e1_5
    refine ez_tabIn (off := 74) 75 dX7_wordAt_1 (by decide) (by decide) (by decide) (by decide) ?_
    refine ez_ldcS 77 5 dX7_wordAt_75 rfl (by decide) rfl rfl ?_
    refine ez_aret (.object "java/lang/String") dX7_wordAt_77 rfl (Or.inl ⟨_, rfl⟩) ?_
    exact ⟨rfl, rfl⟩
  by_cases e1_6 : k = 6
  · subst e1_6
    refine ez_tabIn (off := 77) 78 dX7_wordAt_1 (by decide) (by decide) (by decide) (by decide) ?_
    refine ez_ldcS 80 6 dX7_wordAt_78 rfl (by decide) rfl rfl ?_
    refine ez_aret (.object "java/lang/String") dX7_wordAt_80 rfl (Or.inl ⟨_, rfl⟩) ?_
    exact ⟨rfl, rfl⟩
  by_cases e1_7 : k = 7
  · subst e1_7
    refine ez_tabIn (off := 80) 81 dX7_wordAt_1 (by decide) (by decide) (by decide) (by decide) ?_
    refine ez_ldcS 83 7 dX7_wordAt_81 rfl (by decide) rfl rfl ?_
    refine ez_aret (.object "java/lang/String") dX7_wordAt_83 rfl (Or.inl ⟨_, rfl⟩) ?_
    exact ⟨rfl, rfl⟩
  by_cases e1_8 : k = 8
  · subst e1_8
    refine ez_tabIn (off := 83) 84 dX7_wordAt_1 (by decide) (by decide) (by decide) (by decide) ?_
    refine ez_ldcS 86 8 dX7_wordAt_84 rfl (by decide) rfl rfl ?_
    refine ez_aret (.object "java/lang/String") dX7_wordAt_86 rfl (Or.inl ⟨_, rfl⟩) ?_
    exact ⟨rfl, rfl⟩
  by_cases e1_9 : k = 9
  · subst e1_9
    refine ez_tabIn (off := 86) 87 dX7_wordAt_1 (by decide) (by decide) (by decide) (by decide) ?_
    refine ez_ldcS 89 9 dX7_wordAt_87 rfl (by decide) rfl rfl ?_
    refine ez_aret (.object "java/lang/String") dX7_wordAt_89 rfl (Or.inl ⟨_, rfl⟩) ?_
    exact ⟨rfl, rfl⟩
  by_cases e1_10 : k = 10
  · subst e1_10
    refine ez_tabIn (off := 89) 90 dX7_wordAt_1 (by decide) (by decide) (by decide) (by decide) ?_
    refine ez_ldcS 92 10 dX7_wordAt_90 rfl (by decide) rfl rfl ?_
    refine ez_aret (.object "java/lang/String") dX7_wordAt_92 rfl (Or.inl ⟨_, rfl⟩) ?_
    exact ⟨rfl, rfl⟩
  refine ez_tabOut 93 dX7_wordAt_1 (by rw [nI_toInt (by omega)]; omega) (by decide) ?_
  refine ez_ldcS 95 11 dX7_wordAt_93 rfl (by decide) rfl rfl ?_
  refine ez_aret (.object "java/lang/String") dX7_wordAt_95 rfl (Or.inl ⟨_, rfl⟩) ?_
  exact ⟨by rw [show k = 11 by omega], rfl⟩
set_option maxRecDepth 20000 in
theorem lp_word1 (G : EzG) (d : Nat) (n p e k : Nat) (b : Nat → Nat) (P : Option EzV → EzM → Prop) (M : EzM) (hd : 5 ≤ d) (hn : n ≤ 160) (hp : p ≤ e) (he : e ≤ n) (hby : ∀ i, p ≤ i → i < e → ep_by M i = nI (b i)) (hk : k < 12) (K : ∀ s, s < 2 → (s = 1 ↔ ep_mt b p (e - p) k) → Ez G mX7_wordOf d 81 [(5, eI (nI s)), (0, eR 7 0), (1, eI (nI p)), (2, eI (nI e)), (3, eI (nI k))] [] M P) : ∀ (z : Nat) (i : Nat) (s : Nat), 40 - i = z → i ≤ ez_sn.getD k 0 → s < 2 → (s = 1 ↔ (ez_sn.getD k 0 = e - p ∧ ∀ j, j < i → ez_ch k j = nI (b (p + j)))) → Ez G mX7_wordOf d 35 [(6, eI (nI i)), (5, eI (nI s)), (4, eR 100 k), (0, eR 7 0), (1, eI (nI p)), (2, eI (nI e)), (3, eI (nI k))] [] M (P) := by
  intro z
  induction z using Nat.strongRecOn with
  | ind z ih =>
    intro i s hz hi hs2 hs
    have h31 := ez_sn31 k (by omega)
    have h8 := (ep_wck k hk).2.1
    refine ez_iload 37 dX7_wordOf_35 rfl rfl ?_
    refine ez_aload 39 dX7_wordOf_37 rfl rfl ?_
    refine ez_callVX 42 [] [eI (nI i)] dX7_wordOf_39 rfl rfl ok_J0_length_8abf5 in_J0_length_8abf5 (ez_strR (by omega)) ln_X7_93 (by omega) (Nat.le_of_ble_eq_true rfl) (c_length G (d - 1) k M (by omega) (by omega)) (fun r39 M39 q39 => ?_)
    obtain ⟨rfl, e39⟩ := q39
    rw [e39]
    show Ez G mX7_wordOf d 42 [(6, eI (nI i)), (5, eI (nI s)), (4, eR 100 k), (0, eR 7 0), (1, eI (nI p)), (2, eI (nI e)), (3, eI (nI k))] [eI (nI (ez_sn.getD k 0)), eI (nI i)] M _
    refine ez_ncmp_ge 45 81 dX7_wordOf_42 rfl (by decide) (by omega) (by omega) (fun h42 => ?_) (fun h42 => ?_)
    · refine ez_drop [(5, eI (nI s)), (0, eR 7 0), (1, eI (nI p)), (2, eI (nI e)), (3, eI (nI k))] (by simp) ?_
      exact K s (by omega) ⟨fun q9 => by obtain ⟨q1, q2⟩ := hs.mp q9; exact ⟨q1, fun j hj => q2 j (by omega)⟩, fun q9 => hs.mpr ⟨q9.1, fun j hj => q9.2 j (by have := q9.1; omega)⟩⟩
    · refine ez_iload 47 dX7_wordOf_45 rfl rfl ?_
      refine ez_nif_eq 50 81 dX7_wordOf_47 rfl (by decide) (by omega) (fun h47 => ?_) (fun h47 => ?_)
      · refine ez_drop [(5, eI (nI s)), (0, eR 7 0), (1, eI (nI p)), (2, eI (nI e)), (3, eI (nI k))] (by simp) ?_
        exact K s (by omega) ⟨fun q9 => by omega, fun q9 => by have := hs.mpr ⟨q9.1, fun j hj => q9.2 j (by have := q9.1; omega)⟩; omega⟩
      · have hs0 := (hs.mp (by omega)).1
        refine ez_aload 52 dX7_wordOf_50 rfl rfl ?_
        refine ez_iload 54 dX7_wordOf_52 rfl rfl ?_
        refine ez_callVX 57 [eI (nI i)] [] dX7_wordOf_54 rfl rfl ok_J0_charAt_5068e in_J0_charAt_5068e (ez_strR (by omega)) ln_X7_99 (by omega) (Nat.le_of_ble_eq_true rfl) (c_charAt G (d - 1) k i M (by omega) (by omega) (by omega)) (fun r54 M54 q54 => ?_)
        obtain ⟨rfl, e54⟩ := q54
        rw [e54]
        show Ez G mX7_wordOf d 57 [(6, eI (nI i)), (5, eI (nI s)), (4, eR 100 k), (0, eR 7 0), (1, eI (nI p)), (2, eI (nI e)), (3, eI (nI k))] [eI (ez_ch k i)] M _
        refine ez_aload_n 58 dX7_wordOf_57 rfl rfl ?_
        refine ez_iload_n 59 dX7_wordOf_58 rfl rfl ?_
        refine ez_iload 61 dX7_wordOf_59 rfl rfl ?_
        refine ez_iadd 62 dX7_wordOf_61 rfl ?_
        refine ez_top (nI (p + i)) (nI_add _ _) ?_
        refine ez_callV 65 [eI (nI (p + i))] [eI (ez_ch k i)] dX7_wordOf_62 rfl rfl ok_X7_byteAt in_X7_byteAt (by decide) (by show 0 < 1; omega) ln_X7_59 (by omega) (Nat.le_of_ble_eq_true rfl) (c_X7_byteAt G (d - 1) (p + i) M (by omega)) (fun r62 M62 q62 => ?_)
        obtain ⟨rfl, e62⟩ := q62
        rw [e62, show ep_by M (p + i) = nI (b (p + i)) from (hby (p + i) (by omega) (by omega))]
        show Ez G mX7_wordOf d 65 [(6, eI (nI i)), (5, eI (nI s)), (4, eR 100 k), (0, eR 7 0), (1, eI (nI p)), (2, eI (nI e)), (3, eI (nI k))] [eI (nI (b (p + i))), eI (ez_ch k i)] M _
        refine ez_icmp_ne 68 72 dX7_wordOf_65 rfl (by decide) (fun h65 => ?_) (fun h65 => ?_)
        · refine ez_iconst 73 dX7_wordOf_72 rfl (nI 0) (by decide) ?_
          refine ez_istore 75 [(5, eI (nI 0)), (6, eI (nI i)), (4, eR 100 k), (0, eR 7 0), (1, eI (nI p)), (2, eI (nI e)), (3, eI (nI k))] dX7_wordOf_73 rfl (by decide) rfl ?_
          refine ez_iinc 78 (nI (i + 1)) [(6, eI (nI (i + 1))), (5, eI (nI 0)), (4, eR 100 k), (0, eR 7 0), (1, eI (nI p)), (2, eI (nI e)), (3, eI (nI k))] dX7_wordOf_75 rfl rfl (nI_add i 1) (by decide) rfl ?_
          refine ez_goto 35 dX7_wordOf_78 (by decide) ?_
          have hs1 := hs.mp (by omega)
          exact ih (40 - (i + 1)) (by omega) (i + 1) 0 rfl (by omega) (by omega) ⟨fun q9 => by omega, fun q9 => absurd (q9.2 i (by omega)) h65⟩
        · refine ez_iconst 69 dX7_wordOf_68 rfl (nI 1) (by decide) ?_
          refine ez_goto 73 dX7_wordOf_69 (by decide) ?_
          refine ez_istore 75 [(5, eI (nI 1)), (6, eI (nI i)), (4, eR 100 k), (0, eR 7 0), (1, eI (nI p)), (2, eI (nI e)), (3, eI (nI k))] dX7_wordOf_73 rfl (by decide) rfl ?_
          refine ez_iinc 78 (nI (i + 1)) [(6, eI (nI (i + 1))), (5, eI (nI 1)), (4, eR 100 k), (0, eR 7 0), (1, eI (nI p)), (2, eI (nI e)), (3, eI (nI k))] dX7_wordOf_75 rfl rfl (nI_add i 1) (by decide) rfl ?_
          refine ez_goto 35 dX7_wordOf_78 (by decide) ?_
          have hs1 := hs.mp (by omega)
          exact ih (40 - (i + 1)) (by omega) (i + 1) 1 rfl (by omega) (by omega) ⟨fun _ => ⟨hs1.1, fun j hj => by
            by_cases ej : j = i
            · rw [ej]; exact h65
            · exact hs1.2 j (by omega)⟩, fun _ => rfl⟩
set_option maxRecDepth 20000 in
theorem lp_word (G : EzG) (d : Nat) (n p e : Nat) (b : Nat → Nat) (M : EzM) (hd : 5 ≤ d) (hn : n ≤ 160) (hp : p ≤ e) (he : e ≤ n) (hby : ∀ i, p ≤ i → i < e → ep_by M i = nI (b i)) (hl : ∀ i, i < e - p → 97 ≤ b (p + i) ∧ b (p + i) ≤ 122) : ∀ (z : Nat) (k : Nat), 12 - k = z → k ≤ 12 → (∀ j, j < k → ¬ ep_mt b p (e - p) j) → Ez G mX7_wordOf d 2 [(3, eI (nI k)), (0, eR 7 0), (1, eI (nI p)), (2, eI (nI e))] [] M (fun r M' => r = some (eI (nI (if 8 < e - p then 1 else ep_fc (ep_wv b p (e - p))))) ∧ M' = M) := by
  intro z
  induction z using Nat.strongRecOn with
  | ind z ih =>
    intro k hz hk2 hm
    refine ez_iload_n 3 dX7_wordOf_2 rfl rfl ?_
    refine ez_bipush 5 dX7_wordOf_3 rfl (nI 12) (by decide) ?_
    refine ez_ncmp_ge 8 97 dX7_wordOf_5 rfl (by decide) (by omega) (by omega) (fun h5 => ?_) (fun h5 => ?_)
    · refine ez_iconst 98 dX7_wordOf_97 rfl (nI 1) (by decide) ?_
      refine ez_iret .int dX7_wordOf_98 rfl rfl ?_
      exact ⟨by rw [ep_mt_n hl (fun j hj => hm j (by omega))], rfl⟩
    · have hk : k < 12 := by omega
      have h31 := ez_sn31 k (by omega)
      refine ez_iload_n 9 dX7_wordOf_8 rfl rfl ?_
      refine ez_callS 12 [eI (nI k)] [] dX7_wordOf_9 rfl rfl ok_X7_wordAt st_X7_wordAt ln_X7_89 (by omega) (Nat.le_of_ble_eq_true rfl) (c_X7_wordAt G (d - 1) k M (by omega)) (fun r9 M9 q9 => ?_)
      obtain ⟨rfl, e9⟩ := q9
      rw [e9]
      show Ez G mX7_wordOf d 12 [(3, eI (nI k)), (0, eR 7 0), (1, eI (nI p)), (2, eI (nI e))] [eR 100 k] M _
      refine ez_astore 14 [(4, eR 100 k), (3, eI (nI k)), (0, eR 7 0), (1, eI (nI p)), (2, eI (nI e))] dX7_wordOf_12 rfl (by decide) rfl ?_
      refine ez_aload 16 dX7_wordOf_14 rfl rfl ?_
      refine ez_callVX 19 [] [] dX7_wordOf_16 rfl rfl ok_J0_length_8abf5 in_J0_length_8abf5 (ez_strR (by omega)) ln_X7_93 (by omega) (Nat.le_of_ble_eq_true rfl) (c_length G (d - 1) k M (by omega) (by omega)) (fun r16 M16 q16 => ?_)
      obtain ⟨rfl, e16⟩ := q16
      rw [e16]
      show Ez G mX7_wordOf d 19 [(4, eR 100 k), (3, eI (nI k)), (0, eR 7 0), (1, eI (nI p)), (2, eI (nI e))] [eI (nI (ez_sn.getD k 0))] M _
      refine ez_iload_n 20 dX7_wordOf_19 rfl rfl ?_
      refine ez_iload_n 21 dX7_wordOf_20 rfl rfl ?_
      refine ez_isub 22 dX7_wordOf_21 rfl ?_
      refine ez_top (nI (e - p)) (pk_sub (by omega)) ?_
      refine ez_ncmp_ne 25 29 dX7_wordOf_22 rfl (by decide) (by omega) (by omega) (fun h22 => ?_) (fun h22 => ?_)
      · refine ez_iconst 30 dX7_wordOf_29 rfl (nI 0) (by decide) ?_
        refine ez_istore 32 [(5, eI (nI 0)), (4, eR 100 k), (3, eI (nI k)), (0, eR 7 0), (1, eI (nI p)), (2, eI (nI e))] dX7_wordOf_30 rfl (by decide) rfl ?_
        refine ez_iconst 33 dX7_wordOf_32 rfl (nI 0) (by decide) ?_
        refine ez_istore 35 [(6, eI (nI 0)), (5, eI (nI 0)), (4, eR 100 k), (3, eI (nI k)), (0, eR 7 0), (1, eI (nI p)), (2, eI (nI e))] dX7_wordOf_33 rfl (by decide) rfl ?_
        have h8 := (ep_wck k hk).2.1
        refine ez_drop [(6, eI (nI 0)), (5, eI (nI 0)), (4, eR 100 k), (0, eR 7 0), (1, eI (nI p)), (2, eI (nI e)), (3, eI (nI k))] (by simp) ?_
        refine lp_word1 G d n p e k b _ M (by omega) hn hp he hby hk ?_ _ 0 0 rfl (by omega) (by omega) ⟨fun q9 => by omega, fun q9 => absurd q9.1 h22⟩
        intro s hs2 hs
        refine ez_iload 83 dX7_wordOf_81 rfl rfl ?_
        refine ez_nif_eq 86 91 dX7_wordOf_83 rfl (by decide) (by omega) (fun h83 => ?_) (fun h83 => ?_)
        · refine ez_iinc 94 (nI (k + 1)) [(3, eI (nI (k + 1))), (5, eI (nI s)), (0, eR 7 0), (1, eI (nI p)), (2, eI (nI e))] dX7_wordOf_91 rfl rfl (nI_add k 1) (by decide) rfl ?_
          refine ez_goto 2 dX7_wordOf_94 (by decide) ?_
          refine ez_drop [(3, eI (nI (k + 1))), (0, eR 7 0), (1, eI (nI p)), (2, eI (nI e))] (by simp) ?_
          exact ih (12 - (k + 1)) (by omega) (k + 1) rfl (by omega) (fun j hj q9 => by
            by_cases ej : j = k
            · rw [ej] at q9; have := hs.mpr q9; omega
            · exact hm j (by omega) q9)
        · refine ez_bipush 88 dX7_wordOf_86 rfl (nI 10) (by decide) ?_
          refine ez_iload_n 89 dX7_wordOf_88 rfl rfl ?_
          refine ez_iadd 90 dX7_wordOf_89 rfl ?_
          refine ez_top (nI (10 + k)) (nI_add _ _) ?_
          refine ez_iret .int dX7_wordOf_90 rfl rfl ?_
          exact ⟨by rw [ep_mt_y (by omega) hl (hs.mp (by omega))], rfl⟩
      · refine ez_iconst 26 dX7_wordOf_25 rfl (nI 1) (by decide) ?_
        refine ez_goto 30 dX7_wordOf_26 (by decide) ?_
        refine ez_istore 32 [(5, eI (nI 1)), (4, eR 100 k), (3, eI (nI k)), (0, eR 7 0), (1, eI (nI p)), (2, eI (nI e))] dX7_wordOf_30 rfl (by decide) rfl ?_
        refine ez_iconst 33 dX7_wordOf_32 rfl (nI 0) (by decide) ?_
        refine ez_istore 35 [(6, eI (nI 0)), (5, eI (nI 1)), (4, eR 100 k), (3, eI (nI k)), (0, eR 7 0), (1, eI (nI p)), (2, eI (nI e))] dX7_wordOf_33 rfl (by decide) rfl ?_
        have h8 := (ep_wck k hk).2.1
        refine ez_drop [(6, eI (nI 0)), (5, eI (nI 1)), (4, eR 100 k), (0, eR 7 0), (1, eI (nI p)), (2, eI (nI e)), (3, eI (nI k))] (by simp) ?_
        refine lp_word1 G d n p e k b _ M (by omega) hn hp he hby hk ?_ _ 0 1 rfl (by omega) (by omega) ⟨fun _ => ⟨h22, fun j hj => by omega⟩, fun _ => rfl⟩
        intro s hs2 hs
        refine ez_iload 83 dX7_wordOf_81 rfl rfl ?_
        refine ez_nif_eq 86 91 dX7_wordOf_83 rfl (by decide) (by omega) (fun h83 => ?_) (fun h83 => ?_)
        · refine ez_iinc 94 (nI (k + 1)) [(3, eI (nI (k + 1))), (5, eI (nI s)), (0, eR 7 0), (1, eI (nI p)), (2, eI (nI e))] dX7_wordOf_91 rfl rfl (nI_add k 1) (by decide) rfl ?_
          refine ez_goto 2 dX7_wordOf_94 (by decide) ?_
          refine ez_drop [(3, eI (nI (k + 1))), (0, eR 7 0), (1, eI (nI p)), (2, eI (nI e))] (by simp) ?_
          exact ih (12 - (k + 1)) (by omega) (k + 1) rfl (by omega) (fun j hj q9 => by
            by_cases ej : j = k
            · rw [ej] at q9; have := hs.mpr q9; omega
            · exact hm j (by omega) q9)
        · refine ez_bipush 88 dX7_wordOf_86 rfl (nI 10) (by decide) ?_
          refine ez_iload_n 89 dX7_wordOf_88 rfl rfl ?_
          refine ez_iadd 90 dX7_wordOf_89 rfl ?_
          refine ez_top (nI (10 + k)) (nI_add _ _) ?_
          refine ez_iret .int dX7_wordOf_90 rfl rfl ?_
          exact ⟨by rw [ep_mt_y (by omega) hl (hs.mp (by omega))], rfl⟩
set_option maxRecDepth 20000 in
theorem c_X7_wordOf (G : EzG) (d : Nat) (n p e : Nat) (b : Nat → Nat) (M : EzM) (hd : 5 ≤ d) (hn : n ≤ 160) (hp : p ≤ e) (he : e ≤ n) (hby : ∀ i, p ≤ i → i < e → ep_by M i = nI (b i)) (hl : ∀ i, i < e - p → 97 ≤ b (p + i) ∧ b (p + i) ≤ 122) : Ezc G mX7_wordOf d [eR 7 0, eI (nI p), eI (nI e)] M (fun r M' => r = some (eI (nI (if 8 < e - p then 1 else ep_fc (ep_wv b p (e - p))))) ∧ M' = M) := by
  refine Ezc.of (by decide +kernel) (Nat.le_of_ble_eq_true rfl) ?_
  show Ez G mX7_wordOf d 0 [(0, eR 7 0), (1, eI (nI p)), (2, eI (nI e))] [] M _
  refine ez_iconst 1 dX7_wordOf_0 rfl (nI 0) (by decide) ?_
  refine ez_istore_n 2 [(3, eI (nI 0)), (0, eR 7 0), (1, eI (nI p)), (2, eI (nI e))] dX7_wordOf_1 rfl (by decide) rfl ?_
  exact lp_word G d n p e b M hd hn hp he hby hl _ 0 rfl (by omega) (fun j hj => by omega)
