/-! all: the tour -/
theorem er_smd : ∀ r, r < 32 → ((nI r &&& 31).toBitVec.smod 32).toNat = r := by decide +kernel
theorem er_and2 (a b : Nat) : nI a &&& nI b = nI (a &&& b) := by
  apply Int32.toBitVec_inj.mp
  show BitVec.ofNat 32 a &&& BitVec.ofNat 32 b = BitVec.ofNat 32 (a &&& b)
  exact (BitVec.ofNat_and ..).symm
theorem er_andm (a k : Nat) : nI a &&& nI (2 ^ k - 1) = nI (a % 2 ^ k) := by rw [er_and2, Nat.and_two_pow_sub_one_eq_mod]
theorem er_shr {a k : Nat} (ha : a < 2 ^ 31) (hk : k < 32) : nI a >>> (nI k &&& 31) = nI (a / 2 ^ k) := pk_shrN ha _ k (er_smd k hk)
theorem er_shl {a k : Nat} (hk : k < 32) (h : a * 2 ^ k < 2 ^ 32) : nI a <<< (nI k &&& 31) = nI (a * 2 ^ k) := pk_shlN _ k (er_smd k hk) h
theorem er_pko {a b k : Nat} (h : b < 2 ^ k) : nI (a * 2 ^ k) ||| nI b = nI (a * 2 ^ k + b) := by
  rw [fa_or2, ← Nat.shiftLeft_eq, ← Nat.shiftLeft_add_eq_or_of_lt h]
def er_cp (p s : Nat) : Nat := s / 2 ^ (p + 1) * 2 ^ p + s % 2 ^ p
def er_ix (r x : Nat) : Nat := if x < r then x else x - 1
def er_en (r nd : Nat) : Nat := if nd / 1024 = r then er_cp r (nd % 1024) else 512 + 256 * er_ix r (nd / 1024) + er_cp (er_ix r (nd / 1024)) (er_cp r (nd % 1024))
theorem er_cp_lt {p s k : Nat} (hp : p ≤ k) (hs : s < 2 ^ (k + 1)) : er_cp p s < 2 ^ k := by
  unfold er_cp
  have h1 : s / 2 ^ (p + 1) < 2 ^ (k - p) := by
    apply Nat.div_lt_of_lt_mul
    rw [← Nat.pow_add]
    rw [show p + 1 + (k - p) = k + 1 by omega]
    exact hs
  have h2 : s % 2 ^ p < 2 ^ p := Nat.mod_lt _ (Nat.two_pow_pos p)
  have h3 : (s / 2 ^ (p + 1) + 1) * 2 ^ p ≤ 2 ^ (k - p) * 2 ^ p := Nat.mul_le_mul_right _ h1
  rw [← Nat.pow_add, show k - p + p = k by omega, Nat.add_mul, Nat.one_mul] at h3
  omega
theorem er_cp_inj {p s t : Nat} (h1 : s / 2 ^ p % 2 = 1) (h2 : t / 2 ^ p % 2 = 1) (h : er_cp p s = er_cp p t) : s = t := by
  unfold er_cp at h
  have hp := Nat.two_pow_pos p
  have a1 : s % 2 ^ p < 2 ^ p := Nat.mod_lt _ hp
  have a2 : t % 2 ^ p < 2 ^ p := Nat.mod_lt _ hp
  have q1 : s / 2 ^ (p + 1) = s / 2 ^ p / 2 := by rw [Nat.pow_succ, Nat.div_div_eq_div_mul]
  have q2 : t / 2 ^ (p + 1) = t / 2 ^ p / 2 := by rw [Nat.pow_succ, Nat.div_div_eq_div_mul]
  have e1 := Nat.div_add_mod s (2 ^ p)
  have e2 := Nat.div_add_mod t (2 ^ p)
  rw [q1, q2] at h
  have k1 : (s / 2 ^ p / 2 * 2 ^ p + s % 2 ^ p) / 2 ^ p = s / 2 ^ p / 2 := by rw [Nat.mul_comm, Nat.mul_add_div hp, Nat.div_eq_of_lt a1, Nat.add_zero]
  have k2 : (t / 2 ^ p / 2 * 2 ^ p + t % 2 ^ p) / 2 ^ p = t / 2 ^ p / 2 := by rw [Nat.mul_comm, Nat.mul_add_div hp, Nat.div_eq_of_lt a2, Nat.add_zero]
  have k3 : s / 2 ^ p / 2 = t / 2 ^ p / 2 := by rw [← k1, ← k2, h]
  rw [k3] at h
  have k4 : s % 2 ^ p = t % 2 ^ p := Nat.add_left_cancel h
  have k5 : s / 2 ^ p = t / 2 ^ p := by omega
  rw [← e1, ← e2, k4, k5]
theorem er_cp_bit : ∀ r, r < 10 → ∀ x, x < 10 → x ≠ r → ∀ s, s < 1024 → er_cp r s / 2 ^ er_ix r x % 2 = s / 2 ^ x % 2 := by
  intro r hr x hx hne s _
  unfold er_cp er_ix
  have hp := Nat.two_pow_pos r
  have a1 : s % 2 ^ r < 2 ^ r := Nat.mod_lt _ hp
  by_cases q : x < r
  · rw [if_pos q]
    have e : (s / 2 ^ (r + 1) * 2 ^ r + s % 2 ^ r).testBit x = s.testBit x := by
      rw [Nat.mul_comm, Nat.testBit_two_pow_mul_add _ a1, if_pos q, Nat.testBit_mod_two_pow]
      simp [q]
    rw [Nat.testBit_eq_decide_div_mod_eq, Nat.testBit_eq_decide_div_mod_eq] at e
    have e2 := decide_eq_decide.mp e
    have m1 := Nat.mod_lt ((s / 2 ^ (r + 1) * 2 ^ r + s % 2 ^ r) / 2 ^ x) (show 0 < 2 by decide)
    have m2 := Nat.mod_lt (s / 2 ^ x) (show 0 < 2 by decide)
    omega
  · rw [if_neg q]
    have e : (s / 2 ^ (r + 1) * 2 ^ r + s % 2 ^ r).testBit (x - 1) = s.testBit x := by
      rw [Nat.mul_comm, Nat.testBit_two_pow_mul_add _ a1, if_neg (by omega), Nat.testBit_div_two_pow]
      rw [show x - 1 - r + (r + 1) = x by omega]
    rw [Nat.testBit_eq_decide_div_mod_eq, Nat.testBit_eq_decide_div_mod_eq] at e
    have e2 := decide_eq_decide.mp e
    have m1 := Nat.mod_lt ((s / 2 ^ (r + 1) * 2 ^ r + s % 2 ^ r) / 2 ^ (x - 1)) (show 0 < 2 by decide)
    have m2 := Nat.mod_lt (s / 2 ^ x) (show 0 < 2 by decide)
    omega
theorem er_en_lt {n r : Nat} {e : BfE} (hn : n ≤ 10) (hr : r < n) (h : a_I n r e) : er_en r e.1 < 2816 := by
  obtain ⟨h1, h2, h3, h4⟩ := h
  have s10 : e.1 % 1024 < 2 ^ (9 + 1) := by omega
  have c1 := er_cp_lt (p := r) (k := 9) (by omega) s10
  unfold er_en
  by_cases q : e.1 / 1024 = r
  · rw [if_pos q]; omega
  · rw [if_neg q]
    have i9 : er_ix r (e.1 / 1024) ≤ 8 := by unfold er_ix; split <;> omega
    have c2 := er_cp_lt (p := er_ix r (e.1 / 1024)) (k := 8) i9 c1
    omega
theorem er_en_inj {n r : Nat} {e f : BfE} (hn : n ≤ 10) (hr : r < n) (h : a_I n r e) (k : a_I n r f) (he : er_en r e.1 = er_en r f.1) : e.1 = f.1 := by
  obtain ⟨h1, h2, h3, h4⟩ := h
  obtain ⟨k1, k2, k3, k4⟩ := k
  have s10 : e.1 % 1024 < 2 ^ (9 + 1) := by omega
  have t10 : f.1 % 1024 < 2 ^ (9 + 1) := by omega
  have c1 := er_cp_lt (p := r) (k := 9) (by omega) s10
  have c2 := er_cp_lt (p := r) (k := 9) (by omega) t10
  unfold er_en at he
  by_cases q : e.1 / 1024 = r
  · rw [if_pos q] at he
    by_cases q2 : f.1 / 1024 = r
    · rw [if_pos q2] at he
      have := er_cp_inj h3 k3 he
      omega
    · rw [if_neg q2] at he
      omega
  · rw [if_neg q] at he
    have i9 : er_ix r (e.1 / 1024) ≤ 8 := by unfold er_ix; split <;> omega
    have d1 := er_cp_lt (p := er_ix r (e.1 / 1024)) (k := 8) i9 c1
    by_cases q2 : f.1 / 1024 = r
    · rw [if_pos q2] at he
      omega
    · rw [if_neg q2] at he
      have j9 : er_ix r (f.1 / 1024) ≤ 8 := by unfold er_ix; split <;> omega
      have d2 := er_cp_lt (p := er_ix r (f.1 / 1024)) (k := 8) j9 c2
      have x1 : er_ix r (e.1 / 1024) = er_ix r (f.1 / 1024) := by omega
      have x2 : e.1 / 1024 = f.1 / 1024 := by
        unfold er_ix at x1
        split at x1 <;> split at x1 <;> omega
      rw [← x1] at he
      have b1 := er_cp_bit r (by omega) (e.1 / 1024) (by omega) q (e.1 % 1024) (by omega)
      have b2 := er_cp_bit r (by omega) (e.1 / 1024) (by omega) q (f.1 % 1024) (by omega)
      rw [h4] at b1
      rw [x2, k4, ← x2] at b2
      have y1 := er_cp_inj b1 b2 (by omega)
      have y2 := er_cp_inj h3 k3 y1
      omega
theorem a_le {n r : Nat} {B : BfS} (hn : n ≤ 10) (hr : r < n) (hA : Bap B) (hI : ∀ i, i < B.1 → a_I n r (B.2 i)) : B.1 ≤ 2816 := er_pig 2816 B.1 (fun i => er_en r (B.2 i).1) (fun i hi => er_en_lt hn hr (hI i hi)) (fun i j hi hj e => hA i j hi hj (er_en_inj hn hr (hI i hi) (hI j hj) e))
theorem a_lt {n r : Nat} {B : BfS} {e : BfE} (hn : n ≤ 10) (hr : r < n) (hA : Bap B) (hI : ∀ i, i < B.1 → a_I n r (B.2 i)) (he : a_I n r e) (hv : ¬ Bvis B e.1) : B.1 < 2816 := by
  have h2 : Bap (bf_add B e) := hA.add
  have h3 := a_le hn hr h2 (by
    rw [bf_add_new hv]
    intro i hi
    have hi' : i < B.1 + 1 := hi
    show a_I n r (va_up B.2 B.1 e i)
    by_cases q : i = B.1
    · rw [q, va_up_self]; exact he
    · rw [va_up_ne _ _ q]; exact hI i (by omega))
  rw [bf_add_new hv] at h3
  have h4 : B.1 + 1 ≤ 2816 := h3
  omega
def RT (n : Nat) (B : BfS) (M : EzM) : Prop := M.1 8 0 2 = nI B.1 ∧ (∀ i, i < B.1 → M.1 34 0 i = nI (((B.2 i).2.1 * 2 ^ 10 + (B.2 i).1 % 1024) * 2 ^ 4 + (B.2 i).1 / 1024)) ∧ ∀ s, s < 2 ^ n → ∃ v, v < 1024 ∧ M.1 35 0 s = nI v ∧ ∀ r, r < 10 → (v / 2 ^ r % 2 = 1 ↔ Bvis B (1024 * r + s))
def TUF (k i s : Nat) : Prop := k = 8 ∨ k = 34 ∨ k = 35
theorem FX.tufsc {M M' : EzM} (h : FX TUF M M') : FX SC M M' := h.up (fun k i s z => by unfold TUF at z; unfold SC; omega)
theorem er_bit0 (v r k : Nat) (hne : ¬ k = r) : (v ||| 2 ^ r) / 2 ^ k % 2 = v / 2 ^ k % 2 := by
  have e : (v ||| 2 ^ r).testBit k = v.testBit k := by
    rw [Nat.testBit_or, Nat.testBit_two_pow]
    simp [show ¬ r = k by omega]
  rw [Nat.testBit_eq_decide_div_mod_eq, Nat.testBit_eq_decide_div_mod_eq] at e
  have e2 := decide_eq_decide.mp e
  have m1 := Nat.mod_lt ((v ||| 2 ^ r) / 2 ^ k) (show 0 < 2 by decide)
  have m2 := Nat.mod_lt (v / 2 ^ k) (show 0 < 2 by decide)
  omega
theorem RT_new {n : Nat} {B : BfS} {M : EzM} {f s r v : Nat} {w : Int32} (h : RT n B M) (hn : n ≤ 10) (hs : s < 2 ^ n) (hr : r < 10) (hv1 : v < 1024) (hv3 : ∀ r, r < 10 → (v / 2 ^ r % 2 = 1 ↔ Bvis B (1024 * r + s))) (hv : ¬ Bvis B (1024 * r + s)) : RT n (bf_add B (1024 * r + s, f, w)) (ez_st (ez_st (ez_st M 35 0 s (nI (v ||| 2 ^ r))) 34 0 B.1 (nI ((f * 2 ^ 10 + s) * 2 ^ 4 + r))) 8 0 2 (nI (B.1 + 1))) := by
  obtain ⟨a1, a2, a3⟩ := h
  have hb := @Bvis_add B (1024 * r + s, f, w)
  have s10 : s < 1024 := by have := Nat.pow_le_pow_right (show 0 < 2 by decide) hn; omega
  have key : ∀ j, Bvis (bf_add B (1024 * r + s, f, w)) j ↔ (Bvis B j ∨ j = 1024 * r + s) := fun j => hb
  refine ⟨?_, ?_, fun s2 hs2 => ?_⟩
  · rw [bf_add_new hv]; simp [ez_rd]
  · rw [bf_add_new hv]
    intro i hi
    have hi' : i < B.1 + 1 := hi
    have e0 : ((B.1 + 1, va_up B.2 B.1 (1024 * r + s, f, w)) : BfS).2 i = va_up B.2 B.1 (1024 * r + s, f, w) i := rfl
    rw [e0]
    by_cases e : i = B.1
    · rw [e, va_up_self]
      show _ = nI ((f * 2 ^ 10 + (1024 * r + s) % 1024) * 2 ^ 4 + (1024 * r + s) / 1024)
      rw [show (1024 * r + s) % 1024 = s by omega, show (1024 * r + s) / 1024 = r by omega]
      simp [ez_rd]
    · rw [va_up_ne _ _ e, ez_rd, if_neg (by omega), ez_rd, if_neg (by omega), ez_rd, if_neg (by omega)]
      exact a2 i (by omega)
  · have s20 : s2 < 1024 := by have := Nat.pow_le_pow_right (show 0 < 2 by decide) hn; omega
    by_cases e : s2 = s
    · subst e
      refine ⟨v ||| 2 ^ r, (er_or2 r hr v hv1).1, by simp [ez_rd], fun k hk => ?_⟩
      rw [key]
      by_cases q : k = r
      · subst q
        exact ⟨fun _ => Or.inr rfl, fun _ => (er_or2 k hr v hv1).2⟩
      · rw [er_bit0 v r k q, hv3 k hk]
        exact ⟨Or.inl, fun z => z.elim id (fun y => by omega)⟩
    · obtain ⟨u, u1, u2, u3⟩ := a3 s2 hs2
      refine ⟨u, u1, by simp [ez_rd, e, u2], fun k hk => ?_⟩
      rw [key, u3 k hk]
      exact ⟨Or.inl, fun z => z.elim id (fun y => by omega)⟩
set_option maxRecDepth 20000 in
theorem c_X8_add (G : EzG) (d : Nat) {n : Nat} {B : BfS} (f s r : Nat) (M : EzM) (hd : 1 ≤ d) (hn : n ≤ 10) (hf : f ≤ 2816) (hs : s < 2 ^ n) (hr : r < 10) (hL : ¬ Bvis B (1024 * r + s) → B.1 < 2816) (hR : RT n B M) : Ezc G mX8_add d [eR 8 0, eI (nI f), eI (nI s), eI (nI r)] M (fun r' M' => r' = none ∧ RT n (bf_add B (1024 * r + s, f, nI 0)) M' ∧ FX TUF M M') := by
  refine Ezc.of (by decide +kernel) (Nat.le_of_ble_eq_true rfl) ?_
  have s10 : s < 1024 := by have := Nat.pow_le_pow_right (show 0 < 2 by decide) hn; omega
  have m9 := Nat.mod_lt (M.1 35 0 s).toBitVec.toNat (show 0 < 2 by decide)
  show Ez G mX8_add d 0 [(0, eR 8 0), (1, eI (nI f)), (2, eI (nI s)), (3, eI (nI r))] [] M _
  refine ez_iload_n 1 dX8_add_0 rfl rfl ?_
  refine ez_aload_n 2 dX8_add_1 rfl rfl ?_
  refine ez_getf 5 (eR 35 0) dX8_add_2 rfl fl_X8_15 (by show 0 < 1; omega) rfl ?_
  refine ez_alen 6 (nI 1024) dX8_add_5 rfl (by decide) (by show 0 < 1; omega) rfl ?_
  refine ez_callSN 9 [eI (nI s), eI (nI 1024)] [] dX8_add_6 rfl rfl ok_X11_isInside st_X11_isInside "ElevenPebbles" nn_X8_35 (by omega) (Nat.le_of_ble_eq_true rfl) (c_isInside_n G (d - 1) s 1024 M (by omega) (by omega)) (fun r6 M6 q6 => ?_)
  obtain ⟨rfl, e6⟩ := q6
  rw [e6]
  show Ez G mX8_add d 9 [(0, eR 8 0), (1, eI (nI f)), (2, eI (nI s)), (3, eI (nI r))] [eI (nI 1)] M _
  refine ez_nif_eq 12 38 dX8_add_9 rfl (by decide) (by omega) (fun h9 => ?_) (fun h9 => ?_)
  · exact absurd h9 (by decide)
  · obtain ⟨v, hv1, hv2, hv3⟩ := hR.2.2 s hs
    refine ez_aload_n 13 dX8_add_12 rfl rfl ?_
    refine ez_getf 16 (eR 35 0) dX8_add_13 rfl fl_X8_15 (by show 0 < 1; omega) rfl ?_
    refine ez_iload_n 17 dX8_add_16 rfl rfl ?_
    refine ez_ialdN s 18 dX8_add_17 rfl (by decide) (by show 0 < 1; omega) (by show s < 1024; omega) ?_
    refine ez_top (nI v) hv2 ?_
    refine ez_iload_n 19 dX8_add_18 rfl rfl ?_
    refine ez_ishr 20 dX8_add_19 rfl ?_
    refine ez_top (nI (v / 2 ^ r)) (er_shr (by omega) (by omega)) ?_
    refine ez_iconst 21 dX8_add_20 rfl (nI 1) (by decide) ?_
    refine ez_iand 22 dX8_add_21 rfl ?_
    refine ez_top (nI (v / 2 ^ r % 2)) (er_andm _ 1) ?_
    refine ez_nif_ne 25 38 dX8_add_22 rfl (by decide) (by omega) (fun h22 => ?_) (fun h22 => ?_)
    · refine ez_vret dX8_add_38 rfl ?_
      exact ⟨rfl, by rw [bf_add_in ((hv3 r hr).mp (by omega))]; exact hR, FX.rf⟩
    · have hv : ¬ Bvis B (1024 * r + s) := fun z => by have := (hv3 r hr).mpr z; omega
      have hlt := hL hv
      refine ez_aload_n 26 dX8_add_25 rfl rfl ?_
      refine ez_getf 29 (eI (M.1 8 0 2)) dX8_add_26 rfl fl_X8_24 (by show 0 < 1; omega) rfl ?_
      refine ez_top (nI B.1) hR.1 ?_
      refine ez_sipush 32 dX8_add_29 rfl (nI 2816) (by decide) ?_
      refine ez_callSN 35 [eI (nI B.1), eI (nI 2816)] [] dX8_add_32 rfl rfl ok_X11_isInside st_X11_isInside "ElevenPebbles" nn_X8_35 (by omega) (Nat.le_of_ble_eq_true rfl) (c_isInside_n G (d - 1) B.1 2816 M (by omega) (by omega)) (fun r32 M32 q32 => ?_)
      obtain ⟨rfl, e32⟩ := q32
      rw [e32]
      show Ez G mX8_add d 35 [(0, eR 8 0), (1, eI (nI f)), (2, eI (nI s)), (3, eI (nI r))] [eI (nI 1)] M _
      refine ez_nif_ne 38 39 dX8_add_35 rfl (by decide) (by omega) (fun h35 => ?_) (fun h35 => ?_)
      · refine ez_aload_n 40 dX8_add_39 rfl rfl ?_
        refine ez_getf 43 (eR 35 0) dX8_add_40 rfl fl_X8_15 (by show 0 < 1; omega) rfl ?_
        refine ez_iload_n 44 dX8_add_43 rfl rfl ?_
        refine ez_dup2 45 dX8_add_44 rfl rfl rfl ?_
        refine ez_ialdN s 46 dX8_add_45 rfl (by decide) (by show 0 < 1; omega) (by show s < 1024; omega) ?_
        refine ez_top (nI v) hv2 ?_
        refine ez_iconst 47 dX8_add_46 rfl (nI 1) (by decide) ?_
        refine ez_iload_n 48 dX8_add_47 rfl rfl ?_
        refine ez_ishl 49 dX8_add_48 rfl ?_
        refine ez_top (nI (2 ^ r)) (er_shl1 _ (by omega)) ?_
        refine ez_ior 50 dX8_add_49 rfl ?_
        refine ez_top (nI (v ||| 2 ^ r)) (fa_or2 _ _) ?_
        refine ez_iastN s 51 dX8_add_50 rfl (by decide) (by show 0 < 1; omega) (by show s < 1024; omega) ?_
        refine ez_aload_n 52 dX8_add_51 rfl rfl ?_
        refine ez_getf 55 (eR 34 0) dX8_add_52 rfl fl_X8_11 (by show 0 < 1; omega) rfl ?_
        refine ez_aload_n 56 dX8_add_55 rfl rfl ?_
        refine ez_getf 59 (eI (M.1 8 0 2)) dX8_add_56 rfl fl_X8_24 (by show 0 < 1; omega) rfl ?_
        refine ez_top (nI B.1) hR.1 ?_
        refine ez_iload_n 60 dX8_add_59 rfl rfl ?_
        refine ez_bipush 62 dX8_add_60 rfl (nI 10) (by decide) ?_
        refine ez_ishl 63 dX8_add_62 rfl ?_
        refine ez_top (nI (f * 2 ^ 10)) (er_shl (by decide) (by omega)) ?_
        refine ez_iload_n 64 dX8_add_63 rfl rfl ?_
        refine ez_ior 65 dX8_add_64 rfl ?_
        refine ez_top (nI (f * 2 ^ 10 + s)) (er_pko (by omega)) ?_
        refine ez_iconst 66 dX8_add_65 rfl (nI 4) (by decide) ?_
        refine ez_ishl 67 dX8_add_66 rfl ?_
        refine ez_top (nI ((f * 2 ^ 10 + s) * 2 ^ 4)) (er_shl (by decide) (by omega)) ?_
        refine ez_iload_n 68 dX8_add_67 rfl rfl ?_
        refine ez_ior 69 dX8_add_68 rfl ?_
        refine ez_top (nI ((f * 2 ^ 10 + s) * 2 ^ 4 + r)) (er_pko (by omega)) ?_
        refine ez_iastN B.1 70 dX8_add_69 rfl (by decide) (by show 0 < 1; omega) (by show B.1 < 2816; omega) ?_
        refine ez_aload_n 71 dX8_add_70 rfl rfl ?_
        refine ez_dup 72 dX8_add_71 rfl rfl ?_
        refine ez_getf 75 (eI (M.1 8 0 2)) dX8_add_72 rfl fl_X8_24 (by show 0 < 1; omega) rfl ?_
        refine ez_top (nI B.1) hR.1 ?_
        refine ez_iconst 76 dX8_add_75 rfl (nI 1) (by decide) ?_
        refine ez_iadd 77 dX8_add_76 rfl ?_
        refine ez_top (nI (B.1 + 1)) (nI_add _ _) ?_
        refine ez_putf 80 .int dX8_add_77 rfl fp_X8_24 (by show 0 < 1; omega) rfl (by decide) rfl rfl ?_
        refine ez_vret dX8_add_80 rfl ?_
        exact ⟨rfl, RT_new hR hn hs hr hv1 hv3 hv, ((FX.rf.st (by unfold TUF; omega)).st (by unfold TUF; omega)).st (by unfold TUF; omega)⟩
      · exact absurd h35 (by decide)
set_option maxRecDepth 20000 in
theorem lp_least127 (G : EzG) (d : Nat) {B : BfS} {n r : Nat} {lt : Nat → Int32} (m k : Nat) (P : Option EzV → EzM → Prop) (M0 : EzM) (hd : 2 ≤ d) (hm : m < 4) (hwf : WFz n lt) (hr : r < n) (hZ : RCz m n lt M0) (hk : k < B.1) (hA : Bap B) (hI : ∀ i, i < B.1 → a_I n r (B.2 i)) (hfar : Bfar B) (hon : ∀ B2 M', bf_d (a_sf lt) (B.2 k) B 4 = (B2, none) → RT n B2 M' → FX TUF M0 M' → Ez G mX8_least d 178 [(4, eI (nI k)), (3, eI (nI (2 ^ n - 1))), (0, eR 8 0), (1, eR 1 m)] [] M' P) : ∀ (z : Nat) (c : Nat) (B1 : BfS) (M1 : EzM), 4 - c = z → c ≤ 4 → bf_d (a_sf lt) (B.2 k) B c = (B1, none) → RT n B1 M1 → FX TUF M0 M1 → Ez G mX8_least d 127 [(8, eI (nI c)), (7, eI (nI ((B.2 k).2.1))), (6, eI (nI ((B.2 k).1 % 1024))), (5, eI (nI ((B.2 k).1 / 1024))), (4, eI (nI k)), (3, eI (nI (2 ^ n - 1))), (0, eR 8 0), (1, eR 1 m)] [] M1 (P) := by
  intro z
  induction z using Nat.strongRecOn with
  | ind z ih =>
    intro c B1 M1 hz hc hD hR hF
    have n10 := hwf.2.1
    have t1 := (hI k hk).1
    have f9 := hfar k hk
    have A9 : Bap B1 := by have := bf_d_ap (a_sf lt) (B.2 k) hA c; rw [hD] at this; exact this
    have I9 : ∀ i, i < B1.1 → a_I n r (B1.2 i) := by have := bf_d_inv (sf := a_sf lt) (e := B.2 k) hI (fun c e' hc he => a_sf_I hwf _ c e' (hI k hk) hc he) c hc; rw [hD] at this; exact this
    have b101 := a_le n10 hr hA hI
    refine ez_iload 129 dX8_least_127 rfl rfl ?_
    refine ez_iconst 130 dX8_least_129 rfl (nI 4) (by decide) ?_
    refine ez_ncmp_ge 133 178 dX8_least_130 rfl (by decide) (by omega) (by omega) (fun h130 => ?_) (fun h130 => ?_)
    · have e9 : c = 4 := by omega
      subst e9
      refine ez_drop [(4, eI (nI k)), (3, eI (nI (2 ^ n - 1))), (0, eR 8 0), (1, eR 1 m)] (by simp) ?_
      exact hon B1 M1 hD hR hF
    · refine ez_aload_n 134 dX8_least_133 rfl rfl ?_
      refine ez_iload 136 dX8_least_134 rfl rfl ?_
      refine ez_iload 138 dX8_least_136 rfl rfl ?_
      refine ez_callV 141 [eI (nI ((B.2 k).1 / 1024)), eI (nI c)] [] dX8_least_138 rfl rfl ok_X1_target in_X1_target (by decide) (by show m < 4; omega) ln_X8_31 (by omega) (Nat.le_of_ble_eq_true rfl) (c_target_n G (d - 1) m ((B.2 k).1 / 1024) c M1 (by omega) (by show m < 4; omega) (by omega) (by omega)) (fun r138 M138 q138 => ?_)
      obtain ⟨rfl, e138⟩ := q138
      rw [e138, show M1.1 18 m (4 * ((B.2 k).1 / 1024) + c) = lt (4 * ((B.2 k).1 / 1024) + c) from ((hZ.fx hF ⟨by unfold TUF; omega, fun x => by unfold TUF; omega⟩).2.1 _ (by omega))]
      show Ez G mX8_least d 141 [(8, eI (nI c)), (7, eI (nI ((B.2 k).2.1))), (6, eI (nI ((B.2 k).1 % 1024))), (5, eI (nI ((B.2 k).1 / 1024))), (4, eI (nI k)), (3, eI (nI (2 ^ n - 1))), (0, eR 8 0), (1, eR 1 m)] [eI (lt (4 * ((B.2 k).1 / 1024) + c))] M1 _
      refine ez_istore 143 [(9, eI (lt (4 * ((B.2 k).1 / 1024) + c))), (8, eI (nI c)), (7, eI (nI ((B.2 k).2.1))), (6, eI (nI ((B.2 k).1 % 1024))), (5, eI (nI ((B.2 k).1 / 1024))), (4, eI (nI k)), (3, eI (nI (2 ^ n - 1))), (0, eR 8 0), (1, eR 1 m)] dX8_least_141 rfl (by decide) rfl ?_
      refine ez_iload 145 dX8_least_143 rfl rfl ?_
      refine ez_iconst 146 dX8_least_145 rfl (-1) (by decide) ?_
      refine ez_icmp_eq 149 172 dX8_least_146 rfl (by decide) (fun h146 => ?_) (fun h146 => ?_)
      · refine ez_iinc 175 (nI (c + 1)) [(8, eI (nI (c + 1))), (9, eI (lt (4 * ((B.2 k).1 / 1024) + c))), (7, eI (nI ((B.2 k).2.1))), (6, eI (nI ((B.2 k).1 % 1024))), (5, eI (nI ((B.2 k).1 / 1024))), (4, eI (nI k)), (3, eI (nI (2 ^ n - 1))), (0, eR 8 0), (1, eR 1 m)] dX8_least_172 rfl rfl (nI_add c 1) (by decide) rfl ?_
        refine ez_goto 127 dX8_least_175 (by decide) ?_
        refine ez_drop [(8, eI (nI (c + 1))), (7, eI (nI ((B.2 k).2.1))), (6, eI (nI ((B.2 k).1 % 1024))), (5, eI (nI ((B.2 k).1 / 1024))), (4, eI (nI k)), (3, eI (nI (2 ^ n - 1))), (0, eR 8 0), (1, eR 1 m)] (by simp) ?_
        exact ih (4 - (c + 1)) (by omega) (c + 1) B1 M1 rfl (by omega) (bf_d_skip hD (a_sf_skip h146)) hR hF
      · rcases hwf.2.2 ((B.2 k).1 / 1024) c (by omega) (by omega) with z | ⟨-, r1, c1, b1, b2, b3⟩
        · exact absurd z h146
        rw [b3]
        show Ez G mX8_least d 149 [(9, eI (nI (10 * r1 + c1))), (8, eI (nI c)), (7, eI (nI ((B.2 k).2.1))), (6, eI (nI ((B.2 k).1 % 1024))), (5, eI (nI ((B.2 k).1 / 1024))), (4, eI (nI k)), (3, eI (nI (2 ^ n - 1))), (0, eR 8 0), (1, eR 1 m)] [] M1 _
        have s9 := a_sf_new (lt := lt) (e := B.2 k) (c := c) (show 10 * r1 + c1 < 2 ^ 31 by omega) b3
        have I8 := a_sf_I hwf _ c _ (hI k hk) (by omega) s9
        have I7 : ((B.2 k).1 % 1024 ||| 2 ^ ((10 * r1 + c1) / 10)) < 2 ^ n := Nat.or_lt_two_pow (hI k hk).2.1 (Nat.pow_lt_pow_right (by decide) (by omega))
        refine ez_aload_n 150 dX8_least_149 rfl rfl ?_
        refine ez_iload 152 dX8_least_150 rfl rfl ?_
        refine ez_iconst 153 dX8_least_152 rfl (nI 1) (by decide) ?_
        refine ez_iadd 154 dX8_least_153 rfl ?_
        refine ez_top (nI ((B.2 k).2.1 + 1)) (nI_add _ _) ?_
        refine ez_iload 156 dX8_least_154 rfl rfl ?_
        refine ez_iconst 157 dX8_least_156 rfl (nI 1) (by decide) ?_
        refine ez_iload 159 dX8_least_157 rfl rfl ?_
        refine ez_bipush 161 dX8_least_159 rfl (nI 10) (by decide) ?_
        refine ez_idiv 162 dX8_least_161 rfl (by decide) ?_
        refine ez_top (nI ((10 * r1 + c1) / 10)) (pk_div (by omega) (by omega) (by omega)) ?_
        refine ez_ishl 163 dX8_least_162 rfl ?_
        refine ez_top (nI (2 ^ ((10 * r1 + c1) / 10))) (er_shl1 _ (by omega)) ?_
        refine ez_ior 164 dX8_least_163 rfl ?_
        refine ez_top (nI ((B.2 k).1 % 1024 ||| 2 ^ ((10 * r1 + c1) / 10))) (fa_or2 _ _) ?_
        refine ez_iload 166 dX8_least_164 rfl rfl ?_
        refine ez_bipush 168 dX8_least_166 rfl (nI 10) (by decide) ?_
        refine ez_idiv 169 dX8_least_168 rfl (by decide) ?_
        refine ez_top (nI ((10 * r1 + c1) / 10)) (pk_div (by omega) (by omega) (by omega)) ?_
        refine ez_callV 172 [eI (nI ((B.2 k).2.1 + 1)), eI (nI ((B.2 k).1 % 1024 ||| 2 ^ ((10 * r1 + c1) / 10))), eI (nI ((10 * r1 + c1) / 10))] [] dX8_least_169 rfl rfl ok_X8_add in_X8_add (by decide) (by show 0 < 1; omega) ln_X8_27 (by omega) (Nat.le_of_ble_eq_true rfl) (c_X8_add G (d - 1) (n := n) (B := B1) ((B.2 k).2.1 + 1) ((B.2 k).1 % 1024 ||| 2 ^ ((10 * r1 + c1) / 10)) ((10 * r1 + c1) / 10) M1 (by omega) n10 (by omega) I7 (by omega) (fun z => a_lt n10 hr A9 I9 I8 z) hR) (fun r169 M169 q169 => ?_)
        obtain ⟨rfl, T169, f169⟩ := q169
        show Ez G mX8_least d 172 [(9, eI (nI (10 * r1 + c1))), (8, eI (nI c)), (7, eI (nI ((B.2 k).2.1))), (6, eI (nI ((B.2 k).1 % 1024))), (5, eI (nI ((B.2 k).1 / 1024))), (4, eI (nI k)), (3, eI (nI (2 ^ n - 1))), (0, eR 8 0), (1, eR 1 m)] [] M169 _
        refine ez_iinc 175 (nI (c + 1)) [(8, eI (nI (c + 1))), (9, eI (nI (10 * r1 + c1))), (7, eI (nI ((B.2 k).2.1))), (6, eI (nI ((B.2 k).1 % 1024))), (5, eI (nI ((B.2 k).1 / 1024))), (4, eI (nI k)), (3, eI (nI (2 ^ n - 1))), (0, eR 8 0), (1, eR 1 m)] dX8_least_172 rfl rfl (nI_add c 1) (by decide) rfl ?_
        refine ez_goto 127 dX8_least_175 (by decide) ?_
        refine ez_drop [(8, eI (nI (c + 1))), (7, eI (nI ((B.2 k).2.1))), (6, eI (nI ((B.2 k).1 % 1024))), (5, eI (nI ((B.2 k).1 / 1024))), (4, eI (nI k)), (3, eI (nI (2 ^ n - 1))), (0, eR 8 0), (1, eR 1 m)] (by simp) ?_
        exact ih (4 - (c + 1)) (by omega) (c + 1) _ M169 rfl (by omega) (bf_d_new hD s9) T169 (hF.tr f169)
set_option maxRecDepth 20000 in
theorem least_178 (G : EzG) (d : Nat) (m k n : Nat) (P : Option EzV → EzM → Prop) (M1 : EzM) (K : Ez G mX8_least d 59 [(4, eI (nI (k + 1))), (3, eI (nI (2 ^ n - 1))), (0, eR 8 0), (1, eR 1 m)] [] M1 P) : Ez G mX8_least d 178 [(4, eI (nI k)), (3, eI (nI (2 ^ n - 1))), (0, eR 8 0), (1, eR 1 m)] [] M1 (P) := by
  refine ez_iinc 181 (nI (k + 1)) [(4, eI (nI (k + 1))), (3, eI (nI (2 ^ n - 1))), (0, eR 8 0), (1, eR 1 m)] dX8_least_178 rfl rfl (nI_add k 1) (by decide) rfl ?_
  refine ez_goto 59 dX8_least_181 (by decide) ?_
  exact K
set_option maxRecDepth 20000 in
theorem lp_least59 (G : EzG) (d : Nat) {n r : Nat} {lt : Nat → Int32} (m : Nat) (M : EzM) (hd : 2 ≤ d) (hm : m < 4) (hwf : WFz n lt) (hr : r < n) (hZ : RCz m n lt M) : ∀ (z : Nat) (k : Nat) (B1 : BfS) (M1 : EzM), 2816 - k = z → k ≤ 2816 → bf_h (a_sf lt) (bf_0 (1024 * r + 2 ^ r)) k = (B1, none) → RT n B1 M1 → (∀ i, i < k → i < B1.1 → ¬ (B1.2 i).1 % 1024 = 2 ^ n - 1) → FX TUF M M1 → Ez G mX8_least d 59 [(4, eI (nI k)), (3, eI (nI (2 ^ n - 1))), (0, eR 8 0), (1, eR 1 m)] [] M1 (fun r' M' => r' = some (eI (g_v (a_sf lt) (1024 * r + 2 ^ r) (fun e => decide (e.1 % 1024 = 2 ^ n - 1)))) ∧ FX TUF M M') := by
  intro z
  induction z using Nat.strongRecOn with
  | ind z ih =>
    intro k B1 M1 hz hk hH hR hj hF
    have n10 := hwf.2.1
    have o9 := er_or2 r (by omega) 0 (by omega)
    rw [Nat.zero_or] at o9
    have o8 : 2 ^ r < 2 ^ n := Nat.pow_lt_pow_right (by decide) hr
    have i0 : ∀ i, i < (bf_0 (1024 * r + 2 ^ r)).1 → a_I n r ((bf_0 (1024 * r + 2 ^ r)).2 i) := fun i _ => by
      show (1024 * r + 2 ^ r) / 1024 < n ∧ (1024 * r + 2 ^ r) % 1024 < 2 ^ n ∧ (1024 * r + 2 ^ r) % 1024 / 2 ^ r % 2 = 1 ∧ (1024 * r + 2 ^ r) % 1024 / 2 ^ ((1024 * r + 2 ^ r) / 1024) % 2 = 1
      have key : ∀ u, u < 1024 → (1024 * r + u) / 1024 = r ∧ (1024 * r + u) % 1024 = u := fun u hu => ⟨by omega, by omega⟩
      rw [(key _ o9.1).1, (key _ o9.1).2]
      exact ⟨hr, o8, o9.2, o9.2⟩
    have p2 : 2 ^ n ≤ 1024 := by have := Nat.pow_le_pow_right (show 0 < 2 by decide) n10; omega
    have A9 : Bap B1 := by have := bf_h_ap (a_sf lt) (bf_0_ap (1024 * r + 2 ^ r)) k; rw [hH] at this; exact this
    have I9 : ∀ i, i < B1.1 → a_I n r (B1.2 i) := by have := bf_h_inv i0 (a_sf_I hwf) k; rw [hH] at this; exact this
    have F9 : Bfar B1 := by have := bf_h_far (a_sf_far lt) (bf_0_far (1024 * r + 2 ^ r)) k; rw [hH] at this; exact this
    have b101 := a_le n10 hr A9 I9
    refine ez_iload 61 dX8_least_59 rfl rfl ?_
    refine ez_aload_n 62 dX8_least_61 rfl rfl ?_
    refine ez_getf 65 (eI (M1.1 8 0 2)) dX8_least_62 rfl fl_X8_24 (by show 0 < 1; omega) rfl ?_
    refine ez_top (nI B1.1) hR.1 ?_
    refine ez_ncmp_ge 68 184 dX8_least_65 rfl (by decide) (by omega) (by omega) (fun h65 => ?_) (fun h65 => ?_)
    · refine ez_iconst 185 dX8_least_184 rfl (-1) (by decide) ?_
      refine ez_iret .int dX8_least_185 rfl rfl ?_
      exact ⟨by rw [g_v_none (p := (fun e => decide (e.1 % 1024 = 2 ^ n - 1))) hH (by omega) (by omega) (fun i hi => decide_eq_false (hj i (by omega) (by omega)))], hF⟩
    · refine ez_iload 70 dX8_least_68 rfl rfl ?_
      refine ez_sipush 73 dX8_least_70 rfl (nI 2816) (by decide) ?_
      refine ez_ncmp_ge 76 184 dX8_least_73 rfl (by decide) (by omega) (by omega) (fun h73 => ?_) (fun h73 => ?_)
      · exact absurd h73 (by omega)
      · have i8 := (I9 k (by omega)).1
        have f8 := F9 k (by omega)
        refine ez_aload_n 77 dX8_least_76 rfl rfl ?_
        refine ez_getf 80 (eR 34 0) dX8_least_77 rfl fl_X8_11 (by show 0 < 1; omega) rfl ?_
        refine ez_iload 82 dX8_least_80 rfl rfl ?_
        refine ez_ialdN k 83 dX8_least_82 rfl (by decide) (by show 0 < 1; omega) (by show k < 2816; omega) ?_
        refine ez_top (nI (((B1.2 k).2.1 * 2 ^ 10 + (B1.2 k).1 % 1024) * 2 ^ 4 + (B1.2 k).1 / 1024)) (hR.2.1 k (by omega)) ?_
        refine ez_bipush 85 dX8_least_83 rfl (nI 15) (by decide) ?_
        refine ez_iand 86 dX8_least_85 rfl ?_
        refine ez_top (nI ((B1.2 k).1 / 1024)) (by rw [show nI 15 = nI (2 ^ 4 - 1) from rfl, er_andm]; congr 1; omega) ?_
        refine ez_istore 88 [(5, eI (nI ((B1.2 k).1 / 1024))), (4, eI (nI k)), (3, eI (nI (2 ^ n - 1))), (0, eR 8 0), (1, eR 1 m)] dX8_least_86 rfl (by decide) rfl ?_
        refine ez_aload_n 89 dX8_least_88 rfl rfl ?_
        refine ez_getf 92 (eR 34 0) dX8_least_89 rfl fl_X8_11 (by show 0 < 1; omega) rfl ?_
        refine ez_iload 94 dX8_least_92 rfl rfl ?_
        refine ez_ialdN k 95 dX8_least_94 rfl (by decide) (by show 0 < 1; omega) (by show k < 2816; omega) ?_
        refine ez_top (nI (((B1.2 k).2.1 * 2 ^ 10 + (B1.2 k).1 % 1024) * 2 ^ 4 + (B1.2 k).1 / 1024)) (hR.2.1 k (by omega)) ?_
        refine ez_iconst 96 dX8_least_95 rfl (nI 4) (by decide) ?_
        refine ez_ishr 97 dX8_least_96 rfl ?_
        refine ez_top (nI ((B1.2 k).2.1 * 2 ^ 10 + (B1.2 k).1 % 1024)) (by rw [er_shr (by omega) (by decide)]; congr 1; omega) ?_
        refine ez_sipush 100 dX8_least_97 rfl (nI 1023) (by decide) ?_
        refine ez_iand 101 dX8_least_100 rfl ?_
        refine ez_top (nI ((B1.2 k).1 % 1024)) (by rw [show nI 1023 = nI (2 ^ 10 - 1) from rfl, er_andm]; congr 1; omega) ?_
        refine ez_istore 103 [(6, eI (nI ((B1.2 k).1 % 1024))), (5, eI (nI ((B1.2 k).1 / 1024))), (4, eI (nI k)), (3, eI (nI (2 ^ n - 1))), (0, eR 8 0), (1, eR 1 m)] dX8_least_101 rfl (by decide) rfl ?_
        refine ez_aload_n 104 dX8_least_103 rfl rfl ?_
        refine ez_getf 107 (eR 34 0) dX8_least_104 rfl fl_X8_11 (by show 0 < 1; omega) rfl ?_
        refine ez_iload 109 dX8_least_107 rfl rfl ?_
        refine ez_ialdN k 110 dX8_least_109 rfl (by decide) (by show 0 < 1; omega) (by show k < 2816; omega) ?_
        refine ez_top (nI (((B1.2 k).2.1 * 2 ^ 10 + (B1.2 k).1 % 1024) * 2 ^ 4 + (B1.2 k).1 / 1024)) (hR.2.1 k (by omega)) ?_
        refine ez_bipush 112 dX8_least_110 rfl (nI 14) (by decide) ?_
        refine ez_ishr 113 dX8_least_112 rfl ?_
        refine ez_top (nI ((B1.2 k).2.1)) (by rw [er_shr (by omega) (by decide)]; congr 1; omega) ?_
        refine ez_istore 115 [(7, eI (nI ((B1.2 k).2.1))), (6, eI (nI ((B1.2 k).1 % 1024))), (5, eI (nI ((B1.2 k).1 / 1024))), (4, eI (nI k)), (3, eI (nI (2 ^ n - 1))), (0, eR 8 0), (1, eR 1 m)] dX8_least_113 rfl (by decide) rfl ?_
        refine ez_iload 117 dX8_least_115 rfl rfl ?_
        refine ez_iload_n 118 dX8_least_117 rfl rfl ?_
        refine ez_ncmp_ne 121 124 dX8_least_118 rfl (by decide) (by omega) (by omega) (fun h118 => ?_) (fun h118 => ?_)
        · refine ez_iconst 125 dX8_least_124 rfl (nI 0) (by decide) ?_
          refine ez_istore 127 [(8, eI (nI 0)), (7, eI (nI ((B1.2 k).2.1))), (6, eI (nI ((B1.2 k).1 % 1024))), (5, eI (nI ((B1.2 k).1 / 1024))), (4, eI (nI k)), (3, eI (nI (2 ^ n - 1))), (0, eR 8 0), (1, eR 1 m)] dX8_least_125 rfl (by decide) rfl ?_
          refine ez_drop [(8, eI (nI 0)), (7, eI (nI ((B1.2 k).2.1))), (6, eI (nI ((B1.2 k).1 % 1024))), (5, eI (nI ((B1.2 k).1 / 1024))), (4, eI (nI k)), (3, eI (nI (2 ^ n - 1))), (0, eR 8 0), (1, eR 1 m)] (by simp) ?_
          refine lp_least127 G d (r := r) m k _ M hd hm hwf hr hZ (by omega) A9 I9 F9 (fun B2 M' e91 q91 f91 => ?_) _ 0 B1 M1 rfl (by omega) rfl hR hF
          refine least_178 G d m k n _ M' ?_
          have H2 := bf_h_go hH (by omega) e91
          have X2 : BfX B1 B2 := by have := bf_h_ext1 (a_sf lt) (bf_0 (1024 * r + 2 ^ r)) k; rw [hH, H2] at this; exact this
          exact ih (2816 - (k + 1)) (by omega) (k + 1) B2 M' rfl (by omega) H2 q91 (fun i hi hi2 => by
            by_cases e : i = k
            · rw [e, X2.2 k (by omega)]; exact h118
            · rw [X2.2 i (by omega)]; exact hj i (by omega) (by omega)) f91
        · refine ez_iload 123 dX8_least_121 rfl rfl ?_
          refine ez_iret .int dX8_least_123 rfl rfl ?_
          exact ⟨by rw [g_v_some (p := (fun e => decide (e.1 % 1024 = 2 ^ n - 1))) hH (by omega) (by omega) (decide_eq_true h118) (fun i hi => decide_eq_false (hj i hi (by omega)))], hF⟩
theorem RT_0 {n j : Nat} {M : EzM} (h : ∀ s, s < 2 ^ n → M.1 35 0 s = nI 0) : RT n (0, fun _ => (j, 0, nI 0)) (ez_st M 8 0 2 (nI 0)) := by
  refine ⟨by simp [ez_rd], fun i hi => by have hi' : i < 0 := hi; omega, fun s hs => ⟨0, by omega, by simp [ez_rd, h s hs], fun r hr => ⟨fun z => ?_, fun ⟨i, hi, _⟩ => by have hi' : i < 0 := hi; omega⟩⟩⟩
  rw [Nat.zero_div] at z
  cases z
set_option maxRecDepth 20000 in
theorem least_42 (G : EzG) (d : Nat) {n r : Nat} {lt : Nat → Int32} (m : Nat) (M M1 : EzM) (hd : 2 ≤ d) (hm : m < 4) (hwf : WFz n lt) (hr : r < n) (hZ : RCz m n lt M) (hM : ∀ s, s < 2 ^ n → M1.1 35 0 s = nI 0) (hF : FX TUF M M1) : Ez G mX8_least d 42 [(3, eI (nI (2 ^ n - 1))), (0, eR 8 0), (1, eR 1 m), (2, eI (nI r))] [] M1 (fun r' M' => r' = some (eI (g_v (a_sf lt) (1024 * r + 2 ^ r) (fun e => decide (e.1 % 1024 = 2 ^ n - 1)))) ∧ FX TUF M M') := by
  have n10 := hwf.2.1
  have o9 := er_or2 r (by omega) 0 (by omega)
  rw [Nat.zero_or] at o9
  have o8 : 2 ^ r < 2 ^ n := Nat.pow_lt_pow_right (by decide) hr
  have i0 : ∀ i, i < (bf_0 (1024 * r + 2 ^ r)).1 → a_I n r ((bf_0 (1024 * r + 2 ^ r)).2 i) := fun i _ => by
    show (1024 * r + 2 ^ r) / 1024 < n ∧ (1024 * r + 2 ^ r) % 1024 < 2 ^ n ∧ (1024 * r + 2 ^ r) % 1024 / 2 ^ r % 2 = 1 ∧ (1024 * r + 2 ^ r) % 1024 / 2 ^ ((1024 * r + 2 ^ r) / 1024) % 2 = 1
    have key : ∀ u, u < 1024 → (1024 * r + u) / 1024 = r ∧ (1024 * r + u) % 1024 = u := fun u hu => ⟨by omega, by omega⟩
    rw [(key _ o9.1).1, (key _ o9.1).2]
    exact ⟨hr, o8, o9.2, o9.2⟩
  have p2 : 2 ^ n ≤ 1024 := by have := Nat.pow_le_pow_right (show 0 < 2 by decide) n10; omega
  refine ez_aload_n 43 dX8_least_42 rfl rfl ?_
  refine ez_iconst 44 dX8_least_43 rfl (nI 0) (by decide) ?_
  refine ez_putf 47 .int dX8_least_44 rfl fp_X8_24 (by show 0 < 1; omega) rfl (by decide) rfl rfl ?_
  refine ez_aload_n 48 dX8_least_47 rfl rfl ?_
  refine ez_iconst 49 dX8_least_48 rfl (nI 0) (by decide) ?_
  refine ez_iconst 50 dX8_least_49 rfl (nI 1) (by decide) ?_
  refine ez_iload_n 51 dX8_least_50 rfl rfl ?_
  refine ez_ishl 52 dX8_least_51 rfl ?_
  refine ez_top (nI (2 ^ r)) (er_shl1 _ (by omega)) ?_
  refine ez_iload_n 53 dX8_least_52 rfl rfl ?_
  refine ez_callV 56 [eI (nI 0), eI (nI (2 ^ r)), eI (nI r)] [] dX8_least_53 rfl rfl ok_X8_add in_X8_add (by decide) (by show 0 < 1; omega) ln_X8_27 (by omega) (Nat.le_of_ble_eq_true rfl) (c_X8_add G (d - 1) (n := n) (B := (0, fun _ => (1024 * r + 2 ^ r, 0, nI 0))) 0 (2 ^ r) r (ez_st M1 8 0 2 (nI 0)) (by omega) n10 (by omega) o8 (by omega) (fun _ => by show 0 < 2816; omega) (RT_0 hM)) (fun r53 M53 q53 => ?_)
  obtain ⟨rfl, T53, f53⟩ := q53
  rw [bf_0_of] at T53
  show Ez G mX8_least d 56 [(3, eI (nI (2 ^ n - 1))), (0, eR 8 0), (1, eR 1 m), (2, eI (nI r))] [] M53 _
  refine ez_iconst 57 dX8_least_56 rfl (nI 0) (by decide) ?_
  refine ez_istore 59 [(4, eI (nI 0)), (3, eI (nI (2 ^ n - 1))), (0, eR 8 0), (1, eR 1 m), (2, eI (nI r))] dX8_least_57 rfl (by decide) rfl ?_
  refine ez_drop [(4, eI (nI 0)), (3, eI (nI (2 ^ n - 1))), (0, eR 8 0), (1, eR 1 m)] (by simp) ?_
  exact lp_least59 G d (r := r) m M hd hm hwf hr hZ _ 0 (bf_0 (1024 * r + 2 ^ r)) M53 rfl (by omega) rfl T53 (fun i hi => by omega) ((hF.st (by unfold TUF; omega)).tr f53)
set_option maxRecDepth 20000 in
theorem lp_least12 (G : EzG) (d : Nat) {n r : Nat} {lt : Nat → Int32} (m : Nat) (M : EzM) (hd : 2 ≤ d) (hm : m < 4) (hwf : WFz n lt) (hr : r < n) (hZ : RCz m n lt M) : ∀ (z : Nat) (t : Nat) (M1 : EzM), 1024 - t = z → t ≤ 1024 → (∀ s, s < t → M1.1 35 0 s = nI 0) → FX TUF M M1 → Ez G mX8_least d 12 [(4, eI (nI t)), (3, eI (nI (2 ^ n - 1))), (0, eR 8 0), (1, eR 1 m), (2, eI (nI r))] [] M1 (fun r' M' => r' = some (eI (g_v (a_sf lt) (1024 * r + 2 ^ r) (fun e => decide (e.1 % 1024 = 2 ^ n - 1)))) ∧ FX TUF M M') := by
  intro z
  induction z using Nat.strongRecOn with
  | ind z ih =>
    intro t M1 hz ht hM hF
    have n10 := hwf.2.1
    have p2 : 2 ^ n ≤ 1024 := by have := Nat.pow_le_pow_right (show 0 < 2 by decide) n10; omega
    refine ez_iload 14 dX8_least_12 rfl rfl ?_
    refine ez_iload_n 15 dX8_least_14 rfl rfl ?_
    refine ez_ncmp_gt 18 42 dX8_least_15 rfl (by decide) (by omega) (by omega) (fun h15 => ?_) (fun h15 => ?_)
    · refine ez_drop [(3, eI (nI (2 ^ n - 1))), (0, eR 8 0), (1, eR 1 m), (2, eI (nI r))] (by simp) ?_
      exact least_42 G d (r := r) m M M1 hd hm hwf hr hZ (fun s hs => hM s (by omega)) hF
    · refine ez_iload 20 dX8_least_18 rfl rfl ?_
      refine ez_aload_n 21 dX8_least_20 rfl rfl ?_
      refine ez_getf 24 (eR 35 0) dX8_least_21 rfl fl_X8_15 (by show 0 < 1; omega) rfl ?_
      refine ez_alen 25 (nI 1024) dX8_least_24 rfl (by decide) (by show 0 < 1; omega) rfl ?_
      refine ez_ncmp_ge 28 42 dX8_least_25 rfl (by decide) (by omega) (by omega) (fun h25 => ?_) (fun h25 => ?_)
      · refine ez_drop [(3, eI (nI (2 ^ n - 1))), (0, eR 8 0), (1, eR 1 m), (2, eI (nI r))] (by simp) ?_
        exact least_42 G d (r := r) m M M1 hd hm hwf hr hZ (fun s hs => hM s (by omega)) hF
      · refine ez_aload_n 29 dX8_least_28 rfl rfl ?_
        refine ez_getf 32 (eR 35 0) dX8_least_29 rfl fl_X8_15 (by show 0 < 1; omega) rfl ?_
        refine ez_iload 34 dX8_least_32 rfl rfl ?_
        refine ez_iconst 35 dX8_least_34 rfl (nI 0) (by decide) ?_
        refine ez_iastN t 36 dX8_least_35 rfl (by decide) (by show 0 < 1; omega) (by show t < 1024; omega) ?_
        refine ez_iinc 39 (nI (t + 1)) [(4, eI (nI (t + 1))), (3, eI (nI (2 ^ n - 1))), (0, eR 8 0), (1, eR 1 m), (2, eI (nI r))] dX8_least_36 rfl rfl (nI_add t 1) (by decide) rfl ?_
        refine ez_goto 12 dX8_least_39 (by decide) ?_
        exact ih (1024 - (t + 1)) (by omega) (t + 1) _ rfl (by omega) (fun j hj => by
          rw [ez_rd]
          by_cases e : j = t
          · rw [if_pos ⟨rfl, rfl, e⟩]
          · rw [if_neg (by omega)]; exact hM j (by omega)) (hF.st (by unfold TUF; omega))
set_option maxRecDepth 20000 in
theorem c_X8_least (G : EzG) (d : Nat) {n r : Nat} {lt : Nat → Int32} (m : Nat) (M : EzM) (hd : 2 ≤ d) (hm : m < 4) (hwf : WFz n lt) (hr : r < n) (hZ : RCz m n lt M) : Ezc G mX8_least d [eR 8 0, eR 1 m, eI (nI r)] M (fun r' M' => r' = some (eI (g_v (a_sf lt) (1024 * r + 2 ^ r) (fun e => decide (e.1 % 1024 = 2 ^ n - 1)))) ∧ FX TUF M M') := by
  refine Ezc.of (by decide +kernel) (Nat.le_of_ble_eq_true rfl) ?_
  have n10 := hwf.2.1
  show Ez G mX8_least d 0 [(0, eR 8 0), (1, eR 1 m), (2, eI (nI r))] [] M _
  refine ez_iconst 1 dX8_least_0 rfl (nI 1) (by decide) ?_
  refine ez_aload_n 2 dX8_least_1 rfl rfl ?_
  refine ez_getf 5 (eI (M.1 1 m 0)) dX8_least_2 rfl fl_X8_18 (by show m < 4; omega) rfl ?_
  refine ez_top (nI n) hZ.1 ?_
  refine ez_ishl 6 dX8_least_5 rfl ?_
  refine ez_top (nI (2 ^ n)) (er_shl1 _ (by omega)) ?_
  refine ez_iconst 7 dX8_least_6 rfl (nI 1) (by decide) ?_
  refine ez_isub 8 dX8_least_7 rfl ?_
  refine ez_top (nI (2 ^ n - 1)) (pk_sub (Nat.one_le_two_pow)) ?_
  refine ez_istore_n 9 [(3, eI (nI (2 ^ n - 1))), (0, eR 8 0), (1, eR 1 m), (2, eI (nI r))] dX8_least_8 rfl (by decide) rfl ?_
  refine ez_iconst 10 dX8_least_9 rfl (nI 0) (by decide) ?_
  refine ez_istore 12 [(4, eI (nI 0)), (3, eI (nI (2 ^ n - 1))), (0, eR 8 0), (1, eR 1 m), (2, eI (nI r))] dX8_least_10 rfl (by decide) rfl ?_
  refine ez_drop [(4, eI (nI 0)), (3, eI (nI (2 ^ n - 1))), (0, eR 8 0), (1, eR 1 m), (2, eI (nI r))] (by simp) ?_
  exact lp_least12 G d (r := r) m M hd hm hwf hr hZ _ 0 M rfl (by omega) (fun j hj => by omega) FX.rf
noncomputable def S_all (q : EpS) (x y : Int32) : Int32 := match ep_ix x q.1.1 with
  | none => -2
  | some m => match ep_ix y (q.1.2.1 m) with
    | none => -2
    | some r => g_v (a_sf (q.1.2.2.1 m)) (1024 * r + 2 ^ r) (fun e => decide (e.1 % 1024 = 2 ^ (q.1.2.1 m) - 1))
set_option maxRecDepth 20000 in
theorem c_X11_all (G : EzG) (d : Nat) {q : EpS} (x y : Int32) (M : EzM) (hd : 3 ≤ d) (hW : WF q) (hC : RC q M) : Ezc G mX11_all d [eR 11 0, eI x, eI y] M (fun r M' => r = some (eI (S_all q x y)) ∧ RC q M' ∧ FX CC M M') := by
  refine Ezc.of (by decide +kernel) (Nat.le_of_ble_eq_true rfl) ?_
  have q8 := hW.2.1.1
  have q4 := hW.1.1
  have qx := hW.2.2.2.2.1
  show Ez G mX11_all d 0 [(0, eR 11 0), (1, eI x), (2, eI y)] [] M _
  refine ez_aload_n 1 dX11_all_0 rfl rfl ?_
  refine ez_iload_n 2 dX11_all_1 rfl rfl ?_
  refine ez_callV 5 [eI x] [] dX11_all_2 rfl rfl ok_X11_mazeAt in_X11_mazeAt (by decide) (by show 0 < 1; omega) ln_X11_141 (by omega) (Nat.le_of_ble_eq_true rfl) (c_X11_mazeAt G (d - 1) x q.1.1 M (by omega) hC.1.1 (by omega)) (fun r2 M2 q2 => ?_)
  obtain ⟨e2, ⟨rfl, i2⟩ | ⟨j2, b2, rfl, rfl⟩⟩ := q2
  · rw [e2]
    show Ez G mX11_all d 5 [(0, eR 11 0), (1, eI x), (2, eI y)] [eN] M _
    refine ez_astore_n 6 [(3, eN), (0, eR 11 0), (1, eI x), (2, eI y)] dX11_all_5 rfl (by decide) rfl ?_
    refine ez_aload_n 7 dX11_all_6 rfl rfl ?_
    refine ez_ifnull_n 18 dX11_all_7 (by decide) ?_
    refine ez_bipush 20 dX11_all_18 rfl (-2) (by decide) ?_
    refine ez_iret .int dX11_all_20 rfl rfl ?_
    exact ⟨by simp [S_all, i2], hC, FX.rf⟩
  · rw [e2]
    have i2 : ep_ix (nI j2) q.1.1 = some j2 := ep_ix_nI b2 (by omega)
    show Ez G mX11_all d 5 [(0, eR 11 0), (1, eI (nI j2)), (2, eI y)] [eR 1 j2] M _
    refine ez_astore_n 6 [(3, eR 1 j2), (0, eR 11 0), (1, eI (nI j2)), (2, eI y)] dX11_all_5 rfl (by decide) rfl ?_
    refine ez_aload_n 7 dX11_all_6 rfl rfl ?_
    refine ez_ifnull_r 10 dX11_all_7 rfl ?_
    refine ez_aload_n 11 dX11_all_10 rfl rfl ?_
    refine ez_iload_n 12 dX11_all_11 rfl rfl ?_
    refine ez_callV 15 [eI y] [] dX11_all_12 rfl rfl ok_X1_hasRoom in_X1_hasRoom (by decide) (by show j2 < 4; omega) ln_X11_148 (by omega) (Nat.le_of_ble_eq_true rfl) (c_hasRoom_c G (d - 1) j2 y (q.1.2.1 j2) M (by omega) (hC.1.2.1 j2 (by omega)).1 (by have := (hW.1.2 j2 (by omega)).2.1; omega)) (fun r12 M12 q12 => ?_)
    obtain ⟨e12, ⟨rfl, i12⟩ | ⟨j12, b12, rfl, rfl⟩⟩ := q12
    · rw [e12]
      show Ez G mX11_all d 15 [(3, eR 1 j2), (0, eR 11 0), (1, eI (nI j2)), (2, eI y)] [eI (nI 0)] M _
      refine ez_nif_ne 18 21 dX11_all_15 rfl (by decide) (by omega) (fun h15 => ?_) (fun h15 => ?_)
      · exact absurd h15 (by decide)
      · refine ez_bipush 20 dX11_all_18 rfl (-2) (by decide) ?_
        refine ez_iret .int dX11_all_20 rfl rfl ?_
        exact ⟨by simp [S_all, i2, i12], hC, FX.rf⟩
    · rw [e12]
      have i12 : ep_ix (nI j12) (q.1.2.1 j2) = some j12 := ep_ix_nI b12 (by have := (hW.1.2 j2 (by omega)).2.1; omega)
      show Ez G mX11_all d 15 [(3, eR 1 j2), (0, eR 11 0), (1, eI (nI j2)), (2, eI (nI j12))] [eI (nI 1)] M _
      refine ez_nif_ne 18 21 dX11_all_15 rfl (by decide) (by omega) (fun h15 => ?_) (fun h15 => ?_)
      · refine ez_aload_n 22 dX11_all_21 rfl rfl ?_
        refine ez_getf 25 (eR 8 0) dX11_all_22 rfl fl_X11_90 (by show 0 < 1; omega) rfl ?_
        refine ez_aload_n 26 dX11_all_25 rfl rfl ?_
        refine ez_iload_n 27 dX11_all_26 rfl rfl ?_
        refine ez_callV 30 [eR 1 j2, eI (nI j12)] [] dX11_all_27 rfl rfl ok_X8_least in_X8_least (by decide) (by show 0 < 1; omega) ln_X11_263 (by omega) (Nat.le_of_ble_eq_true rfl) (c_X8_least G (d - 1) (r := j12) j2 M (by omega) (by omega) (g_WFz hW.1 b2) b12 (g_RCz hC.1 b2)) (fun r27 M27 q27 => ?_)
        obtain ⟨rfl, f27⟩ := q27
        show Ez G mX11_all d 30 [(3, eR 1 j2), (0, eR 11 0), (1, eI (nI j2)), (2, eI (nI j12))] [eI (g_v (a_sf (q.1.2.2.1 j2)) (1024 * j12 + 2 ^ j12) (fun e => decide (e.1 % 1024 = 2 ^ (q.1.2.1 j2) - 1)))] M27 _
        refine ez_iret .int dX11_all_30 rfl rfl ?_
        exact ⟨by simp only [S_all, i2, i12], RC.sc hW hC f27.tufsc, f27.tufsc.scc⟩
      · exact absurd h15 (by decide)
set_option maxRecDepth 20000 in
theorem c_X12_all (g : EzH) (d : Nat) {q : EpS} (x y : Int32) (M : EzM) (hd : 3 ≤ d) (hW : WF q) (hC : RM q M) : Ezc (true, g) mX12_all d [eR 12 0, eI x, eI y] M (fun r M' => r = some (eI (S_all q x y)) ∧ RM q M' ∧ FX CM M M') := by
  refine Ezc.of (by decide +kernel) (Nat.le_of_ble_eq_true rfl) ?_
  have q8 := hW.2.1.1
  have q4 := hW.1.1
  have qx := hW.2.2.2.2.1
  show Ez (true, g) mX12_all d 0 [(0, eR 12 0), (1, eI x), (2, eI y)] [] M _
  refine ez_aload_n 1 dX12_all_0 rfl rfl ?_
  refine ez_iload_n 2 dX12_all_1 rfl rfl ?_
  refine ez_iload_n 3 dX12_all_2 rfl rfl ?_
  refine ez_callV 6 [eI x, eI y] [] dX12_all_3 rfl rfl ok_X12_isRoom in_X12_isRoom (by decide) (by show 0 < 1; omega) ln_X12_165 (by omega) (Nat.le_of_ble_eq_true rfl) (c_X12_isRoom g (d - 1) x y M (by omega) hW hC) (fun r3 M3 q3 => ?_)
  obtain ⟨e3, ⟨rfl, i3⟩ | ⟨a3, b3, p3, s3, rfl, rfl, rfl⟩⟩ := q3
  · rw [e3]
    show Ez (true, g) mX12_all d 6 [(0, eR 12 0), (1, eI x), (2, eI y)] [eI (nI 0)] M _
    refine ez_nif_eq 9 20 dX12_all_6 rfl (by decide) (by omega) (fun h6 => ?_) (fun h6 => ?_)
    · refine ez_bipush 22 dX12_all_20 rfl (-2) (by decide) ?_
      refine ez_iret .int dX12_all_22 rfl rfl ?_
      have eS : S_all q x y = -2 := by
        unfold S_all
        rcases i3 with e9 | e9
        · rw [e9]
        · cases e8 : ep_ix x q.1.1 with
          | none => rfl
          | some m => simp only [e9 m e8]
      exact ⟨by rw [eS], hC, FX.rf⟩
    · exact absurd h6 (by decide)
  · rw [e3]
    have t3 := (hW.1.2 a3 p3).2.1
    have u3 : ep_ix (nI a3) q.1.1 = some a3 := by exact ep_ix_nI p3 (by omega)
    have v3 : ep_ix (nI b3) (q.1.2.1 a3) = some b3 := by exact ep_ix_nI s3 (by omega)
    show Ez (true, g) mX12_all d 6 [(0, eR 12 0), (1, eI (nI a3)), (2, eI (nI b3))] [eI (nI 1)] M _
    refine ez_nif_eq 9 20 dX12_all_6 rfl (by decide) (by omega) (fun h6 => ?_) (fun h6 => ?_)
    · exact absurd h6 (by decide)
    · refine ez_aload_n 10 dX12_all_9 rfl rfl ?_
      refine ez_iload_n 11 dX12_all_10 rfl rfl ?_
      refine ez_iload_n 12 dX12_all_11 rfl rfl ?_
      refine ez_iconst 13 dX12_all_12 rfl (nI 0) (by decide) ?_
      refine ez_iconst 14 dX12_all_13 rfl (nI 1) (by decide) ?_
      refine ez_callV 17 [eI (nI a3), eI (nI b3), eI (nI 0), eI (nI 1)] [] dX12_all_14 rfl rfl ok_X12_goes in_X12_goes (by decide) (by show 0 < 1; omega) ln_X12_380 (by omega) (Nat.le_of_ble_eq_true rfl) (c_goes_1 g (d - 1) (n := q.1.2.1 a3) (r := b3) (lt := q.1.2.2.1 a3) a3 0 M (by omega) (by omega) (g_WFz hW.1 p3) s3 (g_RMz hC.1 p3)) (fun r14 M14 q14 => ?_)
      obtain ⟨rfl, f14⟩ := q14
      show Ez (true, g) mX12_all d 17 [(0, eR 12 0), (1, eI (nI a3)), (2, eI (nI b3))] [eI (g_v (a_sf (q.1.2.2.1 a3)) (1024 * b3 + 2 ^ b3) (fun e => decide (e.1 % 1024 = 2 ^ (q.1.2.1 a3) - 1)))] M14 _
      refine ez_goto 22 dX12_all_17 (by decide) ?_
      refine ez_iret .int dX12_all_22 rfl rfl ?_
      exact ⟨by simp only [S_all, u3, v3], hC.sm f14.gfsm, f14.gfsm.smm⟩
