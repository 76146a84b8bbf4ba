/-! doors as bits -/
def ep_bc (x : Nat) : Nat := x % 2 + x / 2 % 2 + x / 4 % 2 + x / 8 % 2
theorem ep_bcn : ∀ x, x < 16 → ((((((((nI x) - ((((nI x).toUInt32 >>> ((nI 1).toUInt32 &&& Int32.toUInt32 31)).toInt32) &&& 1431655765)) &&& 858993459) + (((((nI x) - ((((nI x).toUInt32 >>> ((nI 1).toUInt32 &&& Int32.toUInt32 31)).toInt32) &&& 1431655765)).toUInt32 >>> ((nI 2).toUInt32 &&& Int32.toUInt32 31)).toInt32) &&& 858993459)) + ((((((nI x) - ((((nI x).toUInt32 >>> ((nI 1).toUInt32 &&& Int32.toUInt32 31)).toInt32) &&& 1431655765)) &&& 858993459) + (((((nI x) - ((((nI x).toUInt32 >>> ((nI 1).toUInt32 &&& Int32.toUInt32 31)).toInt32) &&& 1431655765)).toUInt32 >>> ((nI 2).toUInt32 &&& Int32.toUInt32 31)).toInt32) &&& 858993459)).toUInt32 >>> ((nI 4).toUInt32 &&& Int32.toUInt32 31)).toInt32)) &&& 252645135) + ((((((((nI x) - ((((nI x).toUInt32 >>> ((nI 1).toUInt32 &&& Int32.toUInt32 31)).toInt32) &&& 1431655765)) &&& 858993459) + (((((nI x) - ((((nI x).toUInt32 >>> ((nI 1).toUInt32 &&& Int32.toUInt32 31)).toInt32) &&& 1431655765)).toUInt32 >>> ((nI 2).toUInt32 &&& Int32.toUInt32 31)).toInt32) &&& 858993459)) + ((((((nI x) - ((((nI x).toUInt32 >>> ((nI 1).toUInt32 &&& Int32.toUInt32 31)).toInt32) &&& 1431655765)) &&& 858993459) + (((((nI x) - ((((nI x).toUInt32 >>> ((nI 1).toUInt32 &&& Int32.toUInt32 31)).toInt32) &&& 1431655765)).toUInt32 >>> ((nI 2).toUInt32 &&& Int32.toUInt32 31)).toInt32) &&& 858993459)).toUInt32 >>> ((nI 4).toUInt32 &&& Int32.toUInt32 31)).toInt32)) &&& 252645135).toUInt32 >>> ((nI 8).toUInt32 &&& Int32.toUInt32 31)).toInt32)) + (((((((((nI x) - ((((nI x).toUInt32 >>> ((nI 1).toUInt32 &&& Int32.toUInt32 31)).toInt32) &&& 1431655765)) &&& 858993459) + (((((nI x) - ((((nI x).toUInt32 >>> ((nI 1).toUInt32 &&& Int32.toUInt32 31)).toInt32) &&& 1431655765)).toUInt32 >>> ((nI 2).toUInt32 &&& Int32.toUInt32 31)).toInt32) &&& 858993459)) + ((((((nI x) - ((((nI x).toUInt32 >>> ((nI 1).toUInt32 &&& Int32.toUInt32 31)).toInt32) &&& 1431655765)) &&& 858993459) + (((((nI x) - ((((nI x).toUInt32 >>> ((nI 1).toUInt32 &&& Int32.toUInt32 31)).toInt32) &&& 1431655765)).toUInt32 >>> ((nI 2).toUInt32 &&& Int32.toUInt32 31)).toInt32) &&& 858993459)).toUInt32 >>> ((nI 4).toUInt32 &&& Int32.toUInt32 31)).toInt32)) &&& 252645135) + ((((((((nI x) - ((((nI x).toUInt32 >>> ((nI 1).toUInt32 &&& Int32.toUInt32 31)).toInt32) &&& 1431655765)) &&& 858993459) + (((((nI x) - ((((nI x).toUInt32 >>> ((nI 1).toUInt32 &&& Int32.toUInt32 31)).toInt32) &&& 1431655765)).toUInt32 >>> ((nI 2).toUInt32 &&& Int32.toUInt32 31)).toInt32) &&& 858993459)) + ((((((nI x) - ((((nI x).toUInt32 >>> ((nI 1).toUInt32 &&& Int32.toUInt32 31)).toInt32) &&& 1431655765)) &&& 858993459) + (((((nI x) - ((((nI x).toUInt32 >>> ((nI 1).toUInt32 &&& Int32.toUInt32 31)).toInt32) &&& 1431655765)).toUInt32 >>> ((nI 2).toUInt32 &&& Int32.toUInt32 31)).toInt32) &&& 858993459)).toUInt32 >>> ((nI 4).toUInt32 &&& Int32.toUInt32 31)).toInt32)) &&& 252645135).toUInt32 >>> ((nI 8).toUInt32 &&& Int32.toUInt32 31)).toInt32)).toUInt32 >>> ((nI 16).toUInt32 &&& Int32.toUInt32 31)).toInt32)) &&& (nI 63) = nI (ep_bc x) := by decide +kernel
set_option maxRecDepth 20000 in
theorem c_bitCount (G : EzG) (d : Nat) (x : Nat) (M : EzM) (hx : x < 16) : Ezc G mJ6_bitCount_0f7a4 d [eI (nI x)] M (fun r M' => r = some (eI (nI (ep_bc x))) ∧ M' = M) := by
  refine Ezc.of (by decide +kernel) (Nat.le_of_ble_eq_true rfl) ?_
  show Ez G mJ6_bitCount_0f7a4 d 0 [(0, eI (nI x))] [] M _
  refine ez_iload_n 1 dJ6_bitCount_0f7a4_0 rfl rfl ?_
  refine ez_iload_n 2 dJ6_bitCount_0f7a4_1 rfl rfl ?_
  refine ez_iconst 3 dJ6_bitCount_0f7a4_2 rfl (nI 1) (by decide) ?_
  refine ez_iushr 4 dJ6_bitCount_0f7a4_3 rfl ?_
  refine ez_ldcw 7 dJ6_bitCount_0f7a4_4 rfl 1431655765 cn_J6_265 ?_
  refine ez_iand 8 dJ6_bitCount_0f7a4_7 rfl ?_
  refine ez_isub 9 dJ6_bitCount_0f7a4_8 rfl ?_
  refine ez_istore_n 10 [(0, eI ((nI x) - ((((nI x).toUInt32 >>> ((nI 1).toUInt32 &&& Int32.toUInt32 31)).toInt32) &&& 1431655765)))] dJ6_bitCount_0f7a4_9 rfl (by decide) rfl ?_
  refine ez_iload_n 11 dJ6_bitCount_0f7a4_10 rfl rfl ?_
  refine ez_ldcw 14 dJ6_bitCount_0f7a4_11 rfl 858993459 cn_J6_266 ?_
  refine ez_iand 15 dJ6_bitCount_0f7a4_14 rfl ?_
  refine ez_iload_n 16 dJ6_bitCount_0f7a4_15 rfl rfl ?_
  refine ez_iconst 17 dJ6_bitCount_0f7a4_16 rfl (nI 2) (by decide) ?_
  refine ez_iushr 18 dJ6_bitCount_0f7a4_17 rfl ?_
  refine ez_ldcw 21 dJ6_bitCount_0f7a4_18 rfl 858993459 cn_J6_266 ?_
  refine ez_iand 22 dJ6_bitCount_0f7a4_21 rfl ?_
  refine ez_iadd 23 dJ6_bitCount_0f7a4_22 rfl ?_
  refine ez_istore_n 24 [(0, eI ((((nI x) - ((((nI x).toUInt32 >>> ((nI 1).toUInt32 &&& Int32.toUInt32 31)).toInt32) &&& 1431655765)) &&& 858993459) + (((((nI x) - ((((nI x).toUInt32 >>> ((nI 1).toUInt32 &&& Int32.toUInt32 31)).toInt32) &&& 1431655765)).toUInt32 >>> ((nI 2).toUInt32 &&& Int32.toUInt32 31)).toInt32) &&& 858993459)))] dJ6_bitCount_0f7a4_23 rfl (by decide) rfl ?_
  refine ez_iload_n 25 dJ6_bitCount_0f7a4_24 rfl rfl ?_
  refine ez_iload_n 26 dJ6_bitCount_0f7a4_25 rfl rfl ?_
  refine ez_iconst 27 dJ6_bitCount_0f7a4_26 rfl (nI 4) (by decide) ?_
  refine ez_iushr 28 dJ6_bitCount_0f7a4_27 rfl ?_
  refine ez_iadd 29 dJ6_bitCount_0f7a4_28 rfl ?_
  refine ez_ldcw 32 dJ6_bitCount_0f7a4_29 rfl 252645135 cn_J6_267 ?_
  refine ez_iand 33 dJ6_bitCount_0f7a4_32 rfl ?_
  refine ez_istore_n 34 [(0, eI ((((((nI x) - ((((nI x).toUInt32 >>> ((nI 1).toUInt32 &&& Int32.toUInt32 31)).toInt32) &&& 1431655765)) &&& 858993459) + (((((nI x) - ((((nI x).toUInt32 >>> ((nI 1).toUInt32 &&& Int32.toUInt32 31)).toInt32) &&& 1431655765)).toUInt32 >>> ((nI 2).toUInt32 &&& Int32.toUInt32 31)).toInt32) &&& 858993459)) + ((((((nI x) - ((((nI x).toUInt32 >>> ((nI 1).toUInt32 &&& Int32.toUInt32 31)).toInt32) &&& 1431655765)) &&& 858993459) + (((((nI x) - ((((nI x).toUInt32 >>> ((nI 1).toUInt32 &&& Int32.toUInt32 31)).toInt32) &&& 1431655765)).toUInt32 >>> ((nI 2).toUInt32 &&& Int32.toUInt32 31)).toInt32) &&& 858993459)).toUInt32 >>> ((nI 4).toUInt32 &&& Int32.toUInt32 31)).toInt32)) &&& 252645135))] dJ6_bitCount_0f7a4_33 rfl (by decide) rfl ?_
  refine ez_iload_n 35 dJ6_bitCount_0f7a4_34 rfl rfl ?_
  refine ez_iload_n 36 dJ6_bitCount_0f7a4_35 rfl rfl ?_
  refine ez_bipush 38 dJ6_bitCount_0f7a4_36 rfl (nI 8) (by decide) ?_
  refine ez_iushr 39 dJ6_bitCount_0f7a4_38 rfl ?_
  refine ez_iadd 40 dJ6_bitCount_0f7a4_39 rfl ?_
  refine ez_istore_n 41 [(0, eI (((((((nI x) - ((((nI x).toUInt32 >>> ((nI 1).toUInt32 &&& Int32.toUInt32 31)).toInt32) &&& 1431655765)) &&& 858993459) + (((((nI x) - ((((nI x).toUInt32 >>> ((nI 1).toUInt32 &&& Int32.toUInt32 31)).toInt32) &&& 1431655765)).toUInt32 >>> ((nI 2).toUInt32 &&& Int32.toUInt32 31)).toInt32) &&& 858993459)) + ((((((nI x) - ((((nI x).toUInt32 >>> ((nI 1).toUInt32 &&& Int32.toUInt32 31)).toInt32) &&& 1431655765)) &&& 858993459) + (((((nI x) - ((((nI x).toUInt32 >>> ((nI 1).toUInt32 &&& Int32.toUInt32 31)).toInt32) &&& 1431655765)).toUInt32 >>> ((nI 2).toUInt32 &&& Int32.toUInt32 31)).toInt32) &&& 858993459)).toUInt32 >>> ((nI 4).toUInt32 &&& Int32.toUInt32 31)).toInt32)) &&& 252645135) + ((((((((nI x) - ((((nI x).toUInt32 >>> ((nI 1).toUInt32 &&& Int32.toUInt32 31)).toInt32) &&& 1431655765)) &&& 858993459) + (((((nI x) - ((((nI x).toUInt32 >>> ((nI 1).toUInt32 &&& Int32.toUInt32 31)).toInt32) &&& 1431655765)).toUInt32 >>> ((nI 2).toUInt32 &&& Int32.toUInt32 31)).toInt32) &&& 858993459)) + ((((((nI x) - ((((nI x).toUInt32 >>> ((nI 1).toUInt32 &&& Int32.toUInt32 31)).toInt32) &&& 1431655765)) &&& 858993459) + (((((nI x) - ((((nI x).toUInt32 >>> ((nI 1).toUInt32 &&& Int32.toUInt32 31)).toInt32) &&& 1431655765)).toUInt32 >>> ((nI 2).toUInt32 &&& Int32.toUInt32 31)).toInt32) &&& 858993459)).toUInt32 >>> ((nI 4).toUInt32 &&& Int32.toUInt32 31)).toInt32)) &&& 252645135).toUInt32 >>> ((nI 8).toUInt32 &&& Int32.toUInt32 31)).toInt32)))] dJ6_bitCount_0f7a4_40 rfl (by decide) rfl ?_
  refine ez_iload_n 42 dJ6_bitCount_0f7a4_41 rfl rfl ?_
  refine ez_iload_n 43 dJ6_bitCount_0f7a4_42 rfl rfl ?_
  refine ez_bipush 45 dJ6_bitCount_0f7a4_43 rfl (nI 16) (by decide) ?_
  refine ez_iushr 46 dJ6_bitCount_0f7a4_45 rfl ?_
  refine ez_iadd 47 dJ6_bitCount_0f7a4_46 rfl ?_
  refine ez_istore_n 48 [(0, eI ((((((((nI x) - ((((nI x).toUInt32 >>> ((nI 1).toUInt32 &&& Int32.toUInt32 31)).toInt32) &&& 1431655765)) &&& 858993459) + (((((nI x) - ((((nI x).toUInt32 >>> ((nI 1).toUInt32 &&& Int32.toUInt32 31)).toInt32) &&& 1431655765)).toUInt32 >>> ((nI 2).toUInt32 &&& Int32.toUInt32 31)).toInt32) &&& 858993459)) + ((((((nI x) - ((((nI x).toUInt32 >>> ((nI 1).toUInt32 &&& Int32.toUInt32 31)).toInt32) &&& 1431655765)) &&& 858993459) + (((((nI x) - ((((nI x).toUInt32 >>> ((nI 1).toUInt32 &&& Int32.toUInt32 31)).toInt32) &&& 1431655765)).toUInt32 >>> ((nI 2).toUInt32 &&& Int32.toUInt32 31)).toInt32) &&& 858993459)).toUInt32 >>> ((nI 4).toUInt32 &&& Int32.toUInt32 31)).toInt32)) &&& 252645135) + ((((((((nI x) - ((((nI x).toUInt32 >>> ((nI 1).toUInt32 &&& Int32.toUInt32 31)).toInt32) &&& 1431655765)) &&& 858993459) + (((((nI x) - ((((nI x).toUInt32 >>> ((nI 1).toUInt32 &&& Int32.toUInt32 31)).toInt32) &&& 1431655765)).toUInt32 >>> ((nI 2).toUInt32 &&& Int32.toUInt32 31)).toInt32) &&& 858993459)) + ((((((nI x) - ((((nI x).toUInt32 >>> ((nI 1).toUInt32 &&& Int32.toUInt32 31)).toInt32) &&& 1431655765)) &&& 858993459) + (((((nI x) - ((((nI x).toUInt32 >>> ((nI 1).toUInt32 &&& Int32.toUInt32 31)).toInt32) &&& 1431655765)).toUInt32 >>> ((nI 2).toUInt32 &&& Int32.toUInt32 31)).toInt32) &&& 858993459)).toUInt32 >>> ((nI 4).toUInt32 &&& Int32.toUInt32 31)).toInt32)) &&& 252645135).toUInt32 >>> ((nI 8).toUInt32 &&& Int32.toUInt32 31)).toInt32)) + (((((((((nI x) - ((((nI x).toUInt32 >>> ((nI 1).toUInt32 &&& Int32.toUInt32 31)).toInt32) &&& 1431655765)) &&& 858993459) + (((((nI x) - ((((nI x).toUInt32 >>> ((nI 1).toUInt32 &&& Int32.toUInt32 31)).toInt32) &&& 1431655765)).toUInt32 >>> ((nI 2).toUInt32 &&& Int32.toUInt32 31)).toInt32) &&& 858993459)) + ((((((nI x) - ((((nI x).toUInt32 >>> ((nI 1).toUInt32 &&& Int32.toUInt32 31)).toInt32) &&& 1431655765)) &&& 858993459) + (((((nI x) - ((((nI x).toUInt32 >>> ((nI 1).toUInt32 &&& Int32.toUInt32 31)).toInt32) &&& 1431655765)).toUInt32 >>> ((nI 2).toUInt32 &&& Int32.toUInt32 31)).toInt32) &&& 858993459)).toUInt32 >>> ((nI 4).toUInt32 &&& Int32.toUInt32 31)).toInt32)) &&& 252645135) + ((((((((nI x) - ((((nI x).toUInt32 >>> ((nI 1).toUInt32 &&& Int32.toUInt32 31)).toInt32) &&& 1431655765)) &&& 858993459) + (((((nI x) - ((((nI x).toUInt32 >>> ((nI 1).toUInt32 &&& Int32.toUInt32 31)).toInt32) &&& 1431655765)).toUInt32 >>> ((nI 2).toUInt32 &&& Int32.toUInt32 31)).toInt32) &&& 858993459)) + ((((((nI x) - ((((nI x).toUInt32 >>> ((nI 1).toUInt32 &&& Int32.toUInt32 31)).toInt32) &&& 1431655765)) &&& 858993459) + (((((nI x) - ((((nI x).toUInt32 >>> ((nI 1).toUInt32 &&& Int32.toUInt32 31)).toInt32) &&& 1431655765)).toUInt32 >>> ((nI 2).toUInt32 &&& Int32.toUInt32 31)).toInt32) &&& 858993459)).toUInt32 >>> ((nI 4).toUInt32 &&& Int32.toUInt32 31)).toInt32)) &&& 252645135).toUInt32 >>> ((nI 8).toUInt32 &&& Int32.toUInt32 31)).toInt32)).toUInt32 >>> ((nI 16).toUInt32 &&& Int32.toUInt32 31)).toInt32)))] dJ6_bitCount_0f7a4_47 rfl (by decide) rfl ?_
  refine ez_iload_n 49 dJ6_bitCount_0f7a4_48 rfl rfl ?_
  refine ez_bipush 51 dJ6_bitCount_0f7a4_49 rfl (nI 63) (by decide) ?_
  refine ez_iand 52 dJ6_bitCount_0f7a4_51 rfl ?_
  refine ez_iret .int dJ6_bitCount_0f7a4_52 rfl rfl ?_
  exact ⟨by rw [ep_bcn x hx], rfl⟩
theorem ep_remI (x : Int32) {m : Nat} (h0 : 0 < m) (hm : m < 2 ^ 15) : (x / nI m).toInt = x.toInt.tdiv m ∧ (x - x / nI m * nI m).toInt = x.toInt.tmod m := by
  have hx1 := x.toInt_lt
  have hx2 := x.le_toInt
  have hM : (nI m).toInt = m := nI_toInt (by omega)
  have hq : (x / nI m).toInt = x.toInt.tdiv m := by
    rw [Int32.toInt_div_of_ne_right _ _ (fun q => by rw [q] at hM; rw [show (-1 : Int32).toInt = -1 by decide] at hM; omega), hM]
  have e := Int.mul_tdiv_add_tmod x.toInt m
  have b1 := Int.tmod_lt_of_pos x.toInt (show (0 : Int) < m by omega)
  have b2 := Int.lt_tmod_of_pos x.toInt (show (0 : Int) < m by omega)
  refine ⟨hq, ?_⟩
  have sg : (0 ≤ x.toInt → 0 ≤ x.toInt.tmod m) ∧ (x.toInt < 0 → x.toInt.tmod m ≤ 0) := by
    refine ⟨fun q => Int.tmod_nonneg _ q, fun q => ?_⟩
    have := Int.tmod_nonneg (m : Int) (show 0 ≤ - x.toInt by omega)
    rw [Int.neg_tmod] at this
    omega
  have e2 : (x / nI m * nI m).toInt = m * x.toInt.tdiv m := by
    rw [Int32.toInt_mul, hq, hM, Int.mul_comm]
    exact Int.bmod_eq_of_le (by omega) (by omega)
  rw [Int32.toInt_sub, e2, show x.toInt - m * x.toInt.tdiv m = x.toInt.tmod m by omega]
  exact Int.bmod_eq_of_le (by omega) (by omega)
theorem ep_nIof {x : Int32} {n : Nat} (h : x.toInt = n) (hn : n < 2 ^ 31) : x = nI n := Int32.toInt_inj.mp (by rw [h, nI_toInt hn])
def ep_m4 (f : Int32) : Nat := f.toBitVec.toNat % 4
theorem ep_m4_and (f : Int32) {k : Nat} (hk : k < 4) : (f + nI k) &&& nI 3 = nI ((ep_m4 f + k) % 4) := by
  apply Int32.toBitVec_inj.mp
  apply BitVec.eq_of_toNat_eq
  show ((f.toBitVec + BitVec.ofNat 32 k) &&& (nI 3).toBitVec).toNat = (BitVec.ofNat 32 ((ep_m4 f + k) % 4)).toNat
  rw [BitVec.toNat_and, BitVec.toNat_add, BitVec.toNat_ofNat, BitVec.toNat_ofNat, show (nI 3).toBitVec.toNat = 2 ^ 2 - 1 by decide, Nat.and_two_pow_sub_one_eq_mod]
  unfold ep_m4
  omega
theorem ep_toInt4 (f : Int32) : ∃ q : Int, f.toInt = f.toBitVec.toNat + 4 * q := by
  have h : f.toInt = f.toBitVec.toInt := rfl
  rw [h, BitVec.toInt_eq_toNat_cond]
  by_cases z : 2 * f.toBitVec.toNat < 2 ^ 32
  · rw [if_pos z]; exact ⟨0, by omega⟩
  · rw [if_neg z]; exact ⟨-1073741824, by omega⟩
theorem ep_m4_rem (f : Int32) {k : Nat} (hk : k < 4) : ((f - f / nI 4 * nI 4) + nI 4 + nI k) - ((f - f / nI 4 * nI 4) + nI 4 + nI k) / nI 4 * nI 4 = nI ((ep_m4 f + k) % 4) := by
  have h1 := (ep_remI f (m := 4) (by decide) (by decide)).2
  obtain ⟨q, hq⟩ := ep_toInt4 f
  have e := Int.mul_tdiv_add_tmod f.toInt 4
  have b1 := Int.tmod_lt_of_pos f.toInt (show (0 : Int) < 4 by omega)
  have b2 := Int.lt_tmod_of_pos f.toInt (show (0 : Int) < 4 by omega)
  have h1' : (f - f / nI 4 * nI 4).toInt = f.toInt.tmod 4 := h1
  have h2 : ((f - f / nI 4 * nI 4) + nI 4 + nI k).toInt = ((f.toInt.tmod 4 + 4 + k).toNat : Nat) := by
    have h3 : ((f - f / nI 4 * nI 4) + nI 4).toInt = f.toInt.tmod 4 + 4 := by
      rw [Int32.toInt_add, h1', nI_toInt (by omega)]
      exact Int.bmod_eq_of_le (by omega) (by omega)
    rw [Int32.toInt_add, h3, nI_toInt (by omega)]
    rw [Int.bmod_eq_of_le (by omega) (by omega)]
    omega
  rw [ep_nIof h2 (by omega), pk_rem (by omega) (by omega) (by omega)]
  congr 1
  unfold ep_m4
  omega
def ep_b (x j : Nat) : Nat := x / 2 ^ j % 2
theorem ep_b2 (x j : Nat) : ep_b x j < 2 := Nat.mod_lt _ (by decide)
theorem ep_bshr : ∀ x, x < 16 → ∀ j, j < 4 → ((nI x >>> (nI j &&& 31)) &&& nI 1) = nI (ep_b x j) := by decide +kernel
theorem ep_bsum : ∀ x, x < 16 → x = ep_b x 0 + 2 * ep_b x 1 + 4 * ep_b x 2 + 8 * ep_b x 3 := by decide +kernel
def ep_oi : Option Nat → Int32
  | none => -1
  | some d => nI d
def ep_ff (x f : Nat) : Option Nat := if ep_b x ((f + 0) % 4) = 1 then some ((f + 0) % 4) else if ep_b x ((f + 1) % 4) = 1 then some ((f + 1) % 4) else if ep_b x ((f + 2) % 4) = 1 then some ((f + 2) % 4) else if ep_b x ((f + 3) % 4) = 1 then some ((f + 3) % 4) else none
def ep_gr (x : Nat) : Option Nat := if ep_b x 3 = 1 then some 3 else if ep_b x 2 = 1 then some 2 else if ep_b x 1 = 1 then some 1 else if ep_b x 0 = 1 then some 0 else none
def ep_fr (a b : Nat) : Nat := a &&& (15 ^^^ b)
theorem ep_frn : ∀ a, a < 16 → ∀ b, b < 16 → (nI a &&& (nI b ^^^ -1)) = nI (ep_fr a b) ∧ ep_fr a b < 16 := by decide +kernel
set_option maxRecDepth 20000 in
theorem c_X11_firstFrom (G : EzG) (d : Nat) (x : Nat) (f : Int32) (M : EzM) (hx : x < 16) : Ezc G mX11_firstFrom d [eI (nI x), eI f] M (fun r M' => r = some (eI (ep_oi (ep_ff x (ep_m4 f)))) ∧ M' = M) := by
  refine Ezc.of (by decide +kernel) (Nat.le_of_ble_eq_true rfl) ?_
  have b0 := ep_b2 x ((ep_m4 f + 0) % 4)
  have b1 := ep_b2 x ((ep_m4 f + 1) % 4)
  have b2 := ep_b2 x ((ep_m4 f + 2) % 4)
  have b3 := ep_b2 x ((ep_m4 f + 3) % 4)
  show Ez G mX11_firstFrom d 0 [(0, eI (nI x)), (1, eI f)] [] M _
  refine ez_iconst 1 dX11_firstFrom_0 rfl (nI 0) (by decide) ?_
  refine ez_istore_n 2 [(2, eI (nI 0)), (0, eI (nI x)), (1, eI f)] dX11_firstFrom_1 rfl (by decide) rfl ?_
  refine ez_iload_n 3 dX11_firstFrom_2 rfl rfl ?_
  refine ez_iconst 4 dX11_firstFrom_3 rfl (nI 4) (by decide) ?_
  refine ez_ncmp_ge 7 29 dX11_firstFrom_4 rfl (by decide) (by omega) (by omega) (fun h4 => ?_) (fun h4 => ?_)
  · exact absurd h4 (by decide)
  · refine ez_iload_n 8 dX11_firstFrom_7 rfl rfl ?_
    refine ez_iload_n 9 dX11_firstFrom_8 rfl rfl ?_
    refine ez_iadd 10 dX11_firstFrom_9 rfl ?_
    refine ez_iconst 11 dX11_firstFrom_10 rfl (nI 3) (by decide) ?_
    refine ez_iand 12 dX11_firstFrom_11 rfl ?_
    refine ez_top (nI ((ep_m4 f + 0) % 4)) (ep_m4_and f (by decide)) ?_
    refine ez_istore_n 13 [(3, eI (nI ((ep_m4 f + 0) % 4))), (2, eI (nI 0)), (0, eI (nI x)), (1, eI f)] dX11_firstFrom_12 rfl (by decide) rfl ?_
    refine ez_iload_n 14 dX11_firstFrom_13 rfl rfl ?_
    refine ez_iload_n 15 dX11_firstFrom_14 rfl rfl ?_
    refine ez_ishr 16 dX11_firstFrom_15 rfl ?_
    refine ez_iconst 17 dX11_firstFrom_16 rfl (nI 1) (by decide) ?_
    refine ez_iand 18 dX11_firstFrom_17 rfl ?_
    refine ez_top (nI (ep_b x ((ep_m4 f + 0) % 4))) (ep_bshr x hx _ (by omega)) ?_
    refine ez_nif_eq 21 23 dX11_firstFrom_18 rfl (by decide) (by omega) (fun h18 => ?_) (fun h18 => ?_)
    · refine ez_iinc 26 (nI 1) [(2, eI (nI 1)), (3, eI (nI ((ep_m4 f + 0) % 4))), (0, eI (nI x)), (1, eI f)] dX11_firstFrom_23 rfl rfl (by decide) (by decide) rfl ?_
      refine ez_goto 2 dX11_firstFrom_26 (by decide) ?_
      refine ez_iload_n 3 dX11_firstFrom_2 rfl rfl ?_
      refine ez_iconst 4 dX11_firstFrom_3 rfl (nI 4) (by decide) ?_
      refine ez_ncmp_ge 7 29 dX11_firstFrom_4 rfl (by decide) (by omega) (by omega) (fun h4' => ?_) (fun h4' => ?_)
      · exact absurd h4' (by decide)
      · refine ez_iload_n 8 dX11_firstFrom_7 rfl rfl ?_
        refine ez_iload_n 9 dX11_firstFrom_8 rfl rfl ?_
        refine ez_iadd 10 dX11_firstFrom_9 rfl ?_
        refine ez_iconst 11 dX11_firstFrom_10 rfl (nI 3) (by decide) ?_
        refine ez_iand 12 dX11_firstFrom_11 rfl ?_
        refine ez_top (nI ((ep_m4 f + 1) % 4)) (ep_m4_and f (by decide)) ?_
        refine ez_istore_n 13 [(3, eI (nI ((ep_m4 f + 1) % 4))), (2, eI (nI 1)), (0, eI (nI x)), (1, eI f)] dX11_firstFrom_12 rfl (by decide) rfl ?_
        refine ez_iload_n 14 dX11_firstFrom_13 rfl rfl ?_
        refine ez_iload_n 15 dX11_firstFrom_14 rfl rfl ?_
        refine ez_ishr 16 dX11_firstFrom_15 rfl ?_
        refine ez_iconst 17 dX11_firstFrom_16 rfl (nI 1) (by decide) ?_
        refine ez_iand 18 dX11_firstFrom_17 rfl ?_
        refine ez_top (nI (ep_b x ((ep_m4 f + 1) % 4))) (ep_bshr x hx _ (by omega)) ?_
        refine ez_nif_eq 21 23 dX11_firstFrom_18 rfl (by decide) (by omega) (fun h18' => ?_) (fun h18' => ?_)
        · refine ez_iinc 26 (nI 2) [(2, eI (nI 2)), (3, eI (nI ((ep_m4 f + 1) % 4))), (0, eI (nI x)), (1, eI f)] dX11_firstFrom_23 rfl rfl (by decide) (by decide) rfl ?_
          refine ez_goto 2 dX11_firstFrom_26 (by decide) ?_
          refine ez_iload_n 3 dX11_firstFrom_2 rfl rfl ?_
          refine ez_iconst 4 dX11_firstFrom_3 rfl (nI 4) (by decide) ?_
          refine ez_ncmp_ge 7 29 dX11_firstFrom_4 rfl (by decide) (by omega) (by omega) (fun h4'' => ?_) (fun h4'' => ?_)
          · exact absurd h4'' (by decide)
          · refine ez_iload_n 8 dX11_firstFrom_7 rfl rfl ?_
            refine ez_iload_n 9 dX11_firstFrom_8 rfl rfl ?_
            refine ez_iadd 10 dX11_firstFrom_9 rfl ?_
            refine ez_iconst 11 dX11_firstFrom_10 rfl (nI 3) (by decide) ?_
            refine ez_iand 12 dX11_firstFrom_11 rfl ?_
            refine ez_top (nI ((ep_m4 f + 2) % 4)) (ep_m4_and f (by decide)) ?_
            refine ez_istore_n 13 [(3, eI (nI ((ep_m4 f + 2) % 4))), (2, eI (nI 2)), (0, eI (nI x)), (1, eI f)] dX11_firstFrom_12 rfl (by decide) rfl ?_
            refine ez_iload_n 14 dX11_firstFrom_13 rfl rfl ?_
            refine ez_iload_n 15 dX11_firstFrom_14 rfl rfl ?_
            refine ez_ishr 16 dX11_firstFrom_15 rfl ?_
            refine ez_iconst 17 dX11_firstFrom_16 rfl (nI 1) (by decide) ?_
            refine ez_iand 18 dX11_firstFrom_17 rfl ?_
            refine ez_top (nI (ep_b x ((ep_m4 f + 2) % 4))) (ep_bshr x hx _ (by omega)) ?_
            refine ez_nif_eq 21 23 dX11_firstFrom_18 rfl (by decide) (by omega) (fun h18'' => ?_) (fun h18'' => ?_)
            · refine ez_iinc 26 (nI 3) [(2, eI (nI 3)), (3, eI (nI ((ep_m4 f + 2) % 4))), (0, eI (nI x)), (1, eI f)] dX11_firstFrom_23 rfl rfl (by decide) (by decide) rfl ?_
              refine ez_goto 2 dX11_firstFrom_26 (by decide) ?_
              refine ez_iload_n 3 dX11_firstFrom_2 rfl rfl ?_
              refine ez_iconst 4 dX11_firstFrom_3 rfl (nI 4) (by decide) ?_
              refine ez_ncmp_ge 7 29 dX11_firstFrom_4 rfl (by decide) (by omega) (by omega) (fun h4''' => ?_) (fun h4''' => ?_)
              · exact absurd h4''' (by decide)
              · refine ez_iload_n 8 dX11_firstFrom_7 rfl rfl ?_
                refine ez_iload_n 9 dX11_firstFrom_8 rfl rfl ?_
                refine ez_iadd 10 dX11_firstFrom_9 rfl ?_
                refine ez_iconst 11 dX11_firstFrom_10 rfl (nI 3) (by decide) ?_
                refine ez_iand 12 dX11_firstFrom_11 rfl ?_
                refine ez_top (nI ((ep_m4 f + 3) % 4)) (ep_m4_and f (by decide)) ?_
                refine ez_istore_n 13 [(3, eI (nI ((ep_m4 f + 3) % 4))), (2, eI (nI 3)), (0, eI (nI x)), (1, eI f)] dX11_firstFrom_12 rfl (by decide) rfl ?_
                refine ez_iload_n 14 dX11_firstFrom_13 rfl rfl ?_
                refine ez_iload_n 15 dX11_firstFrom_14 rfl rfl ?_
                refine ez_ishr 16 dX11_firstFrom_15 rfl ?_
                refine ez_iconst 17 dX11_firstFrom_16 rfl (nI 1) (by decide) ?_
                refine ez_iand 18 dX11_firstFrom_17 rfl ?_
                refine ez_top (nI (ep_b x ((ep_m4 f + 3) % 4))) (ep_bshr x hx _ (by omega)) ?_
                refine ez_nif_eq 21 23 dX11_firstFrom_18 rfl (by decide) (by omega) (fun h18''' => ?_) (fun h18''' => ?_)
                · refine ez_iinc 26 (nI 4) [(2, eI (nI 4)), (3, eI (nI ((ep_m4 f + 3) % 4))), (0, eI (nI x)), (1, eI f)] dX11_firstFrom_23 rfl rfl (by decide) (by decide) rfl ?_
                  refine ez_goto 2 dX11_firstFrom_26 (by decide) ?_
                  refine ez_iload_n 3 dX11_firstFrom_2 rfl rfl ?_
                  refine ez_iconst 4 dX11_firstFrom_3 rfl (nI 4) (by decide) ?_
                  refine ez_ncmp_ge 7 29 dX11_firstFrom_4 rfl (by decide) (by omega) (by omega) (fun h4'''' => ?_) (fun h4'''' => ?_)
                  · refine ez_iconst 30 dX11_firstFrom_29 rfl (-1) (by decide) ?_
                    refine ez_iret .int dX11_firstFrom_30 rfl rfl ?_
                    exact ⟨by unfold ep_ff; rw [if_neg (by omega), if_neg (by omega), if_neg (by omega), if_neg (by omega)]; rfl, rfl⟩
                  · exact absurd h4'''' (by decide)
                · refine ez_iload_n 22 dX11_firstFrom_21 rfl rfl ?_
                  refine ez_iret .int dX11_firstFrom_22 rfl rfl ?_
                  exact ⟨by unfold ep_ff; rw [if_neg (by omega), if_neg (by omega), if_neg (by omega), if_pos (by omega)]; rfl, rfl⟩
            · refine ez_iload_n 22 dX11_firstFrom_21 rfl rfl ?_
              refine ez_iret .int dX11_firstFrom_22 rfl rfl ?_
              exact ⟨by unfold ep_ff; rw [if_neg (by omega), if_neg (by omega), if_pos (by omega)]; rfl, rfl⟩
        · refine ez_iload_n 22 dX11_firstFrom_21 rfl rfl ?_
          refine ez_iret .int dX11_firstFrom_22 rfl rfl ?_
          exact ⟨by unfold ep_ff; rw [if_neg (by omega), if_pos (by omega)]; rfl, rfl⟩
    · refine ez_iload_n 22 dX11_firstFrom_21 rfl rfl ?_
      refine ez_iret .int dX11_firstFrom_22 rfl rfl ?_
      exact ⟨by unfold ep_ff; rw [if_pos (by omega)]; rfl, rfl⟩
set_option maxRecDepth 20000 in
theorem c_X11_greatestOf (G : EzG) (d : Nat) (x : Nat) (M : EzM) (hx : x < 16) : Ezc G mX11_greatestOf d [eI (nI x)] M (fun r M' => r = some (eI (ep_oi (ep_gr x))) ∧ M' = M) := by
  refine Ezc.of (by decide +kernel) (Nat.le_of_ble_eq_true rfl) ?_
  have b0 := ep_b2 x 0
  have b1 := ep_b2 x 1
  have b2 := ep_b2 x 2
  have b3 := ep_b2 x 3
  show Ez G mX11_greatestOf d 0 [(0, eI (nI x))] [] M _
  refine ez_iconst 1 dX11_greatestOf_0 rfl (nI 3) (by decide) ?_
  refine ez_istore_n 2 [(1, eI (nI 3)), (0, eI (nI x))] dX11_greatestOf_1 rfl (by decide) rfl ?_
  refine ez_iload_n 3 dX11_greatestOf_2 rfl rfl ?_
  refine ez_nif_lt 6 dX11_greatestOf_3 rfl (by omega) ?_
  refine ez_iload_n 7 dX11_greatestOf_6 rfl rfl ?_
  refine ez_iload_n 8 dX11_greatestOf_7 rfl rfl ?_
  refine ez_ishr 9 dX11_greatestOf_8 rfl ?_
  refine ez_iconst 10 dX11_greatestOf_9 rfl (nI 1) (by decide) ?_
  refine ez_iand 11 dX11_greatestOf_10 rfl ?_
  refine ez_top (nI (ep_b x 3)) (ep_bshr x hx _ (by decide)) ?_
  refine ez_nif_eq 14 16 dX11_greatestOf_11 rfl (by decide) (by omega) (fun h11 => ?_) (fun h11 => ?_)
  · refine ez_iinc 19 (nI 2) [(1, eI (nI 2)), (0, eI (nI x))] dX11_greatestOf_16 rfl rfl (by decide) (by decide) rfl ?_
    refine ez_goto 2 dX11_greatestOf_19 (by decide) ?_
    refine ez_iload_n 3 dX11_greatestOf_2 rfl rfl ?_
    refine ez_nif_lt 6 dX11_greatestOf_3 rfl (by omega) ?_
    refine ez_iload_n 7 dX11_greatestOf_6 rfl rfl ?_
    refine ez_iload_n 8 dX11_greatestOf_7 rfl rfl ?_
    refine ez_ishr 9 dX11_greatestOf_8 rfl ?_
    refine ez_iconst 10 dX11_greatestOf_9 rfl (nI 1) (by decide) ?_
    refine ez_iand 11 dX11_greatestOf_10 rfl ?_
    refine ez_top (nI (ep_b x 2)) (ep_bshr x hx _ (by decide)) ?_
    refine ez_nif_eq 14 16 dX11_greatestOf_11 rfl (by decide) (by omega) (fun h11' => ?_) (fun h11' => ?_)
    · refine ez_iinc 19 (nI 1) [(1, eI (nI 1)), (0, eI (nI x))] dX11_greatestOf_16 rfl rfl (by decide) (by decide) rfl ?_
      refine ez_goto 2 dX11_greatestOf_19 (by decide) ?_
      refine ez_iload_n 3 dX11_greatestOf_2 rfl rfl ?_
      refine ez_nif_lt 6 dX11_greatestOf_3 rfl (by omega) ?_
      refine ez_iload_n 7 dX11_greatestOf_6 rfl rfl ?_
      refine ez_iload_n 8 dX11_greatestOf_7 rfl rfl ?_
      refine ez_ishr 9 dX11_greatestOf_8 rfl ?_
      refine ez_iconst 10 dX11_greatestOf_9 rfl (nI 1) (by decide) ?_
      refine ez_iand 11 dX11_greatestOf_10 rfl ?_
      refine ez_top (nI (ep_b x 1)) (ep_bshr x hx _ (by decide)) ?_
      refine ez_nif_eq 14 16 dX11_greatestOf_11 rfl (by decide) (by omega) (fun h11'' => ?_) (fun h11'' => ?_)
      · refine ez_iinc 19 (nI 0) [(1, eI (nI 0)), (0, eI (nI x))] dX11_greatestOf_16 rfl rfl (by decide) (by decide) rfl ?_
        refine ez_goto 2 dX11_greatestOf_19 (by decide) ?_
        refine ez_iload_n 3 dX11_greatestOf_2 rfl rfl ?_
        refine ez_nif_lt 6 dX11_greatestOf_3 rfl (by omega) ?_
        refine ez_iload_n 7 dX11_greatestOf_6 rfl rfl ?_
        refine ez_iload_n 8 dX11_greatestOf_7 rfl rfl ?_
        refine ez_ishr 9 dX11_greatestOf_8 rfl ?_
        refine ez_iconst 10 dX11_greatestOf_9 rfl (nI 1) (by decide) ?_
        refine ez_iand 11 dX11_greatestOf_10 rfl ?_
        refine ez_top (nI (ep_b x 0)) (ep_bshr x hx _ (by decide)) ?_
        refine ez_nif_eq 14 16 dX11_greatestOf_11 rfl (by decide) (by omega) (fun h11''' => ?_) (fun h11''' => ?_)
        · refine ez_iinc 19 (-1) [(1, eI (-1)), (0, eI (nI x))] dX11_greatestOf_16 rfl rfl (by decide) (by decide) rfl ?_
          refine ez_goto 2 dX11_greatestOf_19 (by decide) ?_
          refine ez_iload_n 3 dX11_greatestOf_2 rfl rfl ?_
          refine ez_if_lt 6 22 dX11_greatestOf_3 rfl (by decide) (fun h3 => ?_) (fun h3 => ?_)
          · refine ez_iconst 23 dX11_greatestOf_22 rfl (-1) (by decide) ?_
            refine ez_iret .int dX11_greatestOf_23 rfl rfl ?_
            exact ⟨by unfold ep_gr; rw [if_neg (by omega), if_neg (by omega), if_neg (by omega), if_neg (by omega)]; rfl, rfl⟩
          · exact absurd (show (-1 : Int32) < 0 by decide) h3
        · refine ez_iload_n 15 dX11_greatestOf_14 rfl rfl ?_
          refine ez_iret .int dX11_greatestOf_15 rfl rfl ?_
          exact ⟨by unfold ep_gr; rw [if_neg (by omega), if_neg (by omega), if_neg (by omega), if_pos (by omega)]; rfl, rfl⟩
      · refine ez_iload_n 15 dX11_greatestOf_14 rfl rfl ?_
        refine ez_iret .int dX11_greatestOf_15 rfl rfl ?_
        exact ⟨by unfold ep_gr; rw [if_neg (by omega), if_neg (by omega), if_pos (by omega)]; rfl, rfl⟩
    · refine ez_iload_n 15 dX11_greatestOf_14 rfl rfl ?_
      refine ez_iret .int dX11_greatestOf_15 rfl rfl ?_
      exact ⟨by unfold ep_gr; rw [if_neg (by omega), if_pos (by omega)]; rfl, rfl⟩
  · refine ez_iload_n 15 dX11_greatestOf_14 rfl rfl ?_
    refine ez_iret .int dX11_greatestOf_15 rfl rfl ?_
    exact ⟨by unfold ep_gr; rw [if_pos (by omega)]; rfl, rfl⟩
set_option maxRecDepth 20000 in
theorem c_X12_least (g : EzH) (d : Nat) (x : Nat) (M : EzM) (hx : x < 16) (h0 : 0 < x) : Ezc (true, g) mX12_least d [eI (nI x)] M (fun r M' => r = some (eI (ep_oi (ep_ff x 0))) ∧ M' = M) := by
  refine Ezc.of (by decide +kernel) (Nat.le_of_ble_eq_true rfl) ?_
  have b0 := ep_b2 x 0
  have b1 := ep_b2 x 1
  have b2 := ep_b2 x 2
  have b3 := ep_b2 x 3
  show Ez (true, g) mX12_least d 0 [(0, eI (nI x))] [] M _
  refine ez_iconst 1 dX12_least_0 rfl (nI 0) (by decide) ?_
  refine ez_istore_n 2 [(1, eI (nI 0)), (0, eI (nI x))] dX12_least_1 rfl (by decide) rfl ?_
  refine ez_iload_n 3 dX12_least_2 rfl rfl ?_
  refine ez_iload_n 4 dX12_least_3 rfl rfl ?_
  refine ez_ishr 5 dX12_least_4 rfl ?_
  refine ez_iconst 6 dX12_least_5 rfl (nI 1) (by decide) ?_
  refine ez_iand 7 dX12_least_6 rfl ?_
  refine ez_top (nI (ep_b x 0)) (ep_bshr x hx _ (by decide)) ?_
  refine ez_nif_ne 10 16 dX12_least_7 rfl (by decide) (by omega) (fun h7 => ?_) (fun h7 => ?_)
  · refine ez_iload_n 17 dX12_least_16 rfl rfl ?_
    refine ez_iret .int dX12_least_17 rfl rfl ?_
    exact ⟨by unfold ep_ff; simp only [Nat.zero_add, Nat.reduceMod]; rw [if_pos (by omega)]; rfl, rfl⟩
  · refine ez_iinc 13 (nI 1) [(1, eI (nI 1)), (0, eI (nI x))] dX12_least_10 rfl rfl (by decide) (by decide) rfl ?_
    refine ez_goto 2 dX12_least_13 (by decide) ?_
    refine ez_iload_n 3 dX12_least_2 rfl rfl ?_
    refine ez_iload_n 4 dX12_least_3 rfl rfl ?_
    refine ez_ishr 5 dX12_least_4 rfl ?_
    refine ez_iconst 6 dX12_least_5 rfl (nI 1) (by decide) ?_
    refine ez_iand 7 dX12_least_6 rfl ?_
    refine ez_top (nI (ep_b x 1)) (ep_bshr x hx _ (by decide)) ?_
    refine ez_nif_ne 10 16 dX12_least_7 rfl (by decide) (by omega) (fun h7' => ?_) (fun h7' => ?_)
    · refine ez_iload_n 17 dX12_least_16 rfl rfl ?_
      refine ez_iret .int dX12_least_17 rfl rfl ?_
      exact ⟨by unfold ep_ff; simp only [Nat.zero_add, Nat.reduceMod]; rw [if_neg (by omega), if_pos (by omega)]; rfl, rfl⟩
    · refine ez_iinc 13 (nI 2) [(1, eI (nI 2)), (0, eI (nI x))] dX12_least_10 rfl rfl (by decide) (by decide) rfl ?_
      refine ez_goto 2 dX12_least_13 (by decide) ?_
      refine ez_iload_n 3 dX12_least_2 rfl rfl ?_
      refine ez_iload_n 4 dX12_least_3 rfl rfl ?_
      refine ez_ishr 5 dX12_least_4 rfl ?_
      refine ez_iconst 6 dX12_least_5 rfl (nI 1) (by decide) ?_
      refine ez_iand 7 dX12_least_6 rfl ?_
      refine ez_top (nI (ep_b x 2)) (ep_bshr x hx _ (by decide)) ?_
      refine ez_nif_ne 10 16 dX12_least_7 rfl (by decide) (by omega) (fun h7'' => ?_) (fun h7'' => ?_)
      · refine ez_iload_n 17 dX12_least_16 rfl rfl ?_
        refine ez_iret .int dX12_least_17 rfl rfl ?_
        exact ⟨by unfold ep_ff; simp only [Nat.zero_add, Nat.reduceMod]; rw [if_neg (by omega), if_neg (by omega), if_pos (by omega)]; rfl, rfl⟩
      · refine ez_iinc 13 (nI 3) [(1, eI (nI 3)), (0, eI (nI x))] dX12_least_10 rfl rfl (by decide) (by decide) rfl ?_
        refine ez_goto 2 dX12_least_13 (by decide) ?_
        refine ez_iload_n 3 dX12_least_2 rfl rfl ?_
        refine ez_iload_n 4 dX12_least_3 rfl rfl ?_
        refine ez_ishr 5 dX12_least_4 rfl ?_
        refine ez_iconst 6 dX12_least_5 rfl (nI 1) (by decide) ?_
        refine ez_iand 7 dX12_least_6 rfl ?_
        refine ez_top (nI (ep_b x 3)) (ep_bshr x hx _ (by decide)) ?_
        refine ez_nif_ne 10 16 dX12_least_7 rfl (by decide) (by omega) (fun h7''' => ?_) (fun h7''' => ?_)
        · refine ez_iload_n 17 dX12_least_16 rfl rfl ?_
          refine ez_iret .int dX12_least_17 rfl rfl ?_
          exact ⟨by unfold ep_ff; simp only [Nat.zero_add, Nat.reduceMod]; rw [if_neg (by omega), if_neg (by omega), if_neg (by omega), if_pos (by omega)]; rfl, rfl⟩
        · have bb := ep_bsum x hx
          exfalso
          omega
set_option maxRecDepth 20000 in
theorem c_X12_greatest (g : EzH) (d : Nat) (x : Nat) (M : EzM) (hx : x < 16) (h0 : 0 < x) : Ezc (true, g) mX12_greatest d [eI (nI x)] M (fun r M' => r = some (eI (ep_oi (ep_gr x))) ∧ M' = M) := by
  refine Ezc.of (by decide +kernel) (Nat.le_of_ble_eq_true rfl) ?_
  have b0 := ep_b2 x 0
  have b1 := ep_b2 x 1
  have b2 := ep_b2 x 2
  have b3 := ep_b2 x 3
  show Ez (true, g) mX12_greatest d 0 [(0, eI (nI x))] [] M _
  refine ez_iconst 1 dX12_greatest_0 rfl (nI 3) (by decide) ?_
  refine ez_istore_n 2 [(1, eI (nI 3)), (0, eI (nI x))] dX12_greatest_1 rfl (by decide) rfl ?_
  refine ez_iload_n 3 dX12_greatest_2 rfl rfl ?_
  refine ez_iload_n 4 dX12_greatest_3 rfl rfl ?_
  refine ez_ishr 5 dX12_greatest_4 rfl ?_
  refine ez_iconst 6 dX12_greatest_5 rfl (nI 1) (by decide) ?_
  refine ez_iand 7 dX12_greatest_6 rfl ?_
  refine ez_top (nI (ep_b x 3)) (ep_bshr x hx _ (by decide)) ?_
  refine ez_nif_ne 10 16 dX12_greatest_7 rfl (by decide) (by omega) (fun h7 => ?_) (fun h7 => ?_)
  · refine ez_iload_n 17 dX12_greatest_16 rfl rfl ?_
    refine ez_iret .int dX12_greatest_17 rfl rfl ?_
    exact ⟨by unfold ep_gr; rw [if_pos (by omega)]; rfl, rfl⟩
  · refine ez_iinc 13 (nI 2) [(1, eI (nI 2)), (0, eI (nI x))] dX12_greatest_10 rfl rfl (by decide) (by decide) rfl ?_
    refine ez_goto 2 dX12_greatest_13 (by decide) ?_
    refine ez_iload_n 3 dX12_greatest_2 rfl rfl ?_
    refine ez_iload_n 4 dX12_greatest_3 rfl rfl ?_
    refine ez_ishr 5 dX12_greatest_4 rfl ?_
    refine ez_iconst 6 dX12_greatest_5 rfl (nI 1) (by decide) ?_
    refine ez_iand 7 dX12_greatest_6 rfl ?_
    refine ez_top (nI (ep_b x 2)) (ep_bshr x hx _ (by decide)) ?_
    refine ez_nif_ne 10 16 dX12_greatest_7 rfl (by decide) (by omega) (fun h7' => ?_) (fun h7' => ?_)
    · refine ez_iload_n 17 dX12_greatest_16 rfl rfl ?_
      refine ez_iret .int dX12_greatest_17 rfl rfl ?_
      exact ⟨by unfold ep_gr; rw [if_neg (by omega), if_pos (by omega)]; rfl, rfl⟩
    · refine ez_iinc 13 (nI 1) [(1, eI (nI 1)), (0, eI (nI x))] dX12_greatest_10 rfl rfl (by decide) (by decide) rfl ?_
      refine ez_goto 2 dX12_greatest_13 (by decide) ?_
      refine ez_iload_n 3 dX12_greatest_2 rfl rfl ?_
      refine ez_iload_n 4 dX12_greatest_3 rfl rfl ?_
      refine ez_ishr 5 dX12_greatest_4 rfl ?_
      refine ez_iconst 6 dX12_greatest_5 rfl (nI 1) (by decide) ?_
      refine ez_iand 7 dX12_greatest_6 rfl ?_
      refine ez_top (nI (ep_b x 1)) (ep_bshr x hx _ (by decide)) ?_
      refine ez_nif_ne 10 16 dX12_greatest_7 rfl (by decide) (by omega) (fun h7'' => ?_) (fun h7'' => ?_)
      · refine ez_iload_n 17 dX12_greatest_16 rfl rfl ?_
        refine ez_iret .int dX12_greatest_17 rfl rfl ?_
        exact ⟨by unfold ep_gr; rw [if_neg (by omega), if_neg (by omega), if_pos (by omega)]; rfl, rfl⟩
      · refine ez_iinc 13 (nI 0) [(1, eI (nI 0)), (0, eI (nI x))] dX12_greatest_10 rfl rfl (by decide) (by decide) rfl ?_
        refine ez_goto 2 dX12_greatest_13 (by decide) ?_
        refine ez_iload_n 3 dX12_greatest_2 rfl rfl ?_
        refine ez_iload_n 4 dX12_greatest_3 rfl rfl ?_
        refine ez_ishr 5 dX12_greatest_4 rfl ?_
        refine ez_iconst 6 dX12_greatest_5 rfl (nI 1) (by decide) ?_
        refine ez_iand 7 dX12_greatest_6 rfl ?_
        refine ez_top (nI (ep_b x 0)) (ep_bshr x hx _ (by decide)) ?_
        refine ez_nif_ne 10 16 dX12_greatest_7 rfl (by decide) (by omega) (fun h7''' => ?_) (fun h7''' => ?_)
        · refine ez_iload_n 17 dX12_greatest_16 rfl rfl ?_
          refine ez_iret .int dX12_greatest_17 rfl rfl ?_
          exact ⟨by unfold ep_gr; rw [if_neg (by omega), if_neg (by omega), if_neg (by omega), if_pos (by omega)]; rfl, rfl⟩
        · have bb := ep_bsum x hx
          exfalso
          omega
