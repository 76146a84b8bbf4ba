/-! frames by places; the tape's bytes; feed -/
def FX (ch : Nat → Nat → Nat → Prop) (M M' : EzM) : Prop := ∀ k i s, ¬ ch k i s → M'.1 k i s = M.1 k i s
theorem FX.rf {ch : Nat → Nat → Nat → Prop} {M : EzM} : FX ch M M := fun _ _ _ _ => rfl
theorem FX.tr {ch : Nat → Nat → Nat → Prop} {M M1 M2 : EzM} (h : FX ch M M1) (h2 : FX ch M1 M2) : FX ch M M2 := fun k i s hc => (h2 k i s hc).trans (h k i s hc)
theorem FX.up {ch ch2 : Nat → Nat → Nat → Prop} {M M1 : EzM} (h : FX ch M M1) (hc : ∀ k i s, ch k i s → ch2 k i s) : FX ch2 M M1 := fun k i s q => h k i s (fun z => q (hc k i s z))
theorem FX.st {ch : Nat → Nat → Nat → Prop} {M M1 : EzM} {k i s : Nat} {v : Int32} (h : FX ch M M1) (hc : ch k i s) : FX ch M (ez_st M1 k i s v) := fun k' i' s' q => by
  rw [ez_rd, if_neg (fun z => q (by rw [z.1, z.2.1, z.2.2]; exact hc))]
  exact h k' i' s' q
theorem FX.stL {ch : Nat → Nat → Nat → Prop} {M M1 : EzM} {k i s : Nat} {v : Int64} (h : FX ch M M1) : FX ch M (ez_stL M1 k i s v) := fun k' i' s' q => h k' i' s' q
theorem FX.row {ch : Nat → Nat → Nat → Prop} {M M1 : EzM} {k i : Nat} {f : Nat → Int32} (h : FX ch M M1) (hc : ∀ s, ch k i s) : FX ch M (ez_row M1 k i f) := fun k' i' s' q => by
  rw [ez_rdr, if_neg (fun z => q (by rw [z.1, z.2]; exact hc s'))]
  exact h k' i' s' q
theorem FX.fm {ch : Nat → Nat → Nat → Prop} {ks : List Nat} {M M1 : EzM} (h : ez_fm ks M M1) (hc : ∀ k i s, k ∈ ks → ch k i s) : FX ch M M1 := fun k i s q => by
  rw [(h k (fun z => q (hc k i s z))).1]
theorem FX.tf2 {ch : Nat → Nat → Nat → Prop} {M M1 : EzM} (h : TF2 M M1) (hc : ∀ k i s, (((k = 3 ∨ k = 16 ∨ k = 17) ∧ i = 6) ∨ k = 14 ∨ k = 15 ∨ (k = 7 ∧ ¬ (i = 0 ∧ s = 1))) → ch k i s) : FX ch M M1 := fun k i s q => by
  have q2 := fun z => q (hc k i s z)
  by_cases hk : k ∈ [3, 7, 14, 15, 16, 17]
  · simp at hk
    by_cases i6 : i = 6
    · by_cases k7 : k = 7
      · exact absurd (Or.inr (Or.inr (Or.inr ⟨k7, by omega⟩))) q2
      · exfalso; apply q2; omega
    · have h2 := h.2.1 i i6
      rcases hk with rfl | rfl | rfl | rfl | rfl | rfl
      · rw [h2.1]
      · by_cases z : i = 0 ∧ s = 1
        · rw [z.1, z.2]; exact h.2.2
        · exfalso; apply q2; omega
      · exfalso; apply q2; omega
      · exfalso; apply q2; omega
      · rw [h2.2.1]
      · rw [h2.2.2]
  · rw [(h.1 k hk).1]
theorem ep_rng {x : Int32} {a b : Nat} (hb : b + 1 < 2 ^ 31) (h1 : ¬ x < nI a) (h2 : x ≤ nI b) (ha : a < 2 ^ 31) : ∃ c : Nat, a ≤ c ∧ c ≤ b ∧ x = nI c := by
  rw [Int32.lt_iff_toInt_lt, nI_toInt ha] at h1
  have h3 := h2
  rw [Int32.le_iff_toInt_le, nI_toInt (by omega)] at h3
  obtain ⟨c, hc, e⟩ := ep_ix_rng (n := b) (fun q => by rw [Int32.lt_iff_toInt_lt, show (0 : Int32).toInt = 0 by decide] at q; omega) h2 (by omega)
  · rw [e, nI_toInt (by omega)] at h1
    exact ⟨c, by omega, by omega, e⟩
def ep_rg (x : Int32) (a b : Nat) : Option Nat := if x < nI a ∨ nI b < x then none else some x.toNatClampNeg
theorem ep_rg_nI {c a b : Nat} (h1 : a ≤ c) (h2 : c ≤ b) (hb : b < 2 ^ 31) : ep_rg (nI c) a b = some c := by
  unfold ep_rg
  rw [if_neg, nI_clamp (by omega)]
  rintro (q | q)
  · have := (nI_ltI (by omega) (by omega)).mp q; omega
  · have := (nI_ltI (by omega) (by omega)).mp q; omega
def ep_rt (x : Int32) (a b : Nat) (r : Option EzV) : Prop := (r = some (eI (nI 0)) ∧ ep_rg x a b = none) ∨ ∃ j : Nat, a ≤ j ∧ j ≤ b ∧ x = nI j ∧ r = some (eI (nI 1))
theorem c_in_r (g : EzH) (d : Nat) (x : Int32) (a b : Nat) (M : EzM) (ha : a < 2 ^ 31) (hb : b + 1 < 2 ^ 31) : Ezc (true, g) mX12_in d [eL x.toInt64, eL (nI a).toInt64, eL (nI b).toInt64] M (fun r M' => M' = M ∧ ep_rt x a b r) :=
  (c_in_3 g d x (nI a) (nI b) M).wk (fun r M' h => by
    refine ⟨h.2, ?_⟩
    rw [h.1]
    unfold ep_i3 ep_rt
    by_cases q : x < nI a ∨ nI b < x
    · rw [if_pos q]; exact Or.inl ⟨rfl, by rw [ep_rg, if_pos q]⟩
    · rw [if_neg q]
      obtain ⟨c, h1, h2, e⟩ := ep_rng hb (fun z => q (Or.inl z)) (Int32.not_lt.mp (fun z => q (Or.inr z))) ha
      exact Or.inr ⟨c, h1, h2, e, rfl⟩)
/-- a long's bytes -/
def ep_bt (x : Int64) : Nat := x.toBitVec.toNat % 256
theorem ep_bt_lt (x : Int64) : ep_bt x < 256 := Nat.mod_lt _ (by decide)
theorem ep_bt_m (x : Int64) : (x &&& 255).toInt32 = nI (ep_bt x) := by
  apply Int32.toBitVec_inj.mp
  apply BitVec.eq_of_toNat_eq
  show ((x.toBitVec &&& (255 : Int64).toBitVec).signExtend 32).toNat = (BitVec.ofNat 32 (ep_bt x)).toNat
  rw [BitVec.signExtend_eq_setWidth_of_le _ (by decide), BitVec.toNat_setWidth, BitVec.toNat_and, BitVec.toNat_ofNat, show (255 : Int64).toBitVec.toNat = 2 ^ 8 - 1 by decide, Nat.and_two_pow_sub_one_eq_mod]
  rfl
theorem ep_bt_c (x : Int64) : x.toInt32.toInt8.toInt32 = (nI (ep_bt x)).toInt8.toInt32 := by
  have h : x.toInt32.toInt8 = (nI (ep_bt x)).toInt8 := by
    apply Int8.toBitVec_inj.mp
    apply BitVec.eq_of_toNat_eq
    show (((x.toBitVec).signExtend 32).signExtend 8).toNat = ((BitVec.ofNat 32 (ep_bt x)).signExtend 8).toNat
    rw [BitVec.signExtend_eq_setWidth_of_le _ (by decide), BitVec.signExtend_eq_setWidth_of_le _ (by decide), BitVec.signExtend_eq_setWidth_of_le _ (by decide), BitVec.toNat_setWidth, BitVec.toNat_setWidth, BitVec.toNat_setWidth, BitVec.toNat_ofNat]
    unfold ep_bt
    omega
  rw [h]
theorem ep_s64 : ∀ a, a < 64 → (((nI a).toInt64 &&& 63).toBitVec.smod 64#64).toNat = a := by decide +kernel
theorem ep_shr (x : Int64) {a : Nat} (h : a < 64) : (x >>> ((nI a).toInt64 &&& 63)).toBitVec = x.toBitVec.sshiftRight a := by
  rw [Int64.toBitVec_shiftRight]
  show x.toBitVec.sshiftRight (((nI a).toInt64 &&& 63).toBitVec.smod 64#64).toNat = _
  rw [ep_s64 a h]
def ep_sh (w : Int64) : Nat → Int64
  | 0 => w
  | i + 1 => ep_sh w i >>> ((nI 8).toInt64 &&& 63)
theorem ep_shv (w : Int64) : ∀ i, (ep_sh w i).toBitVec = w.toBitVec.sshiftRight (8 * i)
  | 0 => by show w.toBitVec = _; rw [Nat.mul_zero, BitVec.sshiftRight_zero]
  | i + 1 => by
    show (ep_sh w i >>> ((nI 8).toInt64 &&& 63)).toBitVec = _
    rw [ep_shr _ (by decide), ep_shv w i, ← BitVec.sshiftRight_add]
    rfl
theorem ep_shm (w : Int64) {i : Nat} (h : i < 8) : w >>> ((nI (8 * i)).toInt64 &&& 63) = ep_sh w i := by
  apply Int64.toBitVec_inj.mp
  rw [ep_shr _ (by omega), ep_shv]
def ep_fd (tn : Nat) (tb : Nat → Nat) (w : Int64) (i : Nat) : Nat := if i < tn then tb i else ep_bt (ep_sh w (i - tn))
abbrev EpTp : Type := Int32 × Nat × (Nat → Nat)
def S_feed (tn : Nat) (tb : Nat → Nat) (x : Int32) (w : Int64) : EpTp := match ep_rg x 1 8 with
  | none => (-2, tn, tb)
  | some n => if 160 < tn + n then (-4, tn, tb) else (nI (tn + n), tn + n, ep_fd tn tb w)
theorem WFt_feed {tn : Nat} {tb : Nat → Nat} (h : WFt tn tb) (x : Int32) (w : Int64) : WFt (S_feed tn tb x w).2.1 (S_feed tn tb x w).2.2 := by
  unfold S_feed
  cases ep_rg x 1 8 with
  | none => exact h
  | some n =>
    by_cases q : 160 < tn + n
    · simp only [q, if_true]; exact h
    · simp only [q, if_false]
      refine ⟨by omega, fun i hi => ?_⟩
      unfold ep_fd
      by_cases z : i < tn
      · rw [if_pos z]; exact h.2 i z
      · rw [if_neg z]; exact ep_bt_lt _
theorem ep_nb (x : Int8) : vp_nar .byte x.toInt32 = x.toInt32 := by
  show x.toInt32.toInt8.toInt32 = x.toInt32
  rw [Int8.toInt8_toInt32]
set_option maxRecDepth 20000 in
theorem c_X7_append (G : EzG) (d : Nat) (tn : Nat) (v : Int8) (M : EzM) (hs : M.1 7 0 1 = nI tn) (ht : tn < 160) : Ezc G mX7_append d [eR 7 0, eI v.toInt32] M (fun r M' => r = none ∧ M' = ez_st (ez_st M 13 0 tn v.toInt32) 7 0 1 (nI (tn + 1))) := by
  refine Ezc.of (by decide +kernel) (Nat.le_of_ble_eq_true rfl) ?_
  show Ez G mX7_append d 0 [(0, eR 7 0), (1, eI v.toInt32)] [] M _
  refine ez_aload_n 1 dX7_append_0 rfl rfl ?_
  refine ez_getf 4 (eI (M.1 7 0 1)) dX7_append_1 rfl fl_X7_29 (by show 0 < 1; omega) rfl ?_
  refine ez_top (nI tn) hs ?_
  refine ez_nif_lt 7 dX7_append_4 rfl (by omega) ?_
  refine ez_aload_n 8 dX7_append_7 rfl rfl ?_
  refine ez_getf 11 (eI (M.1 7 0 1)) dX7_append_8 rfl fl_X7_29 (by show 0 < 1; omega) rfl ?_
  refine ez_top (nI tn) hs ?_
  refine ez_sipush 14 dX7_append_11 rfl (nI 160) (by decide) ?_
  refine ez_ncmp_ge 17 37 dX7_append_14 rfl (by decide) (by omega) (by omega) (fun h14 => ?_) (fun h14 => ?_)
  · exfalso; omega
  · refine ez_aload_n 18 dX7_append_17 rfl rfl ?_
    refine ez_getf 21 (eR 13 0) dX7_append_18 rfl fl_X7_9 (by show 0 < 1; omega) rfl ?_
    refine ez_aload_n 22 dX7_append_21 rfl rfl ?_
    refine ez_getf 25 (eI (M.1 7 0 1)) dX7_append_22 rfl fl_X7_29 (by show 0 < 1; omega) rfl ?_
    refine ez_top (nI tn) hs ?_
    refine ez_iload_n 26 dX7_append_25 rfl rfl ?_
    refine ez_bastN tn 27 dX7_append_26 rfl (by decide) (by show 0 < 1; omega) (by show tn < 160; omega) ?_
    refine ez_aload_n 28 dX7_append_27 rfl rfl ?_
    refine ez_dup 29 dX7_append_28 rfl rfl ?_
    refine ez_getf 32 (eI (M.1 7 0 1)) dX7_append_29 rfl fl_X7_29 (by show 0 < 1; omega) rfl ?_
    refine ez_top (nI tn) hs ?_
    refine ez_iconst 33 dX7_append_32 rfl (nI 1) (by decide) ?_
    refine ez_iadd 34 dX7_append_33 rfl ?_
    refine ez_top (nI (tn + 1)) (nI_add _ _) ?_
    refine ez_putf 37 .int dX7_append_34 rfl fp_X7_29 (by show 0 < 1; omega) rfl (by decide) rfl rfl ?_
    refine ez_vret dX7_append_37 rfl ?_
    exact ⟨rfl, by rw [ep_nb]⟩
theorem RCt_put {tn t : Nat} {tb : Nat → Nat} {w : Int64} {M : EzM} (hR : RCt (tn + t) (ep_fd tn tb w) M) : RCt (tn + (t + 1)) (ep_fd tn tb w) (ez_st (ez_st M 13 0 (tn + t) (ep_sh w t).toInt32.toInt8.toInt32) 7 0 1 (nI (tn + t + 1))) := by
  refine ⟨by rw [ez_rd, if_pos ⟨rfl, rfl, rfl⟩]; rfl, fun i hi => ?_⟩
  rw [ez_rd, if_neg (by omega), ez_rd]
  by_cases e : i = tn + t
  · rw [if_pos ⟨rfl, rfl, e⟩, e, ep_bt_c]
    unfold ep_fd
    rw [if_neg (by omega), Nat.add_sub_cancel_left]
  · rw [if_neg (fun z => e z.2.2)]
    exact hR.2 i (by omega)
theorem RMt_put {tn t : Nat} {tb : Nat → Nat} {w : Int64} {M : EzM} (hR : RMt (tn + t) (ep_fd tn tb w) M) : RMt (tn + (t + 1)) (ep_fd tn tb w) (ez_st (ez_st M 44 0 (tn + t) (nI (ep_bt (ep_sh w t)))) 12 0 6 (nI (tn + t + 1))) := by
  refine ⟨by rw [ez_rd, if_pos ⟨rfl, rfl, rfl⟩]; rfl, fun i hi => ?_⟩
  rw [ez_rd, if_neg (by omega), ez_rd]
  by_cases e : i = tn + t
  · rw [if_pos ⟨rfl, rfl, e⟩, e]
    unfold ep_fd
    rw [if_neg (by omega), Nat.add_sub_cancel_left]
  · rw [if_neg (fun z => e z.2.2)]
    exact hR.2 i (by omega)
set_option maxRecDepth 20000 in
theorem lp_feed (G : EzG) (d : Nat) (tn n : Nat) (tb : Nat → Nat) (w : Int64) (M : EzM) (hd : 1 ≤ d) (hn : n ≤ 8) (htn : tn + n ≤ 160) : ∀ (z : Nat) (t : Nat) (M1 : EzM), n - t = z → t ≤ n → RCt (tn + t) (ep_fd tn tb w) M1 → FX (fun k i s => k = 13 ∨ (k = 7 ∧ s = 1)) M M1 → Ez G mX11_feed d 38 [(6, eI (nI t)), (4, eL (ep_sh w t)), (0, eR 11 0), (1, eI (nI n))] [] M1 (fun r M' => r = some (eI (nI (tn + n))) ∧ RCt (tn + n) (ep_fd tn tb w) M' ∧ FX (fun k i s => k = 13 ∨ (k = 7 ∧ s = 1)) M M') := by
  intro z
  induction z using Nat.strongRecOn with
  | ind z ih =>
    intro t M1 hz ht hR hF
    refine ez_iload 40 dX11_feed_38 rfl rfl ?_
    refine ez_iload_n 41 dX11_feed_40 rfl rfl ?_
    refine ez_ncmp_ge 44 68 dX11_feed_41 rfl (by decide) (by omega) (by omega) (fun h41 => ?_) (fun h41 => ?_)
    · refine ez_aload_n 69 dX11_feed_68 rfl rfl ?_
      refine ez_getf 72 (eR 7 0) dX11_feed_69 rfl fl_X11_10 (by show 0 < 1; omega) rfl ?_
      refine ez_getf 75 (eI (M1.1 7 0 1)) dX11_feed_72 rfl fl_X11_100 (by show 0 < 1; omega) rfl ?_
      refine ez_top (nI (tn + t)) hR.1 ?_
      refine ez_iret .int dX11_feed_75 rfl rfl ?_
      have e9 : t = n := by omega
      subst e9
      exact ⟨rfl, hR, hF⟩
    · refine ez_aload_n 45 dX11_feed_44 rfl rfl ?_
      refine ez_getf 48 (eR 7 0) dX11_feed_45 rfl fl_X11_10 (by show 0 < 1; omega) rfl ?_
      refine ez_lload 50 dX11_feed_48 rfl rfl ?_
      refine ez_l2i 51 dX11_feed_50 rfl ?_
      refine ez_i2b 52 dX11_feed_51 rfl ?_
      refine ez_callV 55 [eI (((ep_sh w t).toInt32).toInt8.toInt32)] [] dX11_feed_52 rfl rfl ok_X7_append in_X7_append (by decide) (by show 0 < 1; omega) ln_X11_104 (by omega) (Nat.le_of_ble_eq_true rfl) (c_X7_append G (d - 1) (tn + t) (((ep_sh w t).toInt32).toInt8) M1 hR.1 (by omega)) (fun r52 M52 q52 => ?_)
      obtain ⟨rfl, e52⟩ := q52
      rw [e52]
      show Ez G mX11_feed d 55 [(6, eI (nI t)), (4, eL (ep_sh w t)), (0, eR 11 0), (1, eI (nI n))] [] (ez_st (ez_st M1 13 0 (tn + t) (((ep_sh w t).toInt32).toInt8.toInt32)) 7 0 1 (nI (tn + t + 1))) _
      refine ez_lload 57 dX11_feed_55 rfl rfl ?_
      refine ez_bipush 59 dX11_feed_57 rfl (nI 8) (by decide) ?_
      refine ez_lshr 60 dX11_feed_59 rfl ?_
      refine ez_lstore 62 [(4, eL ((ep_sh w t) >>> ((nI 8).toInt64 &&& 63))), (6, eI (nI t)), (0, eR 11 0), (1, eI (nI n))] dX11_feed_60 rfl (by decide) rfl ?_
      refine ez_iinc 65 (nI (t + 1)) [(6, eI (nI (t + 1))), (4, eL ((ep_sh w t) >>> ((nI 8).toInt64 &&& 63))), (0, eR 11 0), (1, eI (nI n))] dX11_feed_62 rfl rfl (nI_add t 1) (by decide) rfl ?_
      refine ez_goto 38 dX11_feed_65 (by decide) ?_
      refine ez_drop [(6, eI (nI (t + 1))), (4, eL (ep_sh w (t + 1))), (0, eR 11 0), (1, eI (nI n))] (by simp [ep_sh]) ?_
      exact ih (n - (t + 1)) (by omega) (t + 1) _ rfl (by omega) (RCt_put hR) ((hF.st (by simp)).st (by simp))
set_option maxRecDepth 20000 in
theorem c_X11_feed (G : EzG) (d : Nat) (tn : Nat) (tb : Nat → Nat) (x : Int32) (w : Int64) (M : EzM) (hd : 1 ≤ d) (hW : WFt tn tb) (hR : RCt tn tb M) : Ezc G mX11_feed d [eR 11 0, eI x, eL w] M (fun r M' => r = some (eI (S_feed tn tb x w).1) ∧ RCt (S_feed tn tb x w).2.1 (S_feed tn tb x w).2.2 M' ∧ FX (fun k i s => k = 13 ∨ (k = 7 ∧ s = 1)) M M') := by
  refine Ezc.of (by decide +kernel) (Nat.le_of_ble_eq_true rfl) ?_
  have hw1 := hW.1
  show Ez G mX11_feed d 0 [(0, eR 11 0), (1, eI x), (2, eL w)] [] M _
  refine ez_iload_n 1 dX11_feed_0 rfl rfl ?_
  refine ez_iconst 2 dX11_feed_1 rfl (nI 1) (by decide) ?_
  refine ez_icmp_lt 5 11 dX11_feed_2 rfl (by decide) (fun h2 => ?_) (fun h2 => ?_)
  · refine ez_bipush 13 dX11_feed_11 rfl (-2) (by decide) ?_
    refine ez_iret .int dX11_feed_13 rfl rfl ?_
    have eS : S_feed tn tb x w = (-2, tn, tb) := by unfold S_feed ep_rg; rw [if_pos (Or.inl h2)]
    exact ⟨by rw [eS], by rw [eS]; exact hR, FX.rf⟩
  · refine ez_iload_n 6 dX11_feed_5 rfl rfl ?_
    refine ez_bipush 8 dX11_feed_6 rfl (nI 8) (by decide) ?_
    refine ez_icmp_le 11 14 dX11_feed_8 rfl (by decide) (fun h8 => ?_) (fun h8 => ?_)
    · obtain ⟨c, hc1, hc2, rfl⟩ := ep_rng (b := 8) (by decide) h2 h8 (by decide)
      have ec := ep_rg_nI hc1 hc2 (by decide)
      refine ez_iload_n 15 dX11_feed_14 rfl rfl ?_
      refine ez_sipush 18 dX11_feed_15 rfl (nI 160) (by decide) ?_
      refine ez_aload_n 19 dX11_feed_18 rfl rfl ?_
      refine ez_getf 22 (eR 7 0) dX11_feed_19 rfl fl_X11_10 (by show 0 < 1; omega) rfl ?_
      refine ez_getf 25 (eI (M.1 7 0 1)) dX11_feed_22 rfl fl_X11_100 (by show 0 < 1; omega) rfl ?_
      refine ez_top (nI tn) hR.1 ?_
      refine ez_isub 26 dX11_feed_25 rfl ?_
      refine ez_top (nI (160 - tn)) (pk_sub (by omega)) ?_
      refine ez_ncmp_le 29 32 dX11_feed_26 rfl (by decide) (by omega) (by omega) (fun h26 => ?_) (fun h26 => ?_)
      · refine ez_lload_n 33 dX11_feed_32 rfl rfl ?_
        refine ez_lstore 35 [(4, eL w), (0, eR 11 0), (1, eI (nI c)), (2, eL w)] dX11_feed_33 rfl (by decide) rfl ?_
        refine ez_iconst 36 dX11_feed_35 rfl (nI 0) (by decide) ?_
        refine ez_istore 38 [(6, eI (nI 0)), (4, eL w), (0, eR 11 0), (1, eI (nI c)), (2, eL w)] dX11_feed_36 rfl (by decide) rfl ?_
        have eS : S_feed tn tb (nI c) w = (nI (tn + c), tn + c, ep_fd tn tb w) := by unfold S_feed; rw [ec]; exact if_neg (by omega)
        rw [eS]
        refine ez_drop [(6, eI (nI 0)), (4, eL (ep_sh w 0)), (0, eR 11 0), (1, eI (nI c))] (by simp [ep_sh]) ?_
        exact lp_feed G (tn := tn) (n := c) (tb := tb) (w := w) (d := d) (M := M) (hd := by omega) (hn := hc2) (htn := by omega) (z := c - 0) (t := 0) (M1 := M) rfl (by omega) ⟨hR.1, fun i hi => by rw [hR.2 i hi]; unfold ep_fd; rw [if_pos (show i < tn from hi)]⟩ FX.rf
      · refine ez_bipush 31 dX11_feed_29 rfl (-4) (by decide) ?_
        refine ez_iret .int dX11_feed_31 rfl rfl ?_
        have eS : S_feed tn tb (nI c) w = (-4, tn, tb) := by unfold S_feed; rw [ec]; exact if_pos (by omega)
        exact ⟨by rw [eS], by rw [eS]; exact hR, FX.rf⟩
    · refine ez_bipush 13 dX11_feed_11 rfl (-2) (by decide) ?_
      refine ez_iret .int dX11_feed_13 rfl rfl ?_
      have eS : S_feed tn tb x w = (-2, tn, tb) := by unfold S_feed ep_rg; rw [if_pos (Or.inr (Int32.not_le.mp h8))]
      exact ⟨by rw [eS], by rw [eS]; exact hR, FX.rf⟩
set_option maxRecDepth 20000 in
theorem lp_mfeed (g : EzH) (d : Nat) (tn n : Nat) (tb : Nat → Nat) (w : Int64) (M : EzM) (hd : 1 ≤ d) (hn : n ≤ 8) (htn : tn + n ≤ 160) : ∀ (z : Nat) (t : Nat) (M1 : EzM), n - t = z → t ≤ n → RMt (tn + t) (ep_fd tn tb w) M1 → FX (fun k i s => k = 44 ∨ (k = 12 ∧ s = 6)) M M1 → Ez (true, g) mX12_feed d 33 [(4, eI (nI t)), (0, eR 12 0), (1, eI (nI n)), (2, eL w)] [] M1 (fun r M' => r = some (eI (nI (tn + n))) ∧ RMt (tn + n) (ep_fd tn tb w) M' ∧ FX (fun k i s => k = 44 ∨ (k = 12 ∧ s = 6)) M M') := by
  intro z
  induction z using Nat.strongRecOn with
  | ind z ih =>
    intro t M1 hz ht hR hF
    refine ez_iload 35 dX12_feed_33 rfl rfl ?_
    refine ez_iload_n 36 dX12_feed_35 rfl rfl ?_
    refine ez_ncmp_ge 39 76 dX12_feed_36 rfl (by decide) (by omega) (by omega) (fun h36 => ?_) (fun h36 => ?_)
    · refine ez_aload_n 77 dX12_feed_76 rfl rfl ?_
      refine ez_getf 80 (eI (M1.1 12 0 6)) dX12_feed_77 rfl fl_X12_141 (by show 0 < 1; omega) rfl ?_
      refine ez_top (nI (tn + t)) hR.1 ?_
      refine ez_iret .int dX12_feed_80 rfl rfl ?_
      have e9 : t = n := by omega
      subst e9
      exact ⟨rfl, hR, hF⟩
    · refine ez_aload_n 40 dX12_feed_39 rfl rfl ?_
      refine ez_getf 43 (eR 44 0) dX12_feed_40 rfl fl_X12_20 (by show 0 < 1; omega) rfl ?_
      refine ez_aload_n 44 dX12_feed_43 rfl rfl ?_
      refine ez_getf 47 (eI (M1.1 12 0 6)) dX12_feed_44 rfl fl_X12_141 (by show 0 < 1; omega) rfl ?_
      refine ez_top (nI (tn + t)) hR.1 ?_
      refine ez_lload_n 48 dX12_feed_47 rfl rfl ?_
      refine ez_bipush 50 dX12_feed_48 rfl (nI 8) (by decide) ?_
      refine ez_iload 52 dX12_feed_50 rfl rfl ?_
      refine ez_imul 53 dX12_feed_52 rfl ?_
      refine ez_top (nI (8 * t)) (pk_mul _ _) ?_
      refine ez_lshr 54 dX12_feed_53 rfl ?_
      refine ez_ldc2 57 dX12_feed_54 rfl 255 cn_X12_128 ?_
      refine ez_land 58 dX12_feed_57 rfl ?_
      refine ez_l2i 59 dX12_feed_58 rfl ?_
      refine ez_top (nI (ep_bt (ep_sh w t))) (by rw [ep_shm w (by omega), ep_bt_m]) ?_
      refine ez_iastN (tn + t) 60 dX12_feed_59 rfl (by decide) (by show 0 < 1; omega) (by show tn + t < 160; omega) ?_
      refine ez_aload_n 61 dX12_feed_60 rfl rfl ?_
      refine ez_dup 62 dX12_feed_61 rfl rfl ?_
      refine ez_getf 65 (eI (M1.1 12 0 6)) dX12_feed_62 rfl fl_X12_141 (by show 0 < 1; omega) rfl ?_
      refine ez_top (nI (tn + t)) hR.1 ?_
      refine ez_iconst 66 dX12_feed_65 rfl (nI 1) (by decide) ?_
      refine ez_iadd 67 dX12_feed_66 rfl ?_
      refine ez_top (nI (tn + t + 1)) (nI_add _ _) ?_
      refine ez_putf 70 .int dX12_feed_67 rfl fp_X12_141 (by show 0 < 1; omega) rfl (by decide) rfl rfl ?_
      refine ez_iinc 73 (nI (t + 1)) [(4, eI (nI (t + 1))), (0, eR 12 0), (1, eI (nI n)), (2, eL w)] dX12_feed_70 rfl rfl (nI_add t 1) (by decide) rfl ?_
      refine ez_goto 33 dX12_feed_73 (by decide) ?_
      refine ez_drop [(4, eI (nI (t + 1))), (0, eR 12 0), (1, eI (nI n)), (2, eL w)] (by simp) ?_
      exact ih (n - (t + 1)) (by omega) (t + 1) _ rfl (by omega) (RMt_put hR) ((hF.st (by simp)).st (by simp))
set_option maxRecDepth 20000 in
theorem c_X12_feed (g : EzH) (d : Nat) (tn : Nat) (tb : Nat → Nat) (x : Int32) (w : Int64) (M : EzM) (hd : 1 ≤ d) (hW : WFt tn tb) (hR : RMt tn tb M) : Ezc (true, g) mX12_feed d [eR 12 0, eI x, eL w] M (fun r M' => r = some (eI (S_feed tn tb x w).1) ∧ RMt (S_feed tn tb x w).2.1 (S_feed tn tb x w).2.2 M' ∧ FX (fun k i s => k = 44 ∨ (k = 12 ∧ s = 6)) M M') := by
  refine Ezc.of (by decide +kernel) (Nat.le_of_ble_eq_true rfl) ?_
  have hw1 := hW.1
  show Ez (true, g) mX12_feed d 0 [(0, eR 12 0), (1, eI x), (2, eL w)] [] M _
  refine ez_iload_n 1 dX12_feed_0 rfl rfl ?_
  refine ez_i2l 2 dX12_feed_1 rfl ?_
  refine ez_lconst 3 dX12_feed_2 rfl (nI 1).toInt64 (by decide) ?_
  refine ez_ldc2 6 dX12_feed_3 rfl 8 cn_X12_248 ?_
  refine ez_topL (nI 8).toInt64 (by decide) ?_
  refine ez_callS 9 [eL x.toInt64, eL ((nI 1).toInt64), eL ((nI 8).toInt64)] [] dX12_feed_6 rfl rfl ok_X12_in st_X12_in ln_X12_133 (by omega) (Nat.le_of_ble_eq_true rfl) (c_in_r g (d - 1) x 1 8 M (by decide) (by decide)) (fun r6 M6 q6 => ?_)
  obtain ⟨e6, ⟨rfl, i6⟩ | ⟨c, hc1, hc2, rfl, rfl⟩⟩ := q6
  · rw [e6]
    show Ez (true, g) mX12_feed d 9 [(0, eR 12 0), (1, eI x), (2, eL w)] [eI (nI 0)] M _
    refine ez_nif_ne 12 15 dX12_feed_9 rfl (by decide) (by omega) (fun h9 => ?_) (fun h9 => ?_)
    · exact absurd h9 (by decide)
    · refine ez_bipush 14 dX12_feed_12 rfl (-2) (by decide) ?_
      refine ez_iret .int dX12_feed_14 rfl rfl ?_
      have eS : S_feed tn tb x w = (-2, tn, tb) := by unfold S_feed; rw [i6]
      exact ⟨by rw [eS], by rw [eS]; exact hR, FX.rf⟩
  · rw [e6]
    have ec := ep_rg_nI hc1 hc2 (by decide)
    show Ez (true, g) mX12_feed d 9 [(0, eR 12 0), (1, eI (nI c)), (2, eL w)] [eI (nI 1)] M _
    refine ez_nif_ne 12 15 dX12_feed_9 rfl (by decide) (by omega) (fun h9 => ?_) (fun h9 => ?_)
    · refine ez_aload_n 16 dX12_feed_15 rfl rfl ?_
      refine ez_getf 19 (eI (M.1 12 0 6)) dX12_feed_16 rfl fl_X12_141 (by show 0 < 1; omega) rfl ?_
      refine ez_top (nI tn) hR.1 ?_
      refine ez_iload_n 20 dX12_feed_19 rfl rfl ?_
      refine ez_iadd 21 dX12_feed_20 rfl ?_
      refine ez_top (nI (tn + c)) (nI_add _ _) ?_
      refine ez_sipush 24 dX12_feed_21 rfl (nI 160) (by decide) ?_
      refine ez_ncmp_le 27 30 dX12_feed_24 rfl (by decide) (by omega) (by omega) (fun h24 => ?_) (fun h24 => ?_)
      · refine ez_iconst 31 dX12_feed_30 rfl (nI 0) (by decide) ?_
        refine ez_istore 33 [(4, eI (nI 0)), (0, eR 12 0), (1, eI (nI c)), (2, eL w)] dX12_feed_31 rfl (by decide) rfl ?_
        have eS : S_feed tn tb (nI c) w = (nI (tn + c), tn + c, ep_fd tn tb w) := by unfold S_feed; rw [ec]; exact if_neg (by omega)
        rw [eS]
        refine ez_drop [(4, eI (nI 0)), (0, eR 12 0), (1, eI (nI c)), (2, eL w)] (by simp [ep_sh]) ?_
        exact lp_mfeed g (tn := tn) (n := c) (tb := tb) (w := w) (d := d) (M := M) (hd := by omega) (hn := hc2) (htn := by omega) (z := c - 0) (t := 0) (M1 := M) rfl (by omega) ⟨hR.1, fun i hi => by rw [hR.2 i hi]; unfold ep_fd; rw [if_pos (show i < tn from hi)]⟩ FX.rf
      · refine ez_bipush 29 dX12_feed_27 rfl (-4) (by decide) ?_
        refine ez_iret .int dX12_feed_29 rfl rfl ?_
        have eS : S_feed tn tb (nI c) w = (-4, tn, tb) := by unfold S_feed; rw [ec]; exact if_pos (by omega)
        exact ⟨by rw [eS], by rw [eS]; exact hR, FX.rf⟩
    · exact absurd h9 (by decide)
