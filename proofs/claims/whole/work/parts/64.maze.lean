/-! maze: definitions, and the class's reading of one part -/
def er_my (tn : Nat) (tb : Nat → Nat) (i : Nat) : Nat := if i < tn then tb i else 256
def er_sv (b : Nat) : Int32 := if b < 256 then ep_sb b else -1
def er_mv (b : Nat) : Int32 := if b < 256 then nI b else -1
def er_dx (b k n : Nat) : Option Nat := if k ≤ b ∧ b < k + n then some (b - k) else none
def er_u1 {α : Type} (f : Nat → α) (a : Nat) (v : α) : Nat → α := fun x => if x = a then v else f x
abbrev EpPr : Type := Nat ⊕ (Nat → Int32)
def er_part (mb : Nat → Nat) (n : Nat) (lt : Nat → Int32) (p : Nat) : EpPr :=
  if ¬ mb p = 59 then .inl p else match er_dx (mb (p + 1)) 97 n with
  | none => .inl (p + 1)
  | some a => match er_dx (mb (p + 2)) 48 4 with
    | none => .inl (p + 2)
    | some c => if ¬ lt (4 * a + c) = -1 then .inl (p + 2) else if ¬ mb (p + 3) = 45 ∧ ¬ mb (p + 3) = 62 then .inl (p + 3) else match er_dx (mb (p + 4)) 97 n with
      | none => .inl (p + 4)
      | some e => match er_dx (mb (p + 5)) 48 4 with
        | none => .inl (p + 5)
        | some f => if mb (p + 3) = 45 ∧ ¬ lt (4 * e + f) = -1 then .inl (p + 5) else .inr (if mb (p + 3) = 45 then er_u1 (er_u1 lt (4 * a + c) (nI (10 * e + f))) (4 * e + f) (nI (10 * a + c)) else er_u1 lt (4 * a + c) (nI (10 * e + f)))
def er_parts (mb : Nat → Nat) (tn n : Nat) : Nat → Nat → (Nat → Int32) → EpPr
  | 0, _, lt => .inr lt
  | k + 1, p, lt => if p < tn then (match er_part mb n lt p with | .inl e => .inl e | .inr l => er_parts mb tn n k (p + 6) l) else .inr lt
def er_read (tn : Nat) (tb : Nat → Nat) : Nat ⊕ (Nat × (Nat → Int32)) := match er_dx (er_my tn tb 0) 97 10 with
  | none => .inl 0
  | some a => match er_parts (er_my tn tb) tn (a + 1) 160 1 (fun _ => -1) with
    | .inl e => .inl e
    | .inr l => .inr (a + 1, l)
def WL (n : Nat) (l : Nat → Int32) : Prop := ∀ r c, r < 10 → c < 4 → l (4 * r + c) = -1 ∨ (r < n ∧ ∃ r' c', r' < n ∧ c' < 4 ∧ l (4 * r + c) = nI (10 * r' + c'))
theorem er_dx_some {b k n a : Nat} (h : er_dx b k n = some a) : a < n ∧ b = k + a := by
  unfold er_dx at h
  by_cases q : k ≤ b ∧ b < k + n
  · rw [if_pos q] at h; cases h; omega
  · rw [if_neg q] at h; cases h
theorem WL_u1 {n a c e f : Nat} {l : Nat → Int32} (h : WL n l) (ha : a < n) (hc : c < 4) (he : e < n) (hf : f < 4) : WL n (er_u1 l (4 * a + c) (nI (10 * e + f))) := by
  intro r d hr hd
  show (if 4 * r + d = 4 * a + c then _ else _) = _ ∨ _ ∧ ∃ r' c', _ ∧ _ ∧ (if 4 * r + d = 4 * a + c then _ else _) = _
  by_cases q : 4 * r + d = 4 * a + c
  · rw [if_pos q]; exact Or.inr ⟨by omega, e, f, he, hf, rfl⟩
  · rw [if_neg q]; exact h r d hr hd
theorem WL_part {mb : Nat → Nat} {n p : Nat} {l l2 : Nat → Int32} (h : WL n l) (e9 : er_part mb n l p = .inr l2) : WL n l2 := by
  unfold er_part at e9
  by_cases q1 : ¬ mb p = 59
  · rw [if_pos q1] at e9; cases e9
  rw [if_neg q1] at e9
  cases d1 : er_dx (mb (p + 1)) 97 n with
  | none => rw [d1] at e9; cases e9
  | some a =>
  cases d2 : er_dx (mb (p + 2)) 48 4 with
  | none => rw [d1, d2] at e9; cases e9
  | some c =>
  rw [d1, d2] at e9
  simp only [] at e9
  by_cases q2 : ¬ l (4 * a + c) = -1
  · rw [if_pos q2] at e9; cases e9
  rw [if_neg q2] at e9
  by_cases q3 : ¬ mb (p + 3) = 45 ∧ ¬ mb (p + 3) = 62
  · rw [if_pos q3] at e9; cases e9
  rw [if_neg q3] at e9
  cases d3 : er_dx (mb (p + 4)) 97 n with
  | none => rw [d3] at e9; cases e9
  | some e =>
  cases d4 : er_dx (mb (p + 5)) 48 4 with
  | none => rw [d3, d4] at e9; cases e9
  | some f =>
  rw [d3, d4] at e9
  simp only [] at e9
  by_cases q4 : mb (p + 3) = 45 ∧ ¬ l (4 * e + f) = -1
  · rw [if_pos q4] at e9; cases e9
  rw [if_neg q4] at e9
  cases e9
  have x1 := er_dx_some d1
  have x2 := er_dx_some d2
  have x3 := er_dx_some d3
  have x4 := er_dx_some d4
  by_cases q5 : mb (p + 3) = 45
  · rw [if_pos q5]; exact WL_u1 (WL_u1 h x1.1 x2.1 x3.1 x4.1) x3.1 x4.1 x1.1 x2.1
  · rw [if_neg q5]; exact WL_u1 h x1.1 x2.1 x3.1 x4.1
theorem WL_parts {mb : Nat → Nat} {n tn : Nat} {l2 : Nat → Int32} : ∀ k p l, WL n l → er_parts mb tn n k p l = .inr l2 → WL n l2
  | 0, p, l, h, e => by cases e; exact h
  | k + 1, p, l, h, e => by
    unfold er_parts at e
    by_cases q : p < tn
    · rw [if_pos q] at e
      cases d : er_part mb n l p with
      | inl x => rw [d] at e; cases e
      | inr l1 => rw [d] at e; exact WL_parts k _ l1 (WL_part h d) e
    · rw [if_neg q] at e; cases e; exact h
theorem er_sv_eq : ∀ b, b < 257 → (er_sv b = nI 59 ↔ b = 59) ∧ (er_sv b = nI 45 ↔ b = 45) ∧ (er_sv b = nI 62 ↔ b = 62) := by decide +kernel
theorem er_mv_eq : ∀ b, b < 257 → (er_mv b = nI 59 ↔ b = 59) ∧ (er_mv b = nI 45 ↔ b = 45) ∧ (er_mv b = nI 62 ↔ b = 62) := by decide +kernel
theorem er_sv_97 : ∀ b, b < 257 → (97 ≤ b ∧ b < 128 ∧ er_sv b - nI 97 = nI (b - 97)) ∨ (¬ (97 ≤ b ∧ b < 128) ∧ er_sv b - nI 97 < 0) := by decide +kernel
theorem er_sv_48 : ∀ b, b < 257 → (48 ≤ b ∧ b < 128 ∧ er_sv b - nI 48 = nI (b - 48)) ∨ (¬ (48 ≤ b ∧ b < 128) ∧ er_sv b - nI 48 < 0) := by decide +kernel
theorem er_ixdx {b k n : Nat} {x : Int32} (hn : n ≤ 10) (hk : k + n ≤ 128) (h : (k ≤ b ∧ b < 128 ∧ x = nI (b - k)) ∨ (¬ (k ≤ b ∧ b < 128) ∧ x < 0)) : ep_ix x n = er_dx b k n := by
  unfold er_dx
  rcases h with ⟨h1, h2, h3⟩ | ⟨h1, h2⟩
  · by_cases q : b - k < n
    · rw [if_pos (by omega), h3, ep_ix_nI q (by omega)]
    · rw [if_neg (by omega), h3, ep_ix, if_pos (Or.inr ((nI_leI (by omega) (by omega)).mpr (by omega)))]
  · rw [if_neg (by omega), ep_ix_lo h2]
theorem er_dn_u {lt : Nat → Int32} {a c : Nat} {v : Int32} (hc : c < 4) (hv : ¬ v = -1) : ep_dn (er_u1 lt (4 * a + c) v) a = ep_dn lt a ||| 2 ^ c := by
  have key : ∀ g0 g1 g2 g3 : Bool, ∀ c, c < 4 → (if g0 = true ∧ ¬ c = 0 then 0 else 1) + (if g1 = true ∧ ¬ c = 1 then 0 else 2) + (if g2 = true ∧ ¬ c = 2 then 0 else 4) + (if g3 = true ∧ ¬ c = 3 then 0 else 8) = ((if g0 = true then 0 else 1) + (if g1 = true then 0 else 2) + (if g2 = true then 0 else 4) + (if g3 = true then 0 else 8)) ||| 2 ^ c := by decide +kernel
  have k := key (decide (lt (4 * a) = -1)) (decide (lt (4 * a + 1) = -1)) (decide (lt (4 * a + 2) = -1)) (decide (lt (4 * a + 3) = -1)) c hc
  simp only [decide_eq_true_eq] at k
  unfold ep_dn
  rw [← k]
  have hu : ∀ t, (er_u1 lt (4 * a + c) v (4 * a + t) = -1) ↔ (lt (4 * a + t) = -1 ∧ ¬ c = t) := fun t => by
    show (if 4 * a + t = 4 * a + c then v else lt (4 * a + t)) = -1 ↔ _
    by_cases q : c = t
    · rw [if_pos (by omega)]; exact ⟨fun z => absurd z hv, fun z => absurd q z.2⟩
    · rw [if_neg (by omega)]; exact ⟨fun z => ⟨z, q⟩, fun z => z.1⟩
  have h0 := hu 0
  rw [Nat.add_zero] at h0
  simp only [h0, hu 1, hu 2, hu 3]
theorem er_dn_o {lt : Nat → Int32} {a c r : Nat} {v : Int32} (hc : c < 4) (h : ¬ r = a) : ep_dn (er_u1 lt (4 * a + c) v) r = ep_dn lt r := by
  have hu : ∀ t, t < 4 → er_u1 lt (4 * a + c) v (4 * r + t) = lt (4 * r + t) := fun t ht => if_neg (by omega)
  unfold ep_dn
  have h0 := hu 0 (by omega)
  rw [Nat.add_zero] at h0
  rw [h0, hu 1 (by omega), hu 2 (by omega), hu 3 (by omega)]
def RZ (m : Nat) (l : Nat → Int32) (M : EzM) : Prop := (∀ x, x < 40 → M.1 18 m x = l x) ∧ ∀ r, r < 10 → M.1 19 m r = nI (ep_dn l r)
def MZ (m k i _ : Nat) : Prop := (k = 18 ∨ k = 19) ∧ i = m
def MY (m k i s : Nat) : Prop := ((k = 1 ∧ s = 0) ∨ k = 18 ∨ k = 19) ∧ i = m
theorem MZ.my {m : Nat} {M M' : EzM} (h : FX (MZ m) M M') : FX (MY m) M M' := h.up (fun k i s z => by unfold MZ at z; unfold MY; omega)
theorem RZ_lead {m a c e f : Nat} {l : Nat → Int32} {M : EzM} (hR : RZ m l M) (ha : a < 10) (hc : c < 4) (he : e < 10) (hf : f < 4) : RZ m (er_u1 l (4 * a + c) (nI (10 * e + f))) (ez_st (ez_st M 18 m (4 * a + c) (nI (10 * e + f))) 19 m a (nI (ep_dn l a ||| 2 ^ c))) := by
  refine ⟨fun x hx => ?_, fun r hr => ?_⟩
  · rw [ez_rd, if_neg (by omega), ez_rd]
    show _ = if x = 4 * a + c then _ else _
    by_cases q : x = 4 * a + c
    · rw [if_pos ⟨rfl, rfl, q⟩, if_pos q]
    · rw [if_neg (fun z => q z.2.2), if_neg q]; exact hR.1 x hx
  · rw [ez_rd]
    by_cases q : r = a
    · rw [if_pos ⟨rfl, rfl, q⟩, q, er_dn_u hc (ep_m1 (by omega))]
    · rw [if_neg (fun z => q z.2.2), ez_rd, if_neg (by omega), er_dn_o hc q]; exact hR.2 r hr
set_option maxRecDepth 20000 in
theorem c_X1_byteAt (G : EzG) (d : Nat) (tn i : Nat) (tb : Nat → Nat) (M : EzM) (ht : tn ≤ 160) (hb : ∀ i, i < tn → M.1 13 0 i = ep_sb (tb i)) (hx6 : ∀ i, i < tn → tb i < 256) (hi : i ≤ 200) : Ezc G mX1_byteAt d [eR 13 0, eI (nI tn), eI (nI i)] M (fun r M' => r = some (eI (er_sv (er_my tn tb i))) ∧ M' = M) := by
  refine Ezc.of (by decide +kernel) (Nat.le_of_ble_eq_true rfl) ?_
  show Ez G mX1_byteAt d 0 [(0, eR 13 0), (1, eI (nI tn)), (2, eI (nI i))] [] M _
  refine ez_iload_n 1 dX1_byteAt_0 rfl rfl ?_
  refine ez_nif_lt 4 dX1_byteAt_1 rfl (by omega) ?_
  refine ez_iload_n 5 dX1_byteAt_4 rfl rfl ?_
  refine ez_iload_n 6 dX1_byteAt_5 rfl rfl ?_
  refine ez_ncmp_ge 9 21 dX1_byteAt_6 rfl (by decide) (by omega) (by omega) (fun h6 => ?_) (fun h6 => ?_)
  · refine ez_iconst 22 dX1_byteAt_21 rfl (-1) (by decide) ?_
    refine ez_iret .int dX1_byteAt_22 rfl rfl ?_
    have e9 : er_my tn tb i = 256 := by unfold er_my; rw [if_neg (by omega)]
    exact ⟨by rw [e9]; rfl, rfl⟩
  · refine ez_iload_n 10 dX1_byteAt_9 rfl rfl ?_
    refine ez_aload_n 11 dX1_byteAt_10 rfl rfl ?_
    refine ez_alen 12 (nI 160) dX1_byteAt_11 rfl (by decide) (by show 0 < 1; omega) rfl ?_
    refine ez_ncmp_ge 15 21 dX1_byteAt_12 rfl (by decide) (by omega) (by omega) (fun h12 => ?_) (fun h12 => ?_)
    · refine ez_iconst 22 dX1_byteAt_21 rfl (-1) (by decide) ?_
      refine ez_iret .int dX1_byteAt_22 rfl rfl ?_
      have e9 : er_my tn tb i = 256 := by unfold er_my; rw [if_neg (by omega)]
      exact ⟨by rw [e9]; rfl, rfl⟩
    · refine ez_aload_n 16 dX1_byteAt_15 rfl rfl ?_
      refine ez_iload_n 17 dX1_byteAt_16 rfl rfl ?_
      refine ez_baldN i 18 dX1_byteAt_17 rfl (by decide) (by show 0 < 1; omega) (by show i < 160; omega) ?_
      refine ez_goto 22 dX1_byteAt_18 (by decide) ?_
      refine ez_iret .int dX1_byteAt_22 rfl rfl ?_
      have e9 := hb i (by omega)
      have e8 := hx6 i (by omega)
      exact ⟨by unfold er_my er_sv; rw [if_pos (show i < tn by omega), if_pos e8, e9], rfl⟩
set_option maxRecDepth 20000 in
theorem c_X1_lead (G : EzG) (d : Nat) (m a c e f : Nat) (l : Nat → Int32) (M : EzM) (hd : 1 ≤ d) (hm : m < 4) (ha : a < 10) (hc : c < 4) (he : e < 10) (hf : f < 4) (hR : RZ m l M) : Ezc G mX1_lead d [eR 1 m, eI (nI a), eI (nI c), eI (nI e), eI (nI f)] M (fun r M' => r = none ∧ RZ m (er_u1 l (4 * a + c) (nI (10 * e + f))) M' ∧ FX (MZ m) M M') := by
  refine Ezc.of (by decide +kernel) (Nat.le_of_ble_eq_true rfl) ?_
  show Ez G mX1_lead d 0 [(0, eR 1 m), (1, eI (nI a)), (2, eI (nI c)), (3, eI (nI e)), (4, eI (nI f))] [] M _
  refine ez_aload_n 1 dX1_lead_0 rfl rfl ?_
  refine ez_getf 4 (eR 18 m) dX1_lead_1 rfl fl_X1_9 (by show m < 4; omega) rfl ?_
  refine ez_iload_n 5 dX1_lead_4 rfl rfl ?_
  refine ez_iconst 6 dX1_lead_5 rfl (nI 4) (by decide) ?_
  refine ez_imul 7 dX1_lead_6 rfl ?_
  refine ez_top (nI (a * 4)) (pk_mul _ _) ?_
  refine ez_iload_n 8 dX1_lead_7 rfl rfl ?_
  refine ez_iadd 9 dX1_lead_8 rfl ?_
  refine ez_top (nI (4 * a + c)) (by rw [nI_add]; congr 1; omega) ?_
  refine ez_bipush 11 dX1_lead_9 rfl (nI 10) (by decide) ?_
  refine ez_iload_n 12 dX1_lead_11 rfl rfl ?_
  refine ez_imul 13 dX1_lead_12 rfl ?_
  refine ez_top (nI (10 * e)) (pk_mul _ _) ?_
  refine ez_iload 15 dX1_lead_13 rfl rfl ?_
  refine ez_iadd 16 dX1_lead_15 rfl ?_
  refine ez_top (nI (10 * e + f)) (nI_add _ _) ?_
  refine ez_callSN 19 [eR 18 m, eI (nI (4 * a + c)), eI (nI (10 * e + f))] [] dX1_lead_16 rfl rfl ok_X11_setItem st_X11_setItem "ElevenPebbles" nn_X1_56 (by omega) (Nat.le_of_ble_eq_true rfl) (c_setItem_n G (d - 1) 18 m (4 * a + c) (nI (10 * e + f)) M (by decide) (by show m < 4; omega) (by show 4 * a + c < 40; omega)) (fun r16 M16 q16 => ?_)
  obtain ⟨rfl, e16⟩ := q16
  rw [e16]
  show Ez G mX1_lead d 19 [(0, eR 1 m), (1, eI (nI a)), (2, eI (nI c)), (3, eI (nI e)), (4, eI (nI f))] [] (ez_st M 18 m (4 * a + c) (nI (10 * e + f))) _
  refine ez_aload_n 20 dX1_lead_19 rfl rfl ?_
  refine ez_getf 23 (eR 19 m) dX1_lead_20 rfl fl_X1_15 (by show m < 4; omega) rfl ?_
  refine ez_iload_n 24 dX1_lead_23 rfl rfl ?_
  refine ez_aload_n 25 dX1_lead_24 rfl rfl ?_
  refine ez_getf 28 (eR 19 m) dX1_lead_25 rfl fl_X1_15 (by show m < 4; omega) rfl ?_
  refine ez_iload_n 29 dX1_lead_28 rfl rfl ?_
  refine ez_callSN 32 [eR 19 m, eI (nI a)] [eI (nI a), eR 19 m] dX1_lead_29 rfl rfl ok_X11_itemAt st_X11_itemAt "ElevenPebbles" nn_X1_29 (by omega) (Nat.le_of_ble_eq_true rfl) (c_itemAt_n G (d - 1) 19 m a (ez_st M 18 m (4 * a + c) (nI (10 * e + f))) (by decide) (by show m < 4; omega) (by show a < 10; omega)) (fun r29 M29 q29 => ?_)
  obtain ⟨rfl, e29⟩ := q29
  rw [e29]
  show Ez G mX1_lead d 32 [(0, eR 1 m), (1, eI (nI a)), (2, eI (nI c)), (3, eI (nI e)), (4, eI (nI f))] [eI ((ez_st M 18 m (4 * a + c) (nI (10 * e + f))).1 19 m a), eI (nI a), eR 19 m] (ez_st M 18 m (4 * a + c) (nI (10 * e + f))) _
  refine ez_iconst 33 dX1_lead_32 rfl (nI 1) (by decide) ?_
  refine ez_iload_n 34 dX1_lead_33 rfl rfl ?_
  refine ez_ishl 35 dX1_lead_34 rfl ?_
  refine ez_ior 36 dX1_lead_35 rfl ?_
  refine ez_top (nI (ep_dn l a ||| 2 ^ c)) (by rw [ez_rd, if_neg (by omega), hR.2 a ha]; first | exact (ep_or16 _ (ep_dn16 l a) c hc).1 | (rw [er_shl1 c (by omega)]; have z9 := (ep_or16 _ (ep_dn16 l a) c hc).1; rw [er_shl1 c (by omega)] at z9; exact z9)) ?_
  refine ez_callSN 39 [eR 19 m, eI (nI a), eI (nI (ep_dn l a ||| 2 ^ c))] [] dX1_lead_36 rfl rfl ok_X11_setItem st_X11_setItem "ElevenPebbles" nn_X1_56 (by omega) (Nat.le_of_ble_eq_true rfl) (c_setItem_n G (d - 1) 19 m a (nI (ep_dn l a ||| 2 ^ c)) (ez_st M 18 m (4 * a + c) (nI (10 * e + f))) (by decide) (by show m < 4; omega) (by show a < 10; omega)) (fun r36 M36 q36 => ?_)
  obtain ⟨rfl, e36⟩ := q36
  rw [e36]
  show Ez G mX1_lead d 39 [(0, eR 1 m), (1, eI (nI a)), (2, eI (nI c)), (3, eI (nI e)), (4, eI (nI f))] [] (ez_st (ez_st M 18 m (4 * a + c) (nI (10 * e + f))) 19 m a (nI (ep_dn l a ||| 2 ^ c))) _
  refine ez_vret dX1_lead_39 rfl ?_
  exact ⟨rfl, RZ_lead hR ha hc he hf, (FX.rf.st ⟨Or.inl rfl, rfl⟩).st ⟨Or.inr rfl, rfl⟩⟩
set_option maxRecDepth 20000 in
theorem c_X1_readPart (G : EzG) (d : Nat) (m n tn p : Nat) (tb : Nat → Nat) (l : Nat → Int32) (M : EzM) (hd : 2 ≤ d) (hm : m < 4) (hn : n ≤ 10) (hp : p ≤ 160) (ht : tn ≤ 160) (hb : ∀ i, i < tn → M.1 13 0 i = ep_sb (tb i)) (hx6 : ∀ i, i < tn → tb i < 256) (hnr : M.1 1 m 0 = nI n) (hR : RZ m l M) : Ezc G mX1_readPart d [eR 1 m, eR 13 0, eI (nI tn), eI (nI p)] M (fun r M' => FX (MZ m) M M' ∧ ((∃ e, e ≤ p + 5 ∧ er_part (er_my tn tb) n l p = .inl e ∧ r = some (eI (nI e))) ∨ ∃ l2, er_part (er_my tn tb) n l p = .inr l2 ∧ r = some (eI (-1)) ∧ RZ m l2 M')) := by
  refine Ezc.of (by decide +kernel) (Nat.le_of_ble_eq_true rfl) ?_
  have hmt : ∀ i, er_my tn tb i < 257 := fun i => by unfold er_my; split; exact Nat.lt_succ_of_lt (hx6 i (by assumption)); omega
  show Ez G mX1_readPart d 0 [(0, eR 1 m), (1, eR 13 0), (2, eI (nI tn)), (3, eI (nI p))] [] M _
  refine ez_aload_n 1 dX1_readPart_0 rfl rfl ?_
  refine ez_iload_n 2 dX1_readPart_1 rfl rfl ?_
  refine ez_iload_n 3 dX1_readPart_2 rfl rfl ?_
  refine ez_iconst 4 dX1_readPart_3 rfl (nI 1) (by decide) ?_
  refine ez_iadd 5 dX1_readPart_4 rfl ?_
  refine ez_top (nI (p + 1)) (nI_add _ _) ?_
  refine ez_callS 8 [eR 13 0, eI (nI tn), eI (nI (p + 1))] [] dX1_readPart_5 rfl rfl ok_X1_byteAt st_X1_byteAt ln_X1_37 (by omega) (Nat.le_of_ble_eq_true rfl) (c_X1_byteAt G (d - 1) tn (p + 1) tb M ht hb hx6 (by omega)) (fun r5 M5 q5 => ?_)
  obtain ⟨rfl, e5⟩ := q5
  rw [e5]
  show Ez G mX1_readPart d 8 [(0, eR 1 m), (1, eR 13 0), (2, eI (nI tn)), (3, eI (nI p))] [eI (er_sv (er_my tn tb (p + 1)))] M _
  refine ez_bipush 10 dX1_readPart_8 rfl (nI 97) (by decide) ?_
  refine ez_isub 11 dX1_readPart_10 rfl ?_
  refine ez_istore 13 [(4, eI ((er_sv (er_my tn tb (p + 1))) - (nI 97))), (0, eR 1 m), (1, eR 13 0), (2, eI (nI tn)), (3, eI (nI p))] dX1_readPart_11 rfl (by decide) rfl ?_
  refine ez_aload_n 14 dX1_readPart_13 rfl rfl ?_
  refine ez_iload_n 15 dX1_readPart_14 rfl rfl ?_
  refine ez_iload_n 16 dX1_readPart_15 rfl rfl ?_
  refine ez_iconst 17 dX1_readPart_16 rfl (nI 2) (by decide) ?_
  refine ez_iadd 18 dX1_readPart_17 rfl ?_
  refine ez_top (nI (p + 2)) (nI_add _ _) ?_
  refine ez_callS 21 [eR 13 0, eI (nI tn), eI (nI (p + 2))] [] dX1_readPart_18 rfl rfl ok_X1_byteAt st_X1_byteAt ln_X1_37 (by omega) (Nat.le_of_ble_eq_true rfl) (c_X1_byteAt G (d - 1) tn (p + 2) tb M ht hb hx6 (by omega)) (fun r18 M18 q18 => ?_)
  obtain ⟨rfl, e18⟩ := q18
  rw [e18]
  show Ez G mX1_readPart d 21 [(4, eI ((er_sv (er_my tn tb (p + 1))) - (nI 97))), (0, eR 1 m), (1, eR 13 0), (2, eI (nI tn)), (3, eI (nI p))] [eI (er_sv (er_my tn tb (p + 2)))] M _
  refine ez_bipush 23 dX1_readPart_21 rfl (nI 48) (by decide) ?_
  refine ez_isub 24 dX1_readPart_23 rfl ?_
  refine ez_istore 26 [(5, eI ((er_sv (er_my tn tb (p + 2))) - (nI 48))), (4, eI ((er_sv (er_my tn tb (p + 1))) - (nI 97))), (0, eR 1 m), (1, eR 13 0), (2, eI (nI tn)), (3, eI (nI p))] dX1_readPart_24 rfl (by decide) rfl ?_
  refine ez_aload_n 27 dX1_readPart_26 rfl rfl ?_
  refine ez_iload_n 28 dX1_readPart_27 rfl rfl ?_
  refine ez_iload_n 29 dX1_readPart_28 rfl rfl ?_
  refine ez_iconst 30 dX1_readPart_29 rfl (nI 3) (by decide) ?_
  refine ez_iadd 31 dX1_readPart_30 rfl ?_
  refine ez_top (nI (p + 3)) (nI_add _ _) ?_
  refine ez_callS 34 [eR 13 0, eI (nI tn), eI (nI (p + 3))] [] dX1_readPart_31 rfl rfl ok_X1_byteAt st_X1_byteAt ln_X1_37 (by omega) (Nat.le_of_ble_eq_true rfl) (c_X1_byteAt G (d - 1) tn (p + 3) tb M ht hb hx6 (by omega)) (fun r31 M31 q31 => ?_)
  obtain ⟨rfl, e31⟩ := q31
  rw [e31]
  show Ez G mX1_readPart d 34 [(5, eI ((er_sv (er_my tn tb (p + 2))) - (nI 48))), (4, eI ((er_sv (er_my tn tb (p + 1))) - (nI 97))), (0, eR 1 m), (1, eR 13 0), (2, eI (nI tn)), (3, eI (nI p))] [eI (er_sv (er_my tn tb (p + 3)))] M _
  refine ez_istore 36 [(6, eI (er_sv (er_my tn tb (p + 3)))), (5, eI ((er_sv (er_my tn tb (p + 2))) - (nI 48))), (4, eI ((er_sv (er_my tn tb (p + 1))) - (nI 97))), (0, eR 1 m), (1, eR 13 0), (2, eI (nI tn)), (3, eI (nI p))] dX1_readPart_34 rfl (by decide) rfl ?_
  refine ez_aload_n 37 dX1_readPart_36 rfl rfl ?_
  refine ez_iload_n 38 dX1_readPart_37 rfl rfl ?_
  refine ez_iload_n 39 dX1_readPart_38 rfl rfl ?_
  refine ez_iconst 40 dX1_readPart_39 rfl (nI 4) (by decide) ?_
  refine ez_iadd 41 dX1_readPart_40 rfl ?_
  refine ez_top (nI (p + 4)) (nI_add _ _) ?_
  refine ez_callS 44 [eR 13 0, eI (nI tn), eI (nI (p + 4))] [] dX1_readPart_41 rfl rfl ok_X1_byteAt st_X1_byteAt ln_X1_37 (by omega) (Nat.le_of_ble_eq_true rfl) (c_X1_byteAt G (d - 1) tn (p + 4) tb M ht hb hx6 (by omega)) (fun r41 M41 q41 => ?_)
  obtain ⟨rfl, e41⟩ := q41
  rw [e41]
  show Ez G mX1_readPart d 44 [(6, eI (er_sv (er_my tn tb (p + 3)))), (5, eI ((er_sv (er_my tn tb (p + 2))) - (nI 48))), (4, eI ((er_sv (er_my tn tb (p + 1))) - (nI 97))), (0, eR 1 m), (1, eR 13 0), (2, eI (nI tn)), (3, eI (nI p))] [eI (er_sv (er_my tn tb (p + 4)))] M _
  refine ez_bipush 46 dX1_readPart_44 rfl (nI 97) (by decide) ?_
  refine ez_isub 47 dX1_readPart_46 rfl ?_
  refine ez_istore 49 [(7, eI ((er_sv (er_my tn tb (p + 4))) - (nI 97))), (6, eI (er_sv (er_my tn tb (p + 3)))), (5, eI ((er_sv (er_my tn tb (p + 2))) - (nI 48))), (4, eI ((er_sv (er_my tn tb (p + 1))) - (nI 97))), (0, eR 1 m), (1, eR 13 0), (2, eI (nI tn)), (3, eI (nI p))] dX1_readPart_47 rfl (by decide) rfl ?_
  refine ez_aload_n 50 dX1_readPart_49 rfl rfl ?_
  refine ez_iload_n 51 dX1_readPart_50 rfl rfl ?_
  refine ez_iload_n 52 dX1_readPart_51 rfl rfl ?_
  refine ez_iconst 53 dX1_readPart_52 rfl (nI 5) (by decide) ?_
  refine ez_iadd 54 dX1_readPart_53 rfl ?_
  refine ez_top (nI (p + 5)) (nI_add _ _) ?_
  refine ez_callS 57 [eR 13 0, eI (nI tn), eI (nI (p + 5))] [] dX1_readPart_54 rfl rfl ok_X1_byteAt st_X1_byteAt ln_X1_37 (by omega) (Nat.le_of_ble_eq_true rfl) (c_X1_byteAt G (d - 1) tn (p + 5) tb M ht hb hx6 (by omega)) (fun r54 M54 q54 => ?_)
  obtain ⟨rfl, e54⟩ := q54
  rw [e54]
  show Ez G mX1_readPart d 57 [(7, eI ((er_sv (er_my tn tb (p + 4))) - (nI 97))), (6, eI (er_sv (er_my tn tb (p + 3)))), (5, eI ((er_sv (er_my tn tb (p + 2))) - (nI 48))), (4, eI ((er_sv (er_my tn tb (p + 1))) - (nI 97))), (0, eR 1 m), (1, eR 13 0), (2, eI (nI tn)), (3, eI (nI p))] [eI (er_sv (er_my tn tb (p + 5)))] M _
  refine ez_bipush 59 dX1_readPart_57 rfl (nI 48) (by decide) ?_
  refine ez_isub 60 dX1_readPart_59 rfl ?_
  refine ez_istore 62 [(8, eI ((er_sv (er_my tn tb (p + 5))) - (nI 48))), (7, eI ((er_sv (er_my tn tb (p + 4))) - (nI 97))), (6, eI (er_sv (er_my tn tb (p + 3)))), (5, eI ((er_sv (er_my tn tb (p + 2))) - (nI 48))), (4, eI ((er_sv (er_my tn tb (p + 1))) - (nI 97))), (0, eR 1 m), (1, eR 13 0), (2, eI (nI tn)), (3, eI (nI p))] dX1_readPart_60 rfl (by decide) rfl ?_
  obtain ⟨u1, eu1⟩ : ∃ v, v = er_sv (er_my tn tb (p + 1)) - nI 97 := ⟨_, rfl⟩
  rw [← eu1]
  obtain ⟨u2, eu2⟩ : ∃ v, v = er_sv (er_my tn tb (p + 2)) - nI 48 := ⟨_, rfl⟩
  rw [← eu2]
  obtain ⟨u4, eu4⟩ : ∃ v, v = er_sv (er_my tn tb (p + 4)) - nI 97 := ⟨_, rfl⟩
  rw [← eu4]
  obtain ⟨u5, eu5⟩ : ∃ v, v = er_sv (er_my tn tb (p + 5)) - nI 48 := ⟨_, rfl⟩
  rw [← eu5]
  refine ez_aload_n 63 dX1_readPart_62 rfl rfl ?_
  refine ez_iload_n 64 dX1_readPart_63 rfl rfl ?_
  refine ez_iload_n 65 dX1_readPart_64 rfl rfl ?_
  refine ez_callS 68 [eR 13 0, eI (nI tn), eI (nI p)] [] dX1_readPart_65 rfl rfl ok_X1_byteAt st_X1_byteAt ln_X1_37 (by omega) (Nat.le_of_ble_eq_true rfl) (c_X1_byteAt G (d - 1) tn p tb M ht hb hx6 (by omega)) (fun r65 M65 q65 => ?_)
  obtain ⟨rfl, e65⟩ := q65
  rw [e65]
  show Ez G mX1_readPart d 68 [(8, eI u5), (7, eI u4), (6, eI (er_sv (er_my tn tb (p + 3)))), (5, eI u2), (4, eI u1), (0, eR 1 m), (1, eR 13 0), (2, eI (nI tn)), (3, eI (nI p))] [eI (er_sv (er_my tn tb p))] M _
  refine ez_bipush 70 dX1_readPart_68 rfl (nI 59) (by decide) ?_
  refine ez_icmp_eq 73 75 dX1_readPart_70 rfl (by decide) (fun h70 => ?_) (fun h70 => ?_)
  · refine ez_aload_n 76 dX1_readPart_75 rfl rfl ?_
    refine ez_iload 78 dX1_readPart_76 rfl rfl ?_
    refine ez_callV 81 [eI u1] [] dX1_readPart_78 rfl rfl ok_X1_hasRoom in_X1_hasRoom (by decide) (by show m < 4; omega) ln_X1_33 (by omega) (Nat.le_of_ble_eq_true rfl) (c_hasRoom_c G (d - 1) m u1 n M (by show m < 4; omega) hnr (by omega)) (fun r78 M78 q78 => ?_)
    obtain ⟨e78, ⟨rfl, i78⟩ | ⟨j78, b78, rfl, rfl⟩⟩ := q78
    · rw [e78]
      show Ez G mX1_readPart d 81 [(8, eI u5), (7, eI u4), (6, eI (er_sv (er_my tn tb (p + 3)))), (5, eI u2), (4, eI u1), (0, eR 1 m), (1, eR 13 0), (2, eI (nI tn)), (3, eI (nI p))] [eI (nI 0)] M _
      refine ez_nif_ne 84 88 dX1_readPart_81 rfl (by decide) (by omega) (fun h81 => ?_) (fun h81 => ?_)
      · exact absurd h81 (by decide)
      · refine ez_iload_n 85 dX1_readPart_84 rfl rfl ?_
        refine ez_iconst 86 dX1_readPart_85 rfl (nI 1) (by decide) ?_
        refine ez_iadd 87 dX1_readPart_86 rfl ?_
        refine ez_top (nI (p + 1)) (nI_add _ _) ?_
        refine ez_iret .int dX1_readPart_87 rfl rfl ?_
        have dx1 : er_dx (er_my tn tb (p + 1)) 97 n = none := by rw [← er_ixdx (by omega) (by omega) (er_sv_97 (er_my tn tb (p + 1)) (hmt _)), ← eu1]; exact i78
        refine ⟨FX.rf, Or.inl ⟨p + 1, by omega, ?_, rfl⟩⟩
        unfold er_part
        rw [if_neg (fun z => z ((er_sv_eq _ (hmt p)).1.mp h70)), dx1]
    · rw [e78]
      have i78 : ep_ix (nI j78) n = some j78 := ep_ix_nI b78 (by omega)
      show Ez G mX1_readPart d 81 [(8, eI u5), (7, eI u4), (6, eI (er_sv (er_my tn tb (p + 3)))), (5, eI u2), (4, eI (nI j78)), (0, eR 1 m), (1, eR 13 0), (2, eI (nI tn)), (3, eI (nI p))] [eI (nI 1)] M _
      refine ez_nif_ne 84 88 dX1_readPart_81 rfl (by decide) (by omega) (fun h81 => ?_) (fun h81 => ?_)
      · refine ez_iload 90 dX1_readPart_88 rfl rfl ?_
        refine ez_iconst 91 dX1_readPart_90 rfl (nI 4) (by decide) ?_
        refine ez_callSN 94 [eI u2, eI (nI 4)] [] dX1_readPart_91 rfl rfl ok_X11_isInside st_X11_isInside "ElevenPebbles" nn_X1_25 (by omega) (Nat.le_of_ble_eq_true rfl) (c_isInside_c G (d - 1) u2 4 M (by omega)) (fun r91 M91 q91 => ?_)
        obtain ⟨e91, ⟨rfl, i91⟩ | ⟨j91, b91, rfl, rfl⟩⟩ := q91
        · rw [e91]
          show Ez G mX1_readPart d 94 [(8, eI u5), (7, eI u4), (6, eI (er_sv (er_my tn tb (p + 3)))), (5, eI u2), (4, eI (nI j78)), (0, eR 1 m), (1, eR 13 0), (2, eI (nI tn)), (3, eI (nI p))] [eI (nI 0)] M _
          refine ez_nif_eq 97 109 dX1_readPart_94 rfl (by decide) (by omega) (fun h94 => ?_) (fun h94 => ?_)
          · refine ez_iload_n 110 dX1_readPart_109 rfl rfl ?_
            refine ez_iconst 111 dX1_readPart_110 rfl (nI 2) (by decide) ?_
            refine ez_iadd 112 dX1_readPart_111 rfl ?_
            refine ez_top (nI (p + 2)) (nI_add _ _) ?_
            refine ez_iret .int dX1_readPart_112 rfl rfl ?_
            have dx1 : er_dx (er_my tn tb (p + 1)) 97 n = some j78 := by rw [← er_ixdx (by omega) (by omega) (er_sv_97 (er_my tn tb (p + 1)) (hmt _)), ← eu1]; exact i78
            have dx2 : er_dx (er_my tn tb (p + 2)) 48 4 = none := by rw [← er_ixdx (by omega) (by omega) (er_sv_48 (er_my tn tb (p + 2)) (hmt _)), ← eu2]; exact i91
            refine ⟨FX.rf, Or.inl ⟨p + 2, by omega, ?_, rfl⟩⟩
            unfold er_part
            rw [if_neg (fun z => z ((er_sv_eq _ (hmt p)).1.mp h70)), dx1, dx2]
          · exact absurd h94 (by decide)
        · rw [e91]
          have i91 : ep_ix (nI j91) 4 = some j91 := ep_ix_nI b91 (by omega)
          show Ez G mX1_readPart d 94 [(8, eI u5), (7, eI u4), (6, eI (er_sv (er_my tn tb (p + 3)))), (5, eI (nI j91)), (4, eI (nI j78)), (0, eR 1 m), (1, eR 13 0), (2, eI (nI tn)), (3, eI (nI p))] [eI (nI 1)] M _
          refine ez_nif_eq 97 109 dX1_readPart_94 rfl (by decide) (by omega) (fun h94 => ?_) (fun h94 => ?_)
          · exact absurd h94 (by decide)
          · refine ez_aload_n 98 dX1_readPart_97 rfl rfl ?_
            refine ez_iload 100 dX1_readPart_98 rfl rfl ?_
            refine ez_iload 102 dX1_readPart_100 rfl rfl ?_
            refine ez_callV 105 [eI (nI j78), eI (nI j91)] [] dX1_readPart_102 rfl rfl ok_X1_target in_X1_target (by decide) (by show m < 4; omega) ln_X1_48 (by omega) (Nat.le_of_ble_eq_true rfl) (c_target_n G (d - 1) m j78 j91 M (by omega) (by show m < 4; omega) (by omega) (by omega)) (fun r102 M102 q102 => ?_)
            obtain ⟨rfl, e102⟩ := q102
            rw [e102, show M.1 18 m (4 * j78 + j91) = l (4 * j78 + j91) from (hR.1 (4 * j78 + j91) (by omega))]
            show Ez G mX1_readPart d 105 [(8, eI u5), (7, eI u4), (6, eI (er_sv (er_my tn tb (p + 3)))), (5, eI (nI j91)), (4, eI (nI j78)), (0, eR 1 m), (1, eR 13 0), (2, eI (nI tn)), (3, eI (nI p))] [eI (l (4 * j78 + j91))] M _
            refine ez_iconst 106 dX1_readPart_105 rfl (-1) (by decide) ?_
            refine ez_icmp_eq 109 113 dX1_readPart_106 rfl (by decide) (fun h106 => ?_) (fun h106 => ?_)
            · refine ez_iload 115 dX1_readPart_113 rfl rfl ?_
              refine ez_bipush 117 dX1_readPart_115 rfl (nI 45) (by decide) ?_
              refine ez_icmp_eq 120 131 dX1_readPart_117 rfl (by decide) (fun h117 => ?_) (fun h117 => ?_)
              · refine ez_aload_n 132 dX1_readPart_131 rfl rfl ?_
                refine ez_iload 134 dX1_readPart_132 rfl rfl ?_
                refine ez_callV 137 [eI u4] [] dX1_readPart_134 rfl rfl ok_X1_hasRoom in_X1_hasRoom (by decide) (by show m < 4; omega) ln_X1_33 (by omega) (Nat.le_of_ble_eq_true rfl) (c_hasRoom_c G (d - 1) m u4 n M (by show m < 4; omega) hnr (by omega)) (fun r134 M134 q134 => ?_)
                obtain ⟨e134, ⟨rfl, i134⟩ | ⟨j134, b134, rfl, rfl⟩⟩ := q134
                · rw [e134]
                  show Ez G mX1_readPart d 137 [(8, eI u5), (7, eI u4), (6, eI (er_sv (er_my tn tb (p + 3)))), (5, eI (nI j91)), (4, eI (nI j78)), (0, eR 1 m), (1, eR 13 0), (2, eI (nI tn)), (3, eI (nI p))] [eI (nI 0)] M _
                  refine ez_nif_ne 140 144 dX1_readPart_137 rfl (by decide) (by omega) (fun h137 => ?_) (fun h137 => ?_)
                  · exact absurd h137 (by decide)
                  · refine ez_iload_n 141 dX1_readPart_140 rfl rfl ?_
                    refine ez_iconst 142 dX1_readPart_141 rfl (nI 4) (by decide) ?_
                    refine ez_iadd 143 dX1_readPart_142 rfl ?_
                    refine ez_top (nI (p + 4)) (nI_add _ _) ?_
                    refine ez_iret .int dX1_readPart_143 rfl rfl ?_
                    have dx1 : er_dx (er_my tn tb (p + 1)) 97 n = some j78 := by rw [← er_ixdx (by omega) (by omega) (er_sv_97 (er_my tn tb (p + 1)) (hmt _)), ← eu1]; exact i78
                    have dx2 : er_dx (er_my tn tb (p + 2)) 48 4 = some j91 := by rw [← er_ixdx (by omega) (by omega) (er_sv_48 (er_my tn tb (p + 2)) (hmt _)), ← eu2]; exact i91
                    have dx4 : er_dx (er_my tn tb (p + 4)) 97 n = none := by rw [← er_ixdx (by omega) (by omega) (er_sv_97 (er_my tn tb (p + 4)) (hmt _)), ← eu4]; exact i134
                    refine ⟨FX.rf, Or.inl ⟨p + 4, by omega, ?_, rfl⟩⟩
                    unfold er_part
                    rw [if_neg (fun z => z ((er_sv_eq _ (hmt p)).1.mp h70)), dx1, dx2]
                    simp only []
                    rw [if_neg (fun z => z h106), if_neg (fun z => z.1 ((er_sv_eq _ (hmt (p + 3))).2.1.mp h117))]
                    rw [dx4]
                · rw [e134]
                  have i134 : ep_ix (nI j134) n = some j134 := ep_ix_nI b134 (by omega)
                  show Ez G mX1_readPart d 137 [(8, eI u5), (7, eI (nI j134)), (6, eI (er_sv (er_my tn tb (p + 3)))), (5, eI (nI j91)), (4, eI (nI j78)), (0, eR 1 m), (1, eR 13 0), (2, eI (nI tn)), (3, eI (nI p))] [eI (nI 1)] M _
                  refine ez_nif_ne 140 144 dX1_readPart_137 rfl (by decide) (by omega) (fun h137 => ?_) (fun h137 => ?_)
                  · refine ez_iload 146 dX1_readPart_144 rfl rfl ?_
                    refine ez_iconst 147 dX1_readPart_146 rfl (nI 4) (by decide) ?_
                    refine ez_callSN 150 [eI u5, eI (nI 4)] [] dX1_readPart_147 rfl rfl ok_X11_isInside st_X11_isInside "ElevenPebbles" nn_X1_25 (by omega) (Nat.le_of_ble_eq_true rfl) (c_isInside_c G (d - 1) u5 4 M (by omega)) (fun r147 M147 q147 => ?_)
                    obtain ⟨e147, ⟨rfl, i147⟩ | ⟨j147, b147, rfl, rfl⟩⟩ := q147
                    · rw [e147]
                      show Ez G mX1_readPart d 150 [(8, eI u5), (7, eI (nI j134)), (6, eI (er_sv (er_my tn tb (p + 3)))), (5, eI (nI j91)), (4, eI (nI j78)), (0, eR 1 m), (1, eR 13 0), (2, eI (nI tn)), (3, eI (nI p))] [eI (nI 0)] M _
                      refine ez_nif_eq 153 172 dX1_readPart_150 rfl (by decide) (by omega) (fun h150 => ?_) (fun h150 => ?_)
                      · refine ez_iload_n 173 dX1_readPart_172 rfl rfl ?_
                        refine ez_iconst 174 dX1_readPart_173 rfl (nI 5) (by decide) ?_
                        refine ez_iadd 175 dX1_readPart_174 rfl ?_
                        refine ez_top (nI (p + 5)) (nI_add _ _) ?_
                        refine ez_iret .int dX1_readPart_175 rfl rfl ?_
                        have dx1 : er_dx (er_my tn tb (p + 1)) 97 n = some j78 := by rw [← er_ixdx (by omega) (by omega) (er_sv_97 (er_my tn tb (p + 1)) (hmt _)), ← eu1]; exact i78
                        have dx2 : er_dx (er_my tn tb (p + 2)) 48 4 = some j91 := by rw [← er_ixdx (by omega) (by omega) (er_sv_48 (er_my tn tb (p + 2)) (hmt _)), ← eu2]; exact i91
                        have dx4 : er_dx (er_my tn tb (p + 4)) 97 n = some j134 := by rw [← er_ixdx (by omega) (by omega) (er_sv_97 (er_my tn tb (p + 4)) (hmt _)), ← eu4]; exact i134
                        have dx5 : er_dx (er_my tn tb (p + 5)) 48 4 = none := by rw [← er_ixdx (by omega) (by omega) (er_sv_48 (er_my tn tb (p + 5)) (hmt _)), ← eu5]; exact i147
                        refine ⟨FX.rf, Or.inl ⟨p + 5, by omega, ?_, rfl⟩⟩
                        unfold er_part
                        rw [if_neg (fun z => z ((er_sv_eq _ (hmt p)).1.mp h70)), dx1, dx2]
                        simp only []
                        rw [if_neg (fun z => z h106), if_neg (fun z => z.1 ((er_sv_eq _ (hmt (p + 3))).2.1.mp h117))]
                        rw [dx4, dx5]
                      · exact absurd h150 (by decide)
                    · rw [e147]
                      have i147 : ep_ix (nI j147) 4 = some j147 := ep_ix_nI b147 (by omega)
                      show Ez G mX1_readPart d 150 [(8, eI (nI j147)), (7, eI (nI j134)), (6, eI (er_sv (er_my tn tb (p + 3)))), (5, eI (nI j91)), (4, eI (nI j78)), (0, eR 1 m), (1, eR 13 0), (2, eI (nI tn)), (3, eI (nI p))] [eI (nI 1)] M _
                      refine ez_nif_eq 153 172 dX1_readPart_150 rfl (by decide) (by omega) (fun h150 => ?_) (fun h150 => ?_)
                      · exact absurd h150 (by decide)
                      · refine ez_iload 155 dX1_readPart_153 rfl rfl ?_
                        refine ez_bipush 157 dX1_readPart_155 rfl (nI 45) (by decide) ?_
                        refine ez_icmp_ne 160 176 dX1_readPart_157 rfl (by decide) (fun h157 => ?_) (fun h157 => ?_)
                        · refine ez_aload_n 177 dX1_readPart_176 rfl rfl ?_
                          refine ez_iload 179 dX1_readPart_177 rfl rfl ?_
                          refine ez_iload 181 dX1_readPart_179 rfl rfl ?_
                          refine ez_iload 183 dX1_readPart_181 rfl rfl ?_
                          refine ez_iload 185 dX1_readPart_183 rfl rfl ?_
                          refine ez_callV 188 [eI (nI j78), eI (nI j91), eI (nI j134), eI (nI j147)] [] dX1_readPart_185 rfl rfl ok_X1_lead in_X1_lead (by decide) (by show m < 4; omega) ln_X1_52 (by omega) (Nat.le_of_ble_eq_true rfl) (c_X1_lead G (d - 1) m j78 j91 j134 j147 l M (by omega) hm (by omega) (by omega) (by omega) (by omega) hR) (fun r185 M185 q185 => ?_)
                          obtain ⟨rfl, g185, f185⟩ := q185
                          show Ez G mX1_readPart d 188 [(8, eI (nI j147)), (7, eI (nI j134)), (6, eI (er_sv (er_my tn tb (p + 3)))), (5, eI (nI j91)), (4, eI (nI j78)), (0, eR 1 m), (1, eR 13 0), (2, eI (nI tn)), (3, eI (nI p))] [] M185 _
                          refine ez_iload 190 dX1_readPart_188 rfl rfl ?_
                          refine ez_bipush 192 dX1_readPart_190 rfl (nI 45) (by decide) ?_
                          refine ez_icmp_ne 195 207 dX1_readPart_192 rfl (by decide) (fun h192 => ?_) (fun h192 => ?_)
                          · refine ez_iconst 208 dX1_readPart_207 rfl (-1) (by decide) ?_
                            refine ez_iret .int dX1_readPart_208 rfl rfl ?_
                            have dx1 : er_dx (er_my tn tb (p + 1)) 97 n = some j78 := by rw [← er_ixdx (by omega) (by omega) (er_sv_97 (er_my tn tb (p + 1)) (hmt _)), ← eu1]; exact i78
                            have dx2 : er_dx (er_my tn tb (p + 2)) 48 4 = some j91 := by rw [← er_ixdx (by omega) (by omega) (er_sv_48 (er_my tn tb (p + 2)) (hmt _)), ← eu2]; exact i91
                            have dx4 : er_dx (er_my tn tb (p + 4)) 97 n = some j134 := by rw [← er_ixdx (by omega) (by omega) (er_sv_97 (er_my tn tb (p + 4)) (hmt _)), ← eu4]; exact i134
                            have dx5 : er_dx (er_my tn tb (p + 5)) 48 4 = some j147 := by rw [← er_ixdx (by omega) (by omega) (er_sv_48 (er_my tn tb (p + 5)) (hmt _)), ← eu5]; exact i147
                            have z45 : ¬ er_my tn tb (p + 3) = 45 := fun z => h157 ((er_sv_eq _ (hmt (p + 3))).2.1.mpr z)
                            refine ⟨f185, Or.inr ⟨_, ?_, rfl, g185⟩⟩
                            unfold er_part
                            rw [if_neg (fun z => z ((er_sv_eq _ (hmt p)).1.mp h70)), dx1, dx2]
                            simp only []
                            rw [if_neg (fun z => z h106), if_neg (fun z => z.1 ((er_sv_eq _ (hmt (p + 3))).2.1.mp h117))]
                            rw [dx4, dx5]
                            simp only []
                            rw [if_neg (fun z => z45 z.1), if_neg z45]
                          · refine ez_aload_n 196 dX1_readPart_195 rfl rfl ?_
                            refine ez_iload 198 dX1_readPart_196 rfl rfl ?_
                            refine ez_iload 200 dX1_readPart_198 rfl rfl ?_
                            refine ez_iload 202 dX1_readPart_200 rfl rfl ?_
                            refine ez_iload 204 dX1_readPart_202 rfl rfl ?_
                            refine ez_callV 207 [eI (nI j134), eI (nI j147), eI (nI j78), eI (nI j91)] [] dX1_readPart_204 rfl rfl ok_X1_lead in_X1_lead (by decide) (by show m < 4; omega) ln_X1_52 (by omega) (Nat.le_of_ble_eq_true rfl) (c_X1_lead G (d - 1) m j134 j147 j78 j91 (er_u1 l (4 * j78 + j91) (nI (10 * j134 + j147))) M185 (by omega) hm (by omega) (by omega) (by omega) (by omega) g185) (fun r204 M204 q204 => ?_)
                            obtain ⟨rfl, g204, f204⟩ := q204
                            show Ez G mX1_readPart d 207 [(8, eI (nI j147)), (7, eI (nI j134)), (6, eI (er_sv (er_my tn tb (p + 3)))), (5, eI (nI j91)), (4, eI (nI j78)), (0, eR 1 m), (1, eR 13 0), (2, eI (nI tn)), (3, eI (nI p))] [] M204 _
                            refine ez_iconst 208 dX1_readPart_207 rfl (-1) (by decide) ?_
                            refine ez_iret .int dX1_readPart_208 rfl rfl ?_
                            exact absurd h192 h157
                        · refine ez_aload_n 161 dX1_readPart_160 rfl rfl ?_
                          refine ez_iload 163 dX1_readPart_161 rfl rfl ?_
                          refine ez_iload 165 dX1_readPart_163 rfl rfl ?_
                          refine ez_callV 168 [eI (nI j134), eI (nI j147)] [] dX1_readPart_165 rfl rfl ok_X1_target in_X1_target (by decide) (by show m < 4; omega) ln_X1_48 (by omega) (Nat.le_of_ble_eq_true rfl) (c_target_n G (d - 1) m j134 j147 M (by omega) (by show m < 4; omega) (by omega) (by omega)) (fun r165 M165 q165 => ?_)
                          obtain ⟨rfl, e165⟩ := q165
                          rw [e165, show M.1 18 m (4 * j134 + j147) = l (4 * j134 + j147) from (hR.1 (4 * j134 + j147) (by omega))]
                          show Ez G mX1_readPart d 168 [(8, eI (nI j147)), (7, eI (nI j134)), (6, eI (er_sv (er_my tn tb (p + 3)))), (5, eI (nI j91)), (4, eI (nI j78)), (0, eR 1 m), (1, eR 13 0), (2, eI (nI tn)), (3, eI (nI p))] [eI (l (4 * j134 + j147))] M _
                          refine ez_iconst 169 dX1_readPart_168 rfl (-1) (by decide) ?_
                          refine ez_icmp_eq 172 176 dX1_readPart_169 rfl (by decide) (fun h169 => ?_) (fun h169 => ?_)
                          · refine ez_aload_n 177 dX1_readPart_176 rfl rfl ?_
                            refine ez_iload 179 dX1_readPart_177 rfl rfl ?_
                            refine ez_iload 181 dX1_readPart_179 rfl rfl ?_
                            refine ez_iload 183 dX1_readPart_181 rfl rfl ?_
                            refine ez_iload 185 dX1_readPart_183 rfl rfl ?_
                            refine ez_callV 188 [eI (nI j78), eI (nI j91), eI (nI j134), eI (nI j147)] [] dX1_readPart_185 rfl rfl ok_X1_lead in_X1_lead (by decide) (by show m < 4; omega) ln_X1_52 (by omega) (Nat.le_of_ble_eq_true rfl) (c_X1_lead G (d - 1) m j78 j91 j134 j147 l M (by omega) hm (by omega) (by omega) (by omega) (by omega) hR) (fun r185 M185 q185 => ?_)
                            obtain ⟨rfl, g185, f185⟩ := q185
                            show Ez G mX1_readPart d 188 [(8, eI (nI j147)), (7, eI (nI j134)), (6, eI (er_sv (er_my tn tb (p + 3)))), (5, eI (nI j91)), (4, eI (nI j78)), (0, eR 1 m), (1, eR 13 0), (2, eI (nI tn)), (3, eI (nI p))] [] M185 _
                            refine ez_iload 190 dX1_readPart_188 rfl rfl ?_
                            refine ez_bipush 192 dX1_readPart_190 rfl (nI 45) (by decide) ?_
                            refine ez_icmp_ne 195 207 dX1_readPart_192 rfl (by decide) (fun h192 => ?_) (fun h192 => ?_)
                            · refine ez_iconst 208 dX1_readPart_207 rfl (-1) (by decide) ?_
                              refine ez_iret .int dX1_readPart_208 rfl rfl ?_
                              exact absurd h157 h192
                            · refine ez_aload_n 196 dX1_readPart_195 rfl rfl ?_
                              refine ez_iload 198 dX1_readPart_196 rfl rfl ?_
                              refine ez_iload 200 dX1_readPart_198 rfl rfl ?_
                              refine ez_iload 202 dX1_readPart_200 rfl rfl ?_
                              refine ez_iload 204 dX1_readPart_202 rfl rfl ?_
                              refine ez_callV 207 [eI (nI j134), eI (nI j147), eI (nI j78), eI (nI j91)] [] dX1_readPart_204 rfl rfl ok_X1_lead in_X1_lead (by decide) (by show m < 4; omega) ln_X1_52 (by omega) (Nat.le_of_ble_eq_true rfl) (c_X1_lead G (d - 1) m j134 j147 j78 j91 (er_u1 l (4 * j78 + j91) (nI (10 * j134 + j147))) M185 (by omega) hm (by omega) (by omega) (by omega) (by omega) g185) (fun r204 M204 q204 => ?_)
                              obtain ⟨rfl, g204, f204⟩ := q204
                              show Ez G mX1_readPart d 207 [(8, eI (nI j147)), (7, eI (nI j134)), (6, eI (er_sv (er_my tn tb (p + 3)))), (5, eI (nI j91)), (4, eI (nI j78)), (0, eR 1 m), (1, eR 13 0), (2, eI (nI tn)), (3, eI (nI p))] [] M204 _
                              refine ez_iconst 208 dX1_readPart_207 rfl (-1) (by decide) ?_
                              refine ez_iret .int dX1_readPart_208 rfl rfl ?_
                              have dx1 : er_dx (er_my tn tb (p + 1)) 97 n = some j78 := by rw [← er_ixdx (by omega) (by omega) (er_sv_97 (er_my tn tb (p + 1)) (hmt _)), ← eu1]; exact i78
                              have dx2 : er_dx (er_my tn tb (p + 2)) 48 4 = some j91 := by rw [← er_ixdx (by omega) (by omega) (er_sv_48 (er_my tn tb (p + 2)) (hmt _)), ← eu2]; exact i91
                              have dx4 : er_dx (er_my tn tb (p + 4)) 97 n = some j134 := by rw [← er_ixdx (by omega) (by omega) (er_sv_97 (er_my tn tb (p + 4)) (hmt _)), ← eu4]; exact i134
                              have dx5 : er_dx (er_my tn tb (p + 5)) 48 4 = some j147 := by rw [← er_ixdx (by omega) (by omega) (er_sv_48 (er_my tn tb (p + 5)) (hmt _)), ← eu5]; exact i147
                              have z45 := (er_sv_eq _ (hmt (p + 3))).2.1.mp h157
                              refine ⟨f185.tr f204, Or.inr ⟨_, ?_, rfl, g204⟩⟩
                              unfold er_part
                              rw [if_neg (fun z => z ((er_sv_eq _ (hmt p)).1.mp h70)), dx1, dx2]
                              simp only []
                              rw [if_neg (fun z => z h106), if_neg (fun z => z.1 ((er_sv_eq _ (hmt (p + 3))).2.1.mp h117))]
                              rw [dx4, dx5]
                              simp only []
                              rw [if_neg (fun z => z.2 h169), if_pos z45]
                          · refine ez_iload_n 173 dX1_readPart_172 rfl rfl ?_
                            refine ez_iconst 174 dX1_readPart_173 rfl (nI 5) (by decide) ?_
                            refine ez_iadd 175 dX1_readPart_174 rfl ?_
                            refine ez_top (nI (p + 5)) (nI_add _ _) ?_
                            refine ez_iret .int dX1_readPart_175 rfl rfl ?_
                            have dx1 : er_dx (er_my tn tb (p + 1)) 97 n = some j78 := by rw [← er_ixdx (by omega) (by omega) (er_sv_97 (er_my tn tb (p + 1)) (hmt _)), ← eu1]; exact i78
                            have dx2 : er_dx (er_my tn tb (p + 2)) 48 4 = some j91 := by rw [← er_ixdx (by omega) (by omega) (er_sv_48 (er_my tn tb (p + 2)) (hmt _)), ← eu2]; exact i91
                            have dx4 : er_dx (er_my tn tb (p + 4)) 97 n = some j134 := by rw [← er_ixdx (by omega) (by omega) (er_sv_97 (er_my tn tb (p + 4)) (hmt _)), ← eu4]; exact i134
                            have dx5 : er_dx (er_my tn tb (p + 5)) 48 4 = some j147 := by rw [← er_ixdx (by omega) (by omega) (er_sv_48 (er_my tn tb (p + 5)) (hmt _)), ← eu5]; exact i147
                            refine ⟨FX.rf, Or.inl ⟨p + 5, by omega, ?_, rfl⟩⟩
                            unfold er_part
                            rw [if_neg (fun z => z ((er_sv_eq _ (hmt p)).1.mp h70)), dx1, dx2]
                            simp only []
                            rw [if_neg (fun z => z h106), if_neg (fun z => z.1 ((er_sv_eq _ (hmt (p + 3))).2.1.mp h117))]
                            rw [dx4, dx5]
                            simp only []
                            rw [if_pos ⟨(er_sv_eq _ (hmt (p + 3))).2.1.mp h157, h169⟩]
                  · exact absurd h137 (by decide)
              · refine ez_iload 122 dX1_readPart_120 rfl rfl ?_
                refine ez_bipush 124 dX1_readPart_122 rfl (nI 62) (by decide) ?_
                refine ez_icmp_eq 127 131 dX1_readPart_124 rfl (by decide) (fun h124 => ?_) (fun h124 => ?_)
                · refine ez_aload_n 132 dX1_readPart_131 rfl rfl ?_
                  refine ez_iload 134 dX1_readPart_132 rfl rfl ?_
                  refine ez_callV 137 [eI u4] [] dX1_readPart_134 rfl rfl ok_X1_hasRoom in_X1_hasRoom (by decide) (by show m < 4; omega) ln_X1_33 (by omega) (Nat.le_of_ble_eq_true rfl) (c_hasRoom_c G (d - 1) m u4 n M (by show m < 4; omega) hnr (by omega)) (fun r134 M134 q134 => ?_)
                  obtain ⟨e134, ⟨rfl, i134⟩ | ⟨j134, b134, rfl, rfl⟩⟩ := q134
                  · rw [e134]
                    show Ez G mX1_readPart d 137 [(8, eI u5), (7, eI u4), (6, eI (er_sv (er_my tn tb (p + 3)))), (5, eI (nI j91)), (4, eI (nI j78)), (0, eR 1 m), (1, eR 13 0), (2, eI (nI tn)), (3, eI (nI p))] [eI (nI 0)] M _
                    refine ez_nif_ne 140 144 dX1_readPart_137 rfl (by decide) (by omega) (fun h137 => ?_) (fun h137 => ?_)
                    · exact absurd h137 (by decide)
                    · refine ez_iload_n 141 dX1_readPart_140 rfl rfl ?_
                      refine ez_iconst 142 dX1_readPart_141 rfl (nI 4) (by decide) ?_
                      refine ez_iadd 143 dX1_readPart_142 rfl ?_
                      refine ez_top (nI (p + 4)) (nI_add _ _) ?_
                      refine ez_iret .int dX1_readPart_143 rfl rfl ?_
                      have dx1 : er_dx (er_my tn tb (p + 1)) 97 n = some j78 := by rw [← er_ixdx (by omega) (by omega) (er_sv_97 (er_my tn tb (p + 1)) (hmt _)), ← eu1]; exact i78
                      have dx2 : er_dx (er_my tn tb (p + 2)) 48 4 = some j91 := by rw [← er_ixdx (by omega) (by omega) (er_sv_48 (er_my tn tb (p + 2)) (hmt _)), ← eu2]; exact i91
                      have dx4 : er_dx (er_my tn tb (p + 4)) 97 n = none := by rw [← er_ixdx (by omega) (by omega) (er_sv_97 (er_my tn tb (p + 4)) (hmt _)), ← eu4]; exact i134
                      refine ⟨FX.rf, Or.inl ⟨p + 4, by omega, ?_, rfl⟩⟩
                      unfold er_part
                      rw [if_neg (fun z => z ((er_sv_eq _ (hmt p)).1.mp h70)), dx1, dx2]
                      simp only []
                      rw [if_neg (fun z => z h106), if_neg (fun z => z.2 ((er_sv_eq _ (hmt (p + 3))).2.2.mp h124))]
                      rw [dx4]
                  · rw [e134]
                    have i134 : ep_ix (nI j134) n = some j134 := ep_ix_nI b134 (by omega)
                    show Ez G mX1_readPart d 137 [(8, eI u5), (7, eI (nI j134)), (6, eI (er_sv (er_my tn tb (p + 3)))), (5, eI (nI j91)), (4, eI (nI j78)), (0, eR 1 m), (1, eR 13 0), (2, eI (nI tn)), (3, eI (nI p))] [eI (nI 1)] M _
                    refine ez_nif_ne 140 144 dX1_readPart_137 rfl (by decide) (by omega) (fun h137 => ?_) (fun h137 => ?_)
                    · refine ez_iload 146 dX1_readPart_144 rfl rfl ?_
                      refine ez_iconst 147 dX1_readPart_146 rfl (nI 4) (by decide) ?_
                      refine ez_callSN 150 [eI u5, eI (nI 4)] [] dX1_readPart_147 rfl rfl ok_X11_isInside st_X11_isInside "ElevenPebbles" nn_X1_25 (by omega) (Nat.le_of_ble_eq_true rfl) (c_isInside_c G (d - 1) u5 4 M (by omega)) (fun r147 M147 q147 => ?_)
                      obtain ⟨e147, ⟨rfl, i147⟩ | ⟨j147, b147, rfl, rfl⟩⟩ := q147
                      · rw [e147]
                        show Ez G mX1_readPart d 150 [(8, eI u5), (7, eI (nI j134)), (6, eI (er_sv (er_my tn tb (p + 3)))), (5, eI (nI j91)), (4, eI (nI j78)), (0, eR 1 m), (1, eR 13 0), (2, eI (nI tn)), (3, eI (nI p))] [eI (nI 0)] M _
                        refine ez_nif_eq 153 172 dX1_readPart_150 rfl (by decide) (by omega) (fun h150 => ?_) (fun h150 => ?_)
                        · refine ez_iload_n 173 dX1_readPart_172 rfl rfl ?_
                          refine ez_iconst 174 dX1_readPart_173 rfl (nI 5) (by decide) ?_
                          refine ez_iadd 175 dX1_readPart_174 rfl ?_
                          refine ez_top (nI (p + 5)) (nI_add _ _) ?_
                          refine ez_iret .int dX1_readPart_175 rfl rfl ?_
                          have dx1 : er_dx (er_my tn tb (p + 1)) 97 n = some j78 := by rw [← er_ixdx (by omega) (by omega) (er_sv_97 (er_my tn tb (p + 1)) (hmt _)), ← eu1]; exact i78
                          have dx2 : er_dx (er_my tn tb (p + 2)) 48 4 = some j91 := by rw [← er_ixdx (by omega) (by omega) (er_sv_48 (er_my tn tb (p + 2)) (hmt _)), ← eu2]; exact i91
                          have dx4 : er_dx (er_my tn tb (p + 4)) 97 n = some j134 := by rw [← er_ixdx (by omega) (by omega) (er_sv_97 (er_my tn tb (p + 4)) (hmt _)), ← eu4]; exact i134
                          have dx5 : er_dx (er_my tn tb (p + 5)) 48 4 = none := by rw [← er_ixdx (by omega) (by omega) (er_sv_48 (er_my tn tb (p + 5)) (hmt _)), ← eu5]; exact i147
                          refine ⟨FX.rf, Or.inl ⟨p + 5, by omega, ?_, rfl⟩⟩
                          unfold er_part
                          rw [if_neg (fun z => z ((er_sv_eq _ (hmt p)).1.mp h70)), dx1, dx2]
                          simp only []
                          rw [if_neg (fun z => z h106), if_neg (fun z => z.2 ((er_sv_eq _ (hmt (p + 3))).2.2.mp h124))]
                          rw [dx4, dx5]
                        · exact absurd h150 (by decide)
                      · rw [e147]
                        have i147 : ep_ix (nI j147) 4 = some j147 := ep_ix_nI b147 (by omega)
                        show Ez G mX1_readPart d 150 [(8, eI (nI j147)), (7, eI (nI j134)), (6, eI (er_sv (er_my tn tb (p + 3)))), (5, eI (nI j91)), (4, eI (nI j78)), (0, eR 1 m), (1, eR 13 0), (2, eI (nI tn)), (3, eI (nI p))] [eI (nI 1)] M _
                        refine ez_nif_eq 153 172 dX1_readPart_150 rfl (by decide) (by omega) (fun h150 => ?_) (fun h150 => ?_)
                        · exact absurd h150 (by decide)
                        · refine ez_iload 155 dX1_readPart_153 rfl rfl ?_
                          refine ez_bipush 157 dX1_readPart_155 rfl (nI 45) (by decide) ?_
                          refine ez_icmp_ne 160 176 dX1_readPart_157 rfl (by decide) (fun h157 => ?_) (fun h157 => ?_)
                          · refine ez_aload_n 177 dX1_readPart_176 rfl rfl ?_
                            refine ez_iload 179 dX1_readPart_177 rfl rfl ?_
                            refine ez_iload 181 dX1_readPart_179 rfl rfl ?_
                            refine ez_iload 183 dX1_readPart_181 rfl rfl ?_
                            refine ez_iload 185 dX1_readPart_183 rfl rfl ?_
                            refine ez_callV 188 [eI (nI j78), eI (nI j91), eI (nI j134), eI (nI j147)] [] dX1_readPart_185 rfl rfl ok_X1_lead in_X1_lead (by decide) (by show m < 4; omega) ln_X1_52 (by omega) (Nat.le_of_ble_eq_true rfl) (c_X1_lead G (d - 1) m j78 j91 j134 j147 l M (by omega) hm (by omega) (by omega) (by omega) (by omega) hR) (fun r185 M185 q185 => ?_)
                            obtain ⟨rfl, g185, f185⟩ := q185
                            show Ez G mX1_readPart d 188 [(8, eI (nI j147)), (7, eI (nI j134)), (6, eI (er_sv (er_my tn tb (p + 3)))), (5, eI (nI j91)), (4, eI (nI j78)), (0, eR 1 m), (1, eR 13 0), (2, eI (nI tn)), (3, eI (nI p))] [] M185 _
                            refine ez_iload 190 dX1_readPart_188 rfl rfl ?_
                            refine ez_bipush 192 dX1_readPart_190 rfl (nI 45) (by decide) ?_
                            refine ez_icmp_ne 195 207 dX1_readPart_192 rfl (by decide) (fun h192 => ?_) (fun h192 => ?_)
                            · refine ez_iconst 208 dX1_readPart_207 rfl (-1) (by decide) ?_
                              refine ez_iret .int dX1_readPart_208 rfl rfl ?_
                              have dx1 : er_dx (er_my tn tb (p + 1)) 97 n = some j78 := by rw [← er_ixdx (by omega) (by omega) (er_sv_97 (er_my tn tb (p + 1)) (hmt _)), ← eu1]; exact i78
                              have dx2 : er_dx (er_my tn tb (p + 2)) 48 4 = some j91 := by rw [← er_ixdx (by omega) (by omega) (er_sv_48 (er_my tn tb (p + 2)) (hmt _)), ← eu2]; exact i91
                              have dx4 : er_dx (er_my tn tb (p + 4)) 97 n = some j134 := by rw [← er_ixdx (by omega) (by omega) (er_sv_97 (er_my tn tb (p + 4)) (hmt _)), ← eu4]; exact i134
                              have dx5 : er_dx (er_my tn tb (p + 5)) 48 4 = some j147 := by rw [← er_ixdx (by omega) (by omega) (er_sv_48 (er_my tn tb (p + 5)) (hmt _)), ← eu5]; exact i147
                              have z45 : ¬ er_my tn tb (p + 3) = 45 := fun z => h157 ((er_sv_eq _ (hmt (p + 3))).2.1.mpr z)
                              refine ⟨f185, Or.inr ⟨_, ?_, rfl, g185⟩⟩
                              unfold er_part
                              rw [if_neg (fun z => z ((er_sv_eq _ (hmt p)).1.mp h70)), dx1, dx2]
                              simp only []
                              rw [if_neg (fun z => z h106), if_neg (fun z => z.2 ((er_sv_eq _ (hmt (p + 3))).2.2.mp h124))]
                              rw [dx4, dx5]
                              simp only []
                              rw [if_neg (fun z => z45 z.1), if_neg z45]
                            · refine ez_aload_n 196 dX1_readPart_195 rfl rfl ?_
                              refine ez_iload 198 dX1_readPart_196 rfl rfl ?_
                              refine ez_iload 200 dX1_readPart_198 rfl rfl ?_
                              refine ez_iload 202 dX1_readPart_200 rfl rfl ?_
                              refine ez_iload 204 dX1_readPart_202 rfl rfl ?_
                              refine ez_callV 207 [eI (nI j134), eI (nI j147), eI (nI j78), eI (nI j91)] [] dX1_readPart_204 rfl rfl ok_X1_lead in_X1_lead (by decide) (by show m < 4; omega) ln_X1_52 (by omega) (Nat.le_of_ble_eq_true rfl) (c_X1_lead G (d - 1) m j134 j147 j78 j91 (er_u1 l (4 * j78 + j91) (nI (10 * j134 + j147))) M185 (by omega) hm (by omega) (by omega) (by omega) (by omega) g185) (fun r204 M204 q204 => ?_)
                              obtain ⟨rfl, g204, f204⟩ := q204
                              show Ez G mX1_readPart d 207 [(8, eI (nI j147)), (7, eI (nI j134)), (6, eI (er_sv (er_my tn tb (p + 3)))), (5, eI (nI j91)), (4, eI (nI j78)), (0, eR 1 m), (1, eR 13 0), (2, eI (nI tn)), (3, eI (nI p))] [] M204 _
                              refine ez_iconst 208 dX1_readPart_207 rfl (-1) (by decide) ?_
                              refine ez_iret .int dX1_readPart_208 rfl rfl ?_
                              exact absurd h192 h157
                          · refine ez_aload_n 161 dX1_readPart_160 rfl rfl ?_
                            refine ez_iload 163 dX1_readPart_161 rfl rfl ?_
                            refine ez_iload 165 dX1_readPart_163 rfl rfl ?_
                            refine ez_callV 168 [eI (nI j134), eI (nI j147)] [] dX1_readPart_165 rfl rfl ok_X1_target in_X1_target (by decide) (by show m < 4; omega) ln_X1_48 (by omega) (Nat.le_of_ble_eq_true rfl) (c_target_n G (d - 1) m j134 j147 M (by omega) (by show m < 4; omega) (by omega) (by omega)) (fun r165 M165 q165 => ?_)
                            obtain ⟨rfl, e165⟩ := q165
                            rw [e165, show M.1 18 m (4 * j134 + j147) = l (4 * j134 + j147) from (hR.1 (4 * j134 + j147) (by omega))]
                            show Ez G mX1_readPart d 168 [(8, eI (nI j147)), (7, eI (nI j134)), (6, eI (er_sv (er_my tn tb (p + 3)))), (5, eI (nI j91)), (4, eI (nI j78)), (0, eR 1 m), (1, eR 13 0), (2, eI (nI tn)), (3, eI (nI p))] [eI (l (4 * j134 + j147))] M _
                            refine ez_iconst 169 dX1_readPart_168 rfl (-1) (by decide) ?_
                            refine ez_icmp_eq 172 176 dX1_readPart_169 rfl (by decide) (fun h169 => ?_) (fun h169 => ?_)
                            · refine ez_aload_n 177 dX1_readPart_176 rfl rfl ?_
                              refine ez_iload 179 dX1_readPart_177 rfl rfl ?_
                              refine ez_iload 181 dX1_readPart_179 rfl rfl ?_
                              refine ez_iload 183 dX1_readPart_181 rfl rfl ?_
                              refine ez_iload 185 dX1_readPart_183 rfl rfl ?_
                              refine ez_callV 188 [eI (nI j78), eI (nI j91), eI (nI j134), eI (nI j147)] [] dX1_readPart_185 rfl rfl ok_X1_lead in_X1_lead (by decide) (by show m < 4; omega) ln_X1_52 (by omega) (Nat.le_of_ble_eq_true rfl) (c_X1_lead G (d - 1) m j78 j91 j134 j147 l M (by omega) hm (by omega) (by omega) (by omega) (by omega) hR) (fun r185 M185 q185 => ?_)
                              obtain ⟨rfl, g185, f185⟩ := q185
                              show Ez G mX1_readPart d 188 [(8, eI (nI j147)), (7, eI (nI j134)), (6, eI (er_sv (er_my tn tb (p + 3)))), (5, eI (nI j91)), (4, eI (nI j78)), (0, eR 1 m), (1, eR 13 0), (2, eI (nI tn)), (3, eI (nI p))] [] M185 _
                              refine ez_iload 190 dX1_readPart_188 rfl rfl ?_
                              refine ez_bipush 192 dX1_readPart_190 rfl (nI 45) (by decide) ?_
                              refine ez_icmp_ne 195 207 dX1_readPart_192 rfl (by decide) (fun h192 => ?_) (fun h192 => ?_)
                              · refine ez_iconst 208 dX1_readPart_207 rfl (-1) (by decide) ?_
                                refine ez_iret .int dX1_readPart_208 rfl rfl ?_
                                exact absurd h157 h192
                              · refine ez_aload_n 196 dX1_readPart_195 rfl rfl ?_
                                refine ez_iload 198 dX1_readPart_196 rfl rfl ?_
                                refine ez_iload 200 dX1_readPart_198 rfl rfl ?_
                                refine ez_iload 202 dX1_readPart_200 rfl rfl ?_
                                refine ez_iload 204 dX1_readPart_202 rfl rfl ?_
                                refine ez_callV 207 [eI (nI j134), eI (nI j147), eI (nI j78), eI (nI j91)] [] dX1_readPart_204 rfl rfl ok_X1_lead in_X1_lead (by decide) (by show m < 4; omega) ln_X1_52 (by omega) (Nat.le_of_ble_eq_true rfl) (c_X1_lead G (d - 1) m j134 j147 j78 j91 (er_u1 l (4 * j78 + j91) (nI (10 * j134 + j147))) M185 (by omega) hm (by omega) (by omega) (by omega) (by omega) g185) (fun r204 M204 q204 => ?_)
                                obtain ⟨rfl, g204, f204⟩ := q204
                                show Ez G mX1_readPart d 207 [(8, eI (nI j147)), (7, eI (nI j134)), (6, eI (er_sv (er_my tn tb (p + 3)))), (5, eI (nI j91)), (4, eI (nI j78)), (0, eR 1 m), (1, eR 13 0), (2, eI (nI tn)), (3, eI (nI p))] [] M204 _
                                refine ez_iconst 208 dX1_readPart_207 rfl (-1) (by decide) ?_
                                refine ez_iret .int dX1_readPart_208 rfl rfl ?_
                                have dx1 : er_dx (er_my tn tb (p + 1)) 97 n = some j78 := by rw [← er_ixdx (by omega) (by omega) (er_sv_97 (er_my tn tb (p + 1)) (hmt _)), ← eu1]; exact i78
                                have dx2 : er_dx (er_my tn tb (p + 2)) 48 4 = some j91 := by rw [← er_ixdx (by omega) (by omega) (er_sv_48 (er_my tn tb (p + 2)) (hmt _)), ← eu2]; exact i91
                                have dx4 : er_dx (er_my tn tb (p + 4)) 97 n = some j134 := by rw [← er_ixdx (by omega) (by omega) (er_sv_97 (er_my tn tb (p + 4)) (hmt _)), ← eu4]; exact i134
                                have dx5 : er_dx (er_my tn tb (p + 5)) 48 4 = some j147 := by rw [← er_ixdx (by omega) (by omega) (er_sv_48 (er_my tn tb (p + 5)) (hmt _)), ← eu5]; exact i147
                                have z45 := (er_sv_eq _ (hmt (p + 3))).2.1.mp h157
                                refine ⟨f185.tr f204, Or.inr ⟨_, ?_, rfl, g204⟩⟩
                                unfold er_part
                                rw [if_neg (fun z => z ((er_sv_eq _ (hmt p)).1.mp h70)), dx1, dx2]
                                simp only []
                                rw [if_neg (fun z => z h106), if_neg (fun z => z.2 ((er_sv_eq _ (hmt (p + 3))).2.2.mp h124))]
                                rw [dx4, dx5]
                                simp only []
                                rw [if_neg (fun z => z.2 h169), if_pos z45]
                            · refine ez_iload_n 173 dX1_readPart_172 rfl rfl ?_
                              refine ez_iconst 174 dX1_readPart_173 rfl (nI 5) (by decide) ?_
                              refine ez_iadd 175 dX1_readPart_174 rfl ?_
                              refine ez_top (nI (p + 5)) (nI_add _ _) ?_
                              refine ez_iret .int dX1_readPart_175 rfl rfl ?_
                              have dx1 : er_dx (er_my tn tb (p + 1)) 97 n = some j78 := by rw [← er_ixdx (by omega) (by omega) (er_sv_97 (er_my tn tb (p + 1)) (hmt _)), ← eu1]; exact i78
                              have dx2 : er_dx (er_my tn tb (p + 2)) 48 4 = some j91 := by rw [← er_ixdx (by omega) (by omega) (er_sv_48 (er_my tn tb (p + 2)) (hmt _)), ← eu2]; exact i91
                              have dx4 : er_dx (er_my tn tb (p + 4)) 97 n = some j134 := by rw [← er_ixdx (by omega) (by omega) (er_sv_97 (er_my tn tb (p + 4)) (hmt _)), ← eu4]; exact i134
                              have dx5 : er_dx (er_my tn tb (p + 5)) 48 4 = some j147 := by rw [← er_ixdx (by omega) (by omega) (er_sv_48 (er_my tn tb (p + 5)) (hmt _)), ← eu5]; exact i147
                              refine ⟨FX.rf, Or.inl ⟨p + 5, by omega, ?_, rfl⟩⟩
                              unfold er_part
                              rw [if_neg (fun z => z ((er_sv_eq _ (hmt p)).1.mp h70)), dx1, dx2]
                              simp only []
                              rw [if_neg (fun z => z h106), if_neg (fun z => z.2 ((er_sv_eq _ (hmt (p + 3))).2.2.mp h124))]
                              rw [dx4, dx5]
                              simp only []
                              rw [if_pos ⟨(er_sv_eq _ (hmt (p + 3))).2.1.mp h157, h169⟩]
                    · exact absurd h137 (by decide)
                · refine ez_iload_n 128 dX1_readPart_127 rfl rfl ?_
                  refine ez_iconst 129 dX1_readPart_128 rfl (nI 3) (by decide) ?_
                  refine ez_iadd 130 dX1_readPart_129 rfl ?_
                  refine ez_top (nI (p + 3)) (nI_add _ _) ?_
                  refine ez_iret .int dX1_readPart_130 rfl rfl ?_
                  have dx1 : er_dx (er_my tn tb (p + 1)) 97 n = some j78 := by rw [← er_ixdx (by omega) (by omega) (er_sv_97 (er_my tn tb (p + 1)) (hmt _)), ← eu1]; exact i78
                  have dx2 : er_dx (er_my tn tb (p + 2)) 48 4 = some j91 := by rw [← er_ixdx (by omega) (by omega) (er_sv_48 (er_my tn tb (p + 2)) (hmt _)), ← eu2]; exact i91
                  refine ⟨FX.rf, Or.inl ⟨p + 3, by omega, ?_, rfl⟩⟩
                  unfold er_part
                  rw [if_neg (fun z => z ((er_sv_eq _ (hmt p)).1.mp h70)), dx1, dx2]
                  simp only []
                  rw [if_neg (fun z => z h106), if_pos ⟨fun z => h117 ((er_sv_eq _ (hmt (p + 3))).2.1.mpr z), fun z => h124 ((er_sv_eq _ (hmt (p + 3))).2.2.mpr z)⟩]
            · refine ez_iload_n 110 dX1_readPart_109 rfl rfl ?_
              refine ez_iconst 111 dX1_readPart_110 rfl (nI 2) (by decide) ?_
              refine ez_iadd 112 dX1_readPart_111 rfl ?_
              refine ez_top (nI (p + 2)) (nI_add _ _) ?_
              refine ez_iret .int dX1_readPart_112 rfl rfl ?_
              have dx1 : er_dx (er_my tn tb (p + 1)) 97 n = some j78 := by rw [← er_ixdx (by omega) (by omega) (er_sv_97 (er_my tn tb (p + 1)) (hmt _)), ← eu1]; exact i78
              have dx2 : er_dx (er_my tn tb (p + 2)) 48 4 = some j91 := by rw [← er_ixdx (by omega) (by omega) (er_sv_48 (er_my tn tb (p + 2)) (hmt _)), ← eu2]; exact i91
              refine ⟨FX.rf, Or.inl ⟨p + 2, by omega, ?_, rfl⟩⟩
              unfold er_part
              rw [if_neg (fun z => z ((er_sv_eq _ (hmt p)).1.mp h70)), dx1, dx2]
              simp only []
              rw [if_pos h106]
      · exact absurd h81 (by decide)
  · refine ez_iload_n 74 dX1_readPart_73 rfl rfl ?_
    refine ez_iret .int dX1_readPart_74 rfl rfl ?_
    refine ⟨FX.rf, Or.inl ⟨p, by omega, ?_, rfl⟩⟩
    unfold er_part
    rw [if_pos (fun z => h70 ((er_sv_eq _ (hmt p)).1.mpr z))]
