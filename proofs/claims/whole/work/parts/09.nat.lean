/-! rules in the numbers' own form, frames of memories -/
section EZN
variable {G : EzG} {yy : MethodName} {cc : ByteArray} {ml : Nat} {rt : Option FieldType} {d pc : Nat} {ls : List (Nat × EzV)} {st : List EzV} {M : EzM} {P : Option EzV → EzM → Prop}
theorem ez_top {x : Int32} (y : Int32) (h : x = y) (k : Ez G (yy, cc, ml, rt) d pc ls (eI y :: st) M P) : Ez G (yy, cc, ml, rt) d pc ls (eI x :: st) M P := by rw [h]; exact k
theorem ez_mm (M' : EzM) (h : M = M') (k : Ez G (yy, cc, ml, rt) d pc ls st M' P) : Ez G (yy, cc, ml, rt) d pc ls st M P := by rw [h]; exact k
theorem ez_lsq (ls' : List (Nat × EzV)) (h : ls = ls') (k : Ez G (yy, cc, ml, rt) d pc ls' st M P) : Ez G (yy, cc, ml, rt) d pc ls st M P := by rw [h]; exact k
theorem ez_wk {P' : Option EzV → EzM → Prop} (h : ∀ r M', P' r M' → P r M') (k : Ez G (yy, cc, ml, rt) d pc ls st M P') : Ez G (yy, cc, ml, rt) d pc ls st M P := by
  intro p e s m args below meth c H locs lsA hx hb hr hml hown hts hlk hK hD hP hS hl
  intro T hT X
  obtain ⟨t, a1, o, b1, b2, ⟨⟨r, M', e1, e2, e3⟩, hF⟩, L, hL, hq⟩ := k p e s m args below meth c H locs lsA hx hb hr hml hown hts hlk hK hD hP hS hl T hT X
  exact ⟨t, a1, o, b1, b2, ⟨⟨r, M', e1, h r M' e2, e3⟩, hF⟩, L, hL, hq⟩
theorem ez_ialdN {k i : Nat} (a : Nat) (n : Nat) (hd : decode cc pc = .ok (.iaload, 1)) (hn : pc + 1 = n) (hk : 13 ≤ k ∧ k < 74 ∧ ez_atk k = 0 ∧ ez_alk k < 2 ^ 31) (hi : i < ez_cb G.1 k) (ha : a < ez_alk k) (kk : Ez G (yy, cc, ml, rt) d n ls (eI (M.1 k i a) :: st) M P) : Ez G (yy, cc, ml, rt) d pc ls (eI (nI a) :: eR k i :: st) M P :=
  ez_iald n hd hn ⟨hk.1, hk.2.1, hk.2.2.1⟩ hi (vp_in_nI ha hk.2.2.2) (by rw [nI_clamp (by have := hk.2.2.2; omega)]; exact kk)
theorem ez_baldN {k i : Nat} (a : Nat) (n : Nat) (hd : decode cc pc = .ok (.baload, 1)) (hn : pc + 1 = n) (hk : 13 ≤ k ∧ k < 74 ∧ ez_atk k = 1 ∧ ez_alk k < 2 ^ 31) (hi : i < ez_cb G.1 k) (ha : a < ez_alk k) (kk : Ez G (yy, cc, ml, rt) d n ls (eI (M.1 k i a) :: st) M P) : Ez G (yy, cc, ml, rt) d pc ls (eI (nI a) :: eR k i :: st) M P :=
  ez_bald n hd hn ⟨hk.1, hk.2.1, hk.2.2.1⟩ hi (vp_in_nI ha hk.2.2.2) (by rw [nI_clamp (by have := hk.2.2.2; omega)]; exact kk)
theorem ez_zaldN {k i : Nat} (a : Nat) (n : Nat) (hd : decode cc pc = .ok (.baload, 1)) (hn : pc + 1 = n) (hk : 13 ≤ k ∧ k < 74 ∧ ez_atk k = 2 ∧ ez_alk k < 2 ^ 31) (hi : i < ez_cb G.1 k) (ha : a < ez_alk k) (kk : Ez G (yy, cc, ml, rt) d n ls (eI (M.1 k i a) :: st) M P) : Ez G (yy, cc, ml, rt) d pc ls (eI (nI a) :: eR k i :: st) M P :=
  ez_zald n hd hn ⟨hk.1, hk.2.1, hk.2.2.1⟩ hi (vp_in_nI ha hk.2.2.2) (by rw [nI_clamp (by have := hk.2.2.2; omega)]; exact kk)
theorem ez_laldN {k i : Nat} (a : Nat) (n : Nat) (hd : decode cc pc = .ok (.laload, 1)) (hn : pc + 1 = n) (hk : 13 ≤ k ∧ k < 74 ∧ ez_atk k = 3 ∧ ez_alk k < 2 ^ 31) (hi : i < ez_cb G.1 k) (ha : a < ez_alk k) (kk : Ez G (yy, cc, ml, rt) d n ls (eL (M.2 k i a) :: st) M P) : Ez G (yy, cc, ml, rt) d pc ls (eI (nI a) :: eR k i :: st) M P :=
  ez_lald n hd hn ⟨hk.1, hk.2.1, hk.2.2.1⟩ hi (vp_in_nI ha hk.2.2.2) (by rw [nI_clamp (by have := hk.2.2.2; omega)]; exact kk)
theorem ez_aaldN {k i : Nat} (a : Nat) (n : Nat) (v : EzV) (hd : decode cc pc = .ok (.aaload, 1)) (hn : pc + 1 = n) (hk : 13 ≤ k ∧ k < 74 ∧ 3 < ez_atk k ∧ ez_alk k < 2 ^ 31) (hrf : (ez_ty (ez_atk k)).isReference = true) (hi : i < ez_cb G.1 k) (ha : a < ez_alk k) (hv : eR (ez_ark k).1 ((ez_ark k).2 + a) = v) (kk : Ez G (yy, cc, ml, rt) d n ls (v :: st) M P) : Ez G (yy, cc, ml, rt) d pc ls (eI (nI a) :: eR k i :: st) M P :=
  ez_aald n v hd hn ⟨hk.1, hk.2.1, hk.2.2.1⟩ hrf hi (vp_in_nI ha hk.2.2.2) (by rw [nI_clamp (by have := hk.2.2.2; omega)]; exact hv) kk
theorem ez_iastN {k i : Nat} {v : Int32} (a : Nat) (n : Nat) (hd : decode cc pc = .ok (.iastore, 1)) (hn : pc + 1 = n) (hk : 13 ≤ k ∧ k < 74 ∧ ez_atk k = 0 ∧ ez_alk k < 2 ^ 31) (hi : i < ez_cb G.1 k) (ha : a < ez_alk k) (kk : Ez G (yy, cc, ml, rt) d n ls st (ez_st M k i a v) P) : Ez G (yy, cc, ml, rt) d pc ls (eI v :: eI (nI a) :: eR k i :: st) M P :=
  ez_iast n hd hn ⟨hk.1, hk.2.1, hk.2.2.1⟩ hi (vp_in_nI ha hk.2.2.2) (by rw [nI_clamp (by have := hk.2.2.2; omega)]; exact kk)
theorem ez_bastN {k i : Nat} {v : Int32} (a : Nat) (n : Nat) (hd : decode cc pc = .ok (.bastore, 1)) (hn : pc + 1 = n) (hk : 13 ≤ k ∧ k < 74 ∧ ez_atk k = 1 ∧ ez_alk k < 2 ^ 31) (hi : i < ez_cb G.1 k) (ha : a < ez_alk k) (kk : Ez G (yy, cc, ml, rt) d n ls st (ez_st M k i a (vp_nar .byte v)) P) : Ez G (yy, cc, ml, rt) d pc ls (eI v :: eI (nI a) :: eR k i :: st) M P :=
  ez_bast n hd hn ⟨hk.1, hk.2.1, hk.2.2.1⟩ hi (vp_in_nI ha hk.2.2.2) (by rw [nI_clamp (by have := hk.2.2.2; omega)]; exact kk)
theorem ez_zastN {k i : Nat} {v : Int32} (a : Nat) (n : Nat) (hd : decode cc pc = .ok (.bastore, 1)) (hn : pc + 1 = n) (hk : 13 ≤ k ∧ k < 74 ∧ ez_atk k = 2 ∧ ez_alk k < 2 ^ 31) (hi : i < ez_cb G.1 k) (ha : a < ez_alk k) (hv : vp_nar .boolean v = v) (kk : Ez G (yy, cc, ml, rt) d n ls st (ez_st M k i a v) P) : Ez G (yy, cc, ml, rt) d pc ls (eI v :: eI (nI a) :: eR k i :: st) M P :=
  ez_zast n hd hn ⟨hk.1, hk.2.1, hk.2.2.1⟩ hi (vp_in_nI ha hk.2.2.2) (by rw [nI_clamp (by have := hk.2.2.2; omega), hv]; exact kk)
theorem ez_lastN {k i : Nat} {v : Int64} (a : Nat) (n : Nat) (hd : decode cc pc = .ok (.lastore, 1)) (hn : pc + 1 = n) (hk : 13 ≤ k ∧ k < 74 ∧ ez_atk k = 3 ∧ ez_alk k < 2 ^ 31) (hi : i < ez_cb G.1 k) (ha : a < ez_alk k) (kk : Ez G (yy, cc, ml, rt) d n ls st (ez_stL M k i a v) P) : Ez G (yy, cc, ml, rt) d pc ls (eL v :: eI (nI a) :: eR k i :: st) M P :=
  ez_last n hd hn ⟨hk.1, hk.2.1, hk.2.2.1⟩ hi (vp_in_nI ha hk.2.2.2) (by rw [nI_clamp (by have := hk.2.2.2; omega)]; exact kk)
/-- branches on two numbers -/
theorem ez_ncmp_eq {a b : Nat} {off : Int} (n t : Nat) (hd : decode cc pc = .ok (.if_icmp .eq off, 3)) (hn : pc + 3 = n) (ht : (pc : Int) + off = (t : Int)) (ha : a < 2 ^ 31) (hb : b < 2 ^ 31) (kt : a = b → Ez G (yy, cc, ml, rt) d t ls st M P) (kf : a ≠ b → Ez G (yy, cc, ml, rt) d n ls st M P) : Ez G (yy, cc, ml, rt) d pc ls (eI (nI b) :: eI (nI a) :: st) M P :=
  ez_icmp_eq n t hd hn ht (fun h => kt ((nI_eq ha hb).mp h)) (fun h => kf (fun q => h ((nI_eq ha hb).mpr q)))
theorem ez_ncmp_ne {a b : Nat} {off : Int} (n t : Nat) (hd : decode cc pc = .ok (.if_icmp .ne off, 3)) (hn : pc + 3 = n) (ht : (pc : Int) + off = (t : Int)) (ha : a < 2 ^ 31) (hb : b < 2 ^ 31) (kt : a ≠ b → Ez G (yy, cc, ml, rt) d t ls st M P) (kf : a = b → Ez G (yy, cc, ml, rt) d n ls st M P) : Ez G (yy, cc, ml, rt) d pc ls (eI (nI b) :: eI (nI a) :: st) M P :=
  ez_icmp_ne n t hd hn ht (fun h => kt (fun q => h ((nI_eq ha hb).mpr q))) (fun h => kf ((nI_eq ha hb).mp h))
theorem ez_ncmp_lt {a b : Nat} {off : Int} (n t : Nat) (hd : decode cc pc = .ok (.if_icmp .lt off, 3)) (hn : pc + 3 = n) (ht : (pc : Int) + off = (t : Int)) (ha : a < 2 ^ 31) (hb : b < 2 ^ 31) (kt : a < b → Ez G (yy, cc, ml, rt) d t ls st M P) (kf : b ≤ a → Ez G (yy, cc, ml, rt) d n ls st M P) : Ez G (yy, cc, ml, rt) d pc ls (eI (nI b) :: eI (nI a) :: st) M P :=
  ez_icmp_lt n t hd hn ht (fun h => kt ((nI_ltI ha hb).mp h)) (fun h => kf (Nat.not_lt.mp (fun q => h ((nI_ltI ha hb).mpr q))))
theorem ez_ncmp_ge {a b : Nat} {off : Int} (n t : Nat) (hd : decode cc pc = .ok (.if_icmp .ge off, 3)) (hn : pc + 3 = n) (ht : (pc : Int) + off = (t : Int)) (ha : a < 2 ^ 31) (hb : b < 2 ^ 31) (kt : b ≤ a → Ez G (yy, cc, ml, rt) d t ls st M P) (kf : a < b → Ez G (yy, cc, ml, rt) d n ls st M P) : Ez G (yy, cc, ml, rt) d pc ls (eI (nI b) :: eI (nI a) :: st) M P :=
  ez_icmp_ge n t hd hn ht (fun h => kt ((nI_leI hb ha).mp h)) (fun h => kf (Nat.not_le.mp (fun q => h ((nI_leI hb ha).mpr q))))
theorem ez_ncmp_gt {a b : Nat} {off : Int} (n t : Nat) (hd : decode cc pc = .ok (.if_icmp .gt off, 3)) (hn : pc + 3 = n) (ht : (pc : Int) + off = (t : Int)) (ha : a < 2 ^ 31) (hb : b < 2 ^ 31) (kt : b < a → Ez G (yy, cc, ml, rt) d t ls st M P) (kf : a ≤ b → Ez G (yy, cc, ml, rt) d n ls st M P) : Ez G (yy, cc, ml, rt) d pc ls (eI (nI b) :: eI (nI a) :: st) M P :=
  ez_icmp_gt n t hd hn ht (fun h => kt ((nI_ltI hb ha).mp h)) (fun h => kf (Nat.not_lt.mp (fun q => h ((nI_ltI hb ha).mpr q))))
theorem ez_ncmp_le {a b : Nat} {off : Int} (n t : Nat) (hd : decode cc pc = .ok (.if_icmp .le off, 3)) (hn : pc + 3 = n) (ht : (pc : Int) + off = (t : Int)) (ha : a < 2 ^ 31) (hb : b < 2 ^ 31) (kt : a ≤ b → Ez G (yy, cc, ml, rt) d t ls st M P) (kf : b < a → Ez G (yy, cc, ml, rt) d n ls st M P) : Ez G (yy, cc, ml, rt) d pc ls (eI (nI b) :: eI (nI a) :: st) M P :=
  ez_icmp_le n t hd hn ht (fun h => kt ((nI_leI ha hb).mp h)) (fun h => kf (Nat.not_le.mp (fun q => h ((nI_leI ha hb).mpr q))))
end EZN
/-- a contract weakened, or moved to a greater depth -/
theorem Ezc.wk {G : EzG} {Y : EzY} {d : Nat} {As : List EzV} {M : EzM} {P P' : Option EzV → EzM → Prop} (h : ∀ r M', P' r M' → P r M') (k : Ezc G Y d As M P') : Ezc G Y d As M P := by
  intro p e ha hc hk s m args below hf hfit hheap happ
  obtain ⟨t, o, a1, b1, b2, ⟨⟨⟨r, M', e1, e2, e3⟩, hF⟩, hL⟩⟩ := k p e ha hc hk s m args below hf hfit hheap happ
  exact ⟨t, o, a1, b1, b2, ⟨⟨⟨r, M', e1, h r M' e2, e3⟩, hF⟩, hL⟩⟩
/-- the memories agree but for the kinds listed -/
def ez_fm (ks : List Nat) (M M' : EzM) : Prop := ∀ k, k ∉ ks → M'.1 k = M.1 k ∧ M'.2 k = M.2 k
theorem ez_fm.rfl {ks : List Nat} {M : EzM} : ez_fm ks M M := fun _ _ => ⟨Eq.refl _, Eq.refl _⟩
theorem ez_fm.tr {ks : List Nat} {M M1 M2 : EzM} (h : ez_fm ks M M1) (h2 : ez_fm ks M1 M2) : ez_fm ks M M2 := fun k hk => ⟨(h2 k hk).1.trans (h k hk).1, (h2 k hk).2.trans (h k hk).2⟩
theorem ez_fm.up {ks ks' : List Nat} {M M1 : EzM} (h : ez_fm ks M M1) (hs : ∀ k ∈ ks, k ∈ ks') : ez_fm ks' M M1 := fun k hk => h k (fun q => hk (hs k q))
theorem ez_st_k {M : EzM} {k i s k' : Nat} {v : Int32} (h : k' ≠ k) : (ez_st M k i s v).1 k' = M.1 k' := by
  funext i' s'
  simp [ez_st, ez_row, h]
theorem ez_row_k {M : EzM} {k i k' : Nat} {f : Nat → Int32} (h : k' ≠ k) : (ez_row M k i f).1 k' = M.1 k' := by
  funext i' s'
  simp [ez_row, h]
theorem ez_stL_k {M : EzM} {k i s k' : Nat} {v : Int64} (h : k' ≠ k) : (ez_stL M k i s v).2 k' = M.2 k' := by
  funext i' s'
  simp [ez_stL, ez_rowL, h]
theorem ez_fm.st {ks : List Nat} {M M1 : EzM} (h : ez_fm ks M M1) {k i s : Nat} {v : Int32} (hk : k ∈ ks) : ez_fm ks M (ez_st M1 k i s v) := fun k' hk' => ⟨(ez_st_k (fun (q : k' = k) => hk' (by rw [q]; exact hk))).trans (h k' hk').1, (h k' hk').2⟩
theorem ez_fm.row {ks : List Nat} {M M1 : EzM} (h : ez_fm ks M M1) {k i : Nat} {f : Nat → Int32} (hk : k ∈ ks) : ez_fm ks M (ez_row M1 k i f) := fun k' hk' => ⟨(ez_row_k (fun (q : k' = k) => hk' (by rw [q]; exact hk))).trans (h k' hk').1, (h k' hk').2⟩
theorem ez_fm.stL {ks : List Nat} {M M1 : EzM} (h : ez_fm ks M M1) {k i s : Nat} {v : Int64} (hk : k ∈ ks) : ez_fm ks M (ez_stL M1 k i s v) := fun k' hk' => ⟨(h k' hk').1, (ez_stL_k (fun (q : k' = k) => hk' (by rw [q]; exact hk))).trans (h k' hk').2⟩
/-- reading behind a store -/
theorem ez_rd (M : EzM) (k i s : Nat) (v : Int32) (k' i' s' : Nat) : (ez_st M k i s v).1 k' i' s' = if k' = k ∧ i' = i ∧ s' = s then v else M.1 k' i' s' := by
  by_cases h : k' = k ∧ i' = i
  · obtain ⟨rfl, rfl⟩ := h
    simp [ez_st, ez_row, upd]
  · rw [show (ez_st M k i s v).1 k' i' = M.1 k' i' from ez_row_n M _ h, if_neg (fun q => h ⟨q.1, q.2.1⟩)]
theorem ez_rdL (M : EzM) (k i s : Nat) (v : Int64) (k' i' s' : Nat) : (ez_stL M k i s v).2 k' i' s' = if k' = k ∧ i' = i ∧ s' = s then v else M.2 k' i' s' := by
  by_cases h : k' = k ∧ i' = i
  · obtain ⟨rfl, rfl⟩ := h
    simp [ez_stL, ez_rowL, vp_updL]
  · rw [show (ez_stL M k i s v).2 k' i' = M.2 k' i' from ez_rowL_n M _ h, if_neg (fun q => h ⟨q.1, q.2.1⟩)]
theorem ez_rd2 (M : EzM) (k i s : Nat) (v : Int32) : (ez_st M k i s v).2 = M.2 := Eq.refl _
theorem ez_rdL1 (M : EzM) (k i s : Nat) (v : Int64) : (ez_stL M k i s v).1 = M.1 := Eq.refl _
section EZN2
variable {G : EzG} {yy : MethodName} {cc : ByteArray} {ml : Nat} {rt : Option FieldType} {d pc : Nat} {ls : List (Nat × EzV)} {st : List EzV} {M : EzM} {P : Option EzV → EzM → Prop}
theorem ez_nif_eq {a : Nat} {off : Int} (n t : Nat) (hd : decode cc pc = .ok (.ifCond .eq off, 3)) (hn : pc + 3 = n) (ht : (pc : Int) + off = (t : Int)) (ha : a < 2 ^ 31) (kt : a = 0 → Ez G (yy, cc, ml, rt) d t ls st M P) (kf : 0 < a → Ez G (yy, cc, ml, rt) d n ls st M P) : Ez G (yy, cc, ml, rt) d pc ls (eI (nI a) :: st) M P :=
  ez_if_eq n t hd hn ht (fun h => kt ((nI_eq ha (by decide)).mp (h.trans nI_0.symm))) (fun h => kf (Nat.pos_of_ne_zero (fun q => h (by rw [q]; exact nI_0))))
theorem ez_nif_ne {a : Nat} {off : Int} (n t : Nat) (hd : decode cc pc = .ok (.ifCond .ne off, 3)) (hn : pc + 3 = n) (ht : (pc : Int) + off = (t : Int)) (ha : a < 2 ^ 31) (kt : 0 < a → Ez G (yy, cc, ml, rt) d t ls st M P) (kf : a = 0 → Ez G (yy, cc, ml, rt) d n ls st M P) : Ez G (yy, cc, ml, rt) d pc ls (eI (nI a) :: st) M P :=
  ez_if_ne n t hd hn ht (fun h => kt (Nat.pos_of_ne_zero (fun q => h (by rw [q]; exact nI_0)))) (fun h => kf ((nI_eq ha (by decide)).mp (h.trans nI_0.symm)))
theorem ez_nif_gt {a : Nat} {off : Int} (n t : Nat) (hd : decode cc pc = .ok (.ifCond .gt off, 3)) (hn : pc + 3 = n) (ht : (pc : Int) + off = (t : Int)) (ha : a < 2 ^ 31) (kt : 0 < a → Ez G (yy, cc, ml, rt) d t ls st M P) (kf : a = 0 → Ez G (yy, cc, ml, rt) d n ls st M P) : Ez G (yy, cc, ml, rt) d pc ls (eI (nI a) :: st) M P :=
  ez_if_gt n t hd hn ht (fun h => kt ((nI_ltI (by decide) ha).mp (by rw [nI_0]; exact h))) (fun h => kf (Nat.eq_zero_of_not_pos (fun q => h (by rw [← nI_0]; exact (nI_ltI (by decide) ha).mpr q))))
theorem ez_nif_le {a : Nat} {off : Int} (n t : Nat) (hd : decode cc pc = .ok (.ifCond .le off, 3)) (hn : pc + 3 = n) (ht : (pc : Int) + off = (t : Int)) (ha : a < 2 ^ 31) (kt : a = 0 → Ez G (yy, cc, ml, rt) d t ls st M P) (kf : 0 < a → Ez G (yy, cc, ml, rt) d n ls st M P) : Ez G (yy, cc, ml, rt) d pc ls (eI (nI a) :: st) M P :=
  ez_if_le n t hd hn ht (fun h => kt (Nat.le_zero.mp ((nI_leI ha (by decide)).mp (by rw [nI_0]; exact h)))) (fun h => kf (Nat.pos_of_ne_zero (fun q => h (by rw [q, nI_0]; decide))))
theorem ez_nif_lt {a : Nat} {off : Int} (n : Nat) (hd : decode cc pc = .ok (.ifCond .lt off, 3)) (hn : pc + 3 = n) (ha : a < 2 ^ 31) (kf : Ez G (yy, cc, ml, rt) d n ls st M P) (t : Nat := ((pc : Int) + off).toNat) (ht : (pc : Int) + off = (t : Int) := by decide) : Ez G (yy, cc, ml, rt) d pc ls (eI (nI a) :: st) M P :=
  ez_if_lt n t hd hn ht (fun h => absurd h (nI_pos ha)) (fun _ => kf)
theorem ez_nif_ge {a : Nat} {off : Int} (t : Nat) (hd : decode cc pc = .ok (.ifCond .ge off, 3)) (ht : (pc : Int) + off = (t : Int)) (ha : a < 2 ^ 31) (kt : Ez G (yy, cc, ml, rt) d t ls st M P) : Ez G (yy, cc, ml, rt) d pc ls (eI (nI a) :: st) M P :=
  ez_if_ge _ t hd rfl ht (fun _ => kt) (fun h => absurd (nI_pos' ha) h)
end EZN2
