/-! meet -/
def er_sp (B A : EpW) : EpW := (B.1, B.2.1, B.2.2.1, B.2.2.2.1, B.2.2.2.2.1, A.2.2.2.2.2)
def er_mt (fa fb : EpW → EpW) (A B : EpW) : Nat → EpW × EpW
  | 0 => (A, B)
  | k + 1 => if k % 2 = 0 then (fa (er_mt fa fb A B k).1, er_sp (er_mt fa fb A B k).2 (fa (er_mt fa fb A B k).1)) else (er_sp (er_mt fa fb A B k).1 (fb (er_mt fa fb A B k).2), fb (er_mt fa fb A B k).2)
def s_mt (q : EpS) (a b k : Nat) : EpW × EpW := er_mt (s_st q 0 a) (s_st q 0 b) (s_get q.1 q.2.1 a) (s_get q.1 q.2.1 b) k
def S_meet (q : EpS) (x y : Int32) : Int32 := match ep_ix x q.2.1.1 with
  | none => -2
  | some a => match ep_ix y q.2.1.1 with
    | none => -2
    | some b => if a = b ∨ ¬ q.2.1.2.1 a 1 = q.2.1.2.1 b 1 then -2 else ep_oi (er_fst (fun k => decide ((s_mt q (min a b) (max a b) k).1.1 = (s_mt q (min a b) (max a b) k).2.1)) 201)
theorem s_mt_e {q : EpS} {a b k : Nat} (h : k % 2 = 0) : s_mt q a b (k + 1) = (s_st q 0 a (s_mt q a b k).1, er_sp (s_mt q a b k).2 (s_st q 0 a (s_mt q a b k).1)) := by
  show (if k % 2 = 0 then _ else _) = _
  rw [if_pos h]
  rfl
theorem s_mt_o {q : EpS} {a b k : Nat} (h : ¬ k % 2 = 0) : s_mt q a b (k + 1) = (er_sp (s_mt q a b k).1 (s_st q 0 b (s_mt q a b k).2), s_st q 0 b (s_mt q a b k).2) := by
  show (if k % 2 = 0 then _ else _) = _
  rw [if_neg h]
  rfl
theorem WFS_sp {n : Nat} {A B : EpW} (hB : WFS n B) (hA : WFS n A) : WFS n (er_sp B A) := ⟨hB.1, hB.2.1, fun r hr => ⟨(hB.2.2 r hr).1, (hA.2.2 r hr).2⟩⟩
theorem WFS_mt {q : EpS} {n a b : Nat} (ha : WFz n (s_lt q a)) (hb : WFz n (s_lt q b)) (hA : WFS n (s_get q.1 q.2.1 a)) (hB : WFS n (s_get q.1 q.2.1 b)) : ∀ k, WFS n (s_mt q a b k).1 ∧ WFS n (s_mt q a b k).2
  | 0 => ⟨hA, hB⟩
  | k + 1 => by
    obtain ⟨h1, h2⟩ := WFS_mt ha hb hA hB k
    by_cases e : k % 2 = 0
    · rw [s_mt_e e]
      exact ⟨WFS_step ha h1, WFS_sp h2 (WFS_step ha h1)⟩
    · rw [s_mt_o e]
      exact ⟨WFS_sp h1 (WFS_step hb h2), WFS_step hb h2⟩
theorem RCW_sp {kind mz num kind' mz' num' wb wa pi : Nat} {A B : EpW} {M M' : EzM} {ch : Nat → Nat → Nat → Prop} (hB : RCW kind mz num B wb pi M) (hA : RCW kind' mz' num' A wa pi M') (hF : FX ch M M') (hc : ∀ s, ¬ ch 10 wb s ∧ ¬ ch 21 wb s) : RCW kind mz num (er_sp B A) wb pi M' := by
  obtain ⟨a0, a1, a2, a3, a4, a5, a6, a7⟩ := hB
  exact ⟨by rw [hF _ _ _ (hc 0).1]; exact a0, by rw [hF _ _ _ (hc 1).1]; exact a1, by rw [hF _ _ _ (hc 2).1]; exact a2, by rw [hF _ _ _ (hc 3).1]; exact a3, by rw [hF _ _ _ (hc 4).1]; exact a4, by rw [hF _ _ _ (hc 5).1]; exact a5, by rw [hF _ _ _ (hc 6).1]; exact a6, fun r hr => ⟨by rw [hF _ _ _ (hc r).2]; exact (a7 r hr).1, (hA.2.2.2.2.2.2.2 r hr).2⟩⟩
theorem RMW_sp {kind mz num kind' num' wb wa : Nat} {A B : EpW} {M M' : EzM} {ch : Nat → Nat → Nat → Prop} (hB : RMW kind mz num B wb M) (hA : RMW kind' mz num' A wa M') (hF : FX ch M M') (hc : ¬ ch 48 0 wb ∧ ¬ ch 49 0 wb ∧ ¬ ch 50 0 wb ∧ ¬ ch 51 0 wb ∧ ¬ ch 52 0 wb ∧ ¬ ch 53 0 wb ∧ ¬ ch 54 0 wb ∧ ∀ r, r < 10 → ¬ ch 55 0 (10 * wb + r)) : RMW kind mz num (er_sp B A) wb M' := by
  obtain ⟨a0, a1, a2, a3, a4, a5, a6, a7⟩ := hB
  obtain ⟨c0, c1, c2, c3, c4, c5, c6, c7⟩ := hc
  exact ⟨by rw [hF _ _ _ c0]; exact a0, by rw [hF _ _ _ c1]; exact a1, by rw [hF _ _ _ c2]; exact a2, by rw [hF _ _ _ c3]; exact a3, by rw [hF _ _ _ c4]; exact a4, by rw [hF _ _ _ c5]; exact a5, by rw [hF _ _ _ c6]; exact a6, fun r hr => ⟨by rw [hF _ _ _ (c7 r hr)]; exact (a7 r hr).1, (hA.2.2.2.2.2.2.2 r hr).2⟩⟩
theorem LF_ca {a b mz k i s : Nat} (h : LF a mz k i s) : CHT a b mz k i s := by
  unfold LF at h
  unfold CHT
  rcases h with ⟨h1, h2⟩ | ⟨h1, h2⟩ | h
  · exact Or.inl ⟨h1, Or.inl h2⟩
  · exact Or.inr (Or.inl ⟨h1, Or.inl h2⟩)
  · exact Or.inr (Or.inr (Or.inl h))
theorem LF_cb {a b mz k i s : Nat} (h : LF b mz k i s) : CHT a b mz k i s := by
  unfold LF at h
  unfold CHT
  rcases h with ⟨h1, h2⟩ | ⟨h1, h2⟩ | h
  · exact Or.inl ⟨h1, Or.inr h2⟩
  · exact Or.inr (Or.inl ⟨h1, Or.inr h2⟩)
  · exact Or.inr (Or.inr (Or.inl h))
theorem CHM_ca {a b mz k i s : Nat} (h : ((k = 50 ∨ k = 51 ∨ k = 53 ∨ k = 54) ∧ s = a) ∨ (k = 55 ∧ 10 * a ≤ s ∧ s < 10 * a + 10) ∨ (k = 47 ∧ 10 * mz ≤ s ∧ s < 10 * mz + 10) ∨ (k = 12 ∧ (i ≠ 0 ∨ (21 ≤ s ∧ s < 36)))) : CHT a b mz k i s := by
  unfold CHT
  rcases h with ⟨h1, h2⟩ | ⟨h1, h2⟩ | h | h
  · exact Or.inl ⟨h1, Or.inl h2⟩
  · exact Or.inr (Or.inl ⟨h1, Or.inl h2⟩)
  · exact Or.inr (Or.inr (Or.inl h))
  · exact Or.inr (Or.inr (Or.inr (Or.inr (Or.inl h))))
theorem CHM_cb {a b mz k i s : Nat} (h : ((k = 50 ∨ k = 51 ∨ k = 53 ∨ k = 54) ∧ s = b) ∨ (k = 55 ∧ 10 * b ≤ s ∧ s < 10 * b + 10) ∨ (k = 47 ∧ 10 * mz ≤ s ∧ s < 10 * mz + 10) ∨ (k = 12 ∧ (i ≠ 0 ∨ (21 ≤ s ∧ s < 36)))) : CHT a b mz k i s := by
  unfold CHT
  rcases h with ⟨h1, h2⟩ | ⟨h1, h2⟩ | h | h
  · exact Or.inl ⟨h1, Or.inr h2⟩
  · exact Or.inr (Or.inl ⟨h1, Or.inr h2⟩)
  · exact Or.inr (Or.inr (Or.inl h))
  · exact Or.inr (Or.inr (Or.inr (Or.inr (Or.inl h))))
theorem KF_cht {a b mz k i s k0 o : Nat} (h0 : 56 ≤ k0 ∧ k0 ≤ 66) (h : KF k0 o k i s) : CHT a b mz k i s := by
  unfold KF at h
  unfold CHT
  exact Or.inr (Or.inr (Or.inr (Or.inr (Or.inr (by omega)))))
theorem er_mm {x y : Int32} {j k : Nat} (hj : j < 2 ^ 31) (hk : k < 2 ^ 31) (h1 : (if y < x then y else x) = nI j) (h2 : (if x < y then y else x) = nI k) : (x = nI j ∧ y = nI k ∧ j ≤ k) ∨ (x = nI k ∧ y = nI j ∧ j ≤ k) := by
  by_cases a : y < x
  · have b : ¬ x < y := fun z => by rw [Int32.lt_iff_toInt_lt] at a z; omega
    rw [if_pos a] at h1
    rw [if_neg b] at h2
    refine Or.inr ⟨h2, h1, ?_⟩
    rw [h1, h2] at a
    rw [Int32.lt_iff_toInt_lt, nI_toInt hj, nI_toInt hk] at a
    omega
  · rw [if_neg a] at h1
    by_cases b : x < y
    · rw [if_pos b] at h2
      refine Or.inl ⟨h1, h2, ?_⟩
      rw [h1, h2] at b
      rw [Int32.lt_iff_toInt_lt, nI_toInt hj, nI_toInt hk] at b
      omega
    · rw [if_neg b] at h2
      have e : x = y := Int32.toInt_inj.mp (by rw [Int32.lt_iff_toInt_lt] at a b; omega)
      refine Or.inl ⟨h1, by rw [← e]; exact h2, ?_⟩
      rw [h1] at h2
      rw [(nI_eq hj hk).mp h2]
      exact Nat.le_refl _
theorem er_mx {q : EpS} {x y : Int32} (h : ep_ix (if y < x then y else x) q.2.1.1 = none ∨ ep_ix (if x < y then y else x) q.2.1.1 = none) : S_meet q x y = -2 := by
  have key : ep_ix x q.2.1.1 = none ∨ ep_ix y q.2.1.1 = none := by
    rcases h with h | h
    · by_cases a : y < x
      · rw [if_pos a] at h; exact Or.inr h
      · rw [if_neg a] at h; exact Or.inl h
    · by_cases a : x < y
      · rw [if_pos a] at h; exact Or.inr h
      · rw [if_neg a] at h; exact Or.inl h
  unfold S_meet
  rcases key with h | h
  · rw [h]
  · rw [h]
    cases ep_ix x q.2.1.1 <;> rfl
set_option maxRecDepth 20000 in
theorem lp_meet (G : EzG) (d : Nat) {q : EpS} (a b : Nat) (M : EzM) (hd : 7 ≤ d) (hW : WF q) (hC : RC q M) (ha : a < q.2.1.1) (hb : b < q.2.1.1) (hm : q.2.1.2.1 b 1 = q.2.1.2.1 a 1) : ∀ (z : Nat) (t : Nat) (M1 : EzM), 201 - t = z → t ≤ 201 → RCW (q.2.1.2.1 a 0) (q.2.1.2.1 a 1) (q.2.1.2.1 a 4) (s_mt q a b t).1 16 4 M1 → RCW (q.2.1.2.1 b 0) (q.2.1.2.1 b 1) (q.2.1.2.1 b 4) (s_mt q a b t).2 17 4 M1 → (∀ j, j < t → ¬ (s_mt q a b j).1.1 = (s_mt q a b j).2.1) → FX SC M M1 → Ez G mX11_meet d 100 [(6, eI (nI t)), (0, eR 11 0), (5, eR 1 (q.2.1.2.1 a 1))] [] M1 (fun r M' => r = some (eI (ep_oi (er_fst (fun k => decide ((s_mt q a b k).1.1 = (s_mt q a b k).2.1)) 201))) ∧ RC q M' ∧ FX CC M M') := by
  intro z
  induction z using Nat.strongRecOn with
  | ind z ih =>
    intro t M1 hz ht hA hB hj0 hF
    have q8 := hW.2.1.1
    have q4 := hW.1.1
    have qx := hW.2.2.2.2.1
    obtain ⟨k0, k1, k2, k3, k4, k5⟩ := hW.2.1.2 a ha
    obtain ⟨m0, m1, m2, m3, m4, m5⟩ := hW.2.1.2 b hb
    have gz := g_WFz hW.1 k1
    have gS := g_WFS hW ha
    have gSb : WFS (q.1.2.1 (q.2.1.2.1 a 1)) (s_get q.1 q.2.1 b) := by rw [← hm]; exact g_WFS hW hb
    have gX := hC.2.2.2.2.1
    have n10 := gz.2.1
    have el : s_lt q b = s_lt q a := by unfold s_lt; rw [hm]
    have gzb : WFz (q.1.2.1 (q.2.1.2.1 a 1)) (s_lt q b) := by rw [el]; exact gz
    have gZ := g_RCz hC.1 k1
    have w9 := WFS_mt gz gzb gS gSb t
    have w1 := w9.1.1
    have w2 := w9.2.1
    refine ez_iload 102 dX11_meet_100 rfl rfl ?_
    refine ez_sipush 105 dX11_meet_102 rfl (nI 200) (by decide) ?_
    refine ez_ncmp_gt 108 162 dX11_meet_105 rfl (by decide) (by omega) (by omega) (fun h105 => ?_) (fun h105 => ?_)
    · refine ez_iconst 163 dX11_meet_162 rfl (-1) (by decide) ?_
      refine ez_iret .int dX11_meet_163 rfl rfl ?_
      exact ⟨by rw [er_fst_none (p := fun k => decide ((s_mt q a b k).1.1 = (s_mt q a b k).2.1)) (fun j hj => decide_eq_false (hj0 j (by omega)))]; rfl, RC.sc hW hC hF, hF.scc⟩
    · refine ez_aload_n 109 dX11_meet_108 rfl rfl ?_
      refine ez_getf 112 (eR 10 16) dX11_meet_109 rfl fl_X11_55 (by show 0 < 1; omega) rfl ?_
      refine ez_getf 115 (eI (M1.1 10 16 2)) dX11_meet_112 rfl fl_X11_176 (by show 16 < 18; omega) rfl ?_
      refine ez_top (nI ((s_mt q a b t).1.1)) hA.2.2.1 ?_
      refine ez_aload_n 116 dX11_meet_115 rfl rfl ?_
      refine ez_getf 119 (eR 10 17) dX11_meet_116 rfl fl_X11_59 (by show 0 < 1; omega) rfl ?_
      refine ez_getf 122 (eI (M1.1 10 17 2)) dX11_meet_119 rfl fl_X11_176 (by show 17 < 18; omega) rfl ?_
      refine ez_top (nI ((s_mt q a b t).2.1)) hB.2.2.1 ?_
      refine ez_ncmp_ne 125 128 dX11_meet_122 rfl (by decide) (by omega) (by omega) (fun h122 => ?_) (fun h122 => ?_)
      · refine ez_aload_n 129 dX11_meet_128 rfl rfl ?_
        refine ez_iload 131 dX11_meet_129 rfl rfl ?_
        refine ez_iconst 132 dX11_meet_131 rfl (nI 2) (by decide) ?_
        refine ez_irem 133 dX11_meet_132 rfl (by decide) ?_
        refine ez_top (nI (t % 2)) (pk_rem (by omega) (by omega) (by omega)) ?_
        refine ez_nif_ne 136 143 dX11_meet_133 rfl (by decide) (by omega) (fun h133 => ?_) (fun h133 => ?_)
        · refine ez_aload_n 144 dX11_meet_143 rfl rfl ?_
          refine ez_getf 147 (eR 10 17) dX11_meet_144 rfl fl_X11_59 (by show 0 < 1; omega) rfl ?_
          refine ez_aload 149 dX11_meet_147 rfl rfl ?_
          refine ez_aload_n 150 dX11_meet_149 rfl rfl ?_
          refine ez_getf 153 (eR 20 4) dX11_meet_150 rfl fl_X11_62 (by show 0 < 1; omega) rfl ?_
          refine ez_callV 156 [eR 10 17, eR 1 (q.2.1.2.1 a 1), eR 20 4] [] dX11_meet_153 rfl rfl ok_X11_goOneStep in_X11_goOneStep (by decide) (by show 0 < 1; omega) ln_X11_211 (by omega) (Nat.le_of_ble_eq_true rfl) (c_X11_goOneStep G (d - 1) (S := (s_mt q a b t).2) (lt := s_lt q b) (bl := 0) (tf := q.2.2.2.2.1.2.2) 17 4 (q.2.1.2.1 a 1) M1 (by omega) (by omega) (by omega) (by omega) m0 m4 gzb w9.2 qx (by omega) hB (by rw [el]; exact gZ.fx hF ⟨by unfold SC; omega, fun x => by unfold SC; omega⟩) (gX.fx hF qx.2.1 ⟨by unfold SC; omega, by unfold SC; omega, fun i s hi => by unfold SC; omega⟩) (by rw [hF _ _ _ (by unfold SC; omega)]; exact hC.2.2.2.2.2.2)) (fun r153 M153 q153 => ?_)
          obtain ⟨rfl, R153, f153, l153⟩ := q153
          have F153 := hF.tr (f153.up (fun k i s z => by unfold SC; omega))
          have e153 := s_mt_o (q := q) (a := a) (b := b) (k := t) (by omega)
          have B153 : RCW (q.2.1.2.1 b 0) (q.2.1.2.1 b 1) (q.2.1.2.1 b 4) (s_mt q a b (t + 1)).2 17 4 M153 := by rw [e153]; exact R153
          have A153 : RCW (q.2.1.2.1 a 0) (q.2.1.2.1 a 1) (q.2.1.2.1 a 4) (s_mt q a b (t + 1)).1 16 4 M153 := by rw [e153]; exact RCW_sp hA R153 f153 (fun s => by omega)
          show Ez G mX11_meet d 156 [(6, eI (nI t)), (0, eR 11 0), (5, eR 1 (q.2.1.2.1 a 1))] [] M153 _
          refine ez_iinc 159 (nI (t + 1)) [(6, eI (nI (t + 1))), (0, eR 11 0), (5, eR 1 (q.2.1.2.1 a 1))] dX11_meet_156 rfl rfl (nI_add t 1) (by decide) rfl ?_
          refine ez_goto 100 dX11_meet_159 (by decide) ?_
          exact ih (201 - (t + 1)) (by omega) (t + 1) _ rfl (by omega) A153 B153 (fun j hj => by
            by_cases e : j = t
            · rw [e]; exact h122
            · exact hj0 j (by omega)) F153
        · refine ez_aload_n 137 dX11_meet_136 rfl rfl ?_
          refine ez_getf 140 (eR 10 16) dX11_meet_137 rfl fl_X11_55 (by show 0 < 1; omega) rfl ?_
          refine ez_goto 147 dX11_meet_140 (by decide) ?_
          refine ez_aload 149 dX11_meet_147 rfl rfl ?_
          refine ez_aload_n 150 dX11_meet_149 rfl rfl ?_
          refine ez_getf 153 (eR 20 4) dX11_meet_150 rfl fl_X11_62 (by show 0 < 1; omega) rfl ?_
          refine ez_callV 156 [eR 10 16, eR 1 (q.2.1.2.1 a 1), eR 20 4] [] dX11_meet_153 rfl rfl ok_X11_goOneStep in_X11_goOneStep (by decide) (by show 0 < 1; omega) ln_X11_211 (by omega) (Nat.le_of_ble_eq_true rfl) (c_X11_goOneStep G (d - 1) (S := (s_mt q a b t).1) (lt := s_lt q a) (bl := 0) (tf := q.2.2.2.2.1.2.2) 16 4 (q.2.1.2.1 a 1) M1 (by omega) (by omega) (by omega) (by omega) k0 k4 gz w9.1 qx (by omega) hA (gZ.fx hF ⟨by unfold SC; omega, fun x => by unfold SC; omega⟩) (gX.fx hF qx.2.1 ⟨by unfold SC; omega, by unfold SC; omega, fun i s hi => by unfold SC; omega⟩) (by rw [hF _ _ _ (by unfold SC; omega)]; exact hC.2.2.2.2.2.2)) (fun r153 M153 q153 => ?_)
          obtain ⟨rfl, R153, f153, l153⟩ := q153
          have F153 := hF.tr (f153.up (fun k i s z => by unfold SC; omega))
          have e153 := s_mt_e (q := q) (a := a) (b := b) (k := t) (by omega)
          have A153 : RCW (q.2.1.2.1 a 0) (q.2.1.2.1 a 1) (q.2.1.2.1 a 4) (s_mt q a b (t + 1)).1 16 4 M153 := by rw [e153]; exact R153
          have B153 : RCW (q.2.1.2.1 b 0) (q.2.1.2.1 b 1) (q.2.1.2.1 b 4) (s_mt q a b (t + 1)).2 17 4 M153 := by rw [e153]; exact RCW_sp hB R153 f153 (fun s => by omega)
          show Ez G mX11_meet d 156 [(6, eI (nI t)), (0, eR 11 0), (5, eR 1 (q.2.1.2.1 a 1))] [] M153 _
          refine ez_iinc 159 (nI (t + 1)) [(6, eI (nI (t + 1))), (0, eR 11 0), (5, eR 1 (q.2.1.2.1 a 1))] dX11_meet_156 rfl rfl (nI_add t 1) (by decide) rfl ?_
          refine ez_goto 100 dX11_meet_159 (by decide) ?_
          exact ih (201 - (t + 1)) (by omega) (t + 1) _ rfl (by omega) A153 B153 (fun j hj => by
            by_cases e : j = t
            · rw [e]; exact h122
            · exact hj0 j (by omega)) F153
      · refine ez_iload 127 dX11_meet_125 rfl rfl ?_
        refine ez_iret .int dX11_meet_127 rfl rfl ?_
        exact ⟨by rw [er_fst_some (p := fun k => decide ((s_mt q a b k).1.1 = (s_mt q a b k).2.1)) (i := t) (decide_eq_true h122) (fun j hj => decide_eq_false (hj0 j hj)) (by omega)]; rfl, RC.sc hW hC hF, hF.scc⟩
set_option maxRecDepth 20000 in
theorem c_X11_meet (G : EzG) (d : Nat) {q : EpS} (x y : Int32) (M : EzM) (hd : 7 ≤ d) (hW : WF q) (hC : RC q M) : Ezc G mX11_meet d [eR 11 0, eI x, eI y] M (fun r M' => r = some (eI (S_meet q x y)) ∧ RC q M' ∧ FX CC M M') := by
  refine Ezc.of (by decide +kernel) (Nat.le_of_ble_eq_true rfl) ?_
  have q8 := hW.2.1.1
  have q4 := hW.1.1
  have qx := hW.2.2.2.2.1
  show Ez G mX11_meet d 0 [(0, eR 11 0), (1, eI x), (2, eI y)] [] M _
  refine ez_aload_n 1 dX11_meet_0 rfl rfl ?_
  refine ez_iload_n 2 dX11_meet_1 rfl rfl ?_
  refine ez_iload_n 3 dX11_meet_2 rfl rfl ?_
  refine ez_mmin 6 dX11_meet_3 rfl ln_X11_232 (by omega) (Nat.le_of_ble_eq_true rfl) ?_
  refine ez_callV 9 [eI (if y < x then y else x)] [] dX11_meet_6 rfl rfl ok_X11_walkerAt in_X11_walkerAt (by decide) (by show 0 < 1; omega) ln_X11_185 (by omega) (Nat.le_of_ble_eq_true rfl) (c_X11_walkerAt G (d - 1) (if y < x then y else x) q.2.1.1 M (by omega) hC.2.1.1 (by omega)) (fun r6 M6 q6 => ?_)
  obtain ⟨e6, ⟨rfl, i6⟩ | ⟨j6, b6, x6, rfl⟩⟩ := q6
  · rw [e6]
    show Ez G mX11_meet d 9 [(0, eR 11 0), (1, eI x), (2, eI y)] [eN] M _
    refine ez_astore_n 10 [(3, eN), (0, eR 11 0), (1, eI x), (2, eI y)] dX11_meet_9 rfl (by decide) rfl ?_
    refine ez_aload_n 11 dX11_meet_10 rfl rfl ?_
    refine ez_iload_n 12 dX11_meet_11 rfl rfl ?_
    refine ez_iload_n 13 dX11_meet_12 rfl rfl ?_
    refine ez_mmax 16 dX11_meet_13 rfl ln_X11_237 (by omega) (Nat.le_of_ble_eq_true rfl) ?_
    refine ez_callV 19 [eI (if x < y then y else x)] [] dX11_meet_16 rfl rfl ok_X11_walkerAt in_X11_walkerAt (by decide) (by show 0 < 1; omega) ln_X11_185 (by omega) (Nat.le_of_ble_eq_true rfl) (c_X11_walkerAt G (d - 1) (if x < y then y else x) q.2.1.1 M (by omega) hC.2.1.1 (by omega)) (fun r16 M16 q16 => ?_)
    obtain ⟨e16, ⟨rfl, i16⟩ | ⟨j16, b16, x16, rfl⟩⟩ := q16
    · rw [e16]
      show Ez G mX11_meet d 19 [(3, eN), (0, eR 11 0), (1, eI x), (2, eI y)] [eN] M _
      refine ez_astore 21 [(4, eN), (3, eN), (0, eR 11 0), (1, eI x), (2, eI y)] dX11_meet_19 rfl (by decide) rfl ?_
      refine ez_aload_n 22 dX11_meet_21 rfl rfl ?_
      refine ez_ifnull_n 47 dX11_meet_22 (by decide) ?_
      refine ez_bipush 49 dX11_meet_47 rfl (-2) (by decide) ?_
      refine ez_iret .int dX11_meet_49 rfl rfl ?_
      exact ⟨by rw [er_mx (Or.inl i6)], hC, FX.rf⟩
    · rw [e16]
      have i16 : ep_ix (if x < y then y else x) q.2.1.1 = some j16 := by rw [x16]; exact ep_ix_nI b16 (by omega)
      show Ez G mX11_meet d 19 [(3, eN), (0, eR 11 0), (1, eI x), (2, eI y)] [eR 10 j16] M _
      refine ez_astore 21 [(4, eR 10 j16), (3, eN), (0, eR 11 0), (1, eI x), (2, eI y)] dX11_meet_19 rfl (by decide) rfl ?_
      refine ez_aload_n 22 dX11_meet_21 rfl rfl ?_
      refine ez_ifnull_n 47 dX11_meet_22 (by decide) ?_
      refine ez_bipush 49 dX11_meet_47 rfl (-2) (by decide) ?_
      refine ez_iret .int dX11_meet_49 rfl rfl ?_
      exact ⟨by rw [er_mx (Or.inl i6)], hC, FX.rf⟩
  · rw [e6]
    have i6 : ep_ix (if y < x then y else x) q.2.1.1 = some j6 := by rw [x6]; exact ep_ix_nI b6 (by omega)
    show Ez G mX11_meet d 9 [(0, eR 11 0), (1, eI x), (2, eI y)] [eR 10 j6] M _
    refine ez_astore_n 10 [(3, eR 10 j6), (0, eR 11 0), (1, eI x), (2, eI y)] dX11_meet_9 rfl (by decide) rfl ?_
    refine ez_aload_n 11 dX11_meet_10 rfl rfl ?_
    refine ez_iload_n 12 dX11_meet_11 rfl rfl ?_
    refine ez_iload_n 13 dX11_meet_12 rfl rfl ?_
    refine ez_mmax 16 dX11_meet_13 rfl ln_X11_237 (by omega) (Nat.le_of_ble_eq_true rfl) ?_
    refine ez_callV 19 [eI (if x < y then y else x)] [] dX11_meet_16 rfl rfl ok_X11_walkerAt in_X11_walkerAt (by decide) (by show 0 < 1; omega) ln_X11_185 (by omega) (Nat.le_of_ble_eq_true rfl) (c_X11_walkerAt G (d - 1) (if x < y then y else x) q.2.1.1 M (by omega) hC.2.1.1 (by omega)) (fun r16 M16 q16 => ?_)
    obtain ⟨e16, ⟨rfl, i16⟩ | ⟨j16, b16, x16, rfl⟩⟩ := q16
    · rw [e16]
      show Ez G mX11_meet d 19 [(3, eR 10 j6), (0, eR 11 0), (1, eI x), (2, eI y)] [eN] M _
      refine ez_astore 21 [(4, eN), (3, eR 10 j6), (0, eR 11 0), (1, eI x), (2, eI y)] dX11_meet_19 rfl (by decide) rfl ?_
      refine ez_aload_n 22 dX11_meet_21 rfl rfl ?_
      refine ez_ifnull_r 25 dX11_meet_22 rfl ?_
      refine ez_aload 27 dX11_meet_25 rfl rfl ?_
      refine ez_ifnull_n 47 dX11_meet_27 (by decide) ?_
      refine ez_bipush 49 dX11_meet_47 rfl (-2) (by decide) ?_
      refine ez_iret .int dX11_meet_49 rfl rfl ?_
      exact ⟨by rw [er_mx (Or.inr i16)], hC, FX.rf⟩
    · rw [e16]
      have i16 : ep_ix (if x < y then y else x) q.2.1.1 = some j16 := by rw [x16]; exact ep_ix_nI b16 (by omega)
      show Ez G mX11_meet d 19 [(3, eR 10 j6), (0, eR 11 0), (1, eI x), (2, eI y)] [eR 10 j16] M _
      refine ez_astore 21 [(4, eR 10 j16), (3, eR 10 j6), (0, eR 11 0), (1, eI x), (2, eI y)] dX11_meet_19 rfl (by decide) rfl ?_
      refine ez_aload_n 22 dX11_meet_21 rfl rfl ?_
      refine ez_ifnull_r 25 dX11_meet_22 rfl ?_
      refine ez_aload 27 dX11_meet_25 rfl rfl ?_
      refine ez_ifnull_r 30 dX11_meet_27 rfl ?_
      rcases er_mm (by omega) (by omega) x6 x16 with ⟨rfl, rfl, le9⟩ | ⟨rfl, rfl, le9⟩
      · have SM9 : S_meet q (nI j6) (nI j16) = if j6 = j16 ∨ ¬ q.2.1.2.1 j6 1 = q.2.1.2.1 j16 1 then -2 else ep_oi (er_fst (fun k => decide ((s_mt q j6 j16 k).1.1 = (s_mt q j6 j16 k).2.1)) 201) := by
          unfold S_meet
          rw [ep_ix_nI (by omega) (by omega), ep_ix_nI (by omega) (by omega)]
          simp only []
          rw [Nat.min_eq_left le9, Nat.max_eq_right le9]
        obtain ⟨k0, k1, k2, k3, k4, k5⟩ := hW.2.1.2 j6 b6
        obtain ⟨m0, m1, m2, m3, m4, m5⟩ := hW.2.1.2 j16 b16
        have gR := g_RCW hC.1 hC.2.1 b6 k1
        have gRb := g_RCW hC.1 hC.2.1 b16 m1
        refine ez_iload_n 31 dX11_meet_30 rfl rfl ?_
        refine ez_iload_n 32 dX11_meet_31 rfl rfl ?_
        refine ez_ncmp_eq 35 47 dX11_meet_32 rfl (by decide) (by omega) (by omega) (fun h32 => ?_) (fun h32 => ?_)
        · refine ez_bipush 49 dX11_meet_47 rfl (-2) (by decide) ?_
          refine ez_iret .int dX11_meet_49 rfl rfl ?_
          exact ⟨by rw [SM9]; first | rw [if_pos (Or.inl (by omega))] | rw [if_pos (Or.inr (by omega))], hC, FX.rf⟩
        · refine ez_aload_n 36 dX11_meet_35 rfl rfl ?_
          refine ez_getf 39 (eI (M.1 10 j6 1)) dX11_meet_36 rfl fl_X11_173 (by show j6 < 18; omega) rfl ?_
          refine ez_top (nI (q.2.1.2.1 j6 1)) gR.2.1 ?_
          refine ez_aload 41 dX11_meet_39 rfl rfl ?_
          refine ez_getf 44 (eI (M.1 10 j16 1)) dX11_meet_41 rfl fl_X11_173 (by show j16 < 18; omega) rfl ?_
          refine ez_top (nI (q.2.1.2.1 j16 1)) gRb.2.1 ?_
          refine ez_ncmp_eq 47 50 dX11_meet_44 rfl (by decide) (by omega) (by omega) (fun h44 => ?_) (fun h44 => ?_)
          · refine ez_aload_n 51 dX11_meet_50 rfl rfl ?_
            refine ez_aload_n 52 dX11_meet_51 rfl rfl ?_
            refine ez_getf 55 (eI (M.1 10 j6 1)) dX11_meet_52 rfl fl_X11_173 (by show j6 < 18; omega) rfl ?_
            refine ez_top (nI (q.2.1.2.1 j6 1)) gR.2.1 ?_
            refine ez_callV 58 [eI (nI (q.2.1.2.1 j6 1))] [] dX11_meet_55 rfl rfl ok_X11_mazeAt in_X11_mazeAt (by decide) (by show 0 < 1; omega) ln_X11_141 (by omega) (Nat.le_of_ble_eq_true rfl) (c_mazeAt_n G (d - 1) (q.2.1.2.1 j6 1) q.1.1 M (by omega) hC.1.1 q4 k1) (fun r55 M55 q55 => ?_)
            obtain ⟨rfl, e55⟩ := q55
            rw [e55]
            show Ez G mX11_meet d 58 [(4, eR 10 j16), (3, eR 10 j6), (0, eR 11 0), (1, eI (nI j6)), (2, eI (nI j16))] [eR 1 (q.2.1.2.1 j6 1)] M _
            refine ez_astore 60 [(5, eR 1 (q.2.1.2.1 j6 1)), (4, eR 10 j16), (3, eR 10 j6), (0, eR 11 0), (1, eI (nI j6)), (2, eI (nI j16))] dX11_meet_58 rfl (by decide) rfl ?_
            refine ez_aload 62 dX11_meet_60 rfl rfl ?_
            refine ez_ifnonnull_r 68 dX11_meet_62 (by decide) ?_
            refine ez_aload_n 69 dX11_meet_68 rfl rfl ?_
            refine ez_getf 72 (eR 10 16) dX11_meet_69 rfl fl_X11_55 (by show 0 < 1; omega) rfl ?_
            refine ez_aload_n 73 dX11_meet_72 rfl rfl ?_
            refine ez_callV 76 [eR 10 j6] [] dX11_meet_73 rfl rfl ok_X10_become in_X10_become (by decide) (by show 16 < 18; omega) ln_X11_214 (by omega) (Nat.le_of_ble_eq_true rfl) (c_X10_become G (d - 1) 16 j6 M (by omega) (by omega) (by omega) (by omega)) (fun r73 M73 q73 => ?_)
            obtain ⟨rfl, b73a, b73b, f73, l73⟩ := q73
            show Ez G mX11_meet d 76 [(5, eR 1 (q.2.1.2.1 j6 1)), (4, eR 10 j16), (3, eR 10 j6), (0, eR 11 0), (1, eI (nI j6)), (2, eI (nI j16))] [] M73 _
            refine ez_aload_n 77 dX11_meet_76 rfl rfl ?_
            refine ez_getf 80 (eR 10 17) dX11_meet_77 rfl fl_X11_59 (by show 0 < 1; omega) rfl ?_
            refine ez_aload 82 dX11_meet_80 rfl rfl ?_
            refine ez_callV 85 [eR 10 j16] [] dX11_meet_82 rfl rfl ok_X10_become in_X10_become (by decide) (by show 17 < 18; omega) ln_X11_214 (by omega) (Nat.le_of_ble_eq_true rfl) (c_X10_become G (d - 1) 17 j16 M73 (by omega) (by omega) (by omega) (by omega)) (fun r82 M82 q82 => ?_)
            obtain ⟨rfl, b82a, b82b, f82, l82⟩ := q82
            show Ez G mX11_meet d 85 [(5, eR 1 (q.2.1.2.1 j6 1)), (4, eR 10 j16), (3, eR 10 j6), (0, eR 11 0), (1, eI (nI j6)), (2, eI (nI j16))] [] M82 _
            refine ez_aload 87 dX11_meet_85 rfl rfl ?_
            refine ez_getf 90 (eR 20 (q.2.1.2.1 j6 1)) dX11_meet_87 rfl fl_X11_156 (show q.2.1.2.1 j6 1 < 4 by omega) rfl ?_
            refine ez_aload_n 91 dX11_meet_90 rfl rfl ?_
            refine ez_getf 94 (eR 20 4) dX11_meet_91 rfl fl_X11_62 (by show 0 < 1; omega) rfl ?_
            refine ez_callS 97 [eR 20 (q.2.1.2.1 j6 1), eR 20 4] [] dX11_meet_94 rfl rfl ok_X11_copyRow st_X11_copyRow ln_X11_217 (by omega) (Nat.le_of_ble_eq_true rfl) (c_copyRow_20 G (d - 1) (q.2.1.2.1 j6 1) 4 M82 (by omega) (show q.2.1.2.1 j6 1 < 9 by omega) (by show 4 < 9; omega)) (fun r94 M94 q94 => ?_)
            obtain ⟨rfl, e94⟩ := q94
            rw [e94]
            show Ez G mX11_meet d 97 [(5, eR 1 (q.2.1.2.1 j6 1)), (4, eR 10 j16), (3, eR 10 j6), (0, eR 11 0), (1, eI (nI j6)), (2, eI (nI j16))] [] (ez_row M82 20 4 (ep_fl (M82.1 20 (q.2.1.2.1 j6 1)) (M82.1 20 4) 10)) _
            refine ez_iconst 98 dX11_meet_97 rfl (nI 0) (by decide) ?_
            refine ez_istore 100 [(6, eI (nI 0)), (5, eR 1 (q.2.1.2.1 j6 1)), (4, eR 10 j16), (3, eR 10 j6), (0, eR 11 0), (1, eI (nI j6)), (2, eI (nI j16))] dX11_meet_98 rfl (by decide) rfl ?_
            have F94 : FX (fun k i s => k = 20 ∧ i = 4) M82 (ez_row M82 20 4 (ep_fl (M82.1 20 (q.2.1.2.1 j6 1)) (M82.1 20 4) 10)) := FX.rf.row (fun s => by omega)
            have hF : FX SC M (ez_row M82 20 4 (ep_fl (M82.1 20 (q.2.1.2.1 j6 1)) (M82.1 20 4) 10)) := ((f73.up (fun k i s z => by unfold SC; omega)).tr (f82.up (fun k i s z => by unfold SC; omega))).tr (F94.up (fun k i s z => by unfold SC; omega))
            have p9 : ∀ r, r < 10 → (ez_row M82 20 4 (ep_fl (M82.1 20 (q.2.1.2.1 j6 1)) (M82.1 20 4) 10)).1 20 4 r = M.1 20 (q.2.1.2.1 j6 1) r := fun r hr => by rw [ez_rdr, if_pos ⟨rfl, rfl⟩, ep_fl_in hr, f82 _ _ _ (by omega), f73 _ _ _ (by omega)]
            have RA9 : RCW (q.2.1.2.1 j6 0) (q.2.1.2.1 j6 1) (q.2.1.2.1 j6 4) (s_get q.1 q.2.1 j6) 16 4 (ez_row M82 20 4 (ep_fl (M82.1 20 (q.2.1.2.1 j6 1)) (M82.1 20 4) 10)) := RCW_become gR (M1 := M82) (fun s hs => by rw [f82 _ _ _ (by omega)]; exact b73a s hs) (fun r hr => by rw [f82 _ _ _ (by omega)]; exact b73b r hr) (F94.up (fun k i s z => z.1)) p9
            have hm9 : q.2.1.2.1 j16 1 = q.2.1.2.1 j6 1 := by omega
            have RB9 : RCW (q.2.1.2.1 j16 0) (q.2.1.2.1 j16 1) (q.2.1.2.1 j16 4) (s_get q.1 q.2.1 j16) 17 4 (ez_row M82 20 4 (ep_fl (M82.1 20 (q.2.1.2.1 j6 1)) (M82.1 20 4) 10)) := RCW_become gRb (M1 := M82) (fun s hs => by rw [b82a s hs, f73 _ _ _ (by omega)]) (fun r hr => by rw [b82b r hr, f73 _ _ _ (by omega)]) (F94.up (fun k i s z => z.1)) (fun r hr => by rw [p9 r hr, hm9])
            rw [SM9, if_neg (fun z => z.elim (fun z1 => by omega) (fun z2 => z2 (by omega)))]
            refine ez_drop [(6, eI (nI 0)), (0, eR 11 0), (5, eR 1 (q.2.1.2.1 j6 1))] (by simp) ?_
            exact lp_meet G d j6 j16 M hd hW hC b6 b16 hm9 _ 0 _ rfl (by omega) RA9 RB9 (fun j hj => by omega) hF
          · refine ez_bipush 49 dX11_meet_47 rfl (-2) (by decide) ?_
            refine ez_iret .int dX11_meet_49 rfl rfl ?_
            exact ⟨by rw [SM9]; first | rw [if_pos (Or.inl (by omega))] | rw [if_pos (Or.inr (by omega))], hC, FX.rf⟩
      · have SM9 : S_meet q (nI j16) (nI j6) = if j16 = j6 ∨ ¬ q.2.1.2.1 j16 1 = q.2.1.2.1 j6 1 then -2 else ep_oi (er_fst (fun k => decide ((s_mt q j6 j16 k).1.1 = (s_mt q j6 j16 k).2.1)) 201) := by
          unfold S_meet
          rw [ep_ix_nI (by omega) (by omega), ep_ix_nI (by omega) (by omega)]
          simp only []
          rw [Nat.min_eq_right le9, Nat.max_eq_left le9]
        obtain ⟨k0, k1, k2, k3, k4, k5⟩ := hW.2.1.2 j6 b6
        obtain ⟨m0, m1, m2, m3, m4, m5⟩ := hW.2.1.2 j16 b16
        have gR := g_RCW hC.1 hC.2.1 b6 k1
        have gRb := g_RCW hC.1 hC.2.1 b16 m1
        refine ez_iload_n 31 dX11_meet_30 rfl rfl ?_
        refine ez_iload_n 32 dX11_meet_31 rfl rfl ?_
        refine ez_ncmp_eq 35 47 dX11_meet_32 rfl (by decide) (by omega) (by omega) (fun h32 => ?_) (fun h32 => ?_)
        · refine ez_bipush 49 dX11_meet_47 rfl (-2) (by decide) ?_
          refine ez_iret .int dX11_meet_49 rfl rfl ?_
          exact ⟨by rw [SM9]; first | rw [if_pos (Or.inl (by omega))] | rw [if_pos (Or.inr (by omega))], hC, FX.rf⟩
        · refine ez_aload_n 36 dX11_meet_35 rfl rfl ?_
          refine ez_getf 39 (eI (M.1 10 j6 1)) dX11_meet_36 rfl fl_X11_173 (by show j6 < 18; omega) rfl ?_
          refine ez_top (nI (q.2.1.2.1 j6 1)) gR.2.1 ?_
          refine ez_aload 41 dX11_meet_39 rfl rfl ?_
          refine ez_getf 44 (eI (M.1 10 j16 1)) dX11_meet_41 rfl fl_X11_173 (by show j16 < 18; omega) rfl ?_
          refine ez_top (nI (q.2.1.2.1 j16 1)) gRb.2.1 ?_
          refine ez_ncmp_eq 47 50 dX11_meet_44 rfl (by decide) (by omega) (by omega) (fun h44 => ?_) (fun h44 => ?_)
          · refine ez_aload_n 51 dX11_meet_50 rfl rfl ?_
            refine ez_aload_n 52 dX11_meet_51 rfl rfl ?_
            refine ez_getf 55 (eI (M.1 10 j6 1)) dX11_meet_52 rfl fl_X11_173 (by show j6 < 18; omega) rfl ?_
            refine ez_top (nI (q.2.1.2.1 j6 1)) gR.2.1 ?_
            refine ez_callV 58 [eI (nI (q.2.1.2.1 j6 1))] [] dX11_meet_55 rfl rfl ok_X11_mazeAt in_X11_mazeAt (by decide) (by show 0 < 1; omega) ln_X11_141 (by omega) (Nat.le_of_ble_eq_true rfl) (c_mazeAt_n G (d - 1) (q.2.1.2.1 j6 1) q.1.1 M (by omega) hC.1.1 q4 k1) (fun r55 M55 q55 => ?_)
            obtain ⟨rfl, e55⟩ := q55
            rw [e55]
            show Ez G mX11_meet d 58 [(4, eR 10 j16), (3, eR 10 j6), (0, eR 11 0), (1, eI (nI j16)), (2, eI (nI j6))] [eR 1 (q.2.1.2.1 j6 1)] M _
            refine ez_astore 60 [(5, eR 1 (q.2.1.2.1 j6 1)), (4, eR 10 j16), (3, eR 10 j6), (0, eR 11 0), (1, eI (nI j16)), (2, eI (nI j6))] dX11_meet_58 rfl (by decide) rfl ?_
            refine ez_aload 62 dX11_meet_60 rfl rfl ?_
            refine ez_ifnonnull_r 68 dX11_meet_62 (by decide) ?_
            refine ez_aload_n 69 dX11_meet_68 rfl rfl ?_
            refine ez_getf 72 (eR 10 16) dX11_meet_69 rfl fl_X11_55 (by show 0 < 1; omega) rfl ?_
            refine ez_aload_n 73 dX11_meet_72 rfl rfl ?_
            refine ez_callV 76 [eR 10 j6] [] dX11_meet_73 rfl rfl ok_X10_become in_X10_become (by decide) (by show 16 < 18; omega) ln_X11_214 (by omega) (Nat.le_of_ble_eq_true rfl) (c_X10_become G (d - 1) 16 j6 M (by omega) (by omega) (by omega) (by omega)) (fun r73 M73 q73 => ?_)
            obtain ⟨rfl, b73a, b73b, f73, l73⟩ := q73
            show Ez G mX11_meet d 76 [(5, eR 1 (q.2.1.2.1 j6 1)), (4, eR 10 j16), (3, eR 10 j6), (0, eR 11 0), (1, eI (nI j16)), (2, eI (nI j6))] [] M73 _
            refine ez_aload_n 77 dX11_meet_76 rfl rfl ?_
            refine ez_getf 80 (eR 10 17) dX11_meet_77 rfl fl_X11_59 (by show 0 < 1; omega) rfl ?_
            refine ez_aload 82 dX11_meet_80 rfl rfl ?_
            refine ez_callV 85 [eR 10 j16] [] dX11_meet_82 rfl rfl ok_X10_become in_X10_become (by decide) (by show 17 < 18; omega) ln_X11_214 (by omega) (Nat.le_of_ble_eq_true rfl) (c_X10_become G (d - 1) 17 j16 M73 (by omega) (by omega) (by omega) (by omega)) (fun r82 M82 q82 => ?_)
            obtain ⟨rfl, b82a, b82b, f82, l82⟩ := q82
            show Ez G mX11_meet d 85 [(5, eR 1 (q.2.1.2.1 j6 1)), (4, eR 10 j16), (3, eR 10 j6), (0, eR 11 0), (1, eI (nI j16)), (2, eI (nI j6))] [] M82 _
            refine ez_aload 87 dX11_meet_85 rfl rfl ?_
            refine ez_getf 90 (eR 20 (q.2.1.2.1 j6 1)) dX11_meet_87 rfl fl_X11_156 (show q.2.1.2.1 j6 1 < 4 by omega) rfl ?_
            refine ez_aload_n 91 dX11_meet_90 rfl rfl ?_
            refine ez_getf 94 (eR 20 4) dX11_meet_91 rfl fl_X11_62 (by show 0 < 1; omega) rfl ?_
            refine ez_callS 97 [eR 20 (q.2.1.2.1 j6 1), eR 20 4] [] dX11_meet_94 rfl rfl ok_X11_copyRow st_X11_copyRow ln_X11_217 (by omega) (Nat.le_of_ble_eq_true rfl) (c_copyRow_20 G (d - 1) (q.2.1.2.1 j6 1) 4 M82 (by omega) (show q.2.1.2.1 j6 1 < 9 by omega) (by show 4 < 9; omega)) (fun r94 M94 q94 => ?_)
            obtain ⟨rfl, e94⟩ := q94
            rw [e94]
            show Ez G mX11_meet d 97 [(5, eR 1 (q.2.1.2.1 j6 1)), (4, eR 10 j16), (3, eR 10 j6), (0, eR 11 0), (1, eI (nI j16)), (2, eI (nI j6))] [] (ez_row M82 20 4 (ep_fl (M82.1 20 (q.2.1.2.1 j6 1)) (M82.1 20 4) 10)) _
            refine ez_iconst 98 dX11_meet_97 rfl (nI 0) (by decide) ?_
            refine ez_istore 100 [(6, eI (nI 0)), (5, eR 1 (q.2.1.2.1 j6 1)), (4, eR 10 j16), (3, eR 10 j6), (0, eR 11 0), (1, eI (nI j16)), (2, eI (nI j6))] dX11_meet_98 rfl (by decide) rfl ?_
            have F94 : FX (fun k i s => k = 20 ∧ i = 4) M82 (ez_row M82 20 4 (ep_fl (M82.1 20 (q.2.1.2.1 j6 1)) (M82.1 20 4) 10)) := FX.rf.row (fun s => by omega)
            have hF : FX SC M (ez_row M82 20 4 (ep_fl (M82.1 20 (q.2.1.2.1 j6 1)) (M82.1 20 4) 10)) := ((f73.up (fun k i s z => by unfold SC; omega)).tr (f82.up (fun k i s z => by unfold SC; omega))).tr (F94.up (fun k i s z => by unfold SC; omega))
            have p9 : ∀ r, r < 10 → (ez_row M82 20 4 (ep_fl (M82.1 20 (q.2.1.2.1 j6 1)) (M82.1 20 4) 10)).1 20 4 r = M.1 20 (q.2.1.2.1 j6 1) r := fun r hr => by rw [ez_rdr, if_pos ⟨rfl, rfl⟩, ep_fl_in hr, f82 _ _ _ (by omega), f73 _ _ _ (by omega)]
            have RA9 : RCW (q.2.1.2.1 j6 0) (q.2.1.2.1 j6 1) (q.2.1.2.1 j6 4) (s_get q.1 q.2.1 j6) 16 4 (ez_row M82 20 4 (ep_fl (M82.1 20 (q.2.1.2.1 j6 1)) (M82.1 20 4) 10)) := RCW_become gR (M1 := M82) (fun s hs => by rw [f82 _ _ _ (by omega)]; exact b73a s hs) (fun r hr => by rw [f82 _ _ _ (by omega)]; exact b73b r hr) (F94.up (fun k i s z => z.1)) p9
            have hm9 : q.2.1.2.1 j16 1 = q.2.1.2.1 j6 1 := by omega
            have RB9 : RCW (q.2.1.2.1 j16 0) (q.2.1.2.1 j16 1) (q.2.1.2.1 j16 4) (s_get q.1 q.2.1 j16) 17 4 (ez_row M82 20 4 (ep_fl (M82.1 20 (q.2.1.2.1 j6 1)) (M82.1 20 4) 10)) := RCW_become gRb (M1 := M82) (fun s hs => by rw [b82a s hs, f73 _ _ _ (by omega)]) (fun r hr => by rw [b82b r hr, f73 _ _ _ (by omega)]) (F94.up (fun k i s z => z.1)) (fun r hr => by rw [p9 r hr, hm9])
            rw [SM9, if_neg (fun z => z.elim (fun z1 => by omega) (fun z2 => z2 (by omega)))]
            refine ez_drop [(6, eI (nI 0)), (0, eR 11 0), (5, eR 1 (q.2.1.2.1 j6 1))] (by simp) ?_
            exact lp_meet G d j6 j16 M hd hW hC b6 b16 hm9 _ 0 _ rfl (by omega) RA9 RB9 (fun j hj => by omega) hF
          · refine ez_bipush 49 dX11_meet_47 rfl (-2) (by decide) ?_
            refine ez_iret .int dX11_meet_49 rfl rfl ?_
            exact ⟨by rw [SM9]; first | rw [if_pos (Or.inl (by omega))] | rw [if_pos (Or.inr (by omega))], hC, FX.rf⟩
set_option maxRecDepth 20000 in
theorem lp_mmeet (g : EzH) (d : Nat) {q : EpS} (a b : Nat) (M : EzM) (hd : 67 ≤ d) (hW : WF q) (hC : RM q M) (ha : a < q.2.1.1) (hb : b < q.2.1.1) (hm : q.2.1.2.1 b 1 = q.2.1.2.1 a 1) (hne : ¬ a = b) : ∀ (z : Nat) (t : Nat) (M1 : EzM), 200 - t = z → t ≤ 200 → RMW (q.2.1.2.1 a 0) (q.2.1.2.1 a 1) (q.2.1.2.1 a 4) (s_mt q a b t).1 a M1 → RMW (q.2.1.2.1 b 0) (q.2.1.2.1 a 1) (q.2.1.2.1 b 4) (s_mt q a b t).2 b M1 → KP 56 0 (s_get q.1 q.2.1 a) M1 → KP 56 23 (s_get q.1 q.2.1 b) M1 → M1.1 12 0 20 = nI 0 → (∀ j, j < t → ¬ (s_mt q a b j).1.1 = (s_mt q a b j).2.1) → FX (CHT a b (q.2.1.2.1 a 1)) M M1 → Ez (true, g) mX12_meet d 104 [(7, eI (nI t)), (6, eI ((s_get q.1 q.2.1 b).2.2.2.1)), (5, eI ((s_get q.1 q.2.1 a).2.2.2.1)), (4, eI (nI b)), (3, eI (nI a)), (0, eR 12 0)] [] M1 (fun r M' => r = some (eI (ep_oi (er_fst (fun k => decide ((s_mt q a b k).1.1 = (s_mt q a b k).2.1)) 201))) ∧ RM q M' ∧ FX CM M M') := by
  intro z
  induction z using Nat.strongRecOn with
  | ind z ih =>
    intro t M1 hz ht hA hB hKa hKb h20 hj0 hF
    have q8 := hW.2.1.1
    have q4 := hW.1.1
    have qx := hW.2.2.2.2.1
    obtain ⟨k0, k1, k2, k3, k4, k5⟩ := hW.2.1.2 a ha
    obtain ⟨m0, m1, m2, m3, m4, m5⟩ := hW.2.1.2 b hb
    have gz := g_WFz hW.1 k1
    have gS := g_WFS hW ha
    have gSb : WFS (q.1.2.1 (q.2.1.2.1 a 1)) (s_get q.1 q.2.1 b) := by rw [← hm]; exact g_WFS hW hb
    have gX := hC.2.2.2.2.1
    have n10 := gz.2.1
    have el : s_lt q b = s_lt q a := by unfold s_lt; rw [hm]
    have gzb : WFz (q.1.2.1 (q.2.1.2.1 a 1)) (s_lt q b) := by rw [el]; exact gz
    have gZ := g_RMz hC.1 k1
    have w9 := WFS_mt gz gzb gS gSb t
    have w1 := w9.1.1
    have w2 := w9.2.1
    refine ez_aload_n 105 dX12_meet_104 rfl rfl ?_
    refine ez_getf 108 (eR 50 0) dX12_meet_105 rfl fl_X12_38 (by show 0 < 1; omega) rfl ?_
    refine ez_iload_n 109 dX12_meet_108 rfl rfl ?_
    refine ez_ialdN a 110 dX12_meet_109 rfl (by decide) (by show 0 < 1; omega) (by show a < 8; omega) ?_
    refine ez_top (nI ((s_mt q a b t).1.1)) hA.2.2.1 ?_
    refine ez_aload_n 111 dX12_meet_110 rfl rfl ?_
    refine ez_getf 114 (eR 50 0) dX12_meet_111 rfl fl_X12_38 (by show 0 < 1; omega) rfl ?_
    refine ez_iload 116 dX12_meet_114 rfl rfl ?_
    refine ez_ialdN b 117 dX12_meet_116 rfl (by decide) (by show 0 < 1; omega) (by show b < 8; omega) ?_
    refine ez_top (nI ((s_mt q a b t).2.1)) hB.2.2.1 ?_
    refine ez_ncmp_eq 120 151 dX12_meet_117 rfl (by decide) (by omega) (by omega) (fun h117 => ?_) (fun h117 => ?_)
    · refine ez_aload_n 152 dX12_meet_151 rfl rfl ?_
      refine ez_getf 155 (eR 50 0) dX12_meet_152 rfl fl_X12_38 (by show 0 < 1; omega) rfl ?_
      refine ez_iload_n 156 dX12_meet_155 rfl rfl ?_
      refine ez_ialdN a 157 dX12_meet_156 rfl (by decide) (by show 0 < 1; omega) (by show a < 8; omega) ?_
      refine ez_top (nI ((s_mt q a b t).1.1)) hA.2.2.1 ?_
      refine ez_aload_n 158 dX12_meet_157 rfl rfl ?_
      refine ez_getf 161 (eR 50 0) dX12_meet_158 rfl fl_X12_38 (by show 0 < 1; omega) rfl ?_
      refine ez_iload 163 dX12_meet_161 rfl rfl ?_
      refine ez_ialdN b 164 dX12_meet_163 rfl (by decide) (by show 0 < 1; omega) (by show b < 8; omega) ?_
      refine ez_top (nI ((s_mt q a b t).2.1)) hB.2.2.1 ?_
      refine ez_ncmp_ne 167 172 dX12_meet_164 rfl (by decide) (by omega) (by omega) (fun h164 => ?_) (fun h164 => ?_)
      · exact absurd h117 (by omega)
      · refine ez_iload 169 dX12_meet_167 rfl rfl ?_
        refine ez_goto 173 dX12_meet_169 (by decide) ?_
        refine ez_istore 175 [(8, eI (nI t)), (7, eI (nI t)), (6, eI ((s_get q.1 q.2.1 b).2.2.2.1)), (5, eI ((s_get q.1 q.2.1 a).2.2.2.1)), (4, eI (nI b)), (3, eI (nI a)), (0, eR 12 0)] dX12_meet_173 rfl (by decide) rfl ?_
        refine ez_aload_n 176 dX12_meet_175 rfl rfl ?_
        refine ez_iload_n 177 dX12_meet_176 rfl rfl ?_
        refine ez_aload_n 178 dX12_meet_177 rfl rfl ?_
        refine ez_getf 181 (eR 56 0) dX12_meet_178 rfl fl_X12_56 (by show 0 < 1; omega) rfl ?_
        refine ez_iconst 182 dX12_meet_181 rfl (nI 0) (by decide) ?_
        refine ez_iload 184 dX12_meet_182 rfl rfl ?_
        refine ez_callV 187 [eI (nI a), eR 56 0, eI (nI 0), eI ((s_get q.1 q.2.1 a).2.2.2.1)] [] dX12_meet_184 rfl rfl ok_X12_lays in_X12_lays (by decide) (by show 0 < 1; omega) ln_X12_369 (by omega) (Nat.le_of_ble_eq_true rfl) (c_lays_56 g (d - 1) (T := s_get q.1 q.2.1 a) (n := 10) a 0 (s_get q.1 q.2.1 a).2.2.2.1 M1 (by omega) (by omega) (by omega) hA hKa (by omega)) (fun r184 M184 q184 => ?_)
        obtain ⟨rfl, R184, f184⟩ := q184
        have B184 := RMW_sp hB R184 f184 ⟨by unfold LF; omega, by unfold LF; omega, by unfold LF; omega, by unfold LF; omega, by unfold LF; omega, by unfold LF; omega, by unfold LF; omega, fun r hr => by unfold LF; omega⟩
        have KB := hKb.fx f184 (fun s _ _ => by unfold LF; omega)
        show Ez (true, g) mX12_meet d 187 [(8, eI (nI t)), (7, eI (nI t)), (6, eI ((s_get q.1 q.2.1 b).2.2.2.1)), (5, eI ((s_get q.1 q.2.1 a).2.2.2.1)), (4, eI (nI b)), (3, eI (nI a)), (0, eR 12 0)] [] M184 _
        refine ez_aload_n 188 dX12_meet_187 rfl rfl ?_
        refine ez_iload 190 dX12_meet_188 rfl rfl ?_
        refine ez_aload_n 191 dX12_meet_190 rfl rfl ?_
        refine ez_getf 194 (eR 56 0) dX12_meet_191 rfl fl_X12_56 (by show 0 < 1; omega) rfl ?_
        refine ez_bipush 196 dX12_meet_194 rfl (nI 23) (by decide) ?_
        refine ez_iload 198 dX12_meet_196 rfl rfl ?_
        refine ez_callV 201 [eI (nI b), eR 56 0, eI (nI 23), eI ((s_get q.1 q.2.1 b).2.2.2.1)] [] dX12_meet_198 rfl rfl ok_X12_lays in_X12_lays (by decide) (by show 0 < 1; omega) ln_X12_369 (by omega) (Nat.le_of_ble_eq_true rfl) (c_lays_56 g (d - 1) (T := s_get q.1 q.2.1 b) (n := 10) b 23 (s_get q.1 q.2.1 b).2.2.2.1 M184 (by omega) (by omega) (by omega) B184 KB (by omega)) (fun r198 M198 q198 => ?_)
        obtain ⟨rfl, R198, f198⟩ := q198
        have A198 := RMW_sp R184 R198 f198 ⟨by unfold LF; omega, by unfold LF; omega, by unfold LF; omega, by unfold LF; omega, by unfold LF; omega, by unfold LF; omega, by unfold LF; omega, fun r hr => by unfold LF; omega⟩
        show Ez (true, g) mX12_meet d 201 [(8, eI (nI t)), (7, eI (nI t)), (6, eI ((s_get q.1 q.2.1 b).2.2.2.1)), (5, eI ((s_get q.1 q.2.1 a).2.2.2.1)), (4, eI (nI b)), (3, eI (nI a)), (0, eR 12 0)] [] M198 _
        refine ez_iload 203 dX12_meet_201 rfl rfl ?_
        refine ez_iret .int dX12_meet_203 rfl rfl ?_
        have F9 : FX (CHT a b (q.2.1.2.1 a 1)) M M198 := (hF.tr (f184.up (fun k i s z => LF_ca z))).tr (f198.up (fun k i s z => LF_cb z))
        have eP : er_sp (s_get q.1 q.2.1 a) (s_get q.1 q.2.1 b) = s_get q.1 q.2.1 a := by
          show (_, _, _, _, _, q.1.2.2.2 (q.2.1.2.1 b 1)) = (_, _, _, _, _, q.1.2.2.2 (q.2.1.2.1 a 1))
          rw [hm]
          rfl
        have A9 : RMW (q.2.1.2.1 a 0) (q.2.1.2.1 a 1) (q.2.1.2.1 a 4) (s_get q.1 q.2.1 a) a M198 := by
          have z9 : RMW (q.2.1.2.1 a 0) (q.2.1.2.1 a 1) (q.2.1.2.1 a 4) (er_sp (s_get q.1 q.2.1 a) (s_get q.1 q.2.1 b)) a M198 := A198
          rw [eP] at z9
          exact z9
        have B9 : RMW (q.2.1.2.1 b 0) (q.2.1.2.1 b 1) (q.2.1.2.1 b 4) (s_get q.1 q.2.1 b) b M198 := by rw [hm]; exact R198
        refine ⟨?_, RM_back hC hm A9 B9 (by rw [f198 _ _ _ (by unfold LF; omega), f184 _ _ _ (by unfold LF; omega)]; exact h20) F9, F9.cht⟩
        rw [er_fst_some (p := fun k => decide ((s_mt q a b k).1.1 = (s_mt q a b k).2.1)) (i := t) (decide_eq_true (show (s_mt q a b t).1.1 = (s_mt q a b t).2.1 from by omega)) (fun j hj => decide_eq_false (hj0 j hj)) (by omega)]; rfl
    · refine ez_iload 122 dX12_meet_120 rfl rfl ?_
      refine ez_sipush 125 dX12_meet_122 rfl (nI 200) (by decide) ?_
      refine ez_ncmp_ge 128 151 dX12_meet_125 rfl (by decide) (by omega) (by omega) (fun h125 => ?_) (fun h125 => ?_)
      · refine ez_aload_n 152 dX12_meet_151 rfl rfl ?_
        refine ez_getf 155 (eR 50 0) dX12_meet_152 rfl fl_X12_38 (by show 0 < 1; omega) rfl ?_
        refine ez_iload_n 156 dX12_meet_155 rfl rfl ?_
        refine ez_ialdN a 157 dX12_meet_156 rfl (by decide) (by show 0 < 1; omega) (by show a < 8; omega) ?_
        refine ez_top (nI ((s_mt q a b t).1.1)) hA.2.2.1 ?_
        refine ez_aload_n 158 dX12_meet_157 rfl rfl ?_
        refine ez_getf 161 (eR 50 0) dX12_meet_158 rfl fl_X12_38 (by show 0 < 1; omega) rfl ?_
        refine ez_iload 163 dX12_meet_161 rfl rfl ?_
        refine ez_ialdN b 164 dX12_meet_163 rfl (by decide) (by show 0 < 1; omega) (by show b < 8; omega) ?_
        refine ez_top (nI ((s_mt q a b t).2.1)) hB.2.2.1 ?_
        refine ez_ncmp_ne 167 172 dX12_meet_164 rfl (by decide) (by omega) (by omega) (fun h164 => ?_) (fun h164 => ?_)
        · refine ez_iconst 173 dX12_meet_172 rfl (-1) (by decide) ?_
          refine ez_istore 175 [(8, eI (-1)), (7, eI (nI t)), (6, eI ((s_get q.1 q.2.1 b).2.2.2.1)), (5, eI ((s_get q.1 q.2.1 a).2.2.2.1)), (4, eI (nI b)), (3, eI (nI a)), (0, eR 12 0)] dX12_meet_173 rfl (by decide) rfl ?_
          refine ez_aload_n 176 dX12_meet_175 rfl rfl ?_
          refine ez_iload_n 177 dX12_meet_176 rfl rfl ?_
          refine ez_aload_n 178 dX12_meet_177 rfl rfl ?_
          refine ez_getf 181 (eR 56 0) dX12_meet_178 rfl fl_X12_56 (by show 0 < 1; omega) rfl ?_
          refine ez_iconst 182 dX12_meet_181 rfl (nI 0) (by decide) ?_
          refine ez_iload 184 dX12_meet_182 rfl rfl ?_
          refine ez_callV 187 [eI (nI a), eR 56 0, eI (nI 0), eI ((s_get q.1 q.2.1 a).2.2.2.1)] [] dX12_meet_184 rfl rfl ok_X12_lays in_X12_lays (by decide) (by show 0 < 1; omega) ln_X12_369 (by omega) (Nat.le_of_ble_eq_true rfl) (c_lays_56 g (d - 1) (T := s_get q.1 q.2.1 a) (n := 10) a 0 (s_get q.1 q.2.1 a).2.2.2.1 M1 (by omega) (by omega) (by omega) hA hKa (by omega)) (fun r184 M184 q184 => ?_)
          obtain ⟨rfl, R184, f184⟩ := q184
          have B184 := RMW_sp hB R184 f184 ⟨by unfold LF; omega, by unfold LF; omega, by unfold LF; omega, by unfold LF; omega, by unfold LF; omega, by unfold LF; omega, by unfold LF; omega, fun r hr => by unfold LF; omega⟩
          have KB := hKb.fx f184 (fun s _ _ => by unfold LF; omega)
          show Ez (true, g) mX12_meet d 187 [(8, eI (-1)), (7, eI (nI t)), (6, eI ((s_get q.1 q.2.1 b).2.2.2.1)), (5, eI ((s_get q.1 q.2.1 a).2.2.2.1)), (4, eI (nI b)), (3, eI (nI a)), (0, eR 12 0)] [] M184 _
          refine ez_aload_n 188 dX12_meet_187 rfl rfl ?_
          refine ez_iload 190 dX12_meet_188 rfl rfl ?_
          refine ez_aload_n 191 dX12_meet_190 rfl rfl ?_
          refine ez_getf 194 (eR 56 0) dX12_meet_191 rfl fl_X12_56 (by show 0 < 1; omega) rfl ?_
          refine ez_bipush 196 dX12_meet_194 rfl (nI 23) (by decide) ?_
          refine ez_iload 198 dX12_meet_196 rfl rfl ?_
          refine ez_callV 201 [eI (nI b), eR 56 0, eI (nI 23), eI ((s_get q.1 q.2.1 b).2.2.2.1)] [] dX12_meet_198 rfl rfl ok_X12_lays in_X12_lays (by decide) (by show 0 < 1; omega) ln_X12_369 (by omega) (Nat.le_of_ble_eq_true rfl) (c_lays_56 g (d - 1) (T := s_get q.1 q.2.1 b) (n := 10) b 23 (s_get q.1 q.2.1 b).2.2.2.1 M184 (by omega) (by omega) (by omega) B184 KB (by omega)) (fun r198 M198 q198 => ?_)
          obtain ⟨rfl, R198, f198⟩ := q198
          have A198 := RMW_sp R184 R198 f198 ⟨by unfold LF; omega, by unfold LF; omega, by unfold LF; omega, by unfold LF; omega, by unfold LF; omega, by unfold LF; omega, by unfold LF; omega, fun r hr => by unfold LF; omega⟩
          show Ez (true, g) mX12_meet d 201 [(8, eI (-1)), (7, eI (nI t)), (6, eI ((s_get q.1 q.2.1 b).2.2.2.1)), (5, eI ((s_get q.1 q.2.1 a).2.2.2.1)), (4, eI (nI b)), (3, eI (nI a)), (0, eR 12 0)] [] M198 _
          refine ez_iload 203 dX12_meet_201 rfl rfl ?_
          refine ez_iret .int dX12_meet_203 rfl rfl ?_
          have F9 : FX (CHT a b (q.2.1.2.1 a 1)) M M198 := (hF.tr (f184.up (fun k i s z => LF_ca z))).tr (f198.up (fun k i s z => LF_cb z))
          have eP : er_sp (s_get q.1 q.2.1 a) (s_get q.1 q.2.1 b) = s_get q.1 q.2.1 a := by
            show (_, _, _, _, _, q.1.2.2.2 (q.2.1.2.1 b 1)) = (_, _, _, _, _, q.1.2.2.2 (q.2.1.2.1 a 1))
            rw [hm]
            rfl
          have A9 : RMW (q.2.1.2.1 a 0) (q.2.1.2.1 a 1) (q.2.1.2.1 a 4) (s_get q.1 q.2.1 a) a M198 := by
            have z9 : RMW (q.2.1.2.1 a 0) (q.2.1.2.1 a 1) (q.2.1.2.1 a 4) (er_sp (s_get q.1 q.2.1 a) (s_get q.1 q.2.1 b)) a M198 := A198
            rw [eP] at z9
            exact z9
          have B9 : RMW (q.2.1.2.1 b 0) (q.2.1.2.1 b 1) (q.2.1.2.1 b 4) (s_get q.1 q.2.1 b) b M198 := by rw [hm]; exact R198
          refine ⟨?_, RM_back hC hm A9 B9 (by rw [f198 _ _ _ (by unfold LF; omega), f184 _ _ _ (by unfold LF; omega)]; exact h20) F9, F9.cht⟩
          rw [er_fst_none (p := fun k => decide ((s_mt q a b k).1.1 = (s_mt q a b k).2.1)) (fun j hj => decide_eq_false (if e : j = t then (by rw [e]; exact h117) else hj0 j (by omega)))]; rfl
        · exact absurd h164 (by omega)
      · refine ez_aload_n 129 dX12_meet_128 rfl rfl ?_
        refine ez_iload 131 dX12_meet_129 rfl rfl ?_
        refine ez_iconst 132 dX12_meet_131 rfl (nI 2) (by decide) ?_
        refine ez_irem 133 dX12_meet_132 rfl (by decide) ?_
        refine ez_top (nI (t % 2)) (pk_rem (by omega) (by omega) (by omega)) ?_
        refine ez_nif_ne 136 140 dX12_meet_133 rfl (by decide) (by omega) (fun h133 => ?_) (fun h133 => ?_)
        · refine ez_iload 142 dX12_meet_140 rfl rfl ?_
          refine ez_callV 145 [eI (nI b)] [] dX12_meet_142 rfl rfl ok_X12_steps1 in_X12_steps1 (by decide) (by show 0 < 1; omega) ln_X12_244 (by omega) (Nat.le_of_ble_eq_true rfl) (c_X12_steps1 g (d - 1) (S := (s_mt q a b t).2) (lt := s_lt q b) (bl := 0) (tf := q.2.2.2.2.1.2.2) b M1 (by omega) m0 m4 (by omega) (by omega) gzb w9.2 hB (by rw [el]; exact gZ.fx hF ⟨by unfold CHT SM; omega, fun x => by unfold CHT SM; omega⟩) qx (by omega) (gX.fx hF ⟨by unfold CHT SM; omega, by unfold CHT SM; omega, fun x hx => ⟨by unfold CHT SM; omega, fun i hi => by unfold CHT SM; omega⟩⟩) h20) (fun r142 M142 q142 => ?_)
          obtain ⟨rfl, R142, f142⟩ := q142
          have F142 := hF.tr (f142.up (fun k i s z => CHM_cb z))
          have h142 : M142.1 12 0 20 = nI 0 := by rw [f142 _ _ _ (by omega)]; exact h20
          have KA := hKa.fx f142 (fun s _ _ => by omega)
          have KB := hKb.fx f142 (fun s _ _ => by omega)
          have e142 := s_mt_o (q := q) (a := a) (b := b) (k := t) (by omega)
          have B142 : RMW (q.2.1.2.1 b 0) (q.2.1.2.1 a 1) (q.2.1.2.1 b 4) (s_mt q a b (t + 1)).2 b M142 := by rw [e142]; exact R142
          have A142 : RMW (q.2.1.2.1 a 0) (q.2.1.2.1 a 1) (q.2.1.2.1 a 4) (s_mt q a b (t + 1)).1 a M142 := by rw [e142]; exact RMW_sp hA R142 f142 ⟨by omega, by omega, by omega, by omega, by omega, by omega, by omega, fun r hr => by omega⟩
          show Ez (true, g) mX12_meet d 145 [(7, eI (nI t)), (6, eI ((s_get q.1 q.2.1 b).2.2.2.1)), (5, eI ((s_get q.1 q.2.1 a).2.2.2.1)), (4, eI (nI b)), (3, eI (nI a)), (0, eR 12 0)] [] M142 _
          refine ez_iinc 148 (nI (t + 1)) [(7, eI (nI (t + 1))), (6, eI ((s_get q.1 q.2.1 b).2.2.2.1)), (5, eI ((s_get q.1 q.2.1 a).2.2.2.1)), (4, eI (nI b)), (3, eI (nI a)), (0, eR 12 0)] dX12_meet_145 rfl rfl (nI_add t 1) (by decide) rfl ?_
          refine ez_goto 104 dX12_meet_148 (by decide) ?_
          exact ih (200 - (t + 1)) (by omega) (t + 1) _ rfl (by omega) A142 B142 KA KB h142 (fun j hj => by
            by_cases e : j = t
            · rw [e]; exact h117
            · exact hj0 j (by omega)) F142
        · refine ez_iload_n 137 dX12_meet_136 rfl rfl ?_
          refine ez_goto 142 dX12_meet_137 (by decide) ?_
          refine ez_callV 145 [eI (nI a)] [] dX12_meet_142 rfl rfl ok_X12_steps1 in_X12_steps1 (by decide) (by show 0 < 1; omega) ln_X12_244 (by omega) (Nat.le_of_ble_eq_true rfl) (c_X12_steps1 g (d - 1) (S := (s_mt q a b t).1) (lt := s_lt q a) (bl := 0) (tf := q.2.2.2.2.1.2.2) a M1 (by omega) k0 k4 (by omega) (by omega) gz w9.1 hA (gZ.fx hF ⟨by unfold CHT SM; omega, fun x => by unfold CHT SM; omega⟩) qx (by omega) (gX.fx hF ⟨by unfold CHT SM; omega, by unfold CHT SM; omega, fun x hx => ⟨by unfold CHT SM; omega, fun i hi => by unfold CHT SM; omega⟩⟩) h20) (fun r142 M142 q142 => ?_)
          obtain ⟨rfl, R142, f142⟩ := q142
          have F142 := hF.tr (f142.up (fun k i s z => CHM_ca z))
          have h142 : M142.1 12 0 20 = nI 0 := by rw [f142 _ _ _ (by omega)]; exact h20
          have KA := hKa.fx f142 (fun s _ _ => by omega)
          have KB := hKb.fx f142 (fun s _ _ => by omega)
          have e142 := s_mt_e (q := q) (a := a) (b := b) (k := t) (by omega)
          have A142 : RMW (q.2.1.2.1 a 0) (q.2.1.2.1 a 1) (q.2.1.2.1 a 4) (s_mt q a b (t + 1)).1 a M142 := by rw [e142]; exact R142
          have B142 : RMW (q.2.1.2.1 b 0) (q.2.1.2.1 a 1) (q.2.1.2.1 b 4) (s_mt q a b (t + 1)).2 b M142 := by rw [e142]; exact RMW_sp hB R142 f142 ⟨by omega, by omega, by omega, by omega, by omega, by omega, by omega, fun r hr => by omega⟩
          show Ez (true, g) mX12_meet d 145 [(7, eI (nI t)), (6, eI ((s_get q.1 q.2.1 b).2.2.2.1)), (5, eI ((s_get q.1 q.2.1 a).2.2.2.1)), (4, eI (nI b)), (3, eI (nI a)), (0, eR 12 0)] [] M142 _
          refine ez_iinc 148 (nI (t + 1)) [(7, eI (nI (t + 1))), (6, eI ((s_get q.1 q.2.1 b).2.2.2.1)), (5, eI ((s_get q.1 q.2.1 a).2.2.2.1)), (4, eI (nI b)), (3, eI (nI a)), (0, eR 12 0)] dX12_meet_145 rfl rfl (nI_add t 1) (by decide) rfl ?_
          refine ez_goto 104 dX12_meet_148 (by decide) ?_
          exact ih (200 - (t + 1)) (by omega) (t + 1) _ rfl (by omega) A142 B142 KA KB h142 (fun j hj => by
            by_cases e : j = t
            · rw [e]; exact h117
            · exact hj0 j (by omega)) F142
set_option maxRecDepth 20000 in
theorem c_X12_meet (g : EzH) (d : Nat) {q : EpS} (x y : Int32) (M : EzM) (hd : 67 ≤ d) (hW : WF q) (hC : RM q M) : Ezc (true, g) mX12_meet d [eR 12 0, eI x, eI y] M (fun r M' => r = some (eI (S_meet q x y)) ∧ RM q M' ∧ FX CM M M') := by
  refine Ezc.of (by decide +kernel) (Nat.le_of_ble_eq_true rfl) ?_
  have q8 := hW.2.1.1
  have q4 := hW.1.1
  have qx := hW.2.2.2.2.1
  show Ez (true, g) mX12_meet d 0 [(0, eR 12 0), (1, eI x), (2, eI y)] [] M _
  refine ez_aload_n 1 dX12_meet_0 rfl rfl ?_
  refine ez_iload_n 2 dX12_meet_1 rfl rfl ?_
  refine ez_callV 5 [eI x] [] dX12_meet_2 rfl rfl ok_X12_isWalker in_X12_isWalker (by decide) (by show 0 < 1; omega) ln_X12_236 (by omega) (Nat.le_of_ble_eq_true rfl) (c_X12_isWalker g (d - 1) x q.2.1.1 M (by omega) hC.2.1.1 (by omega)) (fun r2 M2 q2 => ?_)
  obtain ⟨e2, ⟨rfl, i2⟩ | ⟨j2, b2, rfl, rfl⟩⟩ := q2
  · rw [e2]
    show Ez (true, g) mX12_meet d 5 [(0, eR 12 0), (1, eI x), (2, eI y)] [eI (nI 0)] M _
    refine ez_nif_eq 8 36 dX12_meet_5 rfl (by decide) (by omega) (fun h5 => ?_) (fun h5 => ?_)
    · refine ez_bipush 38 dX12_meet_36 rfl (-2) (by decide) ?_
      refine ez_iret .int dX12_meet_38 rfl rfl ?_
      exact ⟨by simp [S_meet, i2], hC, FX.rf⟩
    · exact absurd h5 (by decide)
  · rw [e2]
    have i2 : ep_ix (nI j2) q.2.1.1 = some j2 := ep_ix_nI b2 (by omega)
    obtain ⟨k0, k1, k2, k3, k4, k5⟩ := hW.2.1.2 j2 b2
    have gR2 := g_RMW hC.1 hC.2.1 b2 k1
    have gS2 := g_WFS hW b2
    have n2 := (g_WFz hW.1 k1).2.1
    show Ez (true, g) mX12_meet d 5 [(0, eR 12 0), (1, eI (nI j2)), (2, eI y)] [eI (nI 1)] M _
    refine ez_nif_eq 8 36 dX12_meet_5 rfl (by decide) (by omega) (fun h5 => ?_) (fun h5 => ?_)
    · exact absurd h5 (by decide)
    · refine ez_aload_n 9 dX12_meet_8 rfl rfl ?_
      refine ez_iload_n 10 dX12_meet_9 rfl rfl ?_
      refine ez_callV 13 [eI y] [] dX12_meet_10 rfl rfl ok_X12_isWalker in_X12_isWalker (by decide) (by show 0 < 1; omega) ln_X12_236 (by omega) (Nat.le_of_ble_eq_true rfl) (c_X12_isWalker g (d - 1) y q.2.1.1 M (by omega) hC.2.1.1 (by omega)) (fun r10 M10 q10 => ?_)
      obtain ⟨e10, ⟨rfl, i10⟩ | ⟨j10, b10, rfl, rfl⟩⟩ := q10
      · rw [e10]
        show Ez (true, g) mX12_meet d 13 [(0, eR 12 0), (1, eI (nI j2)), (2, eI y)] [eI (nI 0)] M _
        refine ez_nif_eq 16 36 dX12_meet_13 rfl (by decide) (by omega) (fun h13 => ?_) (fun h13 => ?_)
        · refine ez_bipush 38 dX12_meet_36 rfl (-2) (by decide) ?_
          refine ez_iret .int dX12_meet_38 rfl rfl ?_
          exact ⟨by simp [S_meet, i2, i10], hC, FX.rf⟩
        · exact absurd h13 (by decide)
      · rw [e10]
        have i10 : ep_ix (nI j10) q.2.1.1 = some j10 := ep_ix_nI b10 (by omega)
        obtain ⟨m0, m1, m2, m3, m4, m5⟩ := hW.2.1.2 j10 b10
        have gR10 := g_RMW hC.1 hC.2.1 b10 m1
        have gS10 := g_WFS hW b10
        have n10 := (g_WFz hW.1 m1).2.1
        show Ez (true, g) mX12_meet d 13 [(0, eR 12 0), (1, eI (nI j2)), (2, eI (nI j10))] [eI (nI 1)] M _
        refine ez_nif_eq 16 36 dX12_meet_13 rfl (by decide) (by omega) (fun h13 => ?_) (fun h13 => ?_)
        · exact absurd h13 (by decide)
        · refine ez_iload_n 17 dX12_meet_16 rfl rfl ?_
          refine ez_iload_n 18 dX12_meet_17 rfl rfl ?_
          refine ez_ncmp_eq 21 36 dX12_meet_18 rfl (by decide) (by omega) (by omega) (fun h18 => ?_) (fun h18 => ?_)
          · refine ez_bipush 38 dX12_meet_36 rfl (-2) (by decide) ?_
            refine ez_iret .int dX12_meet_38 rfl rfl ?_
            exact ⟨by unfold S_meet; rw [i2, i10]; simp only []; rw [if_pos (Or.inl (by omega))], hC, FX.rf⟩
          · refine ez_aload_n 22 dX12_meet_21 rfl rfl ?_
            refine ez_getf 25 (eR 49 0) dX12_meet_22 rfl fl_X12_35 (by show 0 < 1; omega) rfl ?_
            refine ez_iload_n 26 dX12_meet_25 rfl rfl ?_
            refine ez_ialdN j2 27 dX12_meet_26 rfl (by decide) (by show 0 < 1; omega) (by show j2 < 8; omega) ?_
            refine ez_top (nI (q.2.1.2.1 j2 1)) gR2.2.1 ?_
            refine ez_aload_n 28 dX12_meet_27 rfl rfl ?_
            refine ez_getf 31 (eR 49 0) dX12_meet_28 rfl fl_X12_35 (by show 0 < 1; omega) rfl ?_
            refine ez_iload_n 32 dX12_meet_31 rfl rfl ?_
            refine ez_ialdN j10 33 dX12_meet_32 rfl (by decide) (by show 0 < 1; omega) (by show j10 < 8; omega) ?_
            refine ez_top (nI (q.2.1.2.1 j10 1)) gR10.2.1 ?_
            refine ez_ncmp_eq 36 39 dX12_meet_33 rfl (by decide) (by omega) (by omega) (fun h33 => ?_) (fun h33 => ?_)
            · refine ez_iload_n 40 dX12_meet_39 rfl rfl ?_
              refine ez_iload_n 41 dX12_meet_40 rfl rfl ?_
              refine ez_ncmp_ge 44 48 dX12_meet_41 rfl (by decide) (by omega) (by omega) (fun h41 => ?_) (fun h41 => ?_)
              · refine ez_iload_n 49 dX12_meet_48 rfl rfl ?_
                refine ez_istore_n 50 [(3, eI (nI j10)), (0, eR 12 0), (1, eI (nI j2)), (2, eI (nI j10))] dX12_meet_49 rfl (by decide) rfl ?_
                refine ez_iload_n 51 dX12_meet_50 rfl rfl ?_
                refine ez_iload_n 52 dX12_meet_51 rfl rfl ?_
                refine ez_ncmp_ge 55 59 dX12_meet_52 rfl (by decide) (by omega) (by omega) (fun h52 => ?_) (fun h52 => ?_)
                · refine ez_iload_n 60 dX12_meet_59 rfl rfl ?_
                  refine ez_istore 62 [(4, eI (nI j2)), (3, eI (nI j10)), (0, eR 12 0), (1, eI (nI j2)), (2, eI (nI j10))] dX12_meet_60 rfl (by decide) rfl ?_
                  refine ez_aload_n 63 dX12_meet_62 rfl rfl ?_
                  refine ez_getf 66 (eR 54 0) dX12_meet_63 rfl fl_X12_50 (by show 0 < 1; omega) rfl ?_
                  refine ez_iload_n 67 dX12_meet_66 rfl rfl ?_
                  refine ez_ialdN j10 68 dX12_meet_67 rfl (by decide) (by show 0 < 1; omega) (by show j10 < 8; omega) ?_
                  refine ez_top ((s_get q.1 q.2.1 j10).2.2.2.1) gR10.2.2.2.2.2.2.1 ?_
                  refine ez_istore 70 [(5, eI ((s_get q.1 q.2.1 j10).2.2.2.1)), (4, eI (nI j2)), (3, eI (nI j10)), (0, eR 12 0), (1, eI (nI j2)), (2, eI (nI j10))] dX12_meet_68 rfl (by decide) rfl ?_
                  refine ez_aload_n 71 dX12_meet_70 rfl rfl ?_
                  refine ez_getf 74 (eR 54 0) dX12_meet_71 rfl fl_X12_50 (by show 0 < 1; omega) rfl ?_
                  refine ez_iload 76 dX12_meet_74 rfl rfl ?_
                  refine ez_ialdN j2 77 dX12_meet_76 rfl (by decide) (by show 0 < 1; omega) (by show j2 < 8; omega) ?_
                  refine ez_top ((s_get q.1 q.2.1 j2).2.2.2.1) gR2.2.2.2.2.2.2.1 ?_
                  refine ez_istore 79 [(6, eI ((s_get q.1 q.2.1 j2).2.2.2.1)), (5, eI ((s_get q.1 q.2.1 j10).2.2.2.1)), (4, eI (nI j2)), (3, eI (nI j10)), (0, eR 12 0), (1, eI (nI j2)), (2, eI (nI j10))] dX12_meet_77 rfl (by decide) rfl ?_
                  refine ez_aload_n 80 dX12_meet_79 rfl rfl ?_
                  refine ez_iload_n 81 dX12_meet_80 rfl rfl ?_
                  refine ez_aload_n 82 dX12_meet_81 rfl rfl ?_
                  refine ez_getf 85 (eR 56 0) dX12_meet_82 rfl fl_X12_56 (by show 0 < 1; omega) rfl ?_
                  refine ez_iconst 86 dX12_meet_85 rfl (nI 0) (by decide) ?_
                  refine ez_callV 89 [eI (nI j10), eR 56 0, eI (nI 0)] [] dX12_meet_86 rfl rfl ok_X12_keeps in_X12_keeps (by decide) (by show 0 < 1; omega) ln_X12_365 (by omega) (Nat.le_of_ble_eq_true rfl) (c_keeps_56 g (d - 1) j10 0 M (by omega) (by omega) n10 gS10 gR10 (by omega)) (fun r86 M86 q86 => ?_)
                  obtain ⟨rfl, K86, f86⟩ := q86
                  show Ez (true, g) mX12_meet d 89 [(6, eI ((s_get q.1 q.2.1 j2).2.2.2.1)), (5, eI ((s_get q.1 q.2.1 j10).2.2.2.1)), (4, eI (nI j2)), (3, eI (nI j10)), (0, eR 12 0), (1, eI (nI j2)), (2, eI (nI j10))] [] M86 _
                  refine ez_aload_n 90 dX12_meet_89 rfl rfl ?_
                  refine ez_iload 92 dX12_meet_90 rfl rfl ?_
                  refine ez_aload_n 93 dX12_meet_92 rfl rfl ?_
                  refine ez_getf 96 (eR 56 0) dX12_meet_93 rfl fl_X12_56 (by show 0 < 1; omega) rfl ?_
                  refine ez_bipush 98 dX12_meet_96 rfl (nI 23) (by decide) ?_
                  refine ez_callV 101 [eI (nI j2), eR 56 0, eI (nI 23)] [] dX12_meet_98 rfl rfl ok_X12_keeps in_X12_keeps (by decide) (by show 0 < 1; omega) ln_X12_365 (by omega) (Nat.le_of_ble_eq_true rfl) (c_keeps_56 g (d - 1) j2 23 M86 (by omega) (by omega) n2 gS2 (gR2.fx f86 ⟨by unfold KF; omega, by unfold KF; omega, by unfold KF; omega, by unfold KF; omega, by unfold KF; omega, by unfold KF; omega, by unfold KF; omega, fun r hr => by unfold KF; omega⟩) (by omega)) (fun r98 M98 q98 => ?_)
                  obtain ⟨rfl, K98, f98⟩ := q98
                  show Ez (true, g) mX12_meet d 101 [(6, eI ((s_get q.1 q.2.1 j2).2.2.2.1)), (5, eI ((s_get q.1 q.2.1 j10).2.2.2.1)), (4, eI (nI j2)), (3, eI (nI j10)), (0, eR 12 0), (1, eI (nI j2)), (2, eI (nI j10))] [] M98 _
                  refine ez_iconst 102 dX12_meet_101 rfl (nI 0) (by decide) ?_
                  refine ez_istore 104 [(7, eI (nI 0)), (6, eI ((s_get q.1 q.2.1 j2).2.2.2.1)), (5, eI ((s_get q.1 q.2.1 j10).2.2.2.1)), (4, eI (nI j2)), (3, eI (nI j10)), (0, eR 12 0), (1, eI (nI j2)), (2, eI (nI j10))] dX12_meet_102 rfl (by decide) rfl ?_
                  have hm9 : q.2.1.2.1 j2 1 = q.2.1.2.1 j10 1 := by omega
                  have F98 : FX (CHT j10 j2 (q.2.1.2.1 j10 1)) M M98 := (f86.up (fun k i s z => KF_cht (by omega) z)).tr (f98.up (fun k i s z => KF_cht (by omega) z))
                  have RA9 := (gR10.fx f86 ⟨by unfold KF; omega, by unfold KF; omega, by unfold KF; omega, by unfold KF; omega, by unfold KF; omega, by unfold KF; omega, by unfold KF; omega, fun r hr => by unfold KF; omega⟩).fx f98 ⟨by unfold KF; omega, by unfold KF; omega, by unfold KF; omega, by unfold KF; omega, by unfold KF; omega, by unfold KF; omega, by unfold KF; omega, fun r hr => by unfold KF; omega⟩
                  have RB9 := (gR2.fx f86 ⟨by unfold KF; omega, by unfold KF; omega, by unfold KF; omega, by unfold KF; omega, by unfold KF; omega, by unfold KF; omega, by unfold KF; omega, fun r hr => by unfold KF; omega⟩).fx f98 ⟨by unfold KF; omega, by unfold KF; omega, by unfold KF; omega, by unfold KF; omega, by unfold KF; omega, by unfold KF; omega, by unfold KF; omega, fun r hr => by unfold KF; omega⟩
                  have SM9 : S_meet q (nI j2) (nI j10) = ep_oi (er_fst (fun k => decide ((s_mt q j10 j2 k).1.1 = (s_mt q j10 j2 k).2.1)) 201) := by
                    unfold S_meet
                    rw [i2, i10]
                    simp only []
                    rw [if_neg (fun z => z.elim (fun z1 => by omega) (fun z2 => z2 (by omega)))]
                    rw [Nat.min_eq_right (show j10 ≤ j2 by omega), Nat.max_eq_left (show j10 ≤ j2 by omega)]
                  rw [SM9]
                  refine ez_drop [(7, eI (nI 0)), (6, eI (s_get q.1 q.2.1 j2).2.2.2.1), (5, eI (s_get q.1 q.2.1 j10).2.2.2.1), (4, eI (nI j2)), (3, eI (nI j10)), (0, eR 12 0)] (by simp) ?_
                  exact lp_mmeet g d j10 j2 M hd hW hC b10 b2 hm9 (by omega) _ 0 _ rfl (by omega) RA9 (by rw [hm9] at RB9; exact RB9) (K86.fx f98 (fun s _ _ => by unfold KF; omega)) K98 (by rw [f98 _ _ _ (by unfold KF; omega), f86 _ _ _ (by unfold KF; omega)]; exact hC.2.2.2.2.2.2) (fun j hj => by omega) F98
                · omega
              · refine ez_iload_n 45 dX12_meet_44 rfl rfl ?_
                refine ez_goto 49 dX12_meet_45 (by decide) ?_
                refine ez_istore_n 50 [(3, eI (nI j2)), (0, eR 12 0), (1, eI (nI j2)), (2, eI (nI j10))] dX12_meet_49 rfl (by decide) rfl ?_
                refine ez_iload_n 51 dX12_meet_50 rfl rfl ?_
                refine ez_iload_n 52 dX12_meet_51 rfl rfl ?_
                refine ez_ncmp_ge 55 59 dX12_meet_52 rfl (by decide) (by omega) (by omega) (fun h52 => ?_) (fun h52 => ?_)
                · omega
                · refine ez_iload_n 56 dX12_meet_55 rfl rfl ?_
                  refine ez_goto 60 dX12_meet_56 (by decide) ?_
                  refine ez_istore 62 [(4, eI (nI j10)), (3, eI (nI j2)), (0, eR 12 0), (1, eI (nI j2)), (2, eI (nI j10))] dX12_meet_60 rfl (by decide) rfl ?_
                  refine ez_aload_n 63 dX12_meet_62 rfl rfl ?_
                  refine ez_getf 66 (eR 54 0) dX12_meet_63 rfl fl_X12_50 (by show 0 < 1; omega) rfl ?_
                  refine ez_iload_n 67 dX12_meet_66 rfl rfl ?_
                  refine ez_ialdN j2 68 dX12_meet_67 rfl (by decide) (by show 0 < 1; omega) (by show j2 < 8; omega) ?_
                  refine ez_top ((s_get q.1 q.2.1 j2).2.2.2.1) gR2.2.2.2.2.2.2.1 ?_
                  refine ez_istore 70 [(5, eI ((s_get q.1 q.2.1 j2).2.2.2.1)), (4, eI (nI j10)), (3, eI (nI j2)), (0, eR 12 0), (1, eI (nI j2)), (2, eI (nI j10))] dX12_meet_68 rfl (by decide) rfl ?_
                  refine ez_aload_n 71 dX12_meet_70 rfl rfl ?_
                  refine ez_getf 74 (eR 54 0) dX12_meet_71 rfl fl_X12_50 (by show 0 < 1; omega) rfl ?_
                  refine ez_iload 76 dX12_meet_74 rfl rfl ?_
                  refine ez_ialdN j10 77 dX12_meet_76 rfl (by decide) (by show 0 < 1; omega) (by show j10 < 8; omega) ?_
                  refine ez_top ((s_get q.1 q.2.1 j10).2.2.2.1) gR10.2.2.2.2.2.2.1 ?_
                  refine ez_istore 79 [(6, eI ((s_get q.1 q.2.1 j10).2.2.2.1)), (5, eI ((s_get q.1 q.2.1 j2).2.2.2.1)), (4, eI (nI j10)), (3, eI (nI j2)), (0, eR 12 0), (1, eI (nI j2)), (2, eI (nI j10))] dX12_meet_77 rfl (by decide) rfl ?_
                  refine ez_aload_n 80 dX12_meet_79 rfl rfl ?_
                  refine ez_iload_n 81 dX12_meet_80 rfl rfl ?_
                  refine ez_aload_n 82 dX12_meet_81 rfl rfl ?_
                  refine ez_getf 85 (eR 56 0) dX12_meet_82 rfl fl_X12_56 (by show 0 < 1; omega) rfl ?_
                  refine ez_iconst 86 dX12_meet_85 rfl (nI 0) (by decide) ?_
                  refine ez_callV 89 [eI (nI j2), eR 56 0, eI (nI 0)] [] dX12_meet_86 rfl rfl ok_X12_keeps in_X12_keeps (by decide) (by show 0 < 1; omega) ln_X12_365 (by omega) (Nat.le_of_ble_eq_true rfl) (c_keeps_56 g (d - 1) j2 0 M (by omega) (by omega) n2 gS2 gR2 (by omega)) (fun r86 M86 q86 => ?_)
                  obtain ⟨rfl, K86, f86⟩ := q86
                  show Ez (true, g) mX12_meet d 89 [(6, eI ((s_get q.1 q.2.1 j10).2.2.2.1)), (5, eI ((s_get q.1 q.2.1 j2).2.2.2.1)), (4, eI (nI j10)), (3, eI (nI j2)), (0, eR 12 0), (1, eI (nI j2)), (2, eI (nI j10))] [] M86 _
                  refine ez_aload_n 90 dX12_meet_89 rfl rfl ?_
                  refine ez_iload 92 dX12_meet_90 rfl rfl ?_
                  refine ez_aload_n 93 dX12_meet_92 rfl rfl ?_
                  refine ez_getf 96 (eR 56 0) dX12_meet_93 rfl fl_X12_56 (by show 0 < 1; omega) rfl ?_
                  refine ez_bipush 98 dX12_meet_96 rfl (nI 23) (by decide) ?_
                  refine ez_callV 101 [eI (nI j10), eR 56 0, eI (nI 23)] [] dX12_meet_98 rfl rfl ok_X12_keeps in_X12_keeps (by decide) (by show 0 < 1; omega) ln_X12_365 (by omega) (Nat.le_of_ble_eq_true rfl) (c_keeps_56 g (d - 1) j10 23 M86 (by omega) (by omega) n10 gS10 (gR10.fx f86 ⟨by unfold KF; omega, by unfold KF; omega, by unfold KF; omega, by unfold KF; omega, by unfold KF; omega, by unfold KF; omega, by unfold KF; omega, fun r hr => by unfold KF; omega⟩) (by omega)) (fun r98 M98 q98 => ?_)
                  obtain ⟨rfl, K98, f98⟩ := q98
                  show Ez (true, g) mX12_meet d 101 [(6, eI ((s_get q.1 q.2.1 j10).2.2.2.1)), (5, eI ((s_get q.1 q.2.1 j2).2.2.2.1)), (4, eI (nI j10)), (3, eI (nI j2)), (0, eR 12 0), (1, eI (nI j2)), (2, eI (nI j10))] [] M98 _
                  refine ez_iconst 102 dX12_meet_101 rfl (nI 0) (by decide) ?_
                  refine ez_istore 104 [(7, eI (nI 0)), (6, eI ((s_get q.1 q.2.1 j10).2.2.2.1)), (5, eI ((s_get q.1 q.2.1 j2).2.2.2.1)), (4, eI (nI j10)), (3, eI (nI j2)), (0, eR 12 0), (1, eI (nI j2)), (2, eI (nI j10))] dX12_meet_102 rfl (by decide) rfl ?_
                  have hm9 : q.2.1.2.1 j10 1 = q.2.1.2.1 j2 1 := by omega
                  have F98 : FX (CHT j2 j10 (q.2.1.2.1 j2 1)) M M98 := (f86.up (fun k i s z => KF_cht (by omega) z)).tr (f98.up (fun k i s z => KF_cht (by omega) z))
                  have RA9 := (gR2.fx f86 ⟨by unfold KF; omega, by unfold KF; omega, by unfold KF; omega, by unfold KF; omega, by unfold KF; omega, by unfold KF; omega, by unfold KF; omega, fun r hr => by unfold KF; omega⟩).fx f98 ⟨by unfold KF; omega, by unfold KF; omega, by unfold KF; omega, by unfold KF; omega, by unfold KF; omega, by unfold KF; omega, by unfold KF; omega, fun r hr => by unfold KF; omega⟩
                  have RB9 := (gR10.fx f86 ⟨by unfold KF; omega, by unfold KF; omega, by unfold KF; omega, by unfold KF; omega, by unfold KF; omega, by unfold KF; omega, by unfold KF; omega, fun r hr => by unfold KF; omega⟩).fx f98 ⟨by unfold KF; omega, by unfold KF; omega, by unfold KF; omega, by unfold KF; omega, by unfold KF; omega, by unfold KF; omega, by unfold KF; omega, fun r hr => by unfold KF; omega⟩
                  have SM9 : S_meet q (nI j2) (nI j10) = ep_oi (er_fst (fun k => decide ((s_mt q j2 j10 k).1.1 = (s_mt q j2 j10 k).2.1)) 201) := by
                    unfold S_meet
                    rw [i2, i10]
                    simp only []
                    rw [if_neg (fun z => z.elim (fun z1 => by omega) (fun z2 => z2 (by omega)))]
                    rw [Nat.min_eq_left (show j2 ≤ j10 by omega), Nat.max_eq_right (show j2 ≤ j10 by omega)]
                  rw [SM9]
                  refine ez_drop [(7, eI (nI 0)), (6, eI (s_get q.1 q.2.1 j10).2.2.2.1), (5, eI (s_get q.1 q.2.1 j2).2.2.2.1), (4, eI (nI j10)), (3, eI (nI j2)), (0, eR 12 0)] (by simp) ?_
                  exact lp_mmeet g d j2 j10 M hd hW hC b2 b10 hm9 (by omega) _ 0 _ rfl (by omega) RA9 (by rw [hm9] at RB9; exact RB9) (K86.fx f98 (fun s _ _ => by unfold KF; omega)) K98 (by rw [f98 _ _ _ (by unfold KF; omega), f86 _ _ _ (by unfold KF; omega)]; exact hC.2.2.2.2.2.2) (fun j hj => by omega) F98
            · refine ez_bipush 38 dX12_meet_36 rfl (-2) (by decide) ?_
              refine ez_iret .int dX12_meet_38 rfl rfl ?_
              exact ⟨by unfold S_meet; rw [i2, i10]; simp only []; rw [if_pos (Or.inr (by omega))], hC, FX.rf⟩
