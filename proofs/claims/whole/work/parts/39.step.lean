/-! one step: its meaning; the class's goOneStep -/
def ep_mid (S : EpW) (bg : Int32) (lie : Nat) : EpW := (S.1, S.2.1, bg, S.2.2.2.1, S.2.2.2.2.1, va_up S.2.2.2.2.2 S.1 lie)
def ep_pass (lt : Nat → Int32) (S : EpW) (o : Option Nat) : EpW := match o with
  | none => S
  | some c => ((lt (4 * S.1 + c)).toNatClampNeg / 10, (lt (4 * S.1 + c)).toNatClampNeg % 10, S.2.2.1, S.2.2.2.1 + nI 1, va_up S.2.2.2.2.1 S.1 (S.2.2.2.2.1 S.1 ||| 2 ^ c), S.2.2.2.2.2)
def ep_hp (S : EpW) : Nat := if 0 < S.2.2.2.2.2 S.1 then 1 else 0
def ep_dr (lt : Nat → Int32) (kind num : Nat) (go : Int32) (S : EpW) : Option Nat := ep_wt kind S.2.1 num (ep_dn lt S.1) (S.2.2.2.2.1 S.1) (ep_hp S) go
def ep_take (lt : Nat → Int32) (tv : Nat → EpV) (bl num : Nat) (S : EpW) : Int32 × Nat := if 0 < S.2.2.2.2.2 S.1 ∧ ¬ tv 2 (ep_nm lt bl num S) = 0 then (S.2.2.1 + nI 1, S.2.2.2.2.2 S.1 - 1) else if 0 < S.2.2.1 ∧ S.2.2.2.2.2 S.1 < 99 ∧ ¬ tv 1 (ep_nm lt bl num S) = 0 then (S.2.2.1 - nI 1, S.2.2.2.2.2 S.1 + 1) else (S.2.2.1, S.2.2.2.2.2 S.1)
def ep_fin (lt : Nat → Int32) (tv : Nat → EpV) (bl kind num : Nat) (S : EpW) : EpW := ep_pass lt S (ep_dr lt kind num (tv 0 (ep_nm lt bl num S)) S)
def ep_step (lt : Nat → Int32) (tv : Nat → EpV) (bl kind num : Nat) (S : EpW) : EpW := ep_fin lt tv bl kind num (ep_mid S (ep_take lt tv bl num S).1 (ep_take lt tv bl num S).2)
theorem ep_ff_in {x f c : Nat} (h : ep_ff x f = some c) : c < 4 ∧ ep_b x c = 1 := by
  unfold ep_ff at h
  have key : ∀ j, (if ep_b x (j % 4) = 1 then some (j % 4) else none) = some c → c < 4 ∧ ep_b x c = 1 := by
    intro j hj
    by_cases q : ep_b x (j % 4) = 1
    · rw [if_pos q] at hj; cases hj; exact ⟨Nat.mod_lt _ (by decide), q⟩
    · rw [if_neg q] at hj; cases hj
  by_cases q0 : ep_b x ((f + 0) % 4) = 1
  · exact key (f + 0) (by rw [if_pos q0] at h ⊢; exact h)
  rw [if_neg q0] at h
  by_cases q1 : ep_b x ((f + 1) % 4) = 1
  · exact key (f + 1) (by rw [if_pos q1] at h ⊢; exact h)
  rw [if_neg q1] at h
  by_cases q2 : ep_b x ((f + 2) % 4) = 1
  · exact key (f + 2) (by rw [if_pos q2] at h ⊢; exact h)
  rw [if_neg q2] at h
  exact key (f + 3) h
theorem ep_gr_in {x c : Nat} (h : ep_gr x = some c) : c < 4 ∧ ep_b x c = 1 := by
  unfold ep_gr at h
  by_cases q3 : ep_b x 3 = 1
  · rw [if_pos q3] at h; cases h; exact ⟨by decide, q3⟩
  rw [if_neg q3] at h
  by_cases q2 : ep_b x 2 = 1
  · rw [if_pos q2] at h; cases h; exact ⟨by decide, q2⟩
  rw [if_neg q2] at h
  by_cases q1 : ep_b x 1 = 1
  · rw [if_pos q1] at h; cases h; exact ⟨by decide, q1⟩
  rw [if_neg q1] at h
  by_cases q0 : ep_b x 0 = 1
  · rw [if_pos q0] at h; cases h; exact ⟨by decide, q0⟩
  rw [if_neg q0] at h
  cases h
theorem ep_fr_b : ∀ a, a < 16 → ∀ b, b < 16 → ∀ j, j < 4 → ep_b (ep_fr a b) j = 1 → ep_b a j = 1 := by decide +kernel
theorem ep_wt_in {kind came num dn gn hp c : Nat} {go : Int32} (hd : dn < 16) (hg : gn < 16) (hc : came < 4) (h : ep_wt kind came num dn gn hp go = some c) : c < 4 ∧ ep_b dn c = 1 := by
  have f1 : ∀ {f}, ep_ff (ep_fr dn gn) f = some c → c < 4 ∧ ep_b dn c = 1 := fun q => ⟨(ep_ff_in q).1, ep_fr_b dn hd gn hg c (ep_ff_in q).1 (ep_ff_in q).2⟩
  have f2 : ep_gr (ep_fr dn gn) = some c → c < 4 ∧ ep_b dn c = 1 := fun q => ⟨(ep_gr_in q).1, ep_fr_b dn hd gn hg c (ep_gr_in q).1 (ep_gr_in q).2⟩
  unfold ep_wt at h
  by_cases k1 : kind = 1
  · rw [if_pos k1] at h; exact ep_ff_in h
  rw [if_neg k1] at h
  by_cases k3 : kind = 3
  · rw [if_pos k3] at h; exact ep_ff_in h
  rw [if_neg k3] at h
  by_cases k2 : kind = 2
  · rw [if_pos k2] at h
    by_cases q : ep_fr dn gn = 0
    · rw [if_pos q] at h; exact ep_ff_in h
    · rw [if_neg q] at h; exact f1 h
  rw [if_neg k2] at h
  by_cases k5 : kind = 5
  · rw [if_pos k5] at h
    by_cases q : ep_fr dn gn = 0
    · rw [if_pos q] at h; exact ep_ff_in h
    · rw [if_neg q] at h; exact f2 h
  rw [if_neg k5] at h
  by_cases k4 : kind = 4
  · rw [if_pos k4] at h
    by_cases z : 0 < hp ∧ ep_b dn came = 1
    · rw [if_pos z] at h; cases h; exact ⟨hc, z.2⟩
    rw [if_neg z] at h
    by_cases q : ep_fr dn gn = 0
    · rw [if_pos q] at h; exact ep_ff_in h
    · rw [if_neg q] at h; exact f1 h
  rw [if_neg k4] at h
  exact ep_ff_in h
theorem ep_dn_b (lt : Nat → Int32) (r : Nat) {c : Nat} (hc : c < 4) : ep_b (ep_dn lt r) c = 1 ↔ ¬ lt (4 * r + c) = -1 := by
  unfold ep_dn ep_b
  rcases (show c = 0 ∨ c = 1 ∨ c = 2 ∨ c = 3 by omega) with rfl | rfl | rfl | rfl
  · rw [Nat.add_zero]
    by_cases q0 : lt (4 * r) = -1 <;> by_cases q1 : lt (4 * r + 1) = -1 <;> by_cases q2 : lt (4 * r + 2) = -1 <;> by_cases q3 : lt (4 * r + 3) = -1 <;> simp [q0, q1, q2, q3]
  all_goals by_cases q0 : lt (4 * r) = -1 <;> by_cases q1 : lt (4 * r + 1) = -1 <;> by_cases q2 : lt (4 * r + 2) = -1 <;> by_cases q3 : lt (4 * r + 3) = -1 <;> simp [q0, q1, q2, q3]
theorem ep_or16 : ∀ g, g < 16 → ∀ c, c < 4 → (nI g ||| (nI 1 <<< (nI c &&& 31))) = nI (g ||| 2 ^ c) ∧ g ||| 2 ^ c < 16 := by decide +kernel
theorem ep_dr_to {n : Nat} {lt : Nat → Int32} {S : EpW} {kind num c : Nat} {go : Int32} (hz : WFz n lt) (hS : WFS n S) (h : ep_dr lt kind num go S = some c) : c < 4 ∧ ∃ r1 c1, r1 < n ∧ c1 < 4 ∧ lt (4 * S.1 + c) = nI (10 * r1 + c1) := by
  have hr : S.1 < 10 := by have := hS.1; have := hz.2.1; omega
  obtain ⟨a1, a2⟩ := ep_wt_in (ep_dn16 lt S.1) (hS.2.2 S.1 hr).1 hS.2.1 h
  refine ⟨a1, ?_⟩
  rcases hz.2.2 S.1 c hr a1 with q | ⟨_, r1, c1, b1, b2, b3⟩
  · exact absurd q ((ep_dn_b lt S.1 a1).mp a2)
  · exact ⟨r1, c1, b1, b2, b3⟩
theorem WFS_pass {n : Nat} {lt : Nat → Int32} {S : EpW} {kind num : Nat} {go : Int32} (hz : WFz n lt) (hS : WFS n S) : WFS n (ep_pass lt S (ep_dr lt kind num go S)) := by
  cases h : ep_dr lt kind num go S with
  | none => exact hS
  | some c =>
    obtain ⟨h4, r1, c1, b1, b2, b3⟩ := ep_dr_to hz hS h
    have hn := hz.2.1
    show WFS n (_, _, _, _, _, _)
    rw [b3, nI_clamp (by omega)]
    refine ⟨by show (10 * r1 + c1) / 10 < n; omega, by show (10 * r1 + c1) % 10 < 4; omega, fun r hr => ⟨?_, (hS.2.2 r hr).2⟩⟩
    show va_up S.2.2.2.2.1 S.1 _ r < 16
    by_cases e : r = S.1
    · rw [e, va_up_self]; exact (ep_or16 _ (hS.2.2 S.1 (by rw [← e]; exact hr)).1 c h4).2
    · rw [va_up_ne _ _ e]; exact (hS.2.2 r hr).1
theorem WFS_mid {n : Nat} {S : EpW} {bg : Int32} {lie : Nat} (hS : WFS n S) (hl : lie ≤ 99) : WFS n (ep_mid S bg lie) := by
  refine ⟨hS.1, hS.2.1, fun r hr => ⟨(hS.2.2 r hr).1, ?_⟩⟩
  show va_up S.2.2.2.2.2 S.1 lie r ≤ 99
  by_cases e : r = S.1
  · rw [e, va_up_self]; exact hl
  · rw [va_up_ne _ _ e]; exact (hS.2.2 r hr).2
theorem ep_take_le {n : Nat} {lt : Nat → Int32} {tv : Nat → EpV} {bl num : Nat} {S : EpW} (hz : n ≤ 10) (hS : WFS n S) : (ep_take lt tv bl num S).2 ≤ 99 := by
  have h := (hS.2.2 S.1 (by have := hS.1; omega)).2
  unfold ep_take
  by_cases q : 0 < S.2.2.2.2.2 S.1 ∧ ¬ tv 2 (ep_nm lt bl num S) = 0
  · rw [if_pos q]; show S.2.2.2.2.2 S.1 - 1 ≤ 99; omega
  rw [if_neg q]
  by_cases q2 : 0 < S.2.2.1 ∧ S.2.2.2.2.2 S.1 < 99 ∧ ¬ tv 1 (ep_nm lt bl num S) = 0
  · rw [if_pos q2]; show S.2.2.2.2.2 S.1 + 1 ≤ 99; have := q2.2.1; omega
  · rw [if_neg q2]; exact h
theorem WFS_step {n : Nat} {lt : Nat → Int32} {tv : Nat → EpV} {bl kind num : Nat} {S : EpW} (hz : WFz n lt) (hS : WFS n S) : WFS n (ep_step lt tv bl kind num S) := WFS_pass hz (WFS_mid hS (ep_take_le hz.2.1 hS))
theorem RCW_lie {kind mz num wi pi : Nat} {S : EpW} {M : EzM} {lie : Nat} (h : RCW kind mz num S wi pi M) : RCW kind mz num (ep_mid S S.2.2.1 lie) wi pi (ez_st M 20 pi S.1 (nI lie)) := by
  obtain ⟨a0, a1, a2, a3, a4, a5, a6, a7⟩ := h
  refine ⟨a0, a1, a2, a3, a4, a5, a6, fun r hr => ⟨(a7 r hr).1, ?_⟩⟩
  rw [ez_rd]
  show _ = nI (va_up S.2.2.2.2.2 S.1 lie r)
  by_cases e : r = S.1
  · rw [if_pos ⟨rfl, rfl, e⟩, e, va_up_self]
  · rw [if_neg (fun z => e z.2.2), va_up_ne _ _ e]; exact (a7 r hr).2
theorem RCW_bag {kind mz num wi pi : Nat} {S : EpW} {M : EzM} {bg : Int32} (h : RCW kind mz num S wi pi M) : RCW kind mz num (S.1, S.2.1, bg, S.2.2.2.1, S.2.2.2.2.1, S.2.2.2.2.2) wi pi (ez_st M 10 wi 5 bg) := by
  obtain ⟨a0, a1, a2, a3, a4, a5, a6, a7⟩ := h
  exact ⟨by simp [ez_rd, a0], by simp [ez_rd, a1], by simp [ez_rd, a2], by simp [ez_rd, a3], by simp [ez_rd, a4], by simp [ez_rd], by simp [ez_rd, a6], a7⟩
set_option maxRecDepth 20000 in
theorem c_X10_goThrough (G : EzG) (d : Nat) {kind mz num : Nat} {S : EpW} {n : Nat} (wi pi c a b : Nat) (M : EzM) (hd : 2 ≤ d) (hwi : wi < 18) (hn : n ≤ 10) (hc : c < 4) (hS : WFS n S) (hR : RCW kind mz num S wi pi M) : Ezc G mX10_goThrough d [eR 10 wi, eI (nI c), eI (nI a), eI (nI b)] M (fun r M' => r = none ∧ RCW kind mz num (a, b, S.2.2.1, S.2.2.2.1 + nI 1, va_up S.2.2.2.2.1 S.1 (S.2.2.2.2.1 S.1 ||| 2 ^ c), S.2.2.2.2.2) wi pi M' ∧ FX (fun k i s => (k = 10 ∧ i = wi ∧ (s = 2 ∨ s = 3 ∨ s = 5 ∨ s = 6)) ∨ (k = 21 ∧ i = wi) ∨ (k = 20 ∧ i = pi) ∨ k = 23 ∨ k = 24) M M' ∧ M'.2 = M.2) := by
  refine Ezc.of (by decide +kernel) (Nat.le_of_ble_eq_true rfl) ?_
  have s1 := hS.1
  have g16 := (hS.2.2 S.1 (by omega)).1
  show Ez G mX10_goThrough d 0 [(0, eR 10 wi), (1, eI (nI c)), (2, eI (nI a)), (3, eI (nI b))] [] M _
  refine ez_aload_n 1 dX10_goThrough_0 rfl rfl ?_
  refine ez_getf 4 (eR 21 wi) dX10_goThrough_1 rfl fl_X10_9 (by show wi < 18; omega) rfl ?_
  refine ez_aload_n 5 dX10_goThrough_4 rfl rfl ?_
  refine ez_getf 8 (eI (M.1 10 wi 2)) dX10_goThrough_5 rfl fl_X10_22 (by show wi < 18; omega) rfl ?_
  refine ez_top (nI S.1) hR.2.2.1 ?_
  refine ez_aload_n 9 dX10_goThrough_8 rfl rfl ?_
  refine ez_callV 12 [] [eI (nI S.1), eR 21 wi] dX10_goThrough_9 rfl rfl ok_X10_goneFromHere in_X10_goneFromHere (by decide) (by show wi < 18; omega) ln_X10_45 (by omega) (Nat.le_of_ble_eq_true rfl) (c_X10_goneFromHere G (d - 1) wi pi M (by omega) (by omega) (by omega) hS hR) (fun r9 M9 q9 => ?_)
  obtain ⟨rfl, e9⟩ := q9
  rw [e9]
  show Ez G mX10_goThrough d 12 [(0, eR 10 wi), (1, eI (nI c)), (2, eI (nI a)), (3, eI (nI b))] [eI (nI (S.2.2.2.2.1 S.1)), eI (nI S.1), eR 21 wi] M _
  refine ez_iconst 13 dX10_goThrough_12 rfl (nI 1) (by decide) ?_
  refine ez_iload_n 14 dX10_goThrough_13 rfl rfl ?_
  refine ez_ishl 15 dX10_goThrough_14 rfl ?_
  refine ez_ior 16 dX10_goThrough_15 rfl ?_
  refine ez_top (nI (S.2.2.2.2.1 S.1 ||| 2 ^ c)) (ep_or16 _ g16 c hc).1 ?_
  refine ez_callSN 19 [eR 21 wi, eI (nI S.1), eI (nI (S.2.2.2.2.1 S.1 ||| 2 ^ c))] [] dX10_goThrough_16 rfl rfl ok_X11_setItem st_X11_setItem "ElevenPebbles" nn_X10_49 (by omega) (Nat.le_of_ble_eq_true rfl) (c_setItem_n G (d - 1) 21 wi S.1 (nI (S.2.2.2.2.1 S.1 ||| 2 ^ c)) M (by decide) (by show wi < 18; omega) (by show S.1 < 10; omega)) (fun r16 M16 q16 => ?_)
  obtain ⟨rfl, e16⟩ := q16
  rw [e16]
  show Ez G mX10_goThrough d 19 [(0, eR 10 wi), (1, eI (nI c)), (2, eI (nI a)), (3, eI (nI b))] [] (ez_st M 21 wi S.1 (nI (S.2.2.2.2.1 S.1 ||| 2 ^ c))) _
  refine ez_aload_n 20 dX10_goThrough_19 rfl rfl ?_
  refine ez_iload_n 21 dX10_goThrough_20 rfl rfl ?_
  refine ez_putf 24 .int dX10_goThrough_21 rfl fp_X10_22 (by show wi < 18; omega) rfl (by decide) rfl rfl ?_
  refine ez_aload_n 25 dX10_goThrough_24 rfl rfl ?_
  refine ez_iload_n 26 dX10_goThrough_25 rfl rfl ?_
  refine ez_putf 29 .int dX10_goThrough_26 rfl fp_X10_25 (by show wi < 18; omega) rfl (by decide) rfl rfl ?_
  refine ez_aload_n 30 dX10_goThrough_29 rfl rfl ?_
  refine ez_dup 31 dX10_goThrough_30 rfl rfl ?_
  refine ez_getf 34 (eI ((ez_st (ez_st (ez_st M 21 wi S.1 (nI (S.2.2.2.2.1 S.1 ||| 2 ^ c))) 10 wi 2 (nI a)) 10 wi 3 (nI b)).1 10 wi 6)) dX10_goThrough_31 rfl fl_X10_34 (by show wi < 18; omega) rfl ?_
  refine ez_top (M.1 10 wi 6) (by simp [ez_rd]) ?_
  refine ez_top S.2.2.2.1 hR.2.2.2.2.2.2.1 ?_
  refine ez_iconst 35 dX10_goThrough_34 rfl (nI 1) (by decide) ?_
  refine ez_iadd 36 dX10_goThrough_35 rfl ?_
  refine ez_putf 39 .int dX10_goThrough_36 rfl fp_X10_34 (by show wi < 18; omega) rfl (by decide) rfl rfl ?_
  refine ez_vret dX10_goThrough_39 rfl ?_
  obtain ⟨a0, a1, a2, a3, a4, a5, a6, a7⟩ := hR
  refine ⟨rfl, ⟨by simp [ez_rd, a0], by simp [ez_rd, a1], by simp [ez_rd], by simp [ez_rd], by simp [ez_rd, a4], by simp [ez_rd, a5], by simp [ez_rd], fun r hr => ⟨?_, by simp [ez_rd]; exact (a7 r hr).2⟩⟩, (((FX.rf.st (by omega)).st (by omega)).st (by omega)).st (by omega), rfl⟩
  rw [ez_rd, if_neg (by omega), ez_rd, if_neg (by omega), ez_rd, if_neg (by omega), ez_rd]
  show _ = nI (va_up S.2.2.2.2.1 S.1 (S.2.2.2.2.1 S.1 ||| 2 ^ c) r)
  by_cases e : r = S.1
  · rw [if_pos ⟨rfl, rfl, e⟩, e, va_up_self]
  · rw [if_neg (fun z => e z.2.2), va_up_ne _ _ e]; exact (a7 r hr).1
set_option maxRecDepth 20000 in
theorem gs_84 (G : EzG) (d : Nat) {kind mz num : Nat} {S : EpW} {n : Nat} {lt : Nat → Int32} {bl xc xr : Nat} {tf : Nat → EpF} (wi pi m lie : Nat) (M : EzM) (hd : 6 ≤ d) (hwi : wi < 18) (hpi : pi < 9) (hm : m < 4) (hkd : kind < 6) (hnum : num ≤ 9) (hz : WFz n lt) (hS : WFS n S) (hW : WFx xc xr tf) (hb2 : bl < 2) (hR : RCW kind mz num S wi pi M) (hZ : RCz m n lt M) (hX : RCx xc xr tf M) (hbl : M.1 5 0 2 = nI bl) (hl : lie ≤ 99) : Ez G mX11_goOneStep d 84 [(4, eI (nI lie)), (0, eR 11 0), (1, eR 10 wi), (2, eR 1 m), (3, eR 20 pi)] [] M (fun r M' => r = none ∧ RCW kind mz num (ep_fin lt (fun key => (tf xr key).2) bl kind num (ep_mid S S.2.2.1 lie)) wi pi M' ∧ FX (fun k i s => (k = 10 ∧ i = wi ∧ (s = 2 ∨ s = 3 ∨ s = 5 ∨ s = 6)) ∨ (k = 21 ∧ i = wi) ∨ (k = 20 ∧ i = pi) ∨ k = 23 ∨ k = 24) M M' ∧ M'.2 = M.2) := by
  have z1 := hz.2.1
  have s1 := hS.1
  have S1w : WFS n (ep_mid S S.2.2.1 lie) := WFS_mid hS hl
  have d16 := ep_dn16 lt S.1
  refine ez_aload_n 85 dX11_goOneStep_84 rfl rfl ?_
  refine ez_aload_n 86 dX11_goOneStep_85 rfl rfl ?_
  refine ez_getf 89 (eI (M.1 10 wi 2)) dX11_goOneStep_86 rfl fl_X11_176 (by show wi < 18; omega) rfl ?_
  refine ez_top (nI S.1) hR.2.2.1 ?_
  refine ez_iload 91 dX11_goOneStep_89 rfl rfl ?_
  refine ez_callS 94 [eR 20 pi, eI (nI S.1), eI (nI lie)] [] dX11_goOneStep_91 rfl rfl ok_X11_setItem st_X11_setItem ln_X11_163 (by omega) (Nat.le_of_ble_eq_true rfl) (c_setItem_n G (d - 1) 20 pi S.1 (nI lie) M (by decide) (by show pi < 9; omega) (by show S.1 < 10; omega)) (fun r91 M91 q91 => ?_)
  obtain ⟨rfl, e91⟩ := q91
  rw [e91]
  show Ez G mX11_goOneStep d 94 [(4, eI (nI lie)), (0, eR 11 0), (1, eR 10 wi), (2, eR 1 m), (3, eR 20 pi)] [] (ez_st M 20 pi S.1 (nI lie)) _
  have R2 := RCW_lie (lie := lie) hR
  have F2 : FX (fun k i s => k = 20 ∧ i = pi) M (ez_st M 20 pi S.1 (nI lie)) := FX.rf.st (by omega)
  refine ez_aload_n 95 dX11_goOneStep_94 rfl rfl ?_
  refine ez_getf 98 (eR 5 0) dX11_goOneStep_95 rfl fl_X11_50 (by show 0 < 1; omega) rfl ?_
  refine ez_aload_n 99 dX11_goOneStep_98 rfl rfl ?_
  refine ez_aload_n 100 dX11_goOneStep_99 rfl rfl ?_
  refine ez_aload_n 101 dX11_goOneStep_100 rfl rfl ?_
  refine ez_callV 104 [eR 10 wi, eR 1 m, eR 20 pi] [] dX11_goOneStep_101 rfl rfl ok_X5_look in_X5_look (by decide) (by show 0 < 1; omega) ln_X11_203 (by omega) (Nat.le_of_ble_eq_true rfl) (c_X5_look G (d - 1) (S := (ep_mid S S.2.2.1 lie)) wi pi m (ez_st M 20 pi S.1 (nI lie)) (by omega) hwi hpi hm hz S1w R2 (hZ.fx F2 ⟨by omega, fun x => by omega⟩) hbl hb2) (fun r101 M101 q101 => ?_)
  obtain ⟨rfl, n101, f101, l101⟩ := q101
  have R101 : RCW kind mz num (ep_mid S S.2.2.1 lie) wi pi M101 := R2.fx f101 (fun s => by omega)
  have F101 : FX (fun k i s => (k = 20 ∧ i = pi) ∨ k = 23 ∨ k = 24) M M101 := (F2.up (fun k i s q9 => by omega)).tr (f101.up (fun k i s q9 => by omega))
  have Z101 := hZ.fx F101 ⟨by omega, fun x => by omega⟩
  have X101 := hX.fx F101 hW.2.1 ⟨by omega, by omega, fun i s hi => by omega⟩
  show Ez G mX11_goOneStep d 104 [(4, eI (nI lie)), (0, eR 11 0), (1, eR 10 wi), (2, eR 1 m), (3, eR 20 pi)] [] M101 _
  refine ez_aload_n 105 dX11_goOneStep_104 rfl rfl ?_
  refine ez_aload_n 106 dX11_goOneStep_105 rfl rfl ?_
  refine ez_aload_n 107 dX11_goOneStep_106 rfl rfl ?_
  refine ez_getf 110 (eI (M101.1 10 wi 2)) dX11_goOneStep_107 rfl fl_X11_176 (by show wi < 18; omega) rfl ?_
  refine ez_top (nI S.1) R101.2.2.1 ?_
  refine ez_callV 113 [eI (nI S.1)] [eR 10 wi] dX11_goOneStep_110 rfl rfl ok_X1_leading in_X1_leading (by decide) (by show m < 4; omega) ln_X11_357 (by omega) (Nat.le_of_ble_eq_true rfl) (c_leading_n G (d - 1) m n S.1 lt M101 (by omega) (by omega) (by omega) (by omega) Z101) (fun r110 M110 q110 => ?_)
  obtain ⟨rfl, e110⟩ := q110
  rw [e110]
  show Ez G mX11_goOneStep d 113 [(4, eI (nI lie)), (0, eR 11 0), (1, eR 10 wi), (2, eR 1 m), (3, eR 20 pi)] [eI (nI (ep_dn lt S.1)), eR 10 wi] M101 _
  refine ez_iload 115 dX11_goOneStep_113 rfl rfl ?_
  refine ez_nif_le 118 122 dX11_goOneStep_115 rfl (by decide) (by omega) (fun h115 => ?_) (fun h115 => ?_)
  · refine ez_iconst 123 dX11_goOneStep_122 rfl (nI 0) (by decide) ?_
    refine ez_aload_n 124 dX11_goOneStep_123 rfl rfl ?_
    refine ez_iconst 125 dX11_goOneStep_124 rfl (nI 0) (by decide) ?_
    refine ez_callV 128 [eI (nI 0)] [eI (nI 0), eI (nI (ep_dn lt S.1)), eR 10 wi] dX11_goOneStep_125 rfl rfl ok_X11_saying in_X11_saying (by decide) (by show 0 < 1; omega) ln_X11_207 (by omega) (Nat.le_of_ble_eq_true rfl) (c_X11_saying G (d - 1) 0 M101 (by omega) (by omega) hW X101 n101) (fun r125 M125 q125 => ?_)
    obtain ⟨rfl, f125, l125⟩ := q125
    have R125 : RCW kind mz num (ep_mid S S.2.2.1 lie) wi pi M125 := R101.fx f125 (fun s => by omega)
    have F125 := F101.tr (f125.up (fun k i s q9 => by omega))
    have Z125 := hZ.fx F125 ⟨by omega, fun x => by omega⟩
    show Ez G mX11_goOneStep d 128 [(4, eI (nI lie)), (0, eR 11 0), (1, eR 10 wi), (2, eR 1 m), (3, eR 20 pi)] [eI ((tf xr 0).2 (ep_nm lt bl num (ep_mid S S.2.2.1 lie))), eI (nI 0), eI (nI (ep_dn lt S.1)), eR 10 wi] M125 _
    refine ez_callS 131 [eR 10 wi, eI (nI (ep_dn lt S.1)), eI (nI 0), eI ((tf xr 0).2 (ep_nm lt bl num (ep_mid S S.2.2.1 lie)))] [] dX11_goOneStep_128 rfl rfl ok_X11_wants st_X11_wants ln_X11_360 (by omega) (Nat.le_of_ble_eq_true rfl) (c_X11_wants G (d - 1) (kind := kind) (S := (ep_mid S S.2.2.1 lie)) (go := ((tf xr 0).2 (ep_nm lt bl num (ep_mid S S.2.2.1 lie)))) wi pi M125 (by omega) hwi (by omega) hnum d16 (by omega) hkd S1w R125) (fun r128 M128 q128 => ?_)
    obtain ⟨rfl, e128⟩ := q128
    rw [e128]
    rw [show ep_wt kind (ep_mid S S.2.2.1 lie).2.1 num (ep_dn lt S.1) ((ep_mid S S.2.2.1 lie).2.2.2.2.1 (ep_mid S S.2.2.1 lie).1) 0 ((tf xr 0).2 (ep_nm lt bl num (ep_mid S S.2.2.1 lie))) = ep_dr lt kind num ((tf xr 0).2 (ep_nm lt bl num (ep_mid S S.2.2.1 lie))) (ep_mid S S.2.2.1 lie) by unfold ep_dr; rw [show ep_hp (ep_mid S S.2.2.1 lie) = 0 by unfold ep_hp; rw [show (ep_mid S S.2.2.1 lie).2.2.2.2.2 (ep_mid S S.2.2.1 lie).1 = lie from va_up_self _ _ _, if_neg (by omega)]]; rfl]
    show Ez G mX11_goOneStep d 131 [(4, eI (nI lie)), (0, eR 11 0), (1, eR 10 wi), (2, eR 1 m), (3, eR 20 pi)] [eI (ep_oi (ep_dr lt kind num ((tf xr 0).2 (ep_nm lt bl num (ep_mid S S.2.2.1 lie))) (ep_mid S S.2.2.1 lie)))] M125 _
    cases hdr : ep_dr lt kind num ((tf xr 0).2 (ep_nm lt bl num (ep_mid S S.2.2.1 lie))) (ep_mid S S.2.2.1 lie) with
    | none =>
      show Ez G mX11_goOneStep d 131 _ [eI (-1)] M125 _
      refine ez_istore 133 [(5, eI (-1)), (4, eI (nI lie)), (0, eR 11 0), (1, eR 10 wi), (2, eR 1 m), (3, eR 20 pi)] dX11_goOneStep_131 rfl (by decide) rfl ?_
      refine ez_aload_n 134 dX11_goOneStep_133 rfl rfl ?_
      refine ez_aload_n 135 dX11_goOneStep_134 rfl rfl ?_
      refine ez_getf 138 (eI (M125.1 10 wi 2)) dX11_goOneStep_135 rfl fl_X11_176 (by show wi < 18; omega) rfl ?_
      refine ez_top (nI S.1) R125.2.2.1 ?_
      refine ez_iload 140 dX11_goOneStep_138 rfl rfl ?_
      refine ez_callV 143 [eI (nI S.1), eI (-1)] [] dX11_goOneStep_140 rfl rfl ok_X1_target in_X1_target (by decide) (by show m < 4; omega) ln_X11_152 (by omega) (Nat.le_of_ble_eq_true rfl) (c_X1_target G (d - 1) m (nI S.1) (-1) M125 (by omega) hm) (fun r140 M140 q140 => ?_)
      obtain ⟨rfl, e140⟩ := q140
      rw [e140, show ep_tg M125 m (nI S.1) (-1) = -1 by unfold ep_tg; rw [if_pos (by decide)]]
      show Ez G mX11_goOneStep d 143 [(5, eI (-1)), (4, eI (nI lie)), (0, eR 11 0), (1, eR 10 wi), (2, eR 1 m), (3, eR 20 pi)] [eI (-1)] M125 _
      refine ez_istore 145 [(6, eI (-1)), (5, eI (-1)), (4, eI (nI lie)), (0, eR 11 0), (1, eR 10 wi), (2, eR 1 m), (3, eR 20 pi)] dX11_goOneStep_143 rfl (by decide) rfl ?_
      refine ez_iload 147 dX11_goOneStep_145 rfl rfl ?_
      refine ez_iconst 148 dX11_goOneStep_147 rfl (-1) (by decide) ?_
      refine ez_icmp_eq 151 167 dX11_goOneStep_148 rfl (by decide) (fun h148 => ?_) (fun h148 => ?_)
      · refine ez_vret dX11_goOneStep_167 rfl ?_
        refine ⟨rfl, ?_, F125.up (fun k i s q9 => by omega), l125.trans l101⟩
        show RCW kind mz num (ep_fin lt (fun key => (tf xr key).2) bl kind num (ep_mid S S.2.2.1 lie)) wi pi M125
        unfold ep_fin
        rw [hdr]
        exact R125
      · exact absurd rfl h148
    | some c =>
      obtain ⟨c4, r1, c1, b1, b2, b3⟩ := ep_dr_to hz S1w hdr
      show Ez G mX11_goOneStep d 131 _ [eI (nI c)] M125 _
      refine ez_istore 133 [(5, eI (nI c)), (4, eI (nI lie)), (0, eR 11 0), (1, eR 10 wi), (2, eR 1 m), (3, eR 20 pi)] dX11_goOneStep_131 rfl (by decide) rfl ?_
      refine ez_aload_n 134 dX11_goOneStep_133 rfl rfl ?_
      refine ez_aload_n 135 dX11_goOneStep_134 rfl rfl ?_
      refine ez_getf 138 (eI (M125.1 10 wi 2)) dX11_goOneStep_135 rfl fl_X11_176 (by show wi < 18; omega) rfl ?_
      refine ez_top (nI S.1) R125.2.2.1 ?_
      refine ez_iload 140 dX11_goOneStep_138 rfl rfl ?_
      refine ez_callV 143 [eI (nI S.1), eI (nI c)] [] dX11_goOneStep_140 rfl rfl ok_X1_target in_X1_target (by decide) (by show m < 4; omega) ln_X11_152 (by omega) (Nat.le_of_ble_eq_true rfl) (c_target_n G (d - 1) m S.1 c M125 (by omega) hm (by omega) c4) (fun r140 M140 q140 => ?_)
      obtain ⟨rfl, e140⟩ := q140
      rw [e140, show M125.1 18 m (4 * S.1 + c) = nI (10 * r1 + c1) by rw [Z125.2.1 _ (by omega)]; exact b3]
      show Ez G mX11_goOneStep d 143 [(5, eI (nI c)), (4, eI (nI lie)), (0, eR 11 0), (1, eR 10 wi), (2, eR 1 m), (3, eR 20 pi)] [eI (nI (10 * r1 + c1))] M125 _
      refine ez_istore 145 [(6, eI (nI (10 * r1 + c1))), (5, eI (nI c)), (4, eI (nI lie)), (0, eR 11 0), (1, eR 10 wi), (2, eR 1 m), (3, eR 20 pi)] dX11_goOneStep_143 rfl (by decide) rfl ?_
      refine ez_iload 147 dX11_goOneStep_145 rfl rfl ?_
      refine ez_iconst 148 dX11_goOneStep_147 rfl (-1) (by decide) ?_
      refine ez_icmp_eq 151 167 dX11_goOneStep_148 rfl (by decide) (fun h148 => ?_) (fun h148 => ?_)
      · exact absurd h148 (ep_m1 (by omega))
      · refine ez_aload_n 152 dX11_goOneStep_151 rfl rfl ?_
        refine ez_iload 154 dX11_goOneStep_152 rfl rfl ?_
        refine ez_iload 156 dX11_goOneStep_154 rfl rfl ?_
        refine ez_bipush 158 dX11_goOneStep_156 rfl (nI 10) (by decide) ?_
        refine ez_idiv 159 dX11_goOneStep_158 rfl (by decide) ?_
        refine ez_top (nI ((10 * r1 + c1) / 10)) (pk_div (by omega) (by omega) (by omega)) ?_
        refine ez_iload 161 dX11_goOneStep_159 rfl rfl ?_
        refine ez_bipush 163 dX11_goOneStep_161 rfl (nI 10) (by decide) ?_
        refine ez_irem 164 dX11_goOneStep_163 rfl (by decide) ?_
        refine ez_top (nI ((10 * r1 + c1) % 10)) (pk_rem (by omega) (by omega) (by omega)) ?_
        refine ez_callV 167 [eI (nI c), eI (nI ((10 * r1 + c1) / 10)), eI (nI ((10 * r1 + c1) % 10))] [] dX11_goOneStep_164 rfl rfl ok_X10_goThrough in_X10_goThrough (by decide) (by show wi < 18; omega) ln_X11_370 (by omega) (Nat.le_of_ble_eq_true rfl) (c_X10_goThrough G (d - 1) (S := (ep_mid S S.2.2.1 lie)) (n := n) wi pi c ((10 * r1 + c1) / 10) ((10 * r1 + c1) % 10) M125 (by omega) hwi (by omega) c4 S1w R125) (fun r164 M164 q164 => ?_)
        obtain ⟨rfl, g164, f164, l164⟩ := q164
        show Ez G mX11_goOneStep d 167 [(6, eI (nI (10 * r1 + c1))), (5, eI (nI c)), (4, eI (nI lie)), (0, eR 11 0), (1, eR 10 wi), (2, eR 1 m), (3, eR 20 pi)] [] M164 _
        refine ez_vret dX11_goOneStep_167 rfl ?_
        refine ⟨rfl, ?_, (F125.up (fun k i s q9 => by omega)).tr f164, l164.trans (l125.trans l101)⟩
        show RCW kind mz num (ep_fin lt (fun key => (tf xr key).2) bl kind num (ep_mid S S.2.2.1 lie)) wi pi M164
        unfold ep_fin
        rw [hdr]
        show RCW kind mz num ((lt (4 * S.1 + c)).toNatClampNeg / 10, (lt (4 * S.1 + c)).toNatClampNeg % 10, _, _, _, _) wi pi M164
        rw [show lt (4 * S.1 + c) = nI (10 * r1 + c1) from b3, nI_clamp (by omega)]
        exact g164
  · refine ez_iconst 119 dX11_goOneStep_118 rfl (nI 1) (by decide) ?_
    refine ez_goto 123 dX11_goOneStep_119 (by decide) ?_
    refine ez_aload_n 124 dX11_goOneStep_123 rfl rfl ?_
    refine ez_iconst 125 dX11_goOneStep_124 rfl (nI 0) (by decide) ?_
    refine ez_callV 128 [eI (nI 0)] [eI (nI 1), eI (nI (ep_dn lt S.1)), eR 10 wi] dX11_goOneStep_125 rfl rfl ok_X11_saying in_X11_saying (by decide) (by show 0 < 1; omega) ln_X11_207 (by omega) (Nat.le_of_ble_eq_true rfl) (c_X11_saying G (d - 1) 0 M101 (by omega) (by omega) hW X101 n101) (fun r125 M125 q125 => ?_)
    obtain ⟨rfl, f125, l125⟩ := q125
    have R125 : RCW kind mz num (ep_mid S S.2.2.1 lie) wi pi M125 := R101.fx f125 (fun s => by omega)
    have F125 := F101.tr (f125.up (fun k i s q9 => by omega))
    have Z125 := hZ.fx F125 ⟨by omega, fun x => by omega⟩
    show Ez G mX11_goOneStep d 128 [(4, eI (nI lie)), (0, eR 11 0), (1, eR 10 wi), (2, eR 1 m), (3, eR 20 pi)] [eI ((tf xr 0).2 (ep_nm lt bl num (ep_mid S S.2.2.1 lie))), eI (nI 1), eI (nI (ep_dn lt S.1)), eR 10 wi] M125 _
    refine ez_callS 131 [eR 10 wi, eI (nI (ep_dn lt S.1)), eI (nI 1), eI ((tf xr 0).2 (ep_nm lt bl num (ep_mid S S.2.2.1 lie)))] [] dX11_goOneStep_128 rfl rfl ok_X11_wants st_X11_wants ln_X11_360 (by omega) (Nat.le_of_ble_eq_true rfl) (c_X11_wants G (d - 1) (kind := kind) (S := (ep_mid S S.2.2.1 lie)) (go := ((tf xr 0).2 (ep_nm lt bl num (ep_mid S S.2.2.1 lie)))) wi pi M125 (by omega) hwi (by omega) hnum d16 (by omega) hkd S1w R125) (fun r128 M128 q128 => ?_)
    obtain ⟨rfl, e128⟩ := q128
    rw [e128]
    rw [show ep_wt kind (ep_mid S S.2.2.1 lie).2.1 num (ep_dn lt S.1) ((ep_mid S S.2.2.1 lie).2.2.2.2.1 (ep_mid S S.2.2.1 lie).1) 1 ((tf xr 0).2 (ep_nm lt bl num (ep_mid S S.2.2.1 lie))) = ep_dr lt kind num ((tf xr 0).2 (ep_nm lt bl num (ep_mid S S.2.2.1 lie))) (ep_mid S S.2.2.1 lie) by unfold ep_dr; rw [show ep_hp (ep_mid S S.2.2.1 lie) = 1 by unfold ep_hp; rw [show (ep_mid S S.2.2.1 lie).2.2.2.2.2 (ep_mid S S.2.2.1 lie).1 = lie from va_up_self _ _ _, if_pos (by omega)]]; rfl]
    show Ez G mX11_goOneStep d 131 [(4, eI (nI lie)), (0, eR 11 0), (1, eR 10 wi), (2, eR 1 m), (3, eR 20 pi)] [eI (ep_oi (ep_dr lt kind num ((tf xr 0).2 (ep_nm lt bl num (ep_mid S S.2.2.1 lie))) (ep_mid S S.2.2.1 lie)))] M125 _
    cases hdr : ep_dr lt kind num ((tf xr 0).2 (ep_nm lt bl num (ep_mid S S.2.2.1 lie))) (ep_mid S S.2.2.1 lie) with
    | none =>
      show Ez G mX11_goOneStep d 131 _ [eI (-1)] M125 _
      refine ez_istore 133 [(5, eI (-1)), (4, eI (nI lie)), (0, eR 11 0), (1, eR 10 wi), (2, eR 1 m), (3, eR 20 pi)] dX11_goOneStep_131 rfl (by decide) rfl ?_
      refine ez_aload_n 134 dX11_goOneStep_133 rfl rfl ?_
      refine ez_aload_n 135 dX11_goOneStep_134 rfl rfl ?_
      refine ez_getf 138 (eI (M125.1 10 wi 2)) dX11_goOneStep_135 rfl fl_X11_176 (by show wi < 18; omega) rfl ?_
      refine ez_top (nI S.1) R125.2.2.1 ?_
      refine ez_iload 140 dX11_goOneStep_138 rfl rfl ?_
      refine ez_callV 143 [eI (nI S.1), eI (-1)] [] dX11_goOneStep_140 rfl rfl ok_X1_target in_X1_target (by decide) (by show m < 4; omega) ln_X11_152 (by omega) (Nat.le_of_ble_eq_true rfl) (c_X1_target G (d - 1) m (nI S.1) (-1) M125 (by omega) hm) (fun r140 M140 q140 => ?_)
      obtain ⟨rfl, e140⟩ := q140
      rw [e140, show ep_tg M125 m (nI S.1) (-1) = -1 by unfold ep_tg; rw [if_pos (by decide)]]
      show Ez G mX11_goOneStep d 143 [(5, eI (-1)), (4, eI (nI lie)), (0, eR 11 0), (1, eR 10 wi), (2, eR 1 m), (3, eR 20 pi)] [eI (-1)] M125 _
      refine ez_istore 145 [(6, eI (-1)), (5, eI (-1)), (4, eI (nI lie)), (0, eR 11 0), (1, eR 10 wi), (2, eR 1 m), (3, eR 20 pi)] dX11_goOneStep_143 rfl (by decide) rfl ?_
      refine ez_iload 147 dX11_goOneStep_145 rfl rfl ?_
      refine ez_iconst 148 dX11_goOneStep_147 rfl (-1) (by decide) ?_
      refine ez_icmp_eq 151 167 dX11_goOneStep_148 rfl (by decide) (fun h148 => ?_) (fun h148 => ?_)
      · refine ez_vret dX11_goOneStep_167 rfl ?_
        refine ⟨rfl, ?_, F125.up (fun k i s q9 => by omega), l125.trans l101⟩
        show RCW kind mz num (ep_fin lt (fun key => (tf xr key).2) bl kind num (ep_mid S S.2.2.1 lie)) wi pi M125
        unfold ep_fin
        rw [hdr]
        exact R125
      · exact absurd rfl h148
    | some c =>
      obtain ⟨c4, r1, c1, b1, b2, b3⟩ := ep_dr_to hz S1w hdr
      show Ez G mX11_goOneStep d 131 _ [eI (nI c)] M125 _
      refine ez_istore 133 [(5, eI (nI c)), (4, eI (nI lie)), (0, eR 11 0), (1, eR 10 wi), (2, eR 1 m), (3, eR 20 pi)] dX11_goOneStep_131 rfl (by decide) rfl ?_
      refine ez_aload_n 134 dX11_goOneStep_133 rfl rfl ?_
      refine ez_aload_n 135 dX11_goOneStep_134 rfl rfl ?_
      refine ez_getf 138 (eI (M125.1 10 wi 2)) dX11_goOneStep_135 rfl fl_X11_176 (by show wi < 18; omega) rfl ?_
      refine ez_top (nI S.1) R125.2.2.1 ?_
      refine ez_iload 140 dX11_goOneStep_138 rfl rfl ?_
      refine ez_callV 143 [eI (nI S.1), eI (nI c)] [] dX11_goOneStep_140 rfl rfl ok_X1_target in_X1_target (by decide) (by show m < 4; omega) ln_X11_152 (by omega) (Nat.le_of_ble_eq_true rfl) (c_target_n G (d - 1) m S.1 c M125 (by omega) hm (by omega) c4) (fun r140 M140 q140 => ?_)
      obtain ⟨rfl, e140⟩ := q140
      rw [e140, show M125.1 18 m (4 * S.1 + c) = nI (10 * r1 + c1) by rw [Z125.2.1 _ (by omega)]; exact b3]
      show Ez G mX11_goOneStep d 143 [(5, eI (nI c)), (4, eI (nI lie)), (0, eR 11 0), (1, eR 10 wi), (2, eR 1 m), (3, eR 20 pi)] [eI (nI (10 * r1 + c1))] M125 _
      refine ez_istore 145 [(6, eI (nI (10 * r1 + c1))), (5, eI (nI c)), (4, eI (nI lie)), (0, eR 11 0), (1, eR 10 wi), (2, eR 1 m), (3, eR 20 pi)] dX11_goOneStep_143 rfl (by decide) rfl ?_
      refine ez_iload 147 dX11_goOneStep_145 rfl rfl ?_
      refine ez_iconst 148 dX11_goOneStep_147 rfl (-1) (by decide) ?_
      refine ez_icmp_eq 151 167 dX11_goOneStep_148 rfl (by decide) (fun h148 => ?_) (fun h148 => ?_)
      · exact absurd h148 (ep_m1 (by omega))
      · refine ez_aload_n 152 dX11_goOneStep_151 rfl rfl ?_
        refine ez_iload 154 dX11_goOneStep_152 rfl rfl ?_
        refine ez_iload 156 dX11_goOneStep_154 rfl rfl ?_
        refine ez_bipush 158 dX11_goOneStep_156 rfl (nI 10) (by decide) ?_
        refine ez_idiv 159 dX11_goOneStep_158 rfl (by decide) ?_
        refine ez_top (nI ((10 * r1 + c1) / 10)) (pk_div (by omega) (by omega) (by omega)) ?_
        refine ez_iload 161 dX11_goOneStep_159 rfl rfl ?_
        refine ez_bipush 163 dX11_goOneStep_161 rfl (nI 10) (by decide) ?_
        refine ez_irem 164 dX11_goOneStep_163 rfl (by decide) ?_
        refine ez_top (nI ((10 * r1 + c1) % 10)) (pk_rem (by omega) (by omega) (by omega)) ?_
        refine ez_callV 167 [eI (nI c), eI (nI ((10 * r1 + c1) / 10)), eI (nI ((10 * r1 + c1) % 10))] [] dX11_goOneStep_164 rfl rfl ok_X10_goThrough in_X10_goThrough (by decide) (by show wi < 18; omega) ln_X11_370 (by omega) (Nat.le_of_ble_eq_true rfl) (c_X10_goThrough G (d - 1) (S := (ep_mid S S.2.2.1 lie)) (n := n) wi pi c ((10 * r1 + c1) / 10) ((10 * r1 + c1) % 10) M125 (by omega) hwi (by omega) c4 S1w R125) (fun r164 M164 q164 => ?_)
        obtain ⟨rfl, g164, f164, l164⟩ := q164
        show Ez G mX11_goOneStep d 167 [(6, eI (nI (10 * r1 + c1))), (5, eI (nI c)), (4, eI (nI lie)), (0, eR 11 0), (1, eR 10 wi), (2, eR 1 m), (3, eR 20 pi)] [] M164 _
        refine ez_vret dX11_goOneStep_167 rfl ?_
        refine ⟨rfl, ?_, (F125.up (fun k i s q9 => by omega)).tr f164, l164.trans (l125.trans l101)⟩
        show RCW kind mz num (ep_fin lt (fun key => (tf xr key).2) bl kind num (ep_mid S S.2.2.1 lie)) wi pi M164
        unfold ep_fin
        rw [hdr]
        show RCW kind mz num ((lt (4 * S.1 + c)).toNatClampNeg / 10, (lt (4 * S.1 + c)).toNatClampNeg % 10, _, _, _, _) wi pi M164
        rw [show lt (4 * S.1 + c) = nI (10 * r1 + c1) from b3, nI_clamp (by omega)]
        exact g164
set_option maxRecDepth 20000 in
theorem c_X11_goOneStep (G : EzG) (d : Nat) {kind mz num : Nat} {S : EpW} {n : Nat} {lt : Nat → Int32} {bl xc xr : Nat} {tf : Nat → EpF} (wi pi m : Nat) (M : EzM) (hd : 6 ≤ d) (hwi : wi < 18) (hpi : pi < 9) (hm : m < 4) (hkd : kind < 6) (hnum : num ≤ 9) (hz : WFz n lt) (hS : WFS n S) (hW : WFx xc xr tf) (hb2 : bl < 2) (hR : RCW kind mz num S wi pi M) (hZ : RCz m n lt M) (hX : RCx xc xr tf M) (hbl : M.1 5 0 2 = nI bl) : Ezc G mX11_goOneStep d [eR 11 0, eR 10 wi, eR 1 m, eR 20 pi] M (fun r M' => r = none ∧ RCW kind mz num (ep_step lt (fun key => (tf xr key).2) bl kind num S) wi pi M' ∧ FX (fun k i s => (k = 10 ∧ i = wi ∧ (s = 2 ∨ s = 3 ∨ s = 5 ∨ s = 6)) ∨ (k = 21 ∧ i = wi) ∨ (k = 20 ∧ i = pi) ∨ k = 23 ∨ k = 24) M M' ∧ M'.2 = M.2) := by
  refine Ezc.of (by decide +kernel) (Nat.le_of_ble_eq_true rfl) ?_
  have z1 := hz.2.1
  have s1 := hS.1
  have p99 := (hS.2.2 S.1 (by omega)).2
  show Ez G mX11_goOneStep d 0 [(0, eR 11 0), (1, eR 10 wi), (2, eR 1 m), (3, eR 20 pi)] [] M _
  refine ez_aload_n 1 dX11_goOneStep_0 rfl rfl ?_
  refine ez_getf 4 (eR 5 0) dX11_goOneStep_1 rfl fl_X11_50 (by show 0 < 1; omega) rfl ?_
  refine ez_aload_n 5 dX11_goOneStep_4 rfl rfl ?_
  refine ez_aload_n 6 dX11_goOneStep_5 rfl rfl ?_
  refine ez_aload_n 7 dX11_goOneStep_6 rfl rfl ?_
  refine ez_callV 10 [eR 10 wi, eR 1 m, eR 20 pi] [] dX11_goOneStep_7 rfl rfl ok_X5_look in_X5_look (by decide) (by show 0 < 1; omega) ln_X11_203 (by omega) (Nat.le_of_ble_eq_true rfl) (c_X5_look G (d - 1) wi pi m M (by omega) hwi hpi hm hz hS hR hZ hbl hb2) (fun r7 M7 q7 => ?_)
  obtain ⟨rfl, n7, f7, l7⟩ := q7
  have R7 := hR.fx f7 (fun s => by omega)
  have X7 := hX.fx f7 hW.2.1 ⟨by omega, by omega, fun i s hi => by omega⟩
  show Ez G mX11_goOneStep d 10 [(0, eR 11 0), (1, eR 10 wi), (2, eR 1 m), (3, eR 20 pi)] [] M7 _
  refine ez_aload_n 11 dX11_goOneStep_10 rfl rfl ?_
  refine ez_aload_n 12 dX11_goOneStep_11 rfl rfl ?_
  refine ez_getf 15 (eI (M7.1 10 wi 2)) dX11_goOneStep_12 rfl fl_X11_176 (by show wi < 18; omega) rfl ?_
  refine ez_top (nI S.1) R7.2.2.1 ?_
  refine ez_callS 18 [eR 20 pi, eI (nI S.1)] [] dX11_goOneStep_15 rfl rfl ok_X11_itemAt st_X11_itemAt ln_X11_159 (by omega) (Nat.le_of_ble_eq_true rfl) (c_itemAt_n G (d - 1) 20 pi S.1 M7 (by decide) (by show pi < 9; omega) (by show S.1 < 10; omega)) (fun r15 M15 q15 => ?_)
  obtain ⟨rfl, e15⟩ := q15
  rw [e15, show M7.1 20 pi S.1 = nI (S.2.2.2.2.2 S.1) from (R7.2.2.2.2.2.2.2 S.1 (by omega)).2]
  show Ez G mX11_goOneStep d 18 [(0, eR 11 0), (1, eR 10 wi), (2, eR 1 m), (3, eR 20 pi)] [eI (nI (S.2.2.2.2.2 S.1))] M7 _
  refine ez_istore 20 [(4, eI (nI (S.2.2.2.2.2 S.1))), (0, eR 11 0), (1, eR 10 wi), (2, eR 1 m), (3, eR 20 pi)] dX11_goOneStep_18 rfl (by decide) rfl ?_
  refine ez_iload 22 dX11_goOneStep_20 rfl rfl ?_
  refine ez_nif_le 25 49 dX11_goOneStep_22 rfl (by decide) (by omega) (fun h22 => ?_) (fun h22 => ?_)
  · refine ez_aload_n 50 dX11_goOneStep_49 rfl rfl ?_
    refine ez_getf 53 (eI (M7.1 10 wi 5)) dX11_goOneStep_50 rfl fl_X11_182 (by show wi < 18; omega) rfl ?_
    refine ez_top S.2.2.1 R7.2.2.2.2.2.1 ?_
    refine ez_if_le 56 84 dX11_goOneStep_53 rfl (by decide) (fun h53 => ?_) (fun h53 => ?_)
    · have eT : ep_take lt (fun key => (tf xr key).2) bl num S = (S.2.2.1, S.2.2.2.2.2 S.1) := by unfold ep_take; rw [if_neg (fun z9 => by have := z9.1; omega), if_neg (fun z9 => Int32.not_lt.mpr h53 z9.1)]
      have hF9 : FX (fun k i s => k = 23 ∨ k = 24 ∨ (k = 10 ∧ i = wi ∧ s = 5)) M M7 := (FX.rf.tr (f7.up (fun k i s q9 => by omega)))
      unfold ep_step
      rw [eT]
      refine ez_wk ?_ (gs_84 G d (S := S) (tf := tf) wi pi m (S.2.2.2.2.2 S.1) M7 hd hwi hpi hm hkd hnum hz hS hW hb2 R7 (hZ.fx hF9 ⟨by omega, fun x => by omega⟩) (hX.fx hF9 hW.2.1 ⟨by omega, by omega, fun i s hi => by omega⟩) (by rw [hF9 _ _ _ (by omega)]; exact hbl) (by omega))
      exact fun r M' q9 => ⟨q9.1, q9.2.1, (hF9.up (fun k i s q9 => by omega)).tr q9.2.2.1, q9.2.2.2.trans l7⟩
    · refine ez_iload 58 dX11_goOneStep_56 rfl rfl ?_
      refine ez_bipush 60 dX11_goOneStep_58 rfl (nI 99) (by decide) ?_
      refine ez_ncmp_ge 63 84 dX11_goOneStep_60 rfl (by decide) (by omega) (by omega) (fun h60 => ?_) (fun h60 => ?_)
      · have eT : ep_take lt (fun key => (tf xr key).2) bl num S = (S.2.2.1, S.2.2.2.2.2 S.1) := by unfold ep_take; rw [if_neg (fun z9 => by have := z9.1; omega), if_neg (fun z9 => by have := z9.2.1; omega)]
        have hF9 : FX (fun k i s => k = 23 ∨ k = 24 ∨ (k = 10 ∧ i = wi ∧ s = 5)) M M7 := (FX.rf.tr (f7.up (fun k i s q9 => by omega)))
        unfold ep_step
        rw [eT]
        refine ez_wk ?_ (gs_84 G d (S := S) (tf := tf) wi pi m (S.2.2.2.2.2 S.1) M7 hd hwi hpi hm hkd hnum hz hS hW hb2 R7 (hZ.fx hF9 ⟨by omega, fun x => by omega⟩) (hX.fx hF9 hW.2.1 ⟨by omega, by omega, fun i s hi => by omega⟩) (by rw [hF9 _ _ _ (by omega)]; exact hbl) (by omega))
        exact fun r M' q9 => ⟨q9.1, q9.2.1, (hF9.up (fun k i s q9 => by omega)).tr q9.2.2.1, q9.2.2.2.trans l7⟩
      · refine ez_aload_n 64 dX11_goOneStep_63 rfl rfl ?_
        refine ez_iconst 65 dX11_goOneStep_64 rfl (nI 1) (by decide) ?_
        refine ez_callV 68 [eI (nI 1)] [] dX11_goOneStep_65 rfl rfl ok_X11_saying in_X11_saying (by decide) (by show 0 < 1; omega) ln_X11_207 (by omega) (Nat.le_of_ble_eq_true rfl) (c_X11_saying G (d - 1) 1 M7 (by omega) (by omega) hW X7 n7) (fun r65 M65 q65 => ?_)
        obtain ⟨rfl, f65, l65⟩ := q65
        have R65 := R7.fx f65 (fun s => by omega)
        have X65 := X7.fx f65 hW.2.1 ⟨by omega, by omega, fun i s hi => by omega⟩
        have n65 : ∀ j, j < 6 → M65.1 23 0 j = ep_nm lt bl num S j := fun j hj => by rw [f65 _ _ _ (by omega)]; exact n7 j hj
        show Ez G mX11_goOneStep d 68 [(4, eI (nI (S.2.2.2.2.2 S.1))), (0, eR 11 0), (1, eR 10 wi), (2, eR 1 m), (3, eR 20 pi)] [eI ((tf xr 1).2 (ep_nm lt bl num S))] M65 _
        refine ez_if_eq 71 84 dX11_goOneStep_68 rfl (by decide) (fun h68 => ?_) (fun h68 => ?_)
        · have eT : ep_take lt (fun key => (tf xr key).2) bl num S = (S.2.2.1, S.2.2.2.2.2 S.1) := by unfold ep_take; rw [if_neg (fun z9 => by have := z9.1; omega), if_neg (fun z9 => z9.2.2 h68)]
          have hF9 : FX (fun k i s => k = 23 ∨ k = 24 ∨ (k = 10 ∧ i = wi ∧ s = 5)) M M65 := ((FX.rf.tr (f7.up (fun k i s q9 => by omega))).tr (f65.up (fun k i s q9 => by omega)))
          unfold ep_step
          rw [eT]
          refine ez_wk ?_ (gs_84 G d (S := S) (tf := tf) wi pi m (S.2.2.2.2.2 S.1) M65 hd hwi hpi hm hkd hnum hz hS hW hb2 R65 (hZ.fx hF9 ⟨by omega, fun x => by omega⟩) (hX.fx hF9 hW.2.1 ⟨by omega, by omega, fun i s hi => by omega⟩) (by rw [hF9 _ _ _ (by omega)]; exact hbl) (by omega))
          exact fun r M' q9 => ⟨q9.1, q9.2.1, (hF9.up (fun k i s q9 => by omega)).tr q9.2.2.1, q9.2.2.2.trans (l65.trans l7)⟩
        · refine ez_iinc 74 (nI (S.2.2.2.2.2 S.1 + 1)) [(4, eI (nI (S.2.2.2.2.2 S.1 + 1))), (0, eR 11 0), (1, eR 10 wi), (2, eR 1 m), (3, eR 20 pi)] dX11_goOneStep_71 rfl rfl (nI_add (S.2.2.2.2.2 S.1) 1) (by decide) rfl ?_
          refine ez_aload_n 75 dX11_goOneStep_74 rfl rfl ?_
          refine ez_dup 76 dX11_goOneStep_75 rfl rfl ?_
          refine ez_getf 79 (eI (M65.1 10 wi 5)) dX11_goOneStep_76 rfl fl_X11_182 (by show wi < 18; omega) rfl ?_
          refine ez_top S.2.2.1 R65.2.2.2.2.2.1 ?_
          refine ez_iconst 80 dX11_goOneStep_79 rfl (nI 1) (by decide) ?_
          refine ez_isub 81 dX11_goOneStep_80 rfl ?_
          refine ez_putf 84 .int dX11_goOneStep_81 rfl fp_X11_182 (by show wi < 18; omega) rfl (by decide) rfl rfl ?_
          have eT : ep_take lt (fun key => (tf xr key).2) bl num S = (S.2.2.1 - nI 1, S.2.2.2.2.2 S.1 + 1) := by unfold ep_take; rw [if_neg (fun z9 => by have := z9.1; omega), if_pos ⟨Int32.not_le.mp h53, h60, h68⟩]
          have hF9 : FX (fun k i s => k = 23 ∨ k = 24 ∨ (k = 10 ∧ i = wi ∧ s = 5)) M (ez_st M65 10 wi 5 (S.2.2.1 - (nI 1))) := (((FX.rf.tr (f7.up (fun k i s q9 => by omega))).tr (f65.up (fun k i s q9 => by omega))).st (by omega))
          unfold ep_step
          rw [eT]
          refine ez_wk ?_ (gs_84 G d (S := (S.1, S.2.1, S.2.2.1 - (nI 1), S.2.2.2.1, S.2.2.2.2.1, S.2.2.2.2.2)) (tf := tf) wi pi m (S.2.2.2.2.2 S.1 + 1) (ez_st M65 10 wi 5 (S.2.2.1 - (nI 1))) hd hwi hpi hm hkd hnum hz hS hW hb2 (RCW_bag R65) (hZ.fx hF9 ⟨by omega, fun x => by omega⟩) (hX.fx hF9 hW.2.1 ⟨by omega, by omega, fun i s hi => by omega⟩) (by rw [hF9 _ _ _ (by omega)]; exact hbl) (by omega))
          exact fun r M' q9 => ⟨q9.1, q9.2.1, (hF9.up (fun k i s q9 => by omega)).tr q9.2.2.1, q9.2.2.2.trans (l65.trans l7)⟩
  · refine ez_aload_n 26 dX11_goOneStep_25 rfl rfl ?_
    refine ez_iconst 27 dX11_goOneStep_26 rfl (nI 2) (by decide) ?_
    refine ez_callV 30 [eI (nI 2)] [] dX11_goOneStep_27 rfl rfl ok_X11_saying in_X11_saying (by decide) (by show 0 < 1; omega) ln_X11_207 (by omega) (Nat.le_of_ble_eq_true rfl) (c_X11_saying G (d - 1) 2 M7 (by omega) (by omega) hW X7 n7) (fun r27 M27 q27 => ?_)
    obtain ⟨rfl, f27, l27⟩ := q27
    have R27 := R7.fx f27 (fun s => by omega)
    have X27 := X7.fx f27 hW.2.1 ⟨by omega, by omega, fun i s hi => by omega⟩
    have n27 : ∀ j, j < 6 → M27.1 23 0 j = ep_nm lt bl num S j := fun j hj => by rw [f27 _ _ _ (by omega)]; exact n7 j hj
    show Ez G mX11_goOneStep d 30 [(4, eI (nI (S.2.2.2.2.2 S.1))), (0, eR 11 0), (1, eR 10 wi), (2, eR 1 m), (3, eR 20 pi)] [eI ((tf xr 2).2 (ep_nm lt bl num S))] M27 _
    refine ez_if_eq 33 49 dX11_goOneStep_30 rfl (by decide) (fun h30 => ?_) (fun h30 => ?_)
    · refine ez_aload_n 50 dX11_goOneStep_49 rfl rfl ?_
      refine ez_getf 53 (eI (M27.1 10 wi 5)) dX11_goOneStep_50 rfl fl_X11_182 (by show wi < 18; omega) rfl ?_
      refine ez_top S.2.2.1 R27.2.2.2.2.2.1 ?_
      refine ez_if_le 56 84 dX11_goOneStep_53 rfl (by decide) (fun h53 => ?_) (fun h53 => ?_)
      · have eT : ep_take lt (fun key => (tf xr key).2) bl num S = (S.2.2.1, S.2.2.2.2.2 S.1) := by unfold ep_take; rw [if_neg (fun z9 => z9.2 h30), if_neg (fun z9 => Int32.not_lt.mpr h53 z9.1)]
        have hF9 : FX (fun k i s => k = 23 ∨ k = 24 ∨ (k = 10 ∧ i = wi ∧ s = 5)) M M27 := ((FX.rf.tr (f7.up (fun k i s q9 => by omega))).tr (f27.up (fun k i s q9 => by omega)))
        unfold ep_step
        rw [eT]
        refine ez_wk ?_ (gs_84 G d (S := S) (tf := tf) wi pi m (S.2.2.2.2.2 S.1) M27 hd hwi hpi hm hkd hnum hz hS hW hb2 R27 (hZ.fx hF9 ⟨by omega, fun x => by omega⟩) (hX.fx hF9 hW.2.1 ⟨by omega, by omega, fun i s hi => by omega⟩) (by rw [hF9 _ _ _ (by omega)]; exact hbl) (by omega))
        exact fun r M' q9 => ⟨q9.1, q9.2.1, (hF9.up (fun k i s q9 => by omega)).tr q9.2.2.1, q9.2.2.2.trans (l27.trans l7)⟩
      · refine ez_iload 58 dX11_goOneStep_56 rfl rfl ?_
        refine ez_bipush 60 dX11_goOneStep_58 rfl (nI 99) (by decide) ?_
        refine ez_ncmp_ge 63 84 dX11_goOneStep_60 rfl (by decide) (by omega) (by omega) (fun h60 => ?_) (fun h60 => ?_)
        · have eT : ep_take lt (fun key => (tf xr key).2) bl num S = (S.2.2.1, S.2.2.2.2.2 S.1) := by unfold ep_take; rw [if_neg (fun z9 => z9.2 h30), if_neg (fun z9 => by have := z9.2.1; omega)]
          have hF9 : FX (fun k i s => k = 23 ∨ k = 24 ∨ (k = 10 ∧ i = wi ∧ s = 5)) M M27 := ((FX.rf.tr (f7.up (fun k i s q9 => by omega))).tr (f27.up (fun k i s q9 => by omega)))
          unfold ep_step
          rw [eT]
          refine ez_wk ?_ (gs_84 G d (S := S) (tf := tf) wi pi m (S.2.2.2.2.2 S.1) M27 hd hwi hpi hm hkd hnum hz hS hW hb2 R27 (hZ.fx hF9 ⟨by omega, fun x => by omega⟩) (hX.fx hF9 hW.2.1 ⟨by omega, by omega, fun i s hi => by omega⟩) (by rw [hF9 _ _ _ (by omega)]; exact hbl) (by omega))
          exact fun r M' q9 => ⟨q9.1, q9.2.1, (hF9.up (fun k i s q9 => by omega)).tr q9.2.2.1, q9.2.2.2.trans (l27.trans l7)⟩
        · refine ez_aload_n 64 dX11_goOneStep_63 rfl rfl ?_
          refine ez_iconst 65 dX11_goOneStep_64 rfl (nI 1) (by decide) ?_
          refine ez_callV 68 [eI (nI 1)] [] dX11_goOneStep_65 rfl rfl ok_X11_saying in_X11_saying (by decide) (by show 0 < 1; omega) ln_X11_207 (by omega) (Nat.le_of_ble_eq_true rfl) (c_X11_saying G (d - 1) 1 M27 (by omega) (by omega) hW X27 n27) (fun r65 M65 q65 => ?_)
          obtain ⟨rfl, f65, l65⟩ := q65
          have R65 := R27.fx f65 (fun s => by omega)
          have X65 := X27.fx f65 hW.2.1 ⟨by omega, by omega, fun i s hi => by omega⟩
          have n65 : ∀ j, j < 6 → M65.1 23 0 j = ep_nm lt bl num S j := fun j hj => by rw [f65 _ _ _ (by omega)]; exact n27 j hj
          show Ez G mX11_goOneStep d 68 [(4, eI (nI (S.2.2.2.2.2 S.1))), (0, eR 11 0), (1, eR 10 wi), (2, eR 1 m), (3, eR 20 pi)] [eI ((tf xr 1).2 (ep_nm lt bl num S))] M65 _
          refine ez_if_eq 71 84 dX11_goOneStep_68 rfl (by decide) (fun h68 => ?_) (fun h68 => ?_)
          · have eT : ep_take lt (fun key => (tf xr key).2) bl num S = (S.2.2.1, S.2.2.2.2.2 S.1) := by unfold ep_take; rw [if_neg (fun z9 => z9.2 h30), if_neg (fun z9 => z9.2.2 h68)]
            have hF9 : FX (fun k i s => k = 23 ∨ k = 24 ∨ (k = 10 ∧ i = wi ∧ s = 5)) M M65 := (((FX.rf.tr (f7.up (fun k i s q9 => by omega))).tr (f27.up (fun k i s q9 => by omega))).tr (f65.up (fun k i s q9 => by omega)))
            unfold ep_step
            rw [eT]
            refine ez_wk ?_ (gs_84 G d (S := S) (tf := tf) wi pi m (S.2.2.2.2.2 S.1) M65 hd hwi hpi hm hkd hnum hz hS hW hb2 R65 (hZ.fx hF9 ⟨by omega, fun x => by omega⟩) (hX.fx hF9 hW.2.1 ⟨by omega, by omega, fun i s hi => by omega⟩) (by rw [hF9 _ _ _ (by omega)]; exact hbl) (by omega))
            exact fun r M' q9 => ⟨q9.1, q9.2.1, (hF9.up (fun k i s q9 => by omega)).tr q9.2.2.1, q9.2.2.2.trans (l65.trans (l27.trans l7))⟩
          · refine ez_iinc 74 (nI (S.2.2.2.2.2 S.1 + 1)) [(4, eI (nI (S.2.2.2.2.2 S.1 + 1))), (0, eR 11 0), (1, eR 10 wi), (2, eR 1 m), (3, eR 20 pi)] dX11_goOneStep_71 rfl rfl (nI_add (S.2.2.2.2.2 S.1) 1) (by decide) rfl ?_
            refine ez_aload_n 75 dX11_goOneStep_74 rfl rfl ?_
            refine ez_dup 76 dX11_goOneStep_75 rfl rfl ?_
            refine ez_getf 79 (eI (M65.1 10 wi 5)) dX11_goOneStep_76 rfl fl_X11_182 (by show wi < 18; omega) rfl ?_
            refine ez_top S.2.2.1 R65.2.2.2.2.2.1 ?_
            refine ez_iconst 80 dX11_goOneStep_79 rfl (nI 1) (by decide) ?_
            refine ez_isub 81 dX11_goOneStep_80 rfl ?_
            refine ez_putf 84 .int dX11_goOneStep_81 rfl fp_X11_182 (by show wi < 18; omega) rfl (by decide) rfl rfl ?_
            have eT : ep_take lt (fun key => (tf xr key).2) bl num S = (S.2.2.1 - nI 1, S.2.2.2.2.2 S.1 + 1) := by unfold ep_take; rw [if_neg (fun z9 => z9.2 h30), if_pos ⟨Int32.not_le.mp h53, h60, h68⟩]
            have hF9 : FX (fun k i s => k = 23 ∨ k = 24 ∨ (k = 10 ∧ i = wi ∧ s = 5)) M (ez_st M65 10 wi 5 (S.2.2.1 - (nI 1))) := ((((FX.rf.tr (f7.up (fun k i s q9 => by omega))).tr (f27.up (fun k i s q9 => by omega))).tr (f65.up (fun k i s q9 => by omega))).st (by omega))
            unfold ep_step
            rw [eT]
            refine ez_wk ?_ (gs_84 G d (S := (S.1, S.2.1, S.2.2.1 - (nI 1), S.2.2.2.1, S.2.2.2.2.1, S.2.2.2.2.2)) (tf := tf) wi pi m (S.2.2.2.2.2 S.1 + 1) (ez_st M65 10 wi 5 (S.2.2.1 - (nI 1))) hd hwi hpi hm hkd hnum hz hS hW hb2 (RCW_bag R65) (hZ.fx hF9 ⟨by omega, fun x => by omega⟩) (hX.fx hF9 hW.2.1 ⟨by omega, by omega, fun i s hi => by omega⟩) (by rw [hF9 _ _ _ (by omega)]; exact hbl) (by omega))
            exact fun r M' q9 => ⟨q9.1, q9.2.1, (hF9.up (fun k i s q9 => by omega)).tr q9.2.2.1, q9.2.2.2.trans (l65.trans (l27.trans l7))⟩
    · refine ez_iinc 36 (nI (S.2.2.2.2.2 S.1 - 1)) [(4, eI (nI (S.2.2.2.2.2 S.1 - 1))), (0, eR 11 0), (1, eR 10 wi), (2, eR 1 m), (3, eR 20 pi)] dX11_goOneStep_33 rfl rfl (by rw [show Int32.ofInt (-1) = -nI 1 from by decide, ← Int32.sub_eq_add_neg]; exact pk_sub (by omega)) (by decide) rfl ?_
      refine ez_aload_n 37 dX11_goOneStep_36 rfl rfl ?_
      refine ez_dup 38 dX11_goOneStep_37 rfl rfl ?_
      refine ez_getf 41 (eI (M27.1 10 wi 5)) dX11_goOneStep_38 rfl fl_X11_182 (by show wi < 18; omega) rfl ?_
      refine ez_top S.2.2.1 R27.2.2.2.2.2.1 ?_
      refine ez_iconst 42 dX11_goOneStep_41 rfl (nI 1) (by decide) ?_
      refine ez_iadd 43 dX11_goOneStep_42 rfl ?_
      refine ez_putf 46 .int dX11_goOneStep_43 rfl fp_X11_182 (by show wi < 18; omega) rfl (by decide) rfl rfl ?_
      refine ez_goto 84 dX11_goOneStep_46 (by decide) ?_
      have eT : ep_take lt (fun key => (tf xr key).2) bl num S = (S.2.2.1 + nI 1, S.2.2.2.2.2 S.1 - 1) := by unfold ep_take; rw [if_pos ⟨h22, h30⟩]
      have hF9 : FX (fun k i s => k = 23 ∨ k = 24 ∨ (k = 10 ∧ i = wi ∧ s = 5)) M (ez_st M27 10 wi 5 (S.2.2.1 + (nI 1))) := (((FX.rf.tr (f7.up (fun k i s q9 => by omega))).tr (f27.up (fun k i s q9 => by omega))).st (by omega))
      unfold ep_step
      rw [eT]
      refine ez_wk ?_ (gs_84 G d (S := (S.1, S.2.1, S.2.2.1 + (nI 1), S.2.2.2.1, S.2.2.2.2.1, S.2.2.2.2.2)) (tf := tf) wi pi m (S.2.2.2.2.2 S.1 - 1) (ez_st M27 10 wi 5 (S.2.2.1 + (nI 1))) hd hwi hpi hm hkd hnum hz hS hW hb2 (RCW_bag R27) (hZ.fx hF9 ⟨by omega, fun x => by omega⟩) (hX.fx hF9 hW.2.1 ⟨by omega, by omega, fun i s hi => by omega⟩) (by rw [hF9 _ _ _ (by omega)]; exact hbl) (by omega))
      exact fun r M' q9 => ⟨q9.1, q9.2.1, (hF9.up (fun k i s q9 => by omega)).tr q9.2.2.1, q9.2.2.2.trans (l27.trans l7)⟩
