/-! readFirstText -/
set_option maxRecDepth 20000 in
theorem lp_first (G : EzG) (d : Nat)  (M : EzM) (hd : 63 ≤ d) (hs : M.1 7 0 1 = nI 0) (h117 : M.1 11 0 7 = nI 0) : ∀ (z : Nat) (t : Nat) (M1 : EzM), 33 - t = z → t ≤ 33 → M1.1 7 0 1 = nI t → (∀ i, i < t → M1.1 13 0 i = ep_sb (fx_b1 i)) → FX (fun k i s => k = 13 ∨ (k = 7 ∧ s = 1)) M M1 → Ez G mX11_readFirstText d 2 [(1, eI (nI t)), (0, eR 11 0)] [] M1 (fun r M' => r = none ∧ RCx 1 0 (fun _ => fx_f) M' ∧ M'.1 7 0 1 = nI 0 ∧ FX (fun k i s => k = 3 ∨ k = 7 ∨ k = 13 ∨ k = 14 ∨ k = 15 ∨ k = 16 ∨ k = 17 ∨ (k = 11 ∧ s = 6)) M M') := by
  intro z
  induction z using Nat.strongRecOn with
  | ind z ih =>
    intro t M1 hz ht hz1 hv hF
    refine ez_iload_n 3 dX11_readFirstText_2 rfl rfl ?_
    refine ez_ldcwS 6 12 dX11_readFirstText_3 rfl (by decide) rfl rfl ?_
    refine ez_callVX 9 [] [eI (nI t)] dX11_readFirstText_6 rfl rfl ok_J0_length_8abf5 in_J0_length_8abf5 (ez_strR (by omega)) ln_X11_338 (by omega) (Nat.le_of_ble_eq_true rfl) (c_length G (d - 1) 12 M1 (by omega) (by decide)) (fun r6 M6 q6 => ?_)
    obtain ⟨rfl, e6⟩ := q6
    rw [e6]
    show Ez G mX11_readFirstText d 9 [(1, eI (nI t)), (0, eR 11 0)] [eI (nI 33), eI (nI t)] M1 _
    refine ez_ncmp_ge 12 33 dX11_readFirstText_9 rfl (by decide) (by omega) (by omega) (fun h9 => ?_) (fun h9 => ?_)
    · have e9 : t = 33 := by omega
      refine ez_aload_n 34 dX11_readFirstText_33 rfl rfl ?_
      refine ez_getf 37 (eR 7 0) dX11_readFirstText_34 rfl fl_X11_10 (by show 0 < 1; omega) rfl ?_
      refine ez_callV 40 [] [] dX11_readFirstText_37 rfl rfl ok_X7_readText in_X7_readText (by decide) (by show 0 < 1; omega) ln_X11_122 (by omega) (Nat.le_of_ble_eq_true rfl) (c_X7_readText G (d - 1) (N := 11) (z := 140) (n := 33) (b := fx_b1) (.inl fx_f) M1 (by omega) (by omega) (by rw [hz1, e9]) (fun i hi => ⟨(fx_b1c i hi).1, hv i (by omega)⟩) (by omega) (by rw [fx_t1]; decide) (by rw [fx_t1]; decide) (by omega) (by rw [fx_t1]; exact fx_tx)) (fun r37 M37 q37 => ?_)
      obtain ⟨f37, rfl, g37⟩ := q37
      show Ez G mX11_readFirstText d 40 [(1, eI (nI t)), (0, eR 11 0)] [eI (-1)] M37 _
      refine ez_pop 41 dX11_readFirstText_40 rfl rfl ?_
      refine ez_aload_n 42 dX11_readFirstText_41 rfl rfl ?_
      refine ez_getf 45 (eR 38 0) dX11_readFirstText_42 rfl fl_X11_30 (by show 0 < 1; omega) rfl ?_
      refine ez_iconst 46 dX11_readFirstText_45 rfl (nI 0) (by decide) ?_
      refine ez_aaldN 0 47 (eR 3 0) dX11_readFirstText_46 rfl (by decide) rfl (by show 0 < 1; omega) (by show 0 < 6; omega) rfl ?_
      refine ez_aload_n 48 dX11_readFirstText_47 rfl rfl ?_
      refine ez_getf 51 (eR 7 0) dX11_readFirstText_48 rfl fl_X11_10 (by show 0 < 1; omega) rfl ?_
      refine ez_getf 54 (eR 3 6) dX11_readFirstText_51 rfl fl_X11_126 (by show 0 < 1; omega) rfl ?_
      refine ez_callV 57 [eR 3 6] [] dX11_readFirstText_54 rfl rfl ok_X3_become in_X3_become (by decide) (by show 0 < 7; omega) ln_X11_130 (by omega) (Nat.le_of_ble_eq_true rfl) (c_X3_become G (d - 1) 0 M37 (by omega) (by omega)) (fun r54 M54 q54 => ?_)
      obtain ⟨rfl, e54⟩ := q54
      rw [e54]
      show Ez G mX11_readFirstText d 57 [(1, eI (nI t)), (0, eR 11 0)] [] (ez_row (ez_row (ez_st M37 3 0 2 (M37.1 3 6 2)) 16 0 (ep_fl (M37.1 16 6) (M37.1 16 0) 160)) 17 0 (ep_fl (M37.1 17 6) (M37.1 17 0) 3)) _
      refine ez_aload_n 58 dX11_readFirstText_57 rfl rfl ?_
      refine ez_iconst 59 dX11_readFirstText_58 rfl (nI 1) (by decide) ?_
      refine ez_putf 62 .int dX11_readFirstText_59 rfl fp_X11_119 (by show 0 < 1; omega) rfl (by decide) rfl rfl ?_
      refine ez_aload_n 63 dX11_readFirstText_62 rfl rfl ?_
      refine ez_getf 66 (eR 7 0) dX11_readFirstText_63 rfl fl_X11_10 (by show 0 < 1; omega) rfl ?_
      refine ez_iconst 67 dX11_readFirstText_66 rfl (nI 0) (by decide) ?_
      refine ez_putf 70 .int dX11_readFirstText_67 rfl fp_X11_100 (by show 0 < 1; omega) rfl (by decide) rfl rfl ?_
      refine ez_vret dX11_readFirstText_70 rfl ?_
      have hF0 : FX (fun k i s => ((k = 3 ∨ k = 16 ∨ k = 17) ∧ i = 6) ∨ k = 14 ∨ k = 15 ∨ k = 7 ∨ k = 13) M M37 := (hF.up (fun k i s z => by omega)).tr (FX.tf2 f37 (fun k i s q9 => by omega))
      have hF9 : FX (fun k i s => ((k = 3 ∨ k = 16 ∨ k = 17) ∧ (i = 6 ∨ i = 0)) ∨ k = 14 ∨ k = 15 ∨ k = 7 ∨ k = 13 ∨ (k = 11 ∧ s = 6)) M (ez_st (ez_st (ez_row (ez_row (ez_st M37 3 0 2 (M37.1 3 6 2)) 16 0 (ep_fl (M37.1 16 6) (M37.1 16 0) 160)) 17 0 (ep_fl (M37.1 17 6) (M37.1 17 0) 3)) 11 0 6 (nI 1)) 7 0 1 (nI 0)) := (((((hF0.up (fun k i s q9 => by omega)).st (by omega)).row (fun s => by omega)).row (fun s => by omega)).st (by omega)).st (by omega)
      refine ⟨rfl, ⟨by simp [ez_rd], by rw [hF9 _ _ _ (by omega)]; exact h117, fun x hx => ?_⟩, by simp [ez_rd], hF9.up (fun k i s q9 => by omega)⟩
      have x0 : x = 0 := by omega
      subst x0
      exact (RU_become (i := 0) (M := M37) g37).fx (ch := fun k i s => k = 11 ∨ k = 7) ((FX.rf.st (by omega)).st (by omega)) (fun s => by omega)
    · refine ez_aload_n 13 dX11_readFirstText_12 rfl rfl ?_
      refine ez_getf 16 (eR 7 0) dX11_readFirstText_13 rfl fl_X11_10 (by show 0 < 1; omega) rfl ?_
      refine ez_ldcwS 19 12 dX11_readFirstText_16 rfl (by decide) rfl rfl ?_
      refine ez_iload_n 20 dX11_readFirstText_19 rfl rfl ?_
      refine ez_callVX 23 [eI (nI t)] [eR 7 0] dX11_readFirstText_20 rfl rfl ok_J0_charAt_5068e in_J0_charAt_5068e (ez_strR (by omega)) ln_X11_343 (by omega) (Nat.le_of_ble_eq_true rfl) (c_charAt G (d - 1) 12 t M1 (by omega) (by decide) (show t < 33 by omega)) (fun r20 M20 q20 => ?_)
      obtain ⟨rfl, e20⟩ := q20
      rw [e20]
      show Ez G mX11_readFirstText d 23 [(1, eI (nI t)), (0, eR 11 0)] [eI (ez_ch 12 t), eR 7 0] M1 _
      refine ez_i2b 24 dX11_readFirstText_23 rfl ?_
      refine ez_callV 27 [eI ((ez_ch 12 t).toInt8.toInt32)] [] dX11_readFirstText_24 rfl rfl ok_X7_append in_X7_append (by decide) (by show 0 < 1; omega) ln_X11_104 (by omega) (Nat.le_of_ble_eq_true rfl) (c_X7_append G (d - 1) t (ez_ch 12 t).toInt8 M1 hz1 (by omega)) (fun r24 M24 q24 => ?_)
      obtain ⟨rfl, e24⟩ := q24
      rw [e24]
      show Ez G mX11_readFirstText d 27 [(1, eI (nI t)), (0, eR 11 0)] [] (ez_st (ez_st M1 13 0 t (ez_ch 12 t).toInt8.toInt32) 7 0 1 (nI (t + 1))) _
      refine ez_iinc 30 (nI (t + 1)) [(1, eI (nI (t + 1))), (0, eR 11 0)] dX11_readFirstText_27 rfl rfl (nI_add t 1) (by decide) rfl ?_
      refine ez_goto 2 dX11_readFirstText_30 (by decide) ?_
      refine ih (33 - (t + 1)) (by omega) (t + 1) _ rfl (by omega) (by rw [ez_rd, if_pos ⟨rfl, rfl, rfl⟩]) (fun i hi => ?_) ((hF.st (by omega)).st (by omega))
      rw [ez_rd, if_neg (by omega), ez_rd]
      by_cases e : i = t
      · rw [if_pos ⟨rfl, rfl, e⟩, e]; exact (fx_b1c t (by omega)).2
      · rw [if_neg (fun z => e z.2.2)]; exact hv i (by omega)
set_option maxRecDepth 20000 in
theorem c_X11_readFirstText (G : EzG) (d : Nat)  (M : EzM) (hd : 63 ≤ d) (hs : M.1 7 0 1 = nI 0) (h117 : M.1 11 0 7 = nI 0) : Ezc G mX11_readFirstText d [eR 11 0] M (fun r M' => r = none ∧ RCx 1 0 (fun _ => fx_f) M' ∧ M'.1 7 0 1 = nI 0 ∧ FX (fun k i s => k = 3 ∨ k = 7 ∨ k = 13 ∨ k = 14 ∨ k = 15 ∨ k = 16 ∨ k = 17 ∨ (k = 11 ∧ s = 6)) M M') := by
  refine Ezc.of (by decide +kernel) (Nat.le_of_ble_eq_true rfl) ?_
  show Ez G mX11_readFirstText d 0 [(0, eR 11 0)] [] M _
  refine ez_iconst 1 dX11_readFirstText_0 rfl (nI 0) (by decide) ?_
  refine ez_istore_n 2 [(1, eI (nI 0)), (0, eR 11 0)] dX11_readFirstText_1 rfl (by decide) rfl ?_
  refine ez_drop [(1, eI (nI 0)), (0, eR 11 0)] (by simp) ?_
  exact lp_first G d M hd hs h117 _ 0 M rfl (by omega) hs (fun i hi => absurd hi (Nat.not_lt_zero i)) FX.rf
