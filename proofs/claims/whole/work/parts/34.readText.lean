/-! a text read by the class: readText; what a rule holds -/
def TF2 (M M' : EzM) : Prop := ez_fm [3, 7, 14, 15, 16, 17] M M' ∧ (∀ i, i ≠ 6 → M'.1 3 i = M.1 3 i ∧ M'.1 16 i = M.1 16 i ∧ M'.1 17 i = M.1 17 i) ∧ M'.1 7 0 1 = M.1 7 0 1
theorem TF2.rf {M : EzM} : TF2 M M := ⟨ez_fm.rfl, fun _ _ => ⟨rfl, rfl, rfl⟩, rfl⟩
theorem TF2.tr {M M1 M2 : EzM} (h : TF2 M M1) (h2 : TF2 M1 M2) : TF2 M M2 := ⟨h.1.tr h2.1, fun i hi => ⟨(h2.2.1 i hi).1.trans (h.2.1 i hi).1, (h2.2.1 i hi).2.1.trans (h.2.1 i hi).2.1, (h2.2.1 i hi).2.2.trans (h.2.1 i hi).2.2⟩, h2.2.2.trans h.2.2⟩
theorem TF2.of {M M' : EzM} (h : TF M M') : TF2 M M' := ⟨h.1.up (by decide), fun i hi => ⟨(h.2.1 i hi).1, (h.2.1 i hi).2, by rw [(h.1 17 (by decide)).1]⟩, h.2.2⟩
theorem TF.e17 {M M' : EzM} (h : TF M M') : M'.1 17 = M.1 17 := (h.1 17 (by decide)).1
theorem TF2.s17 {M : EzM} {s : Nat} {v : Int32} : TF2 M (ez_st M 17 6 s v) := ⟨ez_fm.rfl.st (by decide), fun i hi => ⟨rfl, rfl, ez_row_n M _ (fun q => hi q.2)⟩, rfl⟩
theorem TG.s17 {Tk Pl : Nat → Nat} {N k : Nat} {c : List Int32} {M : EzM} {s : Nat} {v : Int32} (h : TG Tk Pl N k c M) : TG Tk Pl N k c (ez_st M 17 6 s v) := h
theorem TB.s17 {f : Nat} {M : EzM} {s : Nat} {v : Int32} (h : TB f M) : TB f (ez_st M 17 6 s v) := h
def RTx (Tk Pl : Nat → Nat) (N : Nat) (x : EpR) (L : List Int32) (key : Nat) (M1 M2 : EzM) : Prop := TF2 M1 M2 ∧ (∀ j, j ≠ key → M2.1 17 6 j = M1.1 17 6 j) ∧ match x with
  | .inl q => TG Tk Pl N q.1 (L ++ q.2.1) M2 ∧ M2.1 17 6 key = nI (L ++ q.2.1).length
  | .inr e => TB (Pl e) M2
set_option maxRecDepth 20000 in
theorem rt_1 (G : EzG) (d key : Nat) {Tk Pl : Nat → Nat} {N z k : Nat} {L : List Int32} {P : Option EzV → EzM → Prop} (M1 : EzM) (hd : 60 ≤ d) (hkey : key < 3) (hH : HT Tk Pl N) (hG : TG Tk Pl N k L M1) (hL : L.length + (N - k) ≤ N) {c1 : List Int32} {k1 : Nat} {v1 : EpV} (ht : Tk k = 16 + key) (hy : ep_pz Tk z 0 0 (k + 1) [] (fun _ => 0) = some (.inl (k1, c1, v1))) (ht1 : Tk k1 = 59) (K : ∀ M2, RTx Tk Pl N (.inl (k1 + 1, c1, v1)) L key M1 M2 → Ez G mX7_readText d 34 [(1, eI (nI (key + 1))), (0, eR 7 0)] [] M2 P) : Ez G mX7_readText d 34 [(1, eI (nI key)), (0, eR 7 0)] [] M1 P := by
  refine ez_iload_n 35 dX7_readText_34 rfl rfl ?_
  refine ez_iconst 36 dX7_readText_35 rfl (nI 3) (by decide) ?_
  refine ez_ncmp_ge 39 72 dX7_readText_36 rfl (by decide) (by omega) (by omega) (fun h36 => ?_) (fun h36 => ?_)
  · exfalso; omega
  · refine ez_aload_n 40 dX7_readText_39 rfl rfl ?_
    refine ez_bipush 42 dX7_readText_40 rfl (nI 16) (by decide) ?_
    refine ez_iload_n 43 dX7_readText_42 rfl rfl ?_
    refine ez_iadd 44 dX7_readText_43 rfl ?_
    refine ez_top (nI (16 + key)) (nI_add _ _) ?_
    refine ez_callV 47 [eI (nI (16 + key))] [] dX7_readText_44 rfl rfl ok_X7_expect in_X7_expect (by decide) (by show 0 < 1; omega) ln_X7_46 (by omega) (Nat.le_of_ble_eq_true rfl) (c_exp G (d - 1) (16 + key) M1 (by omega) hH hG (by omega) ht) (fun r44 M44 q44 => ?_)
    obtain ⟨rfl, f44, g44⟩ := q44
    show Ez G mX7_readText d 47 [(1, eI (nI key)), (0, eR 7 0)] [] M44 _
    refine ez_aload_n 48 dX7_readText_47 rfl rfl ?_
    refine ez_iconst 49 dX7_readText_48 rfl (nI 0) (by decide) ?_
    refine ez_callV 52 [eI (nI 0)] [] dX7_readText_49 rfl rfl ok_X7_readOr in_X7_readOr (by decide) (by show 0 < 1; omega) ln_X7_50 (by omega) (Nat.le_of_ble_eq_true rfl) ((c_pz G hH z).1.1 0 (k + 1) L _ _ M44 (d - 1) (by omega) (by omega) (by have := hH.1; have := hH.2.2 k hG.2.1 (by omega); omega) g44 hy) (fun r49 M49 q49 => ?_)
    obtain ⟨rfl, f49, g49⟩ := q49
    show Ez G mX7_readText d 52 [(1, eI (nI key)), (0, eR 7 0)] [] M49 _
    refine ez_aload_n 53 dX7_readText_52 rfl rfl ?_
    refine ez_bipush 55 dX7_readText_53 rfl (nI 59) (by decide) ?_
    refine ez_callV 58 [eI (nI 59)] [] dX7_readText_55 rfl rfl ok_X7_expect in_X7_expect (by decide) (by show 0 < 1; omega) ln_X7_46 (by omega) (Nat.le_of_ble_eq_true rfl) (c_exp G (d - 1) 59 M49 (by omega) hH g49 (by omega) ht1) (fun r55 M55 q55 => ?_)
    obtain ⟨rfl, f55, g55⟩ := q55
    show Ez G mX7_readText d 58 [(1, eI (nI key)), (0, eR 7 0)] [] M55 _
    refine ez_aload_n 59 dX7_readText_58 rfl rfl ?_
    refine ez_getf 62 (eR 3 6) dX7_readText_59 rfl fl_X7_25 (by show 0 < 1; omega) rfl ?_
    refine ez_iload_n 63 dX7_readText_62 rfl rfl ?_
    refine ez_callV 66 [eI (nI key)] [] dX7_readText_63 rfl rfl ok_X3_end in_X3_end (by decide) (by show 6 < 7; omega) ln_X7_53 (by omega) (Nat.le_of_ble_eq_true rfl) (c_X3_end G (d - 1) 6 key M55 (by omega) (by omega) (by omega)) (fun r63 M63 q63 => ?_)
    obtain ⟨rfl, e63⟩ := q63
    rw [e63]
    show Ez G mX7_readText d 66 [(1, eI (nI key)), (0, eR 7 0)] [] (ez_st M55 17 6 key (M55.1 3 6 2)) _
    refine ez_iinc 69 (nI (key + 1)) [(1, eI (nI (key + 1))), (0, eR 7 0)] dX7_readText_66 rfl rfl (nI_add key 1) (by decide) rfl ?_
    refine ez_goto 34 dX7_readText_69 (by decide) ?_
    refine K _ ⟨((TF2.of f44).tr (TF2.of f49)).tr ((TF2.of f55).tr TF2.s17), fun j hj => ?_, ?_⟩
    · rw [ez_rd, if_neg (fun q9 => hj q9.2.2), f55.e17, f49.e17, f44.e17]
    · exact ⟨g55.s17, by rw [ez_rd, if_pos ⟨rfl, rfl, rfl⟩]; exact g55.2.2.2.2.2.1⟩
set_option maxRecDepth 20000 in
theorem rt_2 (G : EzG) (d key : Nat) {Tk Pl : Nat → Nat} {N z k : Nat} {L : List Int32} {P : Option EzV → EzM → Prop} (M1 : EzM) (hd : 60 ≤ d) (hkey : key < 3) (hH : HT Tk Pl N) (hG : TG Tk Pl N k L M1) (hL : L.length + (N - k) ≤ N) {c1 : List Int32} {k1 : Nat} {v1 : EpV} (ht : Tk k = 16 + key) (hy : ep_pz Tk z 0 0 (k + 1) [] (fun _ => 0) = some (.inl (k1, c1, v1))) (ht1 : ¬ Tk k1 = 59) (K : ∀ M2, RTx Tk Pl N (.inr k1) L key M1 M2 → Ez G mX7_readText d 34 [(1, eI (nI (key + 1))), (0, eR 7 0)] [] M2 P) : Ez G mX7_readText d 34 [(1, eI (nI key)), (0, eR 7 0)] [] M1 P := by
  refine ez_iload_n 35 dX7_readText_34 rfl rfl ?_
  refine ez_iconst 36 dX7_readText_35 rfl (nI 3) (by decide) ?_
  refine ez_ncmp_ge 39 72 dX7_readText_36 rfl (by decide) (by omega) (by omega) (fun h36 => ?_) (fun h36 => ?_)
  · exfalso; omega
  · refine ez_aload_n 40 dX7_readText_39 rfl rfl ?_
    refine ez_bipush 42 dX7_readText_40 rfl (nI 16) (by decide) ?_
    refine ez_iload_n 43 dX7_readText_42 rfl rfl ?_
    refine ez_iadd 44 dX7_readText_43 rfl ?_
    refine ez_top (nI (16 + key)) (nI_add _ _) ?_
    refine ez_callV 47 [eI (nI (16 + key))] [] dX7_readText_44 rfl rfl ok_X7_expect in_X7_expect (by decide) (by show 0 < 1; omega) ln_X7_46 (by omega) (Nat.le_of_ble_eq_true rfl) (c_exp G (d - 1) (16 + key) M1 (by omega) hH hG (by omega) ht) (fun r44 M44 q44 => ?_)
    obtain ⟨rfl, f44, g44⟩ := q44
    show Ez G mX7_readText d 47 [(1, eI (nI key)), (0, eR 7 0)] [] M44 _
    refine ez_aload_n 48 dX7_readText_47 rfl rfl ?_
    refine ez_iconst 49 dX7_readText_48 rfl (nI 0) (by decide) ?_
    refine ez_callV 52 [eI (nI 0)] [] dX7_readText_49 rfl rfl ok_X7_readOr in_X7_readOr (by decide) (by show 0 < 1; omega) ln_X7_50 (by omega) (Nat.le_of_ble_eq_true rfl) ((c_pz G hH z).1.1 0 (k + 1) L _ _ M44 (d - 1) (by omega) (by omega) (by have := hH.1; have := hH.2.2 k hG.2.1 (by omega); omega) g44 hy) (fun r49 M49 q49 => ?_)
    obtain ⟨rfl, f49, g49⟩ := q49
    show Ez G mX7_readText d 52 [(1, eI (nI key)), (0, eR 7 0)] [] M49 _
    refine ez_aload_n 53 dX7_readText_52 rfl rfl ?_
    refine ez_bipush 55 dX7_readText_53 rfl (nI 59) (by decide) ?_
    refine ez_callV 58 [eI (nI 59)] [] dX7_readText_55 rfl rfl ok_X7_expect in_X7_expect (by decide) (by show 0 < 1; omega) ln_X7_46 (by omega) (Nat.le_of_ble_eq_true rfl) (c_expn G (d - 1) 59 M49 (by omega) hH g49 (by omega) ht1) (fun r55 M55 q55 => ?_)
    obtain ⟨rfl, f55, g55⟩ := q55
    show Ez G mX7_readText d 58 [(1, eI (nI key)), (0, eR 7 0)] [] M55 _
    refine ez_aload_n 59 dX7_readText_58 rfl rfl ?_
    refine ez_getf 62 (eR 3 6) dX7_readText_59 rfl fl_X7_25 (by show 0 < 1; omega) rfl ?_
    refine ez_iload_n 63 dX7_readText_62 rfl rfl ?_
    refine ez_callV 66 [eI (nI key)] [] dX7_readText_63 rfl rfl ok_X3_end in_X3_end (by decide) (by show 6 < 7; omega) ln_X7_53 (by omega) (Nat.le_of_ble_eq_true rfl) (c_X3_end G (d - 1) 6 key M55 (by omega) (by omega) (by omega)) (fun r63 M63 q63 => ?_)
    obtain ⟨rfl, e63⟩ := q63
    rw [e63]
    show Ez G mX7_readText d 66 [(1, eI (nI key)), (0, eR 7 0)] [] (ez_st M55 17 6 key (M55.1 3 6 2)) _
    refine ez_iinc 69 (nI (key + 1)) [(1, eI (nI (key + 1))), (0, eR 7 0)] dX7_readText_66 rfl rfl (nI_add key 1) (by decide) rfl ?_
    refine ez_goto 34 dX7_readText_69 (by decide) ?_
    refine K _ ⟨((TF2.of f44).tr (TF2.of f49)).tr ((TF2.of f55).tr TF2.s17), fun j hj => ?_, ?_⟩
    · rw [ez_rd, if_neg (fun q9 => hj q9.2.2), f55.e17, f49.e17, f44.e17]
    · exact g55.s17
set_option maxRecDepth 20000 in
theorem rt_3 (G : EzG) (d key : Nat) {Tk Pl : Nat → Nat} {N z k : Nat} {L : List Int32} {P : Option EzV → EzM → Prop} (M1 : EzM) (hd : 60 ≤ d) (hkey : key < 3) (hH : HT Tk Pl N) (hG : TG Tk Pl N k L M1) (hL : L.length + (N - k) ≤ N) {e : Nat} (ht : Tk k = 16 + key) (hy : ep_pz Tk z 0 0 (k + 1) [] (fun _ => 0) = some (.inr e)) (he : Pl e < 2 ^ 31) (K : ∀ M2, RTx Tk Pl N (.inr e) L key M1 M2 → Ez G mX7_readText d 34 [(1, eI (nI (key + 1))), (0, eR 7 0)] [] M2 P) : Ez G mX7_readText d 34 [(1, eI (nI key)), (0, eR 7 0)] [] M1 P := by
  refine ez_iload_n 35 dX7_readText_34 rfl rfl ?_
  refine ez_iconst 36 dX7_readText_35 rfl (nI 3) (by decide) ?_
  refine ez_ncmp_ge 39 72 dX7_readText_36 rfl (by decide) (by omega) (by omega) (fun h36 => ?_) (fun h36 => ?_)
  · exfalso; omega
  · refine ez_aload_n 40 dX7_readText_39 rfl rfl ?_
    refine ez_bipush 42 dX7_readText_40 rfl (nI 16) (by decide) ?_
    refine ez_iload_n 43 dX7_readText_42 rfl rfl ?_
    refine ez_iadd 44 dX7_readText_43 rfl ?_
    refine ez_top (nI (16 + key)) (nI_add _ _) ?_
    refine ez_callV 47 [eI (nI (16 + key))] [] dX7_readText_44 rfl rfl ok_X7_expect in_X7_expect (by decide) (by show 0 < 1; omega) ln_X7_46 (by omega) (Nat.le_of_ble_eq_true rfl) (c_exp G (d - 1) (16 + key) M1 (by omega) hH hG (by omega) ht) (fun r44 M44 q44 => ?_)
    obtain ⟨rfl, f44, g44⟩ := q44
    show Ez G mX7_readText d 47 [(1, eI (nI key)), (0, eR 7 0)] [] M44 _
    refine ez_aload_n 48 dX7_readText_47 rfl rfl ?_
    refine ez_iconst 49 dX7_readText_48 rfl (nI 0) (by decide) ?_
    refine ez_callV 52 [eI (nI 0)] [] dX7_readText_49 rfl rfl ok_X7_readOr in_X7_readOr (by decide) (by show 0 < 1; omega) ln_X7_50 (by omega) (Nat.le_of_ble_eq_true rfl) ((c_pz G hH z).1.1 0 (k + 1) L _ _ M44 (d - 1) (by omega) (by omega) (by have := hH.1; have := hH.2.2 k hG.2.1 (by omega); omega) g44 hy) (fun r49 M49 q49 => ?_)
    obtain ⟨rfl, f49, g49⟩ := q49
    show Ez G mX7_readText d 52 [(1, eI (nI key)), (0, eR 7 0)] [] M49 _
    refine ez_aload_n 53 dX7_readText_52 rfl rfl ?_
    refine ez_bipush 55 dX7_readText_53 rfl (nI 59) (by decide) ?_
    refine ez_callV 58 [eI (nI 59)] [] dX7_readText_55 rfl rfl ok_X7_expect in_X7_expect (by decide) (by show 0 < 1; omega) ln_X7_46 (by omega) (Nat.le_of_ble_eq_true rfl) (c_expb G (d - 1) 59 M49 (by omega) he g49 (by omega) (by omega)) (fun r55 M55 q55 => ?_)
    obtain ⟨rfl, f55, g55⟩ := q55
    show Ez G mX7_readText d 58 [(1, eI (nI key)), (0, eR 7 0)] [] M55 _
    refine ez_aload_n 59 dX7_readText_58 rfl rfl ?_
    refine ez_getf 62 (eR 3 6) dX7_readText_59 rfl fl_X7_25 (by show 0 < 1; omega) rfl ?_
    refine ez_iload_n 63 dX7_readText_62 rfl rfl ?_
    refine ez_callV 66 [eI (nI key)] [] dX7_readText_63 rfl rfl ok_X3_end in_X3_end (by decide) (by show 6 < 7; omega) ln_X7_53 (by omega) (Nat.le_of_ble_eq_true rfl) (c_X3_end G (d - 1) 6 key M55 (by omega) (by omega) (by omega)) (fun r63 M63 q63 => ?_)
    obtain ⟨rfl, e63⟩ := q63
    rw [e63]
    show Ez G mX7_readText d 66 [(1, eI (nI key)), (0, eR 7 0)] [] (ez_st M55 17 6 key (M55.1 3 6 2)) _
    refine ez_iinc 69 (nI (key + 1)) [(1, eI (nI (key + 1))), (0, eR 7 0)] dX7_readText_66 rfl rfl (nI_add key 1) (by decide) rfl ?_
    refine ez_goto 34 dX7_readText_69 (by decide) ?_
    refine K _ ⟨((TF2.of f44).tr (TF2.of f49)).tr ((TF2.of f55).tr TF2.s17), fun j hj => ?_, ?_⟩
    · rw [ez_rd, if_neg (fun q9 => hj q9.2.2), f55.e17, f49.e17, f44.e17]
    · exact g55.s17
set_option maxRecDepth 20000 in
theorem rt_4 (G : EzG) (d key : Nat) {Tk Pl : Nat → Nat} {N z k : Nat} {L : List Int32} {P : Option EzV → EzM → Prop} (M1 : EzM) (hd : 60 ≤ d) (hkey : key < 3) (hH : HT Tk Pl N) (hG : TG Tk Pl N k L M1) (hL : L.length + (N - k) ≤ N) (ht : ¬ Tk k = 16 + key) (K : ∀ M2, RTx Tk Pl N (.inr k) L key M1 M2 → Ez G mX7_readText d 34 [(1, eI (nI (key + 1))), (0, eR 7 0)] [] M2 P) : Ez G mX7_readText d 34 [(1, eI (nI key)), (0, eR 7 0)] [] M1 P := by
  refine ez_iload_n 35 dX7_readText_34 rfl rfl ?_
  refine ez_iconst 36 dX7_readText_35 rfl (nI 3) (by decide) ?_
  refine ez_ncmp_ge 39 72 dX7_readText_36 rfl (by decide) (by omega) (by omega) (fun h36 => ?_) (fun h36 => ?_)
  · exfalso; omega
  · refine ez_aload_n 40 dX7_readText_39 rfl rfl ?_
    refine ez_bipush 42 dX7_readText_40 rfl (nI 16) (by decide) ?_
    refine ez_iload_n 43 dX7_readText_42 rfl rfl ?_
    refine ez_iadd 44 dX7_readText_43 rfl ?_
    refine ez_top (nI (16 + key)) (nI_add _ _) ?_
    refine ez_callV 47 [eI (nI (16 + key))] [] dX7_readText_44 rfl rfl ok_X7_expect in_X7_expect (by decide) (by show 0 < 1; omega) ln_X7_46 (by omega) (Nat.le_of_ble_eq_true rfl) (c_expn G (d - 1) (16 + key) M1 (by omega) hH hG (by omega) ht) (fun r44 M44 q44 => ?_)
    obtain ⟨rfl, f44, g44⟩ := q44
    show Ez G mX7_readText d 47 [(1, eI (nI key)), (0, eR 7 0)] [] M44 _
    refine ez_aload_n 48 dX7_readText_47 rfl rfl ?_
    refine ez_iconst 49 dX7_readText_48 rfl (nI 0) (by decide) ?_
    refine ez_callV 52 [eI (nI 0)] [] dX7_readText_49 rfl rfl ok_X7_readOr in_X7_readOr (by decide) (by show 0 < 1; omega) ln_X7_50 (by omega) (Nat.le_of_ble_eq_true rfl) (cb_readOr G (d - 1) 0 M44 (by omega) (by have := (hH.2.1 k hG.2.1).2; omega) (by omega) g44) (fun r49 M49 q49 => ?_)
    obtain ⟨rfl, f49, g49⟩ := q49
    show Ez G mX7_readText d 52 [(1, eI (nI key)), (0, eR 7 0)] [] M49 _
    refine ez_aload_n 53 dX7_readText_52 rfl rfl ?_
    refine ez_bipush 55 dX7_readText_53 rfl (nI 59) (by decide) ?_
    refine ez_callV 58 [eI (nI 59)] [] dX7_readText_55 rfl rfl ok_X7_expect in_X7_expect (by decide) (by show 0 < 1; omega) ln_X7_46 (by omega) (Nat.le_of_ble_eq_true rfl) (c_expb G (d - 1) 59 M49 (by omega) (by have := (hH.2.1 k hG.2.1).2; omega) g49 (by omega) (by omega)) (fun r55 M55 q55 => ?_)
    obtain ⟨rfl, f55, g55⟩ := q55
    show Ez G mX7_readText d 58 [(1, eI (nI key)), (0, eR 7 0)] [] M55 _
    refine ez_aload_n 59 dX7_readText_58 rfl rfl ?_
    refine ez_getf 62 (eR 3 6) dX7_readText_59 rfl fl_X7_25 (by show 0 < 1; omega) rfl ?_
    refine ez_iload_n 63 dX7_readText_62 rfl rfl ?_
    refine ez_callV 66 [eI (nI key)] [] dX7_readText_63 rfl rfl ok_X3_end in_X3_end (by decide) (by show 6 < 7; omega) ln_X7_53 (by omega) (Nat.le_of_ble_eq_true rfl) (c_X3_end G (d - 1) 6 key M55 (by omega) (by omega) (by omega)) (fun r63 M63 q63 => ?_)
    obtain ⟨rfl, e63⟩ := q63
    rw [e63]
    show Ez G mX7_readText d 66 [(1, eI (nI key)), (0, eR 7 0)] [] (ez_st M55 17 6 key (M55.1 3 6 2)) _
    refine ez_iinc 69 (nI (key + 1)) [(1, eI (nI (key + 1))), (0, eR 7 0)] dX7_readText_66 rfl rfl (nI_add key 1) (by decide) rfl ?_
    refine ez_goto 34 dX7_readText_69 (by decide) ?_
    refine K _ ⟨((TF2.of f44).tr (TF2.of f49)).tr ((TF2.of f55).tr TF2.s17), fun j hj => ?_, ?_⟩
    · rw [ez_rd, if_neg (fun q9 => hj q9.2.2), f55.e17, f49.e17, f44.e17]
    · exact g55.s17
set_option maxRecDepth 20000 in
theorem rt_bad (G : EzG) (d key : Nat) {f : Nat} {P : Option EzV → EzM → Prop} (M1 : EzM) (hd : 60 ≤ d) (hkey : key < 3) (hf : f < 2 ^ 31) (hB : TB f M1) (K : ∀ M2, TF2 M1 M2 → TB f M2 → Ez G mX7_readText d 34 [(1, eI (nI (key + 1))), (0, eR 7 0)] [] M2 P) : Ez G mX7_readText d 34 [(1, eI (nI key)), (0, eR 7 0)] [] M1 P := by
  refine ez_iload_n 35 dX7_readText_34 rfl rfl ?_
  refine ez_iconst 36 dX7_readText_35 rfl (nI 3) (by decide) ?_
  refine ez_ncmp_ge 39 72 dX7_readText_36 rfl (by decide) (by omega) (by omega) (fun h36 => ?_) (fun h36 => ?_)
  · exfalso; omega
  · refine ez_aload_n 40 dX7_readText_39 rfl rfl ?_
    refine ez_bipush 42 dX7_readText_40 rfl (nI 16) (by decide) ?_
    refine ez_iload_n 43 dX7_readText_42 rfl rfl ?_
    refine ez_iadd 44 dX7_readText_43 rfl ?_
    refine ez_top (nI (16 + key)) (nI_add _ _) ?_
    refine ez_callV 47 [eI (nI (16 + key))] [] dX7_readText_44 rfl rfl ok_X7_expect in_X7_expect (by decide) (by show 0 < 1; omega) ln_X7_46 (by omega) (Nat.le_of_ble_eq_true rfl) (c_expb G (d - 1) (16 + key) M1 (by omega) hf hB (by omega) (by omega)) (fun r44 M44 q44 => ?_)
    obtain ⟨rfl, f44, g44⟩ := q44
    show Ez G mX7_readText d 47 [(1, eI (nI key)), (0, eR 7 0)] [] M44 _
    refine ez_aload_n 48 dX7_readText_47 rfl rfl ?_
    refine ez_iconst 49 dX7_readText_48 rfl (nI 0) (by decide) ?_
    refine ez_callV 52 [eI (nI 0)] [] dX7_readText_49 rfl rfl ok_X7_readOr in_X7_readOr (by decide) (by show 0 < 1; omega) ln_X7_50 (by omega) (Nat.le_of_ble_eq_true rfl) (cb_readOr G (d - 1) 0 M44 (by omega) hf (by omega) g44) (fun r49 M49 q49 => ?_)
    obtain ⟨rfl, f49, g49⟩ := q49
    show Ez G mX7_readText d 52 [(1, eI (nI key)), (0, eR 7 0)] [] M49 _
    refine ez_aload_n 53 dX7_readText_52 rfl rfl ?_
    refine ez_bipush 55 dX7_readText_53 rfl (nI 59) (by decide) ?_
    refine ez_callV 58 [eI (nI 59)] [] dX7_readText_55 rfl rfl ok_X7_expect in_X7_expect (by decide) (by show 0 < 1; omega) ln_X7_46 (by omega) (Nat.le_of_ble_eq_true rfl) (c_expb G (d - 1) 59 M49 (by omega) hf g49 (by omega) (by omega)) (fun r55 M55 q55 => ?_)
    obtain ⟨rfl, f55, g55⟩ := q55
    show Ez G mX7_readText d 58 [(1, eI (nI key)), (0, eR 7 0)] [] M55 _
    refine ez_aload_n 59 dX7_readText_58 rfl rfl ?_
    refine ez_getf 62 (eR 3 6) dX7_readText_59 rfl fl_X7_25 (by show 0 < 1; omega) rfl ?_
    refine ez_iload_n 63 dX7_readText_62 rfl rfl ?_
    refine ez_callV 66 [eI (nI key)] [] dX7_readText_63 rfl rfl ok_X3_end in_X3_end (by decide) (by show 6 < 7; omega) ln_X7_53 (by omega) (Nat.le_of_ble_eq_true rfl) (c_X3_end G (d - 1) 6 key M55 (by omega) (by omega) (by omega)) (fun r63 M63 q63 => ?_)
    obtain ⟨rfl, e63⟩ := q63
    rw [e63]
    show Ez G mX7_readText d 66 [(1, eI (nI key)), (0, eR 7 0)] [] (ez_st M55 17 6 key (M55.1 3 6 2)) _
    refine ez_iinc 69 (nI (key + 1)) [(1, eI (nI (key + 1))), (0, eR 7 0)] dX7_readText_66 rfl rfl (nI_add key 1) (by decide) rfl ?_
    refine ez_goto 34 dX7_readText_69 (by decide) ?_
    exact K _ (((TF2.of f44).tr (TF2.of f49)).tr ((TF2.of f55).tr TF2.s17)) g55.s17
theorem rt_good (G : EzG) (d key : Nat) {Tk Pl : Nat → Nat} {N z k : Nat} {L : List Int32} {P : Option EzV → EzM → Prop} (M1 : EzM) (hd : 60 ≤ d) (hkey : key < 3) (hH : HT Tk Pl N) (hG : TG Tk Pl N k L M1) (hL : L.length + (N - k) ≤ N) (x : EpR) (hx : ep_pt Tk z key k = some x) (K : ∀ M2, RTx Tk Pl N x L key M1 M2 → Ez G mX7_readText d 34 [(1, eI (nI (key + 1))), (0, eR 7 0)] [] M2 P) : Ez G mX7_readText d 34 [(1, eI (nI key)), (0, eR 7 0)] [] M1 P := by
  unfold ep_pt at hx
  by_cases ht : Tk k = 16 + key
  · rw [if_pos ht] at hx
    have hlt := hH.2.2 k hG.2.1 (by omega)
    rcases ep_bd_some hx with ⟨k1, c1, v1, h1, h2⟩ | ⟨e, h1, h2⟩
    · by_cases ht1 : Tk k1 = 59
      · rw [if_pos ht1] at h2
        cases h2
        exact rt_1 G d key M1 hd hkey hH hG hL ht h1 ht1 K
      · rw [if_neg ht1] at h2
        cases h2
        exact rt_2 G d key M1 hd hkey hH hG hL ht h1 ht1 K
    · subst h2
      have hp := ep_pz_pk hH.2.2 z _ _ _ _ _ _ (show k + 1 ≤ N from hlt) (Or.inr (Or.inr (Or.inr (Or.inr rfl)))) h1
      exact rt_3 G d key M1 hd hkey hH hG hL ht h1 (by have := (hH.2.1 e hp.2).2; omega) K
  · rw [if_neg ht] at hx
    cases hx
    exact rt_4 (z := 0) G d key M1 hd hkey hH hG hL ht K
set_option maxRecDepth 20000 in
theorem rt_end0 (G : EzG) (d : Nat) {Tk Pl : Nat → Nat} {N k : Nat} {L : List Int32} {P : Option EzV → EzM → Prop} (M1 : EzM) (hG : TG Tk Pl N k L M1) (ht : Tk k = 0) (K : P (some (eI (-1))) M1) : Ez G mX7_readText d 34 [(1, eI (nI 3)), (0, eR 7 0)] [] M1 P := by
  refine ez_iload_n 35 dX7_readText_34 rfl rfl ?_
  refine ez_iconst 36 dX7_readText_35 rfl (nI 3) (by decide) ?_
  refine ez_ncmp_ge 39 72 dX7_readText_36 rfl (by decide) (by omega) (by omega) (fun h36 => ?_) (fun h36 => ?_)
  · refine ez_aload_n 73 dX7_readText_72 rfl rfl ?_
    refine ez_getf 76 (eI (M1.1 7 0 6)) dX7_readText_73 rfl fl_X7_39 (by show 0 < 1; omega) rfl ?_
    refine ez_top (nI 0) (by rw [hG.2.2.2.1, ht]) ?_
    refine ez_nif_eq 79 83 dX7_readText_76 rfl (by decide) (by omega) (fun h76 => ?_) (fun h76 => ?_)
    · refine ez_aload_n 84 dX7_readText_83 rfl rfl ?_
      refine ez_getf 87 (eI (M1.1 7 0 7)) dX7_readText_84 rfl fl_X7_42 (by show 0 < 1; omega) rfl ?_
      refine ez_top (-1) hG.2.2.2.2.1 ?_
      refine ez_iret .int dX7_readText_87 rfl rfl ?_
      exact K
    · exact absurd h76 (by decide)
  · exact absurd h36 (by decide)
set_option maxRecDepth 20000 in
theorem rt_endn (G : EzG) (d : Nat) {Tk Pl : Nat → Nat} {N k : Nat} {L : List Int32} {P : Option EzV → EzM → Prop} (M1 : EzM) (hd : 2 ≤ d) (hH : HT Tk Pl N) (hG : TG Tk Pl N k L M1) (ht : ¬ Tk k = 0) (K : ∀ M2, TF M1 M2 → P (some (eI (nI (Pl k)))) M2) : Ez G mX7_readText d 34 [(1, eI (nI 3)), (0, eR 7 0)] [] M1 P := by
  refine ez_iload_n 35 dX7_readText_34 rfl rfl ?_
  refine ez_iconst 36 dX7_readText_35 rfl (nI 3) (by decide) ?_
  refine ez_ncmp_ge 39 72 dX7_readText_36 rfl (by decide) (by omega) (by omega) (fun h36 => ?_) (fun h36 => ?_)
  · refine ez_aload_n 73 dX7_readText_72 rfl rfl ?_
    refine ez_getf 76 (eI (M1.1 7 0 6)) dX7_readText_73 rfl fl_X7_39 (by show 0 < 1; omega) rfl ?_
    refine ez_top (nI (Tk k)) hG.2.2.2.1 ?_
    have hT9 := (hH.2.1 k hG.2.1).1
    refine ez_nif_eq 79 83 dX7_readText_76 rfl (by decide) (by omega) (fun h76 => ?_) (fun h76 => ?_)
    · exact absurd h76 ht
    · refine ez_aload_n 80 dX7_readText_79 rfl rfl ?_
      refine ez_callV 83 [] [] dX7_readText_80 rfl rfl ok_X7_refuse in_X7_refuse (by decide) (by show 0 < 1; omega) ln_X7_56 (by omega) (Nat.le_of_ble_eq_true rfl) (c_ref G (d - 1) M1 (by omega) hH hG) (fun r80 M80 q80 => ?_)
      obtain ⟨rfl, f80, g80⟩ := q80
      show Ez G mX7_readText d 83 [(1, eI (nI 3)), (0, eR 7 0)] [] M80 _
      refine ez_aload_n 84 dX7_readText_83 rfl rfl ?_
      refine ez_getf 87 (eI (M80.1 7 0 7)) dX7_readText_84 rfl fl_X7_42 (by show 0 < 1; omega) rfl ?_
      refine ez_top (nI (Pl k)) g80.2 ?_
      refine ez_iret .int dX7_readText_87 rfl rfl ?_
      exact K _ f80
  · exact absurd h36 (by decide)
set_option maxRecDepth 20000 in
theorem rt_endb (G : EzG) (d : Nat) {f : Nat} {P : Option EzV → EzM → Prop} (M1 : EzM) (hd : 2 ≤ d) (hf : f < 2 ^ 31) (hB : TB f M1) (K : ∀ M2, TF M1 M2 → P (some (eI (nI f))) M2) : Ez G mX7_readText d 34 [(1, eI (nI 3)), (0, eR 7 0)] [] M1 P := by
  refine ez_iload_n 35 dX7_readText_34 rfl rfl ?_
  refine ez_iconst 36 dX7_readText_35 rfl (nI 3) (by decide) ?_
  refine ez_ncmp_ge 39 72 dX7_readText_36 rfl (by decide) (by omega) (by omega) (fun h36 => ?_) (fun h36 => ?_)
  · refine ez_aload_n 73 dX7_readText_72 rfl rfl ?_
    refine ez_getf 76 (eI (M1.1 7 0 6)) dX7_readText_73 rfl fl_X7_39 (by show 0 < 1; omega) rfl ?_
    refine ez_top (nI 1) hB.1 ?_
    refine ez_nif_eq 79 83 dX7_readText_76 rfl (by decide) (by omega) (fun h76 => ?_) (fun h76 => ?_)
    · exact absurd h76 (by decide)
    · refine ez_aload_n 80 dX7_readText_79 rfl rfl ?_
      refine ez_callV 83 [] [] dX7_readText_80 rfl rfl ok_X7_refuse in_X7_refuse (by decide) (by show 0 < 1; omega) ln_X7_56 (by omega) (Nat.le_of_ble_eq_true rfl) (c_refb G (d - 1) M1 (by omega) hf hB) (fun r80 M80 q80 => ?_)
      obtain ⟨rfl, f80, g80⟩ := q80
      show Ez G mX7_readText d 83 [(1, eI (nI 3)), (0, eR 7 0)] [] M80 _
      refine ez_aload_n 84 dX7_readText_83 rfl rfl ?_
      refine ez_getf 87 (eI (M80.1 7 0 7)) dX7_readText_84 rfl fl_X7_42 (by show 0 < 1; omega) rfl ?_
      refine ez_top (nI f) g80.2 ?_
      refine ez_iret .int dX7_readText_87 rfl rfl ?_
      exact K _ f80
  · exact absurd h36 (by decide)
/-- what a rule holds -/
def RU (i : Nat) (f : Nat → List Int32 × EpV) (M : EzM) : Prop := M.1 17 i 0 = nI (f 0).1.length ∧ M.1 17 i 1 = nI ((f 0).1 ++ (f 1).1).length ∧ M.1 17 i 2 = nI ((f 0).1 ++ (f 1).1 ++ (f 2).1).length ∧ ((f 0).1 ++ (f 1).1 ++ (f 2).1).length ≤ 160 ∧ ∀ j, j < ((f 0).1 ++ (f 1).1 ++ (f 2).1).length → M.1 16 i j = ((f 0).1 ++ (f 1).1 ++ (f 2).1).getD j 0
def RTP (Pl : Nat → Nat) (M : EzM) (t : EpT) (r : Option EzV) (M' : EzM) : Prop := TF2 M M' ∧ match t with
  | .inl f => r = some (eI (-1)) ∧ RU 6 f M'
  | .inr e => r = some (eI (nI (Pl e)))
theorem rt_all (G : EzG) (d : Nat) {Tk Pl : Nat → Nat} {N z : Nat} (t : EpT) (M M1 : EzM) (hd : 60 ≤ d) (hH : HT Tk Pl N) (hG : TG Tk Pl N 0 [] M1) (hF : TF2 M M1) (hz : 12 * N + 8 ≤ z) (ht : EpTx Tk z t) : Ez G mX7_readText d 34 [(1, eI (nI 0)), (0, eR 7 0)] [] M1 (RTP Pl M t) := by
  have pk : ∀ key k x, k ≤ N → ep_pt Tk z key k = some x → ep_pk N k [] x := by
    intro key k x hk hx
    obtain ⟨x2, e1, e2⟩ := ep_pt_ok (key := key) hH.2.2 hk hz
    rw [hx] at e1
    cases e1
    exact e2
  have bad : ∀ (key : Nat) (e : Nat) (M2 : EzM), key ≤ 3 → e ≤ N → TF2 M M2 → TB (Pl e) M2 → Ez G mX7_readText d 34 [(1, eI (nI key)), (0, eR 7 0)] [] M2 (fun r M' => TF2 M M' ∧ r = some (eI (nI (Pl e)))) := by
    intro key
    have h3 : ∀ (e : Nat) (M2 : EzM), e ≤ N → TF2 M M2 → TB (Pl e) M2 → Ez G mX7_readText d 34 [(1, eI (nI 3)), (0, eR 7 0)] [] M2 (fun r M' => TF2 M M' ∧ r = some (eI (nI (Pl e)))) := fun e M2 he hf hb => rt_endb G d M2 (by omega) (by have := (hH.2.1 e he).2; omega) hb (fun M3 f3 => ⟨hf.tr (TF2.of f3), rfl⟩)
    have h2 : ∀ (e : Nat) (M2 : EzM), e ≤ N → TF2 M M2 → TB (Pl e) M2 → Ez G mX7_readText d 34 [(1, eI (nI 2)), (0, eR 7 0)] [] M2 (fun r M' => TF2 M M' ∧ r = some (eI (nI (Pl e)))) := fun e M2 he hf hb => rt_bad G d 2 M2 hd (by omega) (by have := (hH.2.1 e he).2; omega) hb (fun M3 f3 b3 => h3 e M3 he (hf.tr f3) b3)
    have h1 : ∀ (e : Nat) (M2 : EzM), e ≤ N → TF2 M M2 → TB (Pl e) M2 → Ez G mX7_readText d 34 [(1, eI (nI 1)), (0, eR 7 0)] [] M2 (fun r M' => TF2 M M' ∧ r = some (eI (nI (Pl e)))) := fun e M2 he hf hb => rt_bad G d 1 M2 hd (by omega) (by have := (hH.2.1 e he).2; omega) hb (fun M3 f3 b3 => h2 e M3 he (hf.tr f3) b3)
    have h0 : ∀ (e : Nat) (M2 : EzM), e ≤ N → TF2 M M2 → TB (Pl e) M2 → Ez G mX7_readText d 34 [(1, eI (nI 0)), (0, eR 7 0)] [] M2 (fun r M' => TF2 M M' ∧ r = some (eI (nI (Pl e)))) := fun e M2 he hf hb => rt_bad G d 0 M2 hd (by omega) (by have := (hH.2.1 e he).2; omega) hb (fun M3 f3 b3 => h1 e M3 he (hf.tr f3) b3)
    intro e M2 hk
    rcases (show key = 0 ∨ key = 1 ∨ key = 2 ∨ key = 3 by omega) with rfl | rfl | rfl | rfl
    · exact h0 e M2
    · exact h1 e M2
    · exact h2 e M2
    · exact h3 e M2
  cases t with
  | inl f =>
    obtain ⟨k1, k2, k3, e0, e1, e2, e3⟩ := ht
    obtain ⟨p1, p2, p3⟩ := pk _ _ _ (Nat.zero_le _) e0
    obtain ⟨q1, q2, q3⟩ := pk _ _ _ p2 e1
    obtain ⟨r1, r2, r3⟩ := pk _ _ _ q2 e2
    simp only [List.length_nil] at p3 q3 r3
    refine rt_good G d 0 M1 hd (by omega) hH hG (by simp) _ e0 (fun M2 h2 => ?_)
    obtain ⟨a1, a2, a3, a4⟩ := h2
    rw [List.nil_append] at a3 a4
    refine rt_good G d 1 M2 hd (by omega) hH a3 (by simp only; omega) _ e1 (fun M3 h3 => ?_)
    obtain ⟨b1, b2, b3, b4⟩ := h3
    refine rt_good G d 2 M3 hd (by omega) hH b3 (by rw [List.length_append]; simp only; omega) _ e2 (fun M4 h4 => ?_)
    obtain ⟨c1, c2, c3, c4⟩ := h4
    refine rt_end0 G d M4 c3 e3 ⟨hF.tr (a1.tr (b1.tr c1)), rfl, ?_⟩
    refine ⟨by rw [c2 0 (by omega), b2 0 (by omega)]; exact a4, by rw [c2 1 (by omega)]; exact b4, c4, ?_, fun j hj => c3.2.2.2.2.2.2 j hj⟩
    have := hH.1
    rw [List.length_append, List.length_append]
    omega
  | inr e =>
    rcases ht with e0 | ⟨k1, x1, e0, e1 | ⟨k2, x2, e1, e2 | ⟨x3, e2, e3⟩⟩⟩
    · obtain ⟨p1, p2⟩ := pk _ _ _ (Nat.zero_le _) e0
      refine rt_good G d 0 M1 hd (by omega) hH hG (by simp) _ e0 (fun M2 h2 => ?_)
      exact bad 1 e M2 (by omega) p2 (hF.tr h2.1) h2.2.2
    · obtain ⟨p1, p2, p3⟩ := pk _ _ _ (Nat.zero_le _) e0
      obtain ⟨q1, q2⟩ := pk _ _ _ p2 e1
      simp only [List.length_nil] at p3
      refine rt_good G d 0 M1 hd (by omega) hH hG (by simp) _ e0 (fun M2 h2 => ?_)
      obtain ⟨a1, a2, a3, a4⟩ := h2
      rw [List.nil_append] at a3 a4
      refine rt_good G d 1 M2 hd (by omega) hH a3 (by simp only; omega) _ e1 (fun M3 h3 => ?_)
      exact bad 2 e M3 (by omega) q2 (hF.tr (a1.tr h3.1)) h3.2.2
    · obtain ⟨p1, p2, p3⟩ := pk _ _ _ (Nat.zero_le _) e0
      obtain ⟨q1, q2, q3⟩ := pk _ _ _ p2 e1
      obtain ⟨r1, r2⟩ := pk _ _ _ q2 e2
      simp only [List.length_nil] at p3 q3
      refine rt_good G d 0 M1 hd (by omega) hH hG (by simp) _ e0 (fun M2 h2 => ?_)
      obtain ⟨a1, a2, a3, a4⟩ := h2
      rw [List.nil_append] at a3 a4
      refine rt_good G d 1 M2 hd (by omega) hH a3 (by simp only; omega) _ e1 (fun M3 h3 => ?_)
      obtain ⟨b1, b2, b3, b4⟩ := h3
      refine rt_good G d 2 M3 hd (by omega) hH b3 (by rw [List.length_append]; simp only; omega) _ e2 (fun M4 h4 => ?_)
      exact bad 3 e M4 (by omega) r2 (hF.tr (a1.tr (b1.tr h4.1))) h4.2.2
    · obtain ⟨p1, p2, p3⟩ := pk _ _ _ (Nat.zero_le _) e0
      obtain ⟨q1, q2, q3⟩ := pk _ _ _ p2 e1
      obtain ⟨r1, r2, r3⟩ := pk _ _ _ q2 e2
      simp only [List.length_nil] at p3 q3 r3
      refine rt_good G d 0 M1 hd (by omega) hH hG (by simp) _ e0 (fun M2 h2 => ?_)
      obtain ⟨a1, a2, a3, a4⟩ := h2
      rw [List.nil_append] at a3 a4
      refine rt_good G d 1 M2 hd (by omega) hH a3 (by simp only; omega) _ e1 (fun M3 h3 => ?_)
      obtain ⟨b1, b2, b3, b4⟩ := h3
      refine rt_good G d 2 M3 hd (by omega) hH b3 (by rw [List.length_append]; simp only; omega) _ e2 (fun M4 h4 => ?_)
      obtain ⟨c1, c2, c3, c4⟩ := h4
      exact rt_endn G d M4 (by omega) hH c3 e3 (fun M5 f5 => ⟨hF.tr (a1.tr (b1.tr (c1.tr (TF2.of f5)))), rfl⟩)
set_option maxRecDepth 20000 in
theorem c_X7_readText (G : EzG) (d : Nat) {N z n : Nat} {b : Nat → Nat} (t : EpT) (M : EzM) (hd : 60 ≤ d) (hn : n ≤ 160) (hsz : M.1 7 0 1 = nI n) (hb : ∀ i, i < n → b i < 256 ∧ M.1 13 0 i = ep_sb (b i)) (hN : N ≤ n) (hN2 : ep_tk b n N < 10) (hN3 : ∀ k, k < N → 10 ≤ ep_tk b n k) (hz : 12 * N + 8 ≤ z) (ht : EpTx (ep_tk b n) z t) : Ezc G mX7_readText d [eR 7 0] M (RTP (ep_pl b n) M t) := by
  refine Ezc.of (by decide +kernel) (Nat.le_of_ble_eq_true rfl) ?_
  have hH := ep_HT (b := b) hn hN hN2
  show Ez G mX7_readText d 0 [(0, eR 7 0)] [] M _
  refine ez_aload_n 1 dX7_readText_0 rfl rfl ?_
  refine ez_callV 4 [] [] dX7_readText_1 rfl rfl ok_X7_scan in_X7_scan (by decide) (by show 0 < 1; omega) ln_X7_33 (by omega) (Nat.le_of_ble_eq_true rfl) (c_X7_scan G (d - 1) n N b M (by omega) hn hsz hb hN hN2 hN3) (fun r1 M1 q1 => ?_)
  obtain ⟨rfl, f1, t1⟩ := q1
  show Ez G mX7_readText d 4 [(0, eR 7 0)] [] M1 _
  refine ez_aload_n 5 dX7_readText_4 rfl rfl ?_
  refine ez_iconst 6 dX7_readText_5 rfl (nI 0) (by decide) ?_
  refine ez_putf 9 .int dX7_readText_6 rfl fp_X7_36 (by show 0 < 1; omega) rfl (by decide) rfl rfl ?_
  refine ez_aload_n 10 dX7_readText_9 rfl rfl ?_
  refine ez_aload_n 11 dX7_readText_10 rfl rfl ?_
  refine ez_getf 14 (eR 14 0) dX7_readText_11 rfl fl_X7_15 (by show 0 < 1; omega) rfl ?_
  refine ez_iconst 15 dX7_readText_14 rfl (nI 0) (by decide) ?_
  refine ez_ialdN 0 16 dX7_readText_15 rfl (by decide) (by show 0 < 1; omega) (by show 0 < 161; omega) ?_
  refine ez_top (M1.1 14 0 0) rfl ?_
  refine ez_top (nI (ep_tk b n 0)) (t1 0 (Nat.zero_le _)).1 ?_
  refine ez_putf 19 .int dX7_readText_16 rfl fp_X7_39 (by show 0 < 1; omega) rfl (by decide) rfl rfl ?_
  refine ez_aload_n 20 dX7_readText_19 rfl rfl ?_
  refine ez_iconst 21 dX7_readText_20 rfl (-1) (by decide) ?_
  refine ez_putf 24 .int dX7_readText_21 rfl fp_X7_42 (by show 0 < 1; omega) rfl (by decide) rfl rfl ?_
  refine ez_aload_n 25 dX7_readText_24 rfl rfl ?_
  refine ez_getf 28 (eR 3 6) dX7_readText_25 rfl fl_X7_25 (by show 0 < 1; omega) rfl ?_
  refine ez_iconst 29 dX7_readText_28 rfl (nI 0) (by decide) ?_
  refine ez_putf 32 .int dX7_readText_29 rfl fp_X7_45 (by show 6 < 7; omega) rfl (by decide) rfl rfl ?_
  refine ez_iconst 33 dX7_readText_32 rfl (nI 0) (by decide) ?_
  refine ez_istore_n 34 [(1, eI (nI 0)), (0, eR 7 0)] dX7_readText_33 rfl (by decide) rfl ?_
  refine rt_all G d t M _ hd hH ⟨fun j hj => t1 j hj, Nat.zero_le _, by simp [ez_rd], by simp [ez_rd], by simp [ez_rd], by simp [ez_rd], fun j hj => absurd hj (by simp)⟩ ?_ hz ht
  refine ⟨((((f1.up (by decide)).st (by decide)).st (by decide)).st (by decide)).st (by decide), fun i hi => ⟨?_, ?_, ?_⟩, ?_⟩
  · rw [show ∀ (Z : EzM) (v : Int32), (ez_st Z 3 6 2 v).1 3 i = Z.1 3 i from fun Z v => ez_row_n Z _ (fun q9 => hi q9.2)]
    show M1.1 3 i = _
    rw [(f1 3 (by decide)).1]
  · show M1.1 16 i = _
    rw [(f1 16 (by decide)).1]
  · show M1.1 17 i = _
    rw [(f1 17 (by decide)).1]
  · simp [ez_rd, (f1 7 (by decide)).1]
theorem RU_key {i key : Nat} {f : Nat → List Int32 × EpV} {M : EzM} (h : RU i f M) (hk : key < 3) : ∃ bg, (key = 0 → bg = 0) ∧ (0 < key → M.1 17 i (key - 1) = nI bg) ∧ M.1 17 i key = nI (bg + (f key).1.length) ∧ bg + (f key).1.length ≤ 160 ∧ ∀ j, j < (f key).1.length → M.1 16 i (bg + j) = (f key).1.getD j 0 := by
  obtain ⟨h0, h1, h2, h3, h4⟩ := h
  simp only [List.length_append] at h0 h1 h2 h3 h4
  rcases (show key = 0 ∨ key = 1 ∨ key = 2 by omega) with rfl | rfl | rfl
  · refine ⟨0, fun _ => rfl, fun q => by omega, by rw [h0, Nat.zero_add], by omega, fun j hj => ?_⟩
    rw [Nat.zero_add, h4 j (by omega), List.append_assoc, List.getD_eq_getElem?_getD, List.getElem?_append_left hj, ← List.getD_eq_getElem?_getD]
  · refine ⟨(f 0).1.length, fun q => by omega, fun _ => h0, h1, by omega, fun j hj => ?_⟩
    rw [h4 _ (by omega), List.append_assoc, List.getD_eq_getElem?_getD, List.getElem?_append_right (by omega), Nat.add_sub_cancel_left, List.getElem?_append_left hj, ← List.getD_eq_getElem?_getD]
  · refine ⟨(f 0).1.length + (f 1).1.length, fun q => by omega, fun _ => h1, h2, by omega, fun j hj => ?_⟩
    rw [h4 _ (by omega), List.getD_eq_getElem?_getD, List.getElem?_append_right (by rw [List.length_append]; omega), List.length_append, Nat.add_sub_cancel_left, ← List.getD_eq_getElem?_getD]
theorem c_comes (G : EzG) (d : Nat) (i key : Nat) (f : Nat → List Int32 × EpV) (nm : Nat → Int32) (M : EzM) (hd : 3 ≤ d) (hi : i < 7) (hk : key < 3) (hR : RU i f M) (hG : EpG 31 (f key).1 (f key).2) (hnm : ∀ j, j < 6 → M.1 23 0 j = nm j) : Ezc G mX3_comesTo d [eR 3 i, eI (nI key), eR 23 0, eR 24 0] M (fun r M' => r = some (eI ((f key).2 nm)) ∧ ∃ s, M' = ez_row M 24 0 s) := by
  obtain ⟨bg, b1, b2, b3, b4, b5⟩ := RU_key hR hk
  obtain ⟨s2, x1, x2, -⟩ := hG nm (M.1 24 0) 0 (by omega)
  exact (c_X3_comesTo G d i key bg _ (f key).1 nm s2 1 M hd hi hk b3 b1 b2 b4 rfl b5 hnm x1).wk (fun r M' q => ⟨by rw [q.1, x2], s2, q.2⟩)
