/-! a whole text by the grammar; the model's part and read -/
def ep_rk (mode : Nat) : Nat := if mode = 0 then 7 else if mode = 2 then 6 else if mode = 4 then 5 else if mode = 5 then 4 else if mode = 7 then 3 else if mode = 9 then 2 else 1
theorem ep_rk_in (m : Nat) : 1 ≤ ep_rk m ∧ ep_rk m ≤ 7 := by
  unfold ep_rk
  (repeat' split) <;> omega
/-- enough fuel -/
theorem ep_pz_ok {Tk : Nat → Nat} {N : Nat} (hT : ∀ k, k ≤ N → 10 ≤ Tk k → k < N) : ∀ (z mode o k : Nat) (c : List Int32) (v : EpV), k ≤ N → mode ≤ 9 → (mode = 1 ∨ mode = 3 ∨ mode = 6 ∨ mode = 8 ∨ c = []) → 12 * (N - k) + ep_rk mode < z → ∃ x, ep_pz Tk z mode o k c v = some x := by
  intro z
  induction z with
  | zero => intro mode o k c v _ _ _ h; omega
  | succ z ih =>
    intro mode o k c v hk h9 hm h
    have nn : ∀ (m o k : Nat) (v : EpV), k ≤ N → m ≤ 9 → 12 * (N - k) + ep_rk m < z → ∃ x, ep_pz Tk z m o k [] v = some x := fun m o k v a b c => ih m o k [] v a b (Or.inr (Or.inr (Or.inr (Or.inr rfl)))) c
    have first : ∀ (m1 m2 : Nat), m1 ≤ 9 → (m2 = 1 ∨ m2 = 3 ∨ m2 = 6 ∨ m2 = 8) → 12 * (N - k) + ep_rk m1 < z → 12 * (N - k) + 1 < z → ∃ x, ep_bd (ep_pz Tk z m1 o k [] v) (fun k1 c1 v1 => ep_pz Tk z m2 o k1 c1 v1) = some x := by
      intro m1 m2 hm1 hm2 a1 a2
      obtain ⟨x, hx⟩ := nn m1 o k v hk hm1 a1
      rw [hx]
      cases x with
      | inl q =>
        obtain ⟨b1, b2, -⟩ := ep_pz_pk hT z _ _ _ _ _ _ hk (Or.inr (Or.inr (Or.inr (Or.inr rfl)))) hx
        have hr : ep_rk m2 = 1 := by rcases hm2 with q | q | q | q <;> rw [q] <;> rfl
        exact ih m2 o q.1 q.2.1 q.2.2 b2 (by omega) (by omega) (by rw [hr]; omega)
      | inr e => exact ⟨_, rfl⟩
    have tail : ∀ (m1 m2 t : Nat) (g : EpV → EpV → EpV) (sg : Int32), m1 ≤ 9 → (m2 = 1 ∨ m2 = 3 ∨ m2 = 6 ∨ m2 = 8) → 10 ≤ t → Tk k = t → ∃ x, ep_bd (ep_pz Tk z m1 o (k + 1) [] v) (fun k1 c1 v1 => ep_pz Tk z m2 o k1 (c ++ c1 ++ [sg]) (g v v1)) = some x := by
      intro m1 m2 t g sg hm1 hm2 ht0 ht
      have hlt := hT k hk (by omega)
      have hr1 := (ep_rk_in m1).2
      have h0 := (ep_rk_in mode).1
      obtain ⟨x, hx⟩ := nn m1 o (k + 1) v hlt hm1 (by omega)
      rw [hx]
      cases x with
      | inl q =>
        obtain ⟨b1, b2, -⟩ := ep_pz_pk hT z _ _ _ _ _ _ (show k + 1 ≤ N from hlt) (Or.inr (Or.inr (Or.inr (Or.inr rfl)))) hx
        have hr : ep_rk m2 = 1 := by rcases hm2 with q | q | q | q <;> rw [q] <;> rfl
        exact ih m2 o q.1 _ _ b2 (by omega) (by omega) (by rw [hr]; omega)
      | inr e => exact ⟨_, rfl⟩
    have bd : ∀ (r : Option EpR) (f : Nat → List Int32 → EpV → Option EpR), (∃ x, r = some x) → (∀ k1 c1 v1, r = some (.inl (k1, c1, v1)) → ∃ x, f k1 c1 v1 = some x) → ∃ x, ep_bd r f = some x := by
      intro r f hr hf
      obtain ⟨x, rfl⟩ := hr
      cases x with
      | inl q => exact hf q.1 q.2.1 q.2.2 rfl
      | inr e => exact ⟨_, rfl⟩
    rcases (show mode = 0 ∨ mode = 1 ∨ mode = 2 ∨ mode = 3 ∨ mode = 4 ∨ mode = 5 ∨ mode = 6 ∨ mode = 7 ∨ mode = 8 ∨ mode = 9 by omega) with rfl | rfl | rfl | rfl | rfl | rfl | rfl | rfl | rfl | rfl
    · rw [ep_pz_0]
      exact first 2 1 (by omega) (by omega) (by simp [ep_rk] at *; omega) (by simp [ep_rk] at *; omega)
    · rw [ep_pz_1]
      by_cases t : Tk k = 19
      · rw [if_pos t]; exact tail 2 1 19 (fun v v1 nm => ep_tr (¬ v nm = 0 ∨ ¬ v1 nm = 0)) _ (by omega) (by omega) (by omega) t
      · rw [if_neg t]; exact ⟨_, rfl⟩
    · rw [ep_pz_2]
      exact first 4 3 (by omega) (by omega) (by simp [ep_rk] at *; omega) (by simp [ep_rk] at *; omega)
    · rw [ep_pz_3]
      by_cases t : Tk k = 20
      · rw [if_pos t]; exact tail 4 3 20 (fun v v1 nm => ep_tr (¬ v nm = 0 ∧ ¬ v1 nm = 0)) _ (by omega) (by omega) (by omega) t
      · rw [if_neg t]; exact ⟨_, rfl⟩
    · rw [ep_pz_4]
      have hz : 12 * (N - k) + 5 < z + 1 := h
      by_cases t : Tk k = 21
      · rw [if_pos t]
        have hlt := hT k hk (by omega)
        by_cases o5 : 5 ≤ o
        · rw [if_pos o5]; exact ⟨_, rfl⟩
        rw [if_neg o5]
        exact bd _ _ (nn 4 _ _ _ hlt (by omega) (by show 12 * (N - (k + 1)) + 5 < z; omega)) (fun _ _ _ _ => ⟨_, rfl⟩)
      rw [if_neg t]
      refine bd _ _ (nn 5 _ _ _ hk (by omega) (by show 12 * (N - k) + 4 < z; omega)) (fun k1 c1 v1 hr => ?_)
      obtain ⟨b1, b2, -⟩ := ep_pz_pk hT z _ _ _ _ _ _ hk (Or.inr (Or.inr (Or.inr (Or.inr rfl)))) hr
      by_cases t1 : Tk k1 = 60
      · rw [if_pos t1]
        have hl1 := hT k1 b2 (by omega)
        exact bd _ _ (nn 5 _ _ _ hl1 (by omega) (by show 12 * (N - (k1 + 1)) + 4 < z; simp only at b1 b2; omega)) (fun _ _ _ _ => ⟨_, rfl⟩)
      rw [if_neg t1]
      by_cases t2 : Tk k1 = 61
      · rw [if_pos t2]
        have hl1 := hT k1 b2 (by omega)
        exact bd _ _ (nn 5 _ _ _ hl1 (by omega) (by show 12 * (N - (k1 + 1)) + 4 < z; simp only at b1 b2; omega)) (fun _ _ _ _ => ⟨_, rfl⟩)
      · rw [if_neg t2]; exact ⟨_, rfl⟩
    · rw [ep_pz_5]
      exact first 7 6 (by omega) (by omega) (by simp [ep_rk] at *; omega) (by simp [ep_rk] at *; omega)
    · rw [ep_pz_6]
      by_cases t : Tk k = 43
      · rw [if_pos t]; exact tail 7 6 43 (fun v v1 nm => v nm + v1 nm) _ (by omega) (by omega) (by omega) t
      rw [if_neg t]
      by_cases t : Tk k = 45
      · rw [if_pos t]; exact tail 7 6 45 (fun v v1 nm => v nm - v1 nm) _ (by omega) (by omega) (by omega) t
      · rw [if_neg t]; exact ⟨_, rfl⟩
    · rw [ep_pz_7]
      exact first 9 8 (by omega) (by omega) (by simp [ep_rk] at *; omega) (by simp [ep_rk] at *; omega)
    · rw [ep_pz_8]
      by_cases t : Tk k = 42
      · rw [if_pos t]; exact tail 9 8 42 (fun v v1 nm => v nm * v1 nm) _ (by omega) (by omega) (by omega) t
      · rw [if_neg t]; exact ⟨_, rfl⟩
    · rw [ep_pz_9]
      have hz : 12 * (N - k) + 2 < z + 1 := h
      by_cases t : 1000 ≤ Tk k
      · rw [if_pos t]; exact ⟨_, rfl⟩
      rw [if_neg t]
      by_cases t : 10 ≤ Tk k ∧ Tk k < 16
      · rw [if_pos t]; exact ⟨_, rfl⟩
      rw [if_neg t]
      by_cases t : Tk k = 45
      · rw [if_pos t]
        have hlt := hT k hk (by omega)
        by_cases o5 : 5 ≤ o
        · rw [if_pos o5]; exact ⟨_, rfl⟩
        rw [if_neg o5]
        exact bd _ _ (nn 9 _ _ _ hlt (by omega) (by show 12 * (N - (k + 1)) + 2 < z; omega)) (fun _ _ _ _ => ⟨_, rfl⟩)
      rw [if_neg t]
      by_cases t : Tk k = 40
      · rw [if_pos t]
        have hlt := hT k hk (by omega)
        by_cases o5 : 5 ≤ o
        · rw [if_pos o5]; exact ⟨_, rfl⟩
        rw [if_neg o5]
        refine bd _ _ (nn 0 _ _ _ hlt (by omega) (by show 12 * (N - (k + 1)) + 7 < z; omega)) (fun k1 c1 v1 _ => ?_)
        by_cases t1 : Tk k1 = 41
        · rw [if_pos t1]; exact ⟨_, rfl⟩
        · rw [if_neg t1]; exact ⟨_, rfl⟩
      rw [if_neg t]
      exact ⟨_, rfl⟩
/-- a part of a text: its word, what it says, its end; a text: three parts, the end -/
def ep_pt (Tk : Nat → Nat) (z key k : Nat) : Option EpR := if Tk k = 16 + key then ep_bd (ep_pz Tk z 0 0 (k + 1) [] (fun _ => 0)) (fun k1 c1 v1 => if Tk k1 = 59 then some (.inl (k1 + 1, c1, v1)) else some (.inr k1)) else some (.inr k)
abbrev EpT : Type := (Nat → List Int32 × EpV) ⊕ Nat
/-- what a text comes to -/
def EpTx (Tk : Nat → Nat) (z : Nat) (x : EpT) : Prop := match x with
  | .inl f => ∃ k1 k2 k3, ep_pt Tk z 0 0 = some (.inl (k1, f 0)) ∧ ep_pt Tk z 1 k1 = some (.inl (k2, f 1)) ∧ ep_pt Tk z 2 k2 = some (.inl (k3, f 2)) ∧ Tk k3 = 0
  | .inr e => ep_pt Tk z 0 0 = some (.inr e) ∨ (∃ k1 q1, ep_pt Tk z 0 0 = some (.inl (k1, q1)) ∧ (ep_pt Tk z 1 k1 = some (.inr e) ∨ ∃ k2 q2, ep_pt Tk z 1 k1 = some (.inl (k2, q2)) ∧ (ep_pt Tk z 2 k2 = some (.inr e) ∨ ∃ q3, ep_pt Tk z 2 k2 = some (.inl (e, q3)) ∧ ¬ Tk e = 0)))
theorem ep_pt_ok {Tk : Nat → Nat} {N z key k : Nat} (hT : ∀ k, k ≤ N → 10 ≤ Tk k → k < N) (hk : k ≤ N) (hz : 12 * N + 8 ≤ z) : ∃ x, ep_pt Tk z key k = some x ∧ ep_pk N k [] x := by
  unfold ep_pt
  by_cases t : Tk k = 16 + key
  · rw [if_pos t]
    have hlt := hT k hk (by omega)
    obtain ⟨x, hx⟩ := ep_pz_ok hT z 0 0 (k + 1) [] (fun _ => 0) hlt (by omega) (Or.inr (Or.inr (Or.inr (Or.inr rfl)))) (by show 12 * (N - (k + 1)) + 7 < z; omega)
    have hp := ep_pz_pk hT z _ _ _ _ _ _ (show k + 1 ≤ N from hlt) (Or.inr (Or.inr (Or.inr (Or.inr rfl)))) hx
    rw [hx]
    cases x with
    | inl q =>
      obtain ⟨k1, c1, v1⟩ := q
      obtain ⟨p1, p2, p3⟩ := hp
      simp only [List.length_nil] at p3
      show ∃ x, (if Tk k1 = 59 then some (Sum.inl (k1 + 1, c1, v1)) else some (Sum.inr k1)) = some x ∧ _
      by_cases t1 : Tk k1 = 59
      · rw [if_pos t1]
        have hl1 := hT k1 p2 (by omega)
        exact ⟨_, rfl, by show k ≤ k1 + 1; omega, hl1, by show c1.length + (N - (k1 + 1)) ≤ ([] : List Int32).length + (N - k); simp only [List.length_nil]; omega⟩
      · rw [if_neg t1]
        exact ⟨_, rfl, by omega, p2⟩
    | inr e =>
      obtain ⟨p1, p2⟩ := hp
      exact ⟨_, rfl, by omega, p2⟩
  · rw [if_neg t]
    exact ⟨_, rfl, Nat.le_refl _, hk⟩
/-- every text comes to something -/
theorem EpTx_ok {Tk : Nat → Nat} {N z : Nat} (hT : ∀ k, k ≤ N → 10 ≤ Tk k → k < N) (hz : 12 * N + 8 ≤ z) : ∃ x, EpTx Tk z x := by
  obtain ⟨x0, h0, p0⟩ := ep_pt_ok (key := 0) hT (Nat.zero_le N) hz
  cases x0 with
  | inr e => exact ⟨.inr e, Or.inl h0⟩
  | inl q0 =>
    obtain ⟨k1, r1⟩ := q0
    obtain ⟨x1, h1, p1⟩ := ep_pt_ok (key := 1) hT p0.2.1 hz
    cases x1 with
    | inr e => exact ⟨.inr e, Or.inr ⟨k1, r1, h0, Or.inl h1⟩⟩
    | inl q1 =>
      obtain ⟨k2, r2⟩ := q1
      obtain ⟨x2, h2, p2⟩ := ep_pt_ok (key := 2) hT p1.2.1 hz
      cases x2 with
      | inr e => exact ⟨.inr e, Or.inr ⟨k1, r1, h0, Or.inr ⟨k2, r2, h1, Or.inl h2⟩⟩⟩
      | inl q2 =>
        obtain ⟨k3, r3⟩ := q2
        by_cases t : Tk k3 = 0
        · exact ⟨.inl (fun i => if i = 0 then r1 else if i = 1 then r2 else r3), k1, k2, k3, h0, h1, h2, t⟩
        · exact ⟨.inr k3, Or.inr ⟨k1, r1, h0, Or.inr ⟨k2, r2, h1, Or.inr ⟨r3, h2, t⟩⟩⟩⟩
theorem MTk_0 {t : Nat} {M : EzM} (h : MTk t M) (ht : t = 0) : M.1 12 0 23 = nI 0 := by
  rcases h with ⟨h1, h2⟩ | ⟨h1, h2⟩ | ⟨h1, h2, h3, h4⟩ | ⟨h1, h2, h3, h4⟩ | ⟨h1, h2, h3, h4⟩ <;> first | exact h2 | omega
theorem MTk_p {t : Nat} {M : EzM} (h : MTk t M) (ht : ¬ t = 0) : ¬ M.1 12 0 23 = 0 := by
  rcases h with ⟨h1, h2⟩ | ⟨h1, h2 | ⟨h2, h3⟩⟩ | ⟨h1, h2, h3, h4⟩ | ⟨h1, h2, h3, h4⟩ | ⟨h1, h2, h3, h4⟩
  · exact absurd h1 ht
  · rw [h2]; decide
  · rw [h2]; decide
  · rw [h3]; decide
  · rw [h3]; decide
  · rw [h3]; decide
set_option maxRecDepth 20000 in
theorem c_part (g : EzH) (d : Nat) {Tk Pl En : Nat → Nat} {N fr n : Nat} {b : Nat → Nat} {nm : Nat → Int32} {z key k : Nat} (w : Int64) (x : EpR) (M : EzM) (hd : 60 ≤ d) (hH : HT Tk Pl N) (hN : MNx g Tk Pl En N fr n b nm) (hG : MG Tk Pl En N fr n b nm 0 k M) (hk : key < 3) (hw : w = ep_wd (16 + key)) (h : ep_pt Tk z key k = some x) : Ezc (true, g) mX12_part d [eR 12 0, eL w] M (fun q M' => MF M M' ∧ MXr Tk Pl En N fr n b nm x 0 q M') := by
  unfold ep_pt at h
  have u0 := (hH.2.1 _ hG.2.1).1
  have w0 := hG.2.1
  refine Ezc.of (by decide +kernel) (Nat.le_of_ble_eq_true rfl) ?_
  show Ez (true, g) mX12_part d 0 [(0, eR 12 0), (1, eL w)] [] M _
  by_cases tk : Tk k = 16 + key
  · rw [if_pos tk] at h
    have hlt := hH.2.2 k hG.2.1 (by omega)
    rcases ep_bd_some h with ⟨k1, c1, v1, h1, h2⟩ | ⟨e, h1, rfl⟩
    · obtain ⟨p1, p2, p3⟩ := ep_pz_pk hH.2.2 z _ _ _ _ _ _ (show k + 1 ≤ N from hlt) (Or.inr (Or.inr (Or.inr (Or.inr rfl)))) h1
      have uk := (hH.2.1 k1 p2).1
      by_cases t59 : Tk k1 = 59
      · rw [if_pos t59] at h2
        have hl1 := hH.2.2 k1 p2 (by omega)
        cases h2
        refine ez_aload_n 1 dX12_part_0 rfl rfl ?_
        refine ez_lload_n 2 dX12_part_1 rfl rfl ?_
        refine ez_callV 5 [eL w] [] dX12_part_2 rfl rfl ok_X12_isWord in_X12_isWord (by decide) (by show 0 < 1; omega) ln_X12_301 (by omega) (Nat.le_of_ble_eq_true rfl) (c_iw_y g (d - 1) (16 + key) w M hG (by omega) hw (by omega)) (fun r2 M2 q2 => ?_)
        obtain ⟨rfl, e2⟩ := q2
        rw [e2]
        show Ez (true, g) mX12_part d 5 [(0, eR 12 0), (1, eL w)] [eI (nI 1)] M _
        refine ez_nif_ne 8 12 dX12_part_5 rfl (by decide) (by omega) (fun h5 => ?_) (fun h5 => ?_)
        · refine ez_aload_n 13 dX12_part_12 rfl rfl ?_
          refine ez_getf 16 (eI (M.1 12 0 28)) dX12_part_13 rfl fl_X12_284 (by show 0 < 1; omega) rfl ?_
          refine ez_top (nI 0) hG.2.2.2.2.2.2 ?_
          refine ez_nif_ne 19 23 dX12_part_16 rfl (by decide) (by omega) (fun h16 => ?_) (fun h16 => ?_)
          · exact absurd h16 (by decide)
          · refine ez_aload_n 20 dX12_part_19 rfl rfl ?_
            refine ez_callV 23 [] [] dX12_part_20 rfl rfl ok_X12_next in_X12_next (by decide) (by show 0 < 1; omega) ln_X12_296 (by omega) (Nat.le_of_ble_eq_true rfl) (hN 0 k M (d - 1) (by omega) hG (by omega)) (fun r20 M20 q20 => ?_)
            obtain ⟨rfl, f20, g20⟩ := q20
            have u20 := (hH.2.1 _ g20.2.1).1
            have w20 := g20.2.1
            show Ez (true, g) mX12_part d 23 [(0, eR 12 0), (1, eL w)] [] M20 _
            refine ez_aload_n 24 dX12_part_23 rfl rfl ?_
            refine ez_getf 27 (eI (M20.1 12 0 28)) dX12_part_24 rfl fl_X12_284 (by show 0 < 1; omega) rfl ?_
            refine ez_top (nI 0) g20.2.2.2.2.2.2 ?_
            refine ez_nif_eq 30 34 dX12_part_27 rfl (by decide) (by omega) (fun h27 => ?_) (fun h27 => ?_)
            · refine ez_aload_n 35 dX12_part_34 rfl rfl ?_
              refine ez_callV 38 [] [] dX12_part_35 rfl rfl ok_X12_either in_X12_either (by decide) (by show 0 < 1; omega) ln_X12_325 (by omega) (Nat.le_of_ble_eq_true rfl) ((c_pm g hH hN z).1.1 0 (k + 1) _ _ M20 (d - 1) (by omega) (by omega) g20 h1) (fun r35 M35 q35 => ?_)
              obtain ⟨f35, rfl, g35⟩ := q35
              have g35 : MG Tk Pl En N fr n b nm 0 k1 M35 := g35
              have u35 := (hH.2.1 _ g35.2.1).1
              have w35 := g35.2.1
              show Ez (true, g) mX12_part d 38 [(0, eR 12 0), (1, eL w)] [eI (v1 nm)] M35 _
              refine ez_istore_n 39 [(3, eI (v1 nm)), (0, eR 12 0), (1, eL w)] dX12_part_38 rfl (by decide) rfl ?_
              refine ez_aload_n 40 dX12_part_39 rfl rfl ?_
              refine ez_bipush 42 dX12_part_40 rfl (nI 59) (by decide) ?_
              refine ez_callV 45 [eI (nI 59)] [] dX12_part_42 rfl rfl ok_X12_isSign in_X12_isSign (by decide) (by show 0 < 1; omega) ln_X12_315 (by omega) (Nat.le_of_ble_eq_true rfl) (c_is_y g (d - 1) 59 M35 g35 (by decide) (by omega)) (fun r42 M42 q42 => ?_)
              obtain ⟨rfl, e42⟩ := q42
              rw [e42]
              show Ez (true, g) mX12_part d 45 [(3, eI (v1 nm)), (0, eR 12 0), (1, eL w)] [eI (nI 1)] M35 _
              refine ez_nif_ne 48 52 dX12_part_45 rfl (by decide) (by omega) (fun h45 => ?_) (fun h45 => ?_)
              · refine ez_aload_n 53 dX12_part_52 rfl rfl ?_
                refine ez_getf 56 (eI (M35.1 12 0 28)) dX12_part_53 rfl fl_X12_284 (by show 0 < 1; omega) rfl ?_
                refine ez_top (nI 0) g35.2.2.2.2.2.2 ?_
                refine ez_nif_ne 59 63 dX12_part_56 rfl (by decide) (by omega) (fun h56 => ?_) (fun h56 => ?_)
                · exact absurd h56 (by decide)
                · refine ez_aload_n 60 dX12_part_59 rfl rfl ?_
                  refine ez_callV 63 [] [] dX12_part_60 rfl rfl ok_X12_next in_X12_next (by decide) (by show 0 < 1; omega) ln_X12_296 (by omega) (Nat.le_of_ble_eq_true rfl) (hN 0 k1 M35 (d - 1) (by omega) g35 (by omega)) (fun r60 M60 q60 => ?_)
                  obtain ⟨rfl, f60, g60⟩ := q60
                  have u60 := (hH.2.1 _ g60.2.1).1
                  have w60 := g60.2.1
                  show Ez (true, g) mX12_part d 63 [(3, eI (v1 nm)), (0, eR 12 0), (1, eL w)] [] M60 _
                  refine ez_iload_n 64 dX12_part_63 rfl rfl ?_
                  refine ez_iret .int dX12_part_64 rfl rfl ?_
                  exact ⟨(((MF.rf.tr f20).tr f35).tr f60), rfl, g60⟩
              · exact absurd h45 (by decide)
            · exact absurd h27 (by decide)
        · exact absurd h5 (by decide)
      · rw [if_neg t59] at h2
        cases h2
        refine ez_aload_n 1 dX12_part_0 rfl rfl ?_
        refine ez_lload_n 2 dX12_part_1 rfl rfl ?_
        refine ez_callV 5 [eL w] [] dX12_part_2 rfl rfl ok_X12_isWord in_X12_isWord (by decide) (by show 0 < 1; omega) ln_X12_301 (by omega) (Nat.le_of_ble_eq_true rfl) (c_iw_y g (d - 1) (16 + key) w M hG (by omega) hw (by omega)) (fun r2 M2 q2 => ?_)
        obtain ⟨rfl, e2⟩ := q2
        rw [e2]
        show Ez (true, g) mX12_part d 5 [(0, eR 12 0), (1, eL w)] [eI (nI 1)] M _
        refine ez_nif_ne 8 12 dX12_part_5 rfl (by decide) (by omega) (fun h5 => ?_) (fun h5 => ?_)
        · refine ez_aload_n 13 dX12_part_12 rfl rfl ?_
          refine ez_getf 16 (eI (M.1 12 0 28)) dX12_part_13 rfl fl_X12_284 (by show 0 < 1; omega) rfl ?_
          refine ez_top (nI 0) hG.2.2.2.2.2.2 ?_
          refine ez_nif_ne 19 23 dX12_part_16 rfl (by decide) (by omega) (fun h16 => ?_) (fun h16 => ?_)
          · exact absurd h16 (by decide)
          · refine ez_aload_n 20 dX12_part_19 rfl rfl ?_
            refine ez_callV 23 [] [] dX12_part_20 rfl rfl ok_X12_next in_X12_next (by decide) (by show 0 < 1; omega) ln_X12_296 (by omega) (Nat.le_of_ble_eq_true rfl) (hN 0 k M (d - 1) (by omega) hG (by omega)) (fun r20 M20 q20 => ?_)
            obtain ⟨rfl, f20, g20⟩ := q20
            have u20 := (hH.2.1 _ g20.2.1).1
            have w20 := g20.2.1
            show Ez (true, g) mX12_part d 23 [(0, eR 12 0), (1, eL w)] [] M20 _
            refine ez_aload_n 24 dX12_part_23 rfl rfl ?_
            refine ez_getf 27 (eI (M20.1 12 0 28)) dX12_part_24 rfl fl_X12_284 (by show 0 < 1; omega) rfl ?_
            refine ez_top (nI 0) g20.2.2.2.2.2.2 ?_
            refine ez_nif_eq 30 34 dX12_part_27 rfl (by decide) (by omega) (fun h27 => ?_) (fun h27 => ?_)
            · refine ez_aload_n 35 dX12_part_34 rfl rfl ?_
              refine ez_callV 38 [] [] dX12_part_35 rfl rfl ok_X12_either in_X12_either (by decide) (by show 0 < 1; omega) ln_X12_325 (by omega) (Nat.le_of_ble_eq_true rfl) ((c_pm g hH hN z).1.1 0 (k + 1) _ _ M20 (d - 1) (by omega) (by omega) g20 h1) (fun r35 M35 q35 => ?_)
              obtain ⟨f35, rfl, g35⟩ := q35
              have g35 : MG Tk Pl En N fr n b nm 0 k1 M35 := g35
              have u35 := (hH.2.1 _ g35.2.1).1
              have w35 := g35.2.1
              show Ez (true, g) mX12_part d 38 [(0, eR 12 0), (1, eL w)] [eI (v1 nm)] M35 _
              refine ez_istore_n 39 [(3, eI (v1 nm)), (0, eR 12 0), (1, eL w)] dX12_part_38 rfl (by decide) rfl ?_
              refine ez_aload_n 40 dX12_part_39 rfl rfl ?_
              refine ez_bipush 42 dX12_part_40 rfl (nI 59) (by decide) ?_
              refine ez_callV 45 [eI (nI 59)] [] dX12_part_42 rfl rfl ok_X12_isSign in_X12_isSign (by decide) (by show 0 < 1; omega) ln_X12_315 (by omega) (Nat.le_of_ble_eq_true rfl) (c_is_n g (d - 1) 59 M35 g35 (by decide) (by omega)) (fun r42 M42 q42 => ?_)
              obtain ⟨rfl, e42⟩ := q42
              rw [e42]
              show Ez (true, g) mX12_part d 45 [(3, eI (v1 nm)), (0, eR 12 0), (1, eL w)] [eI (nI 0)] M35 _
              refine ez_nif_ne 48 52 dX12_part_45 rfl (by decide) (by omega) (fun h45 => ?_) (fun h45 => ?_)
              · exact absurd h45 (by decide)
              · refine ez_aload_n 49 dX12_part_48 rfl rfl ?_
                refine ez_callV 52 [] [] dX12_part_49 rfl rfl ok_X12_fail in_X12_fail (by decide) (by show 0 < 1; omega) ln_X12_293 (by omega) (Nat.le_of_ble_eq_true rfl) (c_fail g (d - 1) M35 g35) (fun r49 M49 q49 => ?_)
                obtain ⟨rfl, f49, g49⟩ := q49
                show Ez (true, g) mX12_part d 52 [(3, eI (v1 nm)), (0, eR 12 0), (1, eL w)] [] M49 _
                refine ez_aload_n 53 dX12_part_52 rfl rfl ?_
                refine ez_getf 56 (eI (M49.1 12 0 28)) dX12_part_53 rfl fl_X12_284 (by show 0 < 1; omega) rfl ?_
                refine ez_top (nI 1) g49.1 ?_
                refine ez_nif_ne 59 63 dX12_part_56 rfl (by decide) (by omega) (fun h56 => ?_) (fun h56 => ?_)
                · refine ez_iload_n 64 dX12_part_63 rfl rfl ?_
                  refine ez_iret .int dX12_part_64 rfl rfl ?_
                  exact ⟨(((MF.rf.tr f20).tr f35).tr f49), ⟨_, rfl⟩, g49⟩
                · exact absurd h56 (by decide)
            · exact absurd h27 (by decide)
        · exact absurd h5 (by decide)
    · refine ez_aload_n 1 dX12_part_0 rfl rfl ?_
      refine ez_lload_n 2 dX12_part_1 rfl rfl ?_
      refine ez_callV 5 [eL w] [] dX12_part_2 rfl rfl ok_X12_isWord in_X12_isWord (by decide) (by show 0 < 1; omega) ln_X12_301 (by omega) (Nat.le_of_ble_eq_true rfl) (c_iw_y g (d - 1) (16 + key) w M hG (by omega) hw (by omega)) (fun r2 M2 q2 => ?_)
      obtain ⟨rfl, e2⟩ := q2
      rw [e2]
      show Ez (true, g) mX12_part d 5 [(0, eR 12 0), (1, eL w)] [eI (nI 1)] M _
      refine ez_nif_ne 8 12 dX12_part_5 rfl (by decide) (by omega) (fun h5 => ?_) (fun h5 => ?_)
      · refine ez_aload_n 13 dX12_part_12 rfl rfl ?_
        refine ez_getf 16 (eI (M.1 12 0 28)) dX12_part_13 rfl fl_X12_284 (by show 0 < 1; omega) rfl ?_
        refine ez_top (nI 0) hG.2.2.2.2.2.2 ?_
        refine ez_nif_ne 19 23 dX12_part_16 rfl (by decide) (by omega) (fun h16 => ?_) (fun h16 => ?_)
        · exact absurd h16 (by decide)
        · refine ez_aload_n 20 dX12_part_19 rfl rfl ?_
          refine ez_callV 23 [] [] dX12_part_20 rfl rfl ok_X12_next in_X12_next (by decide) (by show 0 < 1; omega) ln_X12_296 (by omega) (Nat.le_of_ble_eq_true rfl) (hN 0 k M (d - 1) (by omega) hG (by omega)) (fun r20 M20 q20 => ?_)
          obtain ⟨rfl, f20, g20⟩ := q20
          have u20 := (hH.2.1 _ g20.2.1).1
          have w20 := g20.2.1
          show Ez (true, g) mX12_part d 23 [(0, eR 12 0), (1, eL w)] [] M20 _
          refine ez_aload_n 24 dX12_part_23 rfl rfl ?_
          refine ez_getf 27 (eI (M20.1 12 0 28)) dX12_part_24 rfl fl_X12_284 (by show 0 < 1; omega) rfl ?_
          refine ez_top (nI 0) g20.2.2.2.2.2.2 ?_
          refine ez_nif_eq 30 34 dX12_part_27 rfl (by decide) (by omega) (fun h27 => ?_) (fun h27 => ?_)
          · refine ez_aload_n 35 dX12_part_34 rfl rfl ?_
            refine ez_callV 38 [] [] dX12_part_35 rfl rfl ok_X12_either in_X12_either (by decide) (by show 0 < 1; omega) ln_X12_325 (by omega) (Nat.le_of_ble_eq_true rfl) ((c_pm g hH hN z).1.1 0 (k + 1) _ _ M20 (d - 1) (by omega) (by omega) g20 h1) (fun r35 M35 q35 => ?_)
            obtain ⟨f35, ⟨v35, rfl⟩, g35⟩ := q35
            show Ez (true, g) mX12_part d 38 [(0, eR 12 0), (1, eL w)] [eI v35] M35 _
            refine ez_istore_n 39 [(3, eI v35), (0, eR 12 0), (1, eL w)] dX12_part_38 rfl (by decide) rfl ?_
            refine ez_aload_n 40 dX12_part_39 rfl rfl ?_
            refine ez_bipush 42 dX12_part_40 rfl (nI 59) (by decide) ?_
            refine ez_callV 45 [eI (nI 59)] [] dX12_part_42 rfl rfl ok_X12_isSign in_X12_isSign (by decide) (by show 0 < 1; omega) ln_X12_315 (by omega) (Nat.le_of_ble_eq_true rfl) (c_is_b g (d - 1) (nI 59) M35 g35) (fun r42 M42 q42 => ?_)
            obtain ⟨rfl, e42⟩ := q42
            rw [e42]
            show Ez (true, g) mX12_part d 45 [(3, eI v35), (0, eR 12 0), (1, eL w)] [eI (nI 0)] M35 _
            refine ez_nif_ne 48 52 dX12_part_45 rfl (by decide) (by omega) (fun h45 => ?_) (fun h45 => ?_)
            · exact absurd h45 (by decide)
            · refine ez_aload_n 49 dX12_part_48 rfl rfl ?_
              refine ez_callV 52 [] [] dX12_part_49 rfl rfl ok_X12_fail in_X12_fail (by decide) (by show 0 < 1; omega) ln_X12_293 (by omega) (Nat.le_of_ble_eq_true rfl) (c_failb g (d - 1) M35 g35) (fun r49 M49 q49 => ?_)
              obtain ⟨rfl, f49, g49⟩ := q49
              show Ez (true, g) mX12_part d 52 [(3, eI v35), (0, eR 12 0), (1, eL w)] [] M49 _
              refine ez_aload_n 53 dX12_part_52 rfl rfl ?_
              refine ez_getf 56 (eI (M49.1 12 0 28)) dX12_part_53 rfl fl_X12_284 (by show 0 < 1; omega) rfl ?_
              refine ez_top (nI 1) g49.1 ?_
              refine ez_nif_ne 59 63 dX12_part_56 rfl (by decide) (by omega) (fun h56 => ?_) (fun h56 => ?_)
              · refine ez_iload_n 64 dX12_part_63 rfl rfl ?_
                refine ez_iret .int dX12_part_64 rfl rfl ?_
                exact ⟨(((MF.rf.tr f20).tr f35).tr f49), ⟨_, rfl⟩, g49⟩
              · exact absurd h56 (by decide)
          · exact absurd h27 (by decide)
      · exact absurd h5 (by decide)
  · rw [if_neg tk] at h
    cases h
    refine ez_aload_n 1 dX12_part_0 rfl rfl ?_
    refine ez_lload_n 2 dX12_part_1 rfl rfl ?_
    refine ez_callV 5 [eL w] [] dX12_part_2 rfl rfl ok_X12_isWord in_X12_isWord (by decide) (by show 0 < 1; omega) ln_X12_301 (by omega) (Nat.le_of_ble_eq_true rfl) (c_iw_n g (d - 1) (16 + key) w M hG (by omega) hw (by omega)) (fun r2 M2 q2 => ?_)
    obtain ⟨rfl, e2⟩ := q2
    rw [e2]
    show Ez (true, g) mX12_part d 5 [(0, eR 12 0), (1, eL w)] [eI (nI 0)] M _
    refine ez_nif_ne 8 12 dX12_part_5 rfl (by decide) (by omega) (fun h5 => ?_) (fun h5 => ?_)
    · exact absurd h5 (by decide)
    · refine ez_aload_n 9 dX12_part_8 rfl rfl ?_
      refine ez_callV 12 [] [] dX12_part_9 rfl rfl ok_X12_fail in_X12_fail (by decide) (by show 0 < 1; omega) ln_X12_293 (by omega) (Nat.le_of_ble_eq_true rfl) (c_fail g (d - 1) M hG) (fun r9 M9 q9 => ?_)
      obtain ⟨rfl, f9, g9⟩ := q9
      show Ez (true, g) mX12_part d 12 [(0, eR 12 0), (1, eL w)] [] M9 _
      refine ez_aload_n 13 dX12_part_12 rfl rfl ?_
      refine ez_getf 16 (eI (M9.1 12 0 28)) dX12_part_13 rfl fl_X12_284 (by show 0 < 1; omega) rfl ?_
      refine ez_top (nI 1) g9.1 ?_
      refine ez_nif_ne 19 23 dX12_part_16 rfl (by decide) (by omega) (fun h16 => ?_) (fun h16 => ?_)
      · refine ez_aload_n 24 dX12_part_23 rfl rfl ?_
        refine ez_getf 27 (eI (M9.1 12 0 28)) dX12_part_24 rfl fl_X12_284 (by show 0 < 1; omega) rfl ?_
        refine ez_top (nI 1) g9.1 ?_
        refine ez_nif_eq 30 34 dX12_part_27 rfl (by decide) (by omega) (fun h27 => ?_) (fun h27 => ?_)
        · exact absurd h27 (by decide)
        · refine ez_iconst 31 dX12_part_30 rfl (nI 0) (by decide) ?_
          refine ez_goto 38 dX12_part_31 (by decide) ?_
          refine ez_istore_n 39 [(3, eI (nI 0)), (0, eR 12 0), (1, eL w)] dX12_part_38 rfl (by decide) rfl ?_
          refine ez_aload_n 40 dX12_part_39 rfl rfl ?_
          refine ez_bipush 42 dX12_part_40 rfl (nI 59) (by decide) ?_
          refine ez_callV 45 [eI (nI 59)] [] dX12_part_42 rfl rfl ok_X12_isSign in_X12_isSign (by decide) (by show 0 < 1; omega) ln_X12_315 (by omega) (Nat.le_of_ble_eq_true rfl) (c_is_b g (d - 1) (nI 59) M9 g9) (fun r42 M42 q42 => ?_)
          obtain ⟨rfl, e42⟩ := q42
          rw [e42]
          show Ez (true, g) mX12_part d 45 [(3, eI (nI 0)), (0, eR 12 0), (1, eL w)] [eI (nI 0)] M9 _
          refine ez_nif_ne 48 52 dX12_part_45 rfl (by decide) (by omega) (fun h45 => ?_) (fun h45 => ?_)
          · exact absurd h45 (by decide)
          · refine ez_aload_n 49 dX12_part_48 rfl rfl ?_
            refine ez_callV 52 [] [] dX12_part_49 rfl rfl ok_X12_fail in_X12_fail (by decide) (by show 0 < 1; omega) ln_X12_293 (by omega) (Nat.le_of_ble_eq_true rfl) (c_failb g (d - 1) M9 g9) (fun r49 M49 q49 => ?_)
            obtain ⟨rfl, f49, g49⟩ := q49
            show Ez (true, g) mX12_part d 52 [(3, eI (nI 0)), (0, eR 12 0), (1, eL w)] [] M49 _
            refine ez_aload_n 53 dX12_part_52 rfl rfl ?_
            refine ez_getf 56 (eI (M49.1 12 0 28)) dX12_part_53 rfl fl_X12_284 (by show 0 < 1; omega) rfl ?_
            refine ez_top (nI 1) g49.1 ?_
            refine ez_nif_ne 59 63 dX12_part_56 rfl (by decide) (by omega) (fun h56 => ?_) (fun h56 => ?_)
            · refine ez_iload_n 64 dX12_part_63 rfl rfl ?_
              refine ez_iret .int dX12_part_64 rfl rfl ?_
              exact ⟨((MF.rf.tr f9).tr f49), ⟨_, rfl⟩, g49⟩
            · exact absurd h56 (by decide)
      · exact absurd h16 (by decide)
def MF2 (M M' : EzM) : Prop := ez_fm [12] M M' ∧ ∀ f, f < 21 ∨ 30 ≤ f → M'.1 12 0 f = M.1 12 0 f
theorem MF2.of {M M' : EzM} (h : MF M M') : MF2 M M' := ⟨h.1, fun f hf => h.2 f (by omega)⟩
theorem MF2.rf {M : EzM} : MF2 M M := ⟨ez_fm.rfl, fun _ _ => rfl⟩
theorem MF2.tr {M M1 M2 : EzM} (h : MF2 M M1) (h2 : MF2 M1 M2) : MF2 M M2 := ⟨h.1.tr h2.1, fun f hf => (h2.2 f hf).trans (h.2 f hf)⟩
theorem MF2.s {M : EzM} {s : Nat} {v : Int32} (hs : 21 ≤ s ∧ s < 30) : MF2 M (ez_st M 12 0 s v) := ⟨ez_fm.rfl.st (by decide), fun f hf => by rw [ez_rd, if_neg (by omega)]⟩
/-- what a text's reading leaves in the model, and its answer -/
def MRd (Pl : Nat → Nat) (nm : Nat → Int32) (x : EpT) (wh : Nat) (r : Option EzV) (M : EzM) : Prop := match x with
  | .inl f => r = some (eI ((f wh).2 nm)) ∧ M.1 12 0 28 = nI 0
  | .inr e => (∃ w : Int32, r = some (eI w)) ∧ M.1 12 0 28 = nI 1 ∧ M.1 12 0 29 = nI (Pl e)
set_option maxRecDepth 20000 in
theorem c_read (g : EzH) (d : Nat) {N z n : Nat} {b : Nat → Nat} {nm : Nat → Int32} (x wh : Nat) (t : EpT) (M : EzM) (hd : 62 ≤ d) (hx : x < 6) (hwh : wh < 3) (hn : n ≤ 160) (hb : ∀ i, i < n → b i < 256) (hsz : M.1 43 0 x = nI n) (hby : ∀ i, i < n → M.1 42 0 (160 * x + i) = nI (b i)) (hnm : ∀ f, f < 6 → M.1 12 0 (30 + f) = nm f) (hH : HT (ep_tk b n) (ep_pl b n) N) (ht : EpTx (ep_tk b n) z t) : Ezc (true, g) mX12_read d [eR 12 0, eI (nI x), eI (nI wh)] M (fun q M' => MF2 M M' ∧ MRd (ep_pl b n) nm t wh q M') := by
  have hN := c_MNx g (nm := nm) (show 160 * x ≤ 800 by omega) hn hb hH
  refine Ezc.of (by decide +kernel) (Nat.le_of_ble_eq_true rfl) ?_
  show Ez (true, g) mX12_read d 0 [(0, eR 12 0), (1, eI (nI x)), (2, eI (nI wh))] [] M _
  cases t with
  | inl f =>
    obtain ⟨k1, k2, k3, h0, h1, h2, h3⟩ := ht
    refine ez_aload_n 1 dX12_read_0 rfl rfl ?_
    refine ez_sipush 4 dX12_read_1 rfl (nI 160) (by decide) ?_
    refine ez_iload_n 5 dX12_read_4 rfl rfl ?_
    refine ez_imul 6 dX12_read_5 rfl ?_
    refine ez_top (nI (160 * x)) (pk_mul _ _) ?_
    refine ez_putf 9 .int dX12_read_6 rfl fp_X12_253 (by show 0 < 1; omega) rfl (by decide) rfl rfl ?_
    refine ez_aload_n 10 dX12_read_9 rfl rfl ?_
    refine ez_aload_n 11 dX12_read_10 rfl rfl ?_
    refine ez_getf 14 (eR 43 0) dX12_read_11 rfl fl_X12_17 (by show 0 < 1; omega) rfl ?_
    refine ez_iload_n 15 dX12_read_14 rfl rfl ?_
    refine ez_ialdN x 16 dX12_read_15 rfl (by decide) (by show 0 < 1; omega) (by show x < 6; omega) ?_
    refine ez_top (M.1 43 0 x) rfl ?_
    refine ez_top (nI n) hsz ?_
    refine ez_putf 19 .int dX12_read_16 rfl fp_X12_250 (by show 0 < 1; omega) rfl (by decide) rfl rfl ?_
    refine ez_aload_n 20 dX12_read_19 rfl rfl ?_
    refine ez_iconst 21 dX12_read_20 rfl (nI 0) (by decide) ?_
    refine ez_putf 24 .int dX12_read_21 rfl fp_X12_256 (by show 0 < 1; omega) rfl (by decide) rfl rfl ?_
    refine ez_aload_n 25 dX12_read_24 rfl rfl ?_
    refine ez_iconst 26 dX12_read_25 rfl (nI 0) (by decide) ?_
    refine ez_putf 29 .int dX12_read_26 rfl fp_X12_290 (by show 0 < 1; omega) rfl (by decide) rfl rfl ?_
    refine ez_aload_n 30 dX12_read_29 rfl rfl ?_
    refine ez_iconst 31 dX12_read_30 rfl (nI 0) (by decide) ?_
    refine ez_putf 34 .boolean dX12_read_31 rfl fp_X12_284 (by show 0 < 1; omega) rfl (by decide) (by decide) (by decide) ?_
    have hX0 : MX (160 * x) n b nm (ez_st (ez_st (ez_st (ez_st (ez_st M 12 0 21 (nI (160 * x))) 12 0 22 (nI n)) 12 0 26 (nI 0)) 12 0 27 (nI 0)) 12 0 28 (nI 0)) := ⟨by simp [ez_rd], by simp [ez_rd], fun i hi => hby i hi, fun f hf => by rw [← hnm f hf]; simp only [ez_rd]; rw [if_neg (by omega), if_neg (by omega), if_neg (by omega), if_neg (by omega), if_neg (by omega)]⟩
    have f34 : MF2 M (ez_st (ez_st (ez_st (ez_st (ez_st M 12 0 21 (nI (160 * x))) 12 0 22 (nI n)) 12 0 26 (nI 0)) 12 0 27 (nI 0)) 12 0 28 (nI 0)) := ((((MF2.s (by decide)).tr (MF2.s (by decide))).tr (MF2.s (by decide))).tr (MF2.s (by decide))).tr (MF2.s (by decide))
    have hh0 : ((ez_st (ez_st (ez_st (ez_st (ez_st M 12 0 21 (nI (160 * x))) 12 0 22 (nI n)) 12 0 26 (nI 0)) 12 0 27 (nI 0)) 12 0 28 (nI 0))).1 12 0 26 = nI 0 := by simp [ez_rd]
    have ho0 : ((ez_st (ez_st (ez_st (ez_st (ez_st M 12 0 21 (nI (160 * x))) 12 0 22 (nI n)) 12 0 26 (nI 0)) 12 0 27 (nI 0)) 12 0 28 (nI 0))).1 12 0 27 = nI 0 := by simp [ez_rd]
    have hb0 : ((ez_st (ez_st (ez_st (ez_st (ez_st M 12 0 21 (nI (160 * x))) 12 0 22 (nI n)) 12 0 26 (nI 0)) 12 0 27 (nI 0)) 12 0 28 (nI 0))).1 12 0 28 = nI 0 := by simp [ez_rd]
    generalize (ez_st (ez_st (ez_st (ez_st (ez_st M 12 0 21 (nI (160 * x))) 12 0 22 (nI n)) 12 0 26 (nI 0)) 12 0 27 (nI 0)) 12 0 28 (nI 0)) = M34 at hX0 f34 hh0 ho0 hb0 ⊢
    refine ez_aload_n 35 dX12_read_34 rfl rfl ?_
    refine ez_callV 38 [] [] dX12_read_35 rfl rfl ok_X12_next in_X12_next (by decide) (by show 0 < 1; omega) ln_X12_296 (by omega) (Nat.le_of_ble_eq_true rfl) (c_next g (d - 1) 0 M34 (by omega) (by omega) hn hb hX0 (Nat.zero_le n) hh0 ho0 hb0) (fun r35 M35 q35 => ?_)
    obtain ⟨rfl, f35, t35, a35, e35, o35, b35⟩ := q35
    have g35 : MG (ep_tk b n) (ep_pl b n) (fun k => ep_en b n (ep_pl b n k)) N (160 * x) n b nm 0 0 M35 := ⟨hX0.mf f35, Nat.zero_le _, t35, a35, e35, o35, b35⟩
    show Ez (true, g) mX12_read d 38 [(0, eR 12 0), (1, eI (nI x)), (2, eI (nI wh))] [] M35 _
    refine ez_aload_n 39 dX12_read_38 rfl rfl ?_
    refine ez_ldc2 42 dX12_read_39 rfl 204 cn_X12_353 ?_
    refine ez_callV 45 [eL 204] [] dX12_read_42 rfl rfl ok_X12_part in_X12_part (by decide) (by show 0 < 1; omega) ln_X12_355 (by omega) (Nat.le_of_ble_eq_true rfl) (c_part g (d - 1) 204 _ M35 (by omega) hH hN g35 (by decide : 0 < 3) (by decide) h0) (fun r42 M42 q42 => ?_)
    obtain ⟨f42, rfl, g42⟩ := q42
    have g42 : MG (ep_tk b n) (ep_pl b n) (fun k => ep_en b n (ep_pl b n k)) N (160 * x) n b nm 0 k1 M42 := g42
    show Ez (true, g) mX12_read d 45 [(0, eR 12 0), (1, eI (nI x)), (2, eI (nI wh))] [eI ((f 0).2 nm)] M42 _
    refine ez_istore_n 46 [(3, eI ((f 0).2 nm)), (0, eR 12 0), (1, eI (nI x)), (2, eI (nI wh))] dX12_read_45 rfl (by decide) rfl ?_
    refine ez_aload_n 47 dX12_read_46 rfl rfl ?_
    refine ez_getf 50 (eI (M42.1 12 0 28)) dX12_read_47 rfl fl_X12_284 (by show 0 < 1; omega) rfl ?_
    refine ez_top (nI 0) g42.2.2.2.2.2.2 ?_
    refine ez_nif_eq 53 57 dX12_read_50 rfl (by decide) (by omega) (fun h50 => ?_) (fun h50 => ?_)
    · refine ez_aload_n 58 dX12_read_57 rfl rfl ?_
      refine ez_ldc2 61 dX12_read_58 rfl 12251 cn_X12_359 ?_
      refine ez_callV 64 [eL 12251] [] dX12_read_61 rfl rfl ok_X12_part in_X12_part (by decide) (by show 0 < 1; omega) ln_X12_355 (by omega) (Nat.le_of_ble_eq_true rfl) (c_part g (d - 1) 12251 _ M42 (by omega) hH hN g42 (by decide : 1 < 3) (by decide) h1) (fun r61 M61 q61 => ?_)
      obtain ⟨f61, rfl, g61⟩ := q61
      have g61 : MG (ep_tk b n) (ep_pl b n) (fun k => ep_en b n (ep_pl b n k)) N (160 * x) n b nm 0 k2 M61 := g61
      show Ez (true, g) mX12_read d 64 [(3, eI ((f 0).2 nm)), (0, eR 12 0), (1, eI (nI x)), (2, eI (nI wh))] [eI ((f 1).2 nm)] M61 _
      refine ez_istore 66 [(4, eI ((f 1).2 nm)), (3, eI ((f 0).2 nm)), (0, eR 12 0), (1, eI (nI x)), (2, eI (nI wh))] dX12_read_64 rfl (by decide) rfl ?_
      refine ez_aload_n 67 dX12_read_66 rfl rfl ?_
      refine ez_getf 70 (eI (M61.1 12 0 28)) dX12_read_67 rfl fl_X12_284 (by show 0 < 1; omega) rfl ?_
      refine ez_top (nI 0) g61.2.2.2.2.2.2 ?_
      refine ez_nif_eq 73 77 dX12_read_70 rfl (by decide) (by omega) (fun h70 => ?_) (fun h70 => ?_)
      · refine ez_aload_n 78 dX12_read_77 rfl rfl ?_
        refine ez_ldc2 81 dX12_read_78 rfl 394691 cn_X12_361 ?_
        refine ez_callV 84 [eL 394691] [] dX12_read_81 rfl rfl ok_X12_part in_X12_part (by decide) (by show 0 < 1; omega) ln_X12_355 (by omega) (Nat.le_of_ble_eq_true rfl) (c_part g (d - 1) 394691 _ M61 (by omega) hH hN g61 (by decide : 2 < 3) (by decide) h2) (fun r81 M81 q81 => ?_)
        obtain ⟨f81, rfl, g81⟩ := q81
        have g81 : MG (ep_tk b n) (ep_pl b n) (fun k => ep_en b n (ep_pl b n k)) N (160 * x) n b nm 0 k3 M81 := g81
        show Ez (true, g) mX12_read d 84 [(4, eI ((f 1).2 nm)), (3, eI ((f 0).2 nm)), (0, eR 12 0), (1, eI (nI x)), (2, eI (nI wh))] [eI ((f 2).2 nm)] M81 _
        refine ez_istore 86 [(5, eI ((f 2).2 nm)), (4, eI ((f 1).2 nm)), (3, eI ((f 0).2 nm)), (0, eR 12 0), (1, eI (nI x)), (2, eI (nI wh))] dX12_read_84 rfl (by decide) rfl ?_
        refine ez_aload_n 87 dX12_read_86 rfl rfl ?_
        refine ez_getf 90 (eI (M81.1 12 0 28)) dX12_read_87 rfl fl_X12_284 (by show 0 < 1; omega) rfl ?_
        refine ez_top (nI 0) g81.2.2.2.2.2.2 ?_
        refine ez_nif_ne 93 104 dX12_read_90 rfl (by decide) (by omega) (fun h90 => ?_) (fun h90 => ?_)
        · exact absurd h90 (by decide)
        · refine ez_aload_n 94 dX12_read_93 rfl rfl ?_
          refine ez_getf 97 (eI (M81.1 12 0 23)) dX12_read_94 rfl fl_X12_265 (by show 0 < 1; omega) rfl ?_
          refine ez_top (nI 0) (MTk_0 g81.2.2.1 h3) ?_
          refine ez_nif_eq 100 104 dX12_read_97 rfl (by decide) (by omega) (fun h97 => ?_) (fun h97 => ?_)
          · refine ez_iload_n 105 dX12_read_104 rfl rfl ?_
            refine ez_nif_ne 108 112 dX12_read_105 rfl (by decide) (by omega) (fun h105 => ?_) (fun h105 => ?_)
            · refine ez_iload_n 113 dX12_read_112 rfl rfl ?_
              refine ez_iconst 114 dX12_read_113 rfl (nI 1) (by decide) ?_
              refine ez_ncmp_ne 117 122 dX12_read_114 rfl (by decide) (by omega) (by omega) (fun h114 => ?_) (fun h114 => ?_)
              · refine ez_iload 124 dX12_read_122 rfl rfl ?_
                refine ez_iret .int dX12_read_124 rfl rfl ?_
                exact ⟨((((f34.tr (MF2.of f35)).tr (MF2.of f42)).tr (MF2.of f61)).tr (MF2.of f81)), by rw [show wh = 2 by omega], g81.2.2.2.2.2.2⟩
              · refine ez_iload 119 dX12_read_117 rfl rfl ?_
                refine ez_goto 124 dX12_read_119 (by decide) ?_
                refine ez_iret .int dX12_read_124 rfl rfl ?_
                exact ⟨((((f34.tr (MF2.of f35)).tr (MF2.of f42)).tr (MF2.of f61)).tr (MF2.of f81)), by rw [show wh = 1 by omega], g81.2.2.2.2.2.2⟩
            · refine ez_iload_n 109 dX12_read_108 rfl rfl ?_
              refine ez_goto 124 dX12_read_109 (by decide) ?_
              refine ez_iret .int dX12_read_124 rfl rfl ?_
              exact ⟨((((f34.tr (MF2.of f35)).tr (MF2.of f42)).tr (MF2.of f61)).tr (MF2.of f81)), by rw [show wh = 0 by omega], g81.2.2.2.2.2.2⟩
          · exact absurd h97 (by decide)
      · exact absurd h70 (by decide)
    · exact absurd h50 (by decide)
  | inr e =>
    rcases ht with h0 | ⟨k1, q1, h0, h1 | ⟨k2, q2, h1, h2 | ⟨q3, h2, h3⟩⟩⟩
    · refine ez_aload_n 1 dX12_read_0 rfl rfl ?_
      refine ez_sipush 4 dX12_read_1 rfl (nI 160) (by decide) ?_
      refine ez_iload_n 5 dX12_read_4 rfl rfl ?_
      refine ez_imul 6 dX12_read_5 rfl ?_
      refine ez_top (nI (160 * x)) (pk_mul _ _) ?_
      refine ez_putf 9 .int dX12_read_6 rfl fp_X12_253 (by show 0 < 1; omega) rfl (by decide) rfl rfl ?_
      refine ez_aload_n 10 dX12_read_9 rfl rfl ?_
      refine ez_aload_n 11 dX12_read_10 rfl rfl ?_
      refine ez_getf 14 (eR 43 0) dX12_read_11 rfl fl_X12_17 (by show 0 < 1; omega) rfl ?_
      refine ez_iload_n 15 dX12_read_14 rfl rfl ?_
      refine ez_ialdN x 16 dX12_read_15 rfl (by decide) (by show 0 < 1; omega) (by show x < 6; omega) ?_
      refine ez_top (M.1 43 0 x) rfl ?_
      refine ez_top (nI n) hsz ?_
      refine ez_putf 19 .int dX12_read_16 rfl fp_X12_250 (by show 0 < 1; omega) rfl (by decide) rfl rfl ?_
      refine ez_aload_n 20 dX12_read_19 rfl rfl ?_
      refine ez_iconst 21 dX12_read_20 rfl (nI 0) (by decide) ?_
      refine ez_putf 24 .int dX12_read_21 rfl fp_X12_256 (by show 0 < 1; omega) rfl (by decide) rfl rfl ?_
      refine ez_aload_n 25 dX12_read_24 rfl rfl ?_
      refine ez_iconst 26 dX12_read_25 rfl (nI 0) (by decide) ?_
      refine ez_putf 29 .int dX12_read_26 rfl fp_X12_290 (by show 0 < 1; omega) rfl (by decide) rfl rfl ?_
      refine ez_aload_n 30 dX12_read_29 rfl rfl ?_
      refine ez_iconst 31 dX12_read_30 rfl (nI 0) (by decide) ?_
      refine ez_putf 34 .boolean dX12_read_31 rfl fp_X12_284 (by show 0 < 1; omega) rfl (by decide) (by decide) (by decide) ?_
      have hX0 : MX (160 * x) n b nm (ez_st (ez_st (ez_st (ez_st (ez_st M 12 0 21 (nI (160 * x))) 12 0 22 (nI n)) 12 0 26 (nI 0)) 12 0 27 (nI 0)) 12 0 28 (nI 0)) := ⟨by simp [ez_rd], by simp [ez_rd], fun i hi => hby i hi, fun f hf => by rw [← hnm f hf]; simp only [ez_rd]; rw [if_neg (by omega), if_neg (by omega), if_neg (by omega), if_neg (by omega), if_neg (by omega)]⟩
      have f34 : MF2 M (ez_st (ez_st (ez_st (ez_st (ez_st M 12 0 21 (nI (160 * x))) 12 0 22 (nI n)) 12 0 26 (nI 0)) 12 0 27 (nI 0)) 12 0 28 (nI 0)) := ((((MF2.s (by decide)).tr (MF2.s (by decide))).tr (MF2.s (by decide))).tr (MF2.s (by decide))).tr (MF2.s (by decide))
      have hh0 : ((ez_st (ez_st (ez_st (ez_st (ez_st M 12 0 21 (nI (160 * x))) 12 0 22 (nI n)) 12 0 26 (nI 0)) 12 0 27 (nI 0)) 12 0 28 (nI 0))).1 12 0 26 = nI 0 := by simp [ez_rd]
      have ho0 : ((ez_st (ez_st (ez_st (ez_st (ez_st M 12 0 21 (nI (160 * x))) 12 0 22 (nI n)) 12 0 26 (nI 0)) 12 0 27 (nI 0)) 12 0 28 (nI 0))).1 12 0 27 = nI 0 := by simp [ez_rd]
      have hb0 : ((ez_st (ez_st (ez_st (ez_st (ez_st M 12 0 21 (nI (160 * x))) 12 0 22 (nI n)) 12 0 26 (nI 0)) 12 0 27 (nI 0)) 12 0 28 (nI 0))).1 12 0 28 = nI 0 := by simp [ez_rd]
      generalize (ez_st (ez_st (ez_st (ez_st (ez_st M 12 0 21 (nI (160 * x))) 12 0 22 (nI n)) 12 0 26 (nI 0)) 12 0 27 (nI 0)) 12 0 28 (nI 0)) = M34 at hX0 f34 hh0 ho0 hb0 ⊢
      refine ez_aload_n 35 dX12_read_34 rfl rfl ?_
      refine ez_callV 38 [] [] dX12_read_35 rfl rfl ok_X12_next in_X12_next (by decide) (by show 0 < 1; omega) ln_X12_296 (by omega) (Nat.le_of_ble_eq_true rfl) (c_next g (d - 1) 0 M34 (by omega) (by omega) hn hb hX0 (Nat.zero_le n) hh0 ho0 hb0) (fun r35 M35 q35 => ?_)
      obtain ⟨rfl, f35, t35, a35, e35, o35, b35⟩ := q35
      have g35 : MG (ep_tk b n) (ep_pl b n) (fun k => ep_en b n (ep_pl b n k)) N (160 * x) n b nm 0 0 M35 := ⟨hX0.mf f35, Nat.zero_le _, t35, a35, e35, o35, b35⟩
      show Ez (true, g) mX12_read d 38 [(0, eR 12 0), (1, eI (nI x)), (2, eI (nI wh))] [] M35 _
      refine ez_aload_n 39 dX12_read_38 rfl rfl ?_
      refine ez_ldc2 42 dX12_read_39 rfl 204 cn_X12_353 ?_
      refine ez_callV 45 [eL 204] [] dX12_read_42 rfl rfl ok_X12_part in_X12_part (by decide) (by show 0 < 1; omega) ln_X12_355 (by omega) (Nat.le_of_ble_eq_true rfl) (c_part g (d - 1) 204 _ M35 (by omega) hH hN g35 (by decide : 0 < 3) (by decide) h0) (fun r42 M42 q42 => ?_)
      obtain ⟨f42, ⟨v42, rfl⟩, g42⟩ := q42
      show Ez (true, g) mX12_read d 45 [(0, eR 12 0), (1, eI (nI x)), (2, eI (nI wh))] [eI v42] M42 _
      refine ez_istore_n 46 [(3, eI v42), (0, eR 12 0), (1, eI (nI x)), (2, eI (nI wh))] dX12_read_45 rfl (by decide) rfl ?_
      refine ez_aload_n 47 dX12_read_46 rfl rfl ?_
      refine ez_getf 50 (eI (M42.1 12 0 28)) dX12_read_47 rfl fl_X12_284 (by show 0 < 1; omega) rfl ?_
      refine ez_top (nI 1) g42.1 ?_
      refine ez_nif_eq 53 57 dX12_read_50 rfl (by decide) (by omega) (fun h50 => ?_) (fun h50 => ?_)
      · exact absurd h50 (by decide)
      · refine ez_iconst 54 dX12_read_53 rfl (nI 0) (by decide) ?_
        refine ez_goto 64 dX12_read_54 (by decide) ?_
        refine ez_istore 66 [(4, eI (nI 0)), (3, eI v42), (0, eR 12 0), (1, eI (nI x)), (2, eI (nI wh))] dX12_read_64 rfl (by decide) rfl ?_
        refine ez_aload_n 67 dX12_read_66 rfl rfl ?_
        refine ez_getf 70 (eI (M42.1 12 0 28)) dX12_read_67 rfl fl_X12_284 (by show 0 < 1; omega) rfl ?_
        refine ez_top (nI 1) g42.1 ?_
        refine ez_nif_eq 73 77 dX12_read_70 rfl (by decide) (by omega) (fun h70 => ?_) (fun h70 => ?_)
        · exact absurd h70 (by decide)
        · refine ez_iconst 74 dX12_read_73 rfl (nI 0) (by decide) ?_
          refine ez_goto 84 dX12_read_74 (by decide) ?_
          refine ez_istore 86 [(5, eI (nI 0)), (4, eI (nI 0)), (3, eI v42), (0, eR 12 0), (1, eI (nI x)), (2, eI (nI wh))] dX12_read_84 rfl (by decide) rfl ?_
          refine ez_aload_n 87 dX12_read_86 rfl rfl ?_
          refine ez_getf 90 (eI (M42.1 12 0 28)) dX12_read_87 rfl fl_X12_284 (by show 0 < 1; omega) rfl ?_
          refine ez_top (nI 1) g42.1 ?_
          refine ez_nif_ne 93 104 dX12_read_90 rfl (by decide) (by omega) (fun h90 => ?_) (fun h90 => ?_)
          · refine ez_iload_n 105 dX12_read_104 rfl rfl ?_
            refine ez_nif_ne 108 112 dX12_read_105 rfl (by decide) (by omega) (fun h105 => ?_) (fun h105 => ?_)
            · refine ez_iload_n 113 dX12_read_112 rfl rfl ?_
              refine ez_iconst 114 dX12_read_113 rfl (nI 1) (by decide) ?_
              refine ez_ncmp_ne 117 122 dX12_read_114 rfl (by decide) (by omega) (by omega) (fun h114 => ?_) (fun h114 => ?_)
              · refine ez_iload 124 dX12_read_122 rfl rfl ?_
                refine ez_iret .int dX12_read_124 rfl rfl ?_
                exact ⟨((f34.tr (MF2.of f35)).tr (MF2.of f42)), ⟨_, rfl⟩, g42.1, g42.2.1⟩
              · refine ez_iload 119 dX12_read_117 rfl rfl ?_
                refine ez_goto 124 dX12_read_119 (by decide) ?_
                refine ez_iret .int dX12_read_124 rfl rfl ?_
                exact ⟨((f34.tr (MF2.of f35)).tr (MF2.of f42)), ⟨_, rfl⟩, g42.1, g42.2.1⟩
            · refine ez_iload_n 109 dX12_read_108 rfl rfl ?_
              refine ez_goto 124 dX12_read_109 (by decide) ?_
              refine ez_iret .int dX12_read_124 rfl rfl ?_
              exact ⟨((f34.tr (MF2.of f35)).tr (MF2.of f42)), ⟨_, rfl⟩, g42.1, g42.2.1⟩
          · exact absurd h90 (by decide)
    · refine ez_aload_n 1 dX12_read_0 rfl rfl ?_
      refine ez_sipush 4 dX12_read_1 rfl (nI 160) (by decide) ?_
      refine ez_iload_n 5 dX12_read_4 rfl rfl ?_
      refine ez_imul 6 dX12_read_5 rfl ?_
      refine ez_top (nI (160 * x)) (pk_mul _ _) ?_
      refine ez_putf 9 .int dX12_read_6 rfl fp_X12_253 (by show 0 < 1; omega) rfl (by decide) rfl rfl ?_
      refine ez_aload_n 10 dX12_read_9 rfl rfl ?_
      refine ez_aload_n 11 dX12_read_10 rfl rfl ?_
      refine ez_getf 14 (eR 43 0) dX12_read_11 rfl fl_X12_17 (by show 0 < 1; omega) rfl ?_
      refine ez_iload_n 15 dX12_read_14 rfl rfl ?_
      refine ez_ialdN x 16 dX12_read_15 rfl (by decide) (by show 0 < 1; omega) (by show x < 6; omega) ?_
      refine ez_top (M.1 43 0 x) rfl ?_
      refine ez_top (nI n) hsz ?_
      refine ez_putf 19 .int dX12_read_16 rfl fp_X12_250 (by show 0 < 1; omega) rfl (by decide) rfl rfl ?_
      refine ez_aload_n 20 dX12_read_19 rfl rfl ?_
      refine ez_iconst 21 dX12_read_20 rfl (nI 0) (by decide) ?_
      refine ez_putf 24 .int dX12_read_21 rfl fp_X12_256 (by show 0 < 1; omega) rfl (by decide) rfl rfl ?_
      refine ez_aload_n 25 dX12_read_24 rfl rfl ?_
      refine ez_iconst 26 dX12_read_25 rfl (nI 0) (by decide) ?_
      refine ez_putf 29 .int dX12_read_26 rfl fp_X12_290 (by show 0 < 1; omega) rfl (by decide) rfl rfl ?_
      refine ez_aload_n 30 dX12_read_29 rfl rfl ?_
      refine ez_iconst 31 dX12_read_30 rfl (nI 0) (by decide) ?_
      refine ez_putf 34 .boolean dX12_read_31 rfl fp_X12_284 (by show 0 < 1; omega) rfl (by decide) (by decide) (by decide) ?_
      have hX0 : MX (160 * x) n b nm (ez_st (ez_st (ez_st (ez_st (ez_st M 12 0 21 (nI (160 * x))) 12 0 22 (nI n)) 12 0 26 (nI 0)) 12 0 27 (nI 0)) 12 0 28 (nI 0)) := ⟨by simp [ez_rd], by simp [ez_rd], fun i hi => hby i hi, fun f hf => by rw [← hnm f hf]; simp only [ez_rd]; rw [if_neg (by omega), if_neg (by omega), if_neg (by omega), if_neg (by omega), if_neg (by omega)]⟩
      have f34 : MF2 M (ez_st (ez_st (ez_st (ez_st (ez_st M 12 0 21 (nI (160 * x))) 12 0 22 (nI n)) 12 0 26 (nI 0)) 12 0 27 (nI 0)) 12 0 28 (nI 0)) := ((((MF2.s (by decide)).tr (MF2.s (by decide))).tr (MF2.s (by decide))).tr (MF2.s (by decide))).tr (MF2.s (by decide))
      have hh0 : ((ez_st (ez_st (ez_st (ez_st (ez_st M 12 0 21 (nI (160 * x))) 12 0 22 (nI n)) 12 0 26 (nI 0)) 12 0 27 (nI 0)) 12 0 28 (nI 0))).1 12 0 26 = nI 0 := by simp [ez_rd]
      have ho0 : ((ez_st (ez_st (ez_st (ez_st (ez_st M 12 0 21 (nI (160 * x))) 12 0 22 (nI n)) 12 0 26 (nI 0)) 12 0 27 (nI 0)) 12 0 28 (nI 0))).1 12 0 27 = nI 0 := by simp [ez_rd]
      have hb0 : ((ez_st (ez_st (ez_st (ez_st (ez_st M 12 0 21 (nI (160 * x))) 12 0 22 (nI n)) 12 0 26 (nI 0)) 12 0 27 (nI 0)) 12 0 28 (nI 0))).1 12 0 28 = nI 0 := by simp [ez_rd]
      generalize (ez_st (ez_st (ez_st (ez_st (ez_st M 12 0 21 (nI (160 * x))) 12 0 22 (nI n)) 12 0 26 (nI 0)) 12 0 27 (nI 0)) 12 0 28 (nI 0)) = M34 at hX0 f34 hh0 ho0 hb0 ⊢
      refine ez_aload_n 35 dX12_read_34 rfl rfl ?_
      refine ez_callV 38 [] [] dX12_read_35 rfl rfl ok_X12_next in_X12_next (by decide) (by show 0 < 1; omega) ln_X12_296 (by omega) (Nat.le_of_ble_eq_true rfl) (c_next g (d - 1) 0 M34 (by omega) (by omega) hn hb hX0 (Nat.zero_le n) hh0 ho0 hb0) (fun r35 M35 q35 => ?_)
      obtain ⟨rfl, f35, t35, a35, e35, o35, b35⟩ := q35
      have g35 : MG (ep_tk b n) (ep_pl b n) (fun k => ep_en b n (ep_pl b n k)) N (160 * x) n b nm 0 0 M35 := ⟨hX0.mf f35, Nat.zero_le _, t35, a35, e35, o35, b35⟩
      show Ez (true, g) mX12_read d 38 [(0, eR 12 0), (1, eI (nI x)), (2, eI (nI wh))] [] M35 _
      refine ez_aload_n 39 dX12_read_38 rfl rfl ?_
      refine ez_ldc2 42 dX12_read_39 rfl 204 cn_X12_353 ?_
      refine ez_callV 45 [eL 204] [] dX12_read_42 rfl rfl ok_X12_part in_X12_part (by decide) (by show 0 < 1; omega) ln_X12_355 (by omega) (Nat.le_of_ble_eq_true rfl) (c_part g (d - 1) 204 _ M35 (by omega) hH hN g35 (by decide : 0 < 3) (by decide) h0) (fun r42 M42 q42 => ?_)
      obtain ⟨f42, rfl, g42⟩ := q42
      have g42 : MG (ep_tk b n) (ep_pl b n) (fun k => ep_en b n (ep_pl b n k)) N (160 * x) n b nm 0 k1 M42 := g42
      show Ez (true, g) mX12_read d 45 [(0, eR 12 0), (1, eI (nI x)), (2, eI (nI wh))] [eI (q1.2 nm)] M42 _
      refine ez_istore_n 46 [(3, eI (q1.2 nm)), (0, eR 12 0), (1, eI (nI x)), (2, eI (nI wh))] dX12_read_45 rfl (by decide) rfl ?_
      refine ez_aload_n 47 dX12_read_46 rfl rfl ?_
      refine ez_getf 50 (eI (M42.1 12 0 28)) dX12_read_47 rfl fl_X12_284 (by show 0 < 1; omega) rfl ?_
      refine ez_top (nI 0) g42.2.2.2.2.2.2 ?_
      refine ez_nif_eq 53 57 dX12_read_50 rfl (by decide) (by omega) (fun h50 => ?_) (fun h50 => ?_)
      · refine ez_aload_n 58 dX12_read_57 rfl rfl ?_
        refine ez_ldc2 61 dX12_read_58 rfl 12251 cn_X12_359 ?_
        refine ez_callV 64 [eL 12251] [] dX12_read_61 rfl rfl ok_X12_part in_X12_part (by decide) (by show 0 < 1; omega) ln_X12_355 (by omega) (Nat.le_of_ble_eq_true rfl) (c_part g (d - 1) 12251 _ M42 (by omega) hH hN g42 (by decide : 1 < 3) (by decide) h1) (fun r61 M61 q61 => ?_)
        obtain ⟨f61, ⟨v61, rfl⟩, g61⟩ := q61
        show Ez (true, g) mX12_read d 64 [(3, eI (q1.2 nm)), (0, eR 12 0), (1, eI (nI x)), (2, eI (nI wh))] [eI v61] M61 _
        refine ez_istore 66 [(4, eI v61), (3, eI (q1.2 nm)), (0, eR 12 0), (1, eI (nI x)), (2, eI (nI wh))] dX12_read_64 rfl (by decide) rfl ?_
        refine ez_aload_n 67 dX12_read_66 rfl rfl ?_
        refine ez_getf 70 (eI (M61.1 12 0 28)) dX12_read_67 rfl fl_X12_284 (by show 0 < 1; omega) rfl ?_
        refine ez_top (nI 1) g61.1 ?_
        refine ez_nif_eq 73 77 dX12_read_70 rfl (by decide) (by omega) (fun h70 => ?_) (fun h70 => ?_)
        · exact absurd h70 (by decide)
        · refine ez_iconst 74 dX12_read_73 rfl (nI 0) (by decide) ?_
          refine ez_goto 84 dX12_read_74 (by decide) ?_
          refine ez_istore 86 [(5, eI (nI 0)), (4, eI v61), (3, eI (q1.2 nm)), (0, eR 12 0), (1, eI (nI x)), (2, eI (nI wh))] dX12_read_84 rfl (by decide) rfl ?_
          refine ez_aload_n 87 dX12_read_86 rfl rfl ?_
          refine ez_getf 90 (eI (M61.1 12 0 28)) dX12_read_87 rfl fl_X12_284 (by show 0 < 1; omega) rfl ?_
          refine ez_top (nI 1) g61.1 ?_
          refine ez_nif_ne 93 104 dX12_read_90 rfl (by decide) (by omega) (fun h90 => ?_) (fun h90 => ?_)
          · refine ez_iload_n 105 dX12_read_104 rfl rfl ?_
            refine ez_nif_ne 108 112 dX12_read_105 rfl (by decide) (by omega) (fun h105 => ?_) (fun h105 => ?_)
            · refine ez_iload_n 113 dX12_read_112 rfl rfl ?_
              refine ez_iconst 114 dX12_read_113 rfl (nI 1) (by decide) ?_
              refine ez_ncmp_ne 117 122 dX12_read_114 rfl (by decide) (by omega) (by omega) (fun h114 => ?_) (fun h114 => ?_)
              · refine ez_iload 124 dX12_read_122 rfl rfl ?_
                refine ez_iret .int dX12_read_124 rfl rfl ?_
                exact ⟨(((f34.tr (MF2.of f35)).tr (MF2.of f42)).tr (MF2.of f61)), ⟨_, rfl⟩, g61.1, g61.2.1⟩
              · refine ez_iload 119 dX12_read_117 rfl rfl ?_
                refine ez_goto 124 dX12_read_119 (by decide) ?_
                refine ez_iret .int dX12_read_124 rfl rfl ?_
                exact ⟨(((f34.tr (MF2.of f35)).tr (MF2.of f42)).tr (MF2.of f61)), ⟨_, rfl⟩, g61.1, g61.2.1⟩
            · refine ez_iload_n 109 dX12_read_108 rfl rfl ?_
              refine ez_goto 124 dX12_read_109 (by decide) ?_
              refine ez_iret .int dX12_read_124 rfl rfl ?_
              exact ⟨(((f34.tr (MF2.of f35)).tr (MF2.of f42)).tr (MF2.of f61)), ⟨_, rfl⟩, g61.1, g61.2.1⟩
          · exact absurd h90 (by decide)
      · exact absurd h50 (by decide)
    · refine ez_aload_n 1 dX12_read_0 rfl rfl ?_
      refine ez_sipush 4 dX12_read_1 rfl (nI 160) (by decide) ?_
      refine ez_iload_n 5 dX12_read_4 rfl rfl ?_
      refine ez_imul 6 dX12_read_5 rfl ?_
      refine ez_top (nI (160 * x)) (pk_mul _ _) ?_
      refine ez_putf 9 .int dX12_read_6 rfl fp_X12_253 (by show 0 < 1; omega) rfl (by decide) rfl rfl ?_
      refine ez_aload_n 10 dX12_read_9 rfl rfl ?_
      refine ez_aload_n 11 dX12_read_10 rfl rfl ?_
      refine ez_getf 14 (eR 43 0) dX12_read_11 rfl fl_X12_17 (by show 0 < 1; omega) rfl ?_
      refine ez_iload_n 15 dX12_read_14 rfl rfl ?_
      refine ez_ialdN x 16 dX12_read_15 rfl (by decide) (by show 0 < 1; omega) (by show x < 6; omega) ?_
      refine ez_top (M.1 43 0 x) rfl ?_
      refine ez_top (nI n) hsz ?_
      refine ez_putf 19 .int dX12_read_16 rfl fp_X12_250 (by show 0 < 1; omega) rfl (by decide) rfl rfl ?_
      refine ez_aload_n 20 dX12_read_19 rfl rfl ?_
      refine ez_iconst 21 dX12_read_20 rfl (nI 0) (by decide) ?_
      refine ez_putf 24 .int dX12_read_21 rfl fp_X12_256 (by show 0 < 1; omega) rfl (by decide) rfl rfl ?_
      refine ez_aload_n 25 dX12_read_24 rfl rfl ?_
      refine ez_iconst 26 dX12_read_25 rfl (nI 0) (by decide) ?_
      refine ez_putf 29 .int dX12_read_26 rfl fp_X12_290 (by show 0 < 1; omega) rfl (by decide) rfl rfl ?_
      refine ez_aload_n 30 dX12_read_29 rfl rfl ?_
      refine ez_iconst 31 dX12_read_30 rfl (nI 0) (by decide) ?_
      refine ez_putf 34 .boolean dX12_read_31 rfl fp_X12_284 (by show 0 < 1; omega) rfl (by decide) (by decide) (by decide) ?_
      have hX0 : MX (160 * x) n b nm (ez_st (ez_st (ez_st (ez_st (ez_st M 12 0 21 (nI (160 * x))) 12 0 22 (nI n)) 12 0 26 (nI 0)) 12 0 27 (nI 0)) 12 0 28 (nI 0)) := ⟨by simp [ez_rd], by simp [ez_rd], fun i hi => hby i hi, fun f hf => by rw [← hnm f hf]; simp only [ez_rd]; rw [if_neg (by omega), if_neg (by omega), if_neg (by omega), if_neg (by omega), if_neg (by omega)]⟩
      have f34 : MF2 M (ez_st (ez_st (ez_st (ez_st (ez_st M 12 0 21 (nI (160 * x))) 12 0 22 (nI n)) 12 0 26 (nI 0)) 12 0 27 (nI 0)) 12 0 28 (nI 0)) := ((((MF2.s (by decide)).tr (MF2.s (by decide))).tr (MF2.s (by decide))).tr (MF2.s (by decide))).tr (MF2.s (by decide))
      have hh0 : ((ez_st (ez_st (ez_st (ez_st (ez_st M 12 0 21 (nI (160 * x))) 12 0 22 (nI n)) 12 0 26 (nI 0)) 12 0 27 (nI 0)) 12 0 28 (nI 0))).1 12 0 26 = nI 0 := by simp [ez_rd]
      have ho0 : ((ez_st (ez_st (ez_st (ez_st (ez_st M 12 0 21 (nI (160 * x))) 12 0 22 (nI n)) 12 0 26 (nI 0)) 12 0 27 (nI 0)) 12 0 28 (nI 0))).1 12 0 27 = nI 0 := by simp [ez_rd]
      have hb0 : ((ez_st (ez_st (ez_st (ez_st (ez_st M 12 0 21 (nI (160 * x))) 12 0 22 (nI n)) 12 0 26 (nI 0)) 12 0 27 (nI 0)) 12 0 28 (nI 0))).1 12 0 28 = nI 0 := by simp [ez_rd]
      generalize (ez_st (ez_st (ez_st (ez_st (ez_st M 12 0 21 (nI (160 * x))) 12 0 22 (nI n)) 12 0 26 (nI 0)) 12 0 27 (nI 0)) 12 0 28 (nI 0)) = M34 at hX0 f34 hh0 ho0 hb0 ⊢
      refine ez_aload_n 35 dX12_read_34 rfl rfl ?_
      refine ez_callV 38 [] [] dX12_read_35 rfl rfl ok_X12_next in_X12_next (by decide) (by show 0 < 1; omega) ln_X12_296 (by omega) (Nat.le_of_ble_eq_true rfl) (c_next g (d - 1) 0 M34 (by omega) (by omega) hn hb hX0 (Nat.zero_le n) hh0 ho0 hb0) (fun r35 M35 q35 => ?_)
      obtain ⟨rfl, f35, t35, a35, e35, o35, b35⟩ := q35
      have g35 : MG (ep_tk b n) (ep_pl b n) (fun k => ep_en b n (ep_pl b n k)) N (160 * x) n b nm 0 0 M35 := ⟨hX0.mf f35, Nat.zero_le _, t35, a35, e35, o35, b35⟩
      show Ez (true, g) mX12_read d 38 [(0, eR 12 0), (1, eI (nI x)), (2, eI (nI wh))] [] M35 _
      refine ez_aload_n 39 dX12_read_38 rfl rfl ?_
      refine ez_ldc2 42 dX12_read_39 rfl 204 cn_X12_353 ?_
      refine ez_callV 45 [eL 204] [] dX12_read_42 rfl rfl ok_X12_part in_X12_part (by decide) (by show 0 < 1; omega) ln_X12_355 (by omega) (Nat.le_of_ble_eq_true rfl) (c_part g (d - 1) 204 _ M35 (by omega) hH hN g35 (by decide : 0 < 3) (by decide) h0) (fun r42 M42 q42 => ?_)
      obtain ⟨f42, rfl, g42⟩ := q42
      have g42 : MG (ep_tk b n) (ep_pl b n) (fun k => ep_en b n (ep_pl b n k)) N (160 * x) n b nm 0 k1 M42 := g42
      show Ez (true, g) mX12_read d 45 [(0, eR 12 0), (1, eI (nI x)), (2, eI (nI wh))] [eI (q1.2 nm)] M42 _
      refine ez_istore_n 46 [(3, eI (q1.2 nm)), (0, eR 12 0), (1, eI (nI x)), (2, eI (nI wh))] dX12_read_45 rfl (by decide) rfl ?_
      refine ez_aload_n 47 dX12_read_46 rfl rfl ?_
      refine ez_getf 50 (eI (M42.1 12 0 28)) dX12_read_47 rfl fl_X12_284 (by show 0 < 1; omega) rfl ?_
      refine ez_top (nI 0) g42.2.2.2.2.2.2 ?_
      refine ez_nif_eq 53 57 dX12_read_50 rfl (by decide) (by omega) (fun h50 => ?_) (fun h50 => ?_)
      · refine ez_aload_n 58 dX12_read_57 rfl rfl ?_
        refine ez_ldc2 61 dX12_read_58 rfl 12251 cn_X12_359 ?_
        refine ez_callV 64 [eL 12251] [] dX12_read_61 rfl rfl ok_X12_part in_X12_part (by decide) (by show 0 < 1; omega) ln_X12_355 (by omega) (Nat.le_of_ble_eq_true rfl) (c_part g (d - 1) 12251 _ M42 (by omega) hH hN g42 (by decide : 1 < 3) (by decide) h1) (fun r61 M61 q61 => ?_)
        obtain ⟨f61, rfl, g61⟩ := q61
        have g61 : MG (ep_tk b n) (ep_pl b n) (fun k => ep_en b n (ep_pl b n k)) N (160 * x) n b nm 0 k2 M61 := g61
        show Ez (true, g) mX12_read d 64 [(3, eI (q1.2 nm)), (0, eR 12 0), (1, eI (nI x)), (2, eI (nI wh))] [eI (q2.2 nm)] M61 _
        refine ez_istore 66 [(4, eI (q2.2 nm)), (3, eI (q1.2 nm)), (0, eR 12 0), (1, eI (nI x)), (2, eI (nI wh))] dX12_read_64 rfl (by decide) rfl ?_
        refine ez_aload_n 67 dX12_read_66 rfl rfl ?_
        refine ez_getf 70 (eI (M61.1 12 0 28)) dX12_read_67 rfl fl_X12_284 (by show 0 < 1; omega) rfl ?_
        refine ez_top (nI 0) g61.2.2.2.2.2.2 ?_
        refine ez_nif_eq 73 77 dX12_read_70 rfl (by decide) (by omega) (fun h70 => ?_) (fun h70 => ?_)
        · refine ez_aload_n 78 dX12_read_77 rfl rfl ?_
          refine ez_ldc2 81 dX12_read_78 rfl 394691 cn_X12_361 ?_
          refine ez_callV 84 [eL 394691] [] dX12_read_81 rfl rfl ok_X12_part in_X12_part (by decide) (by show 0 < 1; omega) ln_X12_355 (by omega) (Nat.le_of_ble_eq_true rfl) (c_part g (d - 1) 394691 _ M61 (by omega) hH hN g61 (by decide : 2 < 3) (by decide) h2) (fun r81 M81 q81 => ?_)
          obtain ⟨f81, ⟨v81, rfl⟩, g81⟩ := q81
          show Ez (true, g) mX12_read d 84 [(4, eI (q2.2 nm)), (3, eI (q1.2 nm)), (0, eR 12 0), (1, eI (nI x)), (2, eI (nI wh))] [eI v81] M81 _
          refine ez_istore 86 [(5, eI v81), (4, eI (q2.2 nm)), (3, eI (q1.2 nm)), (0, eR 12 0), (1, eI (nI x)), (2, eI (nI wh))] dX12_read_84 rfl (by decide) rfl ?_
          refine ez_aload_n 87 dX12_read_86 rfl rfl ?_
          refine ez_getf 90 (eI (M81.1 12 0 28)) dX12_read_87 rfl fl_X12_284 (by show 0 < 1; omega) rfl ?_
          refine ez_top (nI 1) g81.1 ?_
          refine ez_nif_ne 93 104 dX12_read_90 rfl (by decide) (by omega) (fun h90 => ?_) (fun h90 => ?_)
          · refine ez_iload_n 105 dX12_read_104 rfl rfl ?_
            refine ez_nif_ne 108 112 dX12_read_105 rfl (by decide) (by omega) (fun h105 => ?_) (fun h105 => ?_)
            · refine ez_iload_n 113 dX12_read_112 rfl rfl ?_
              refine ez_iconst 114 dX12_read_113 rfl (nI 1) (by decide) ?_
              refine ez_ncmp_ne 117 122 dX12_read_114 rfl (by decide) (by omega) (by omega) (fun h114 => ?_) (fun h114 => ?_)
              · refine ez_iload 124 dX12_read_122 rfl rfl ?_
                refine ez_iret .int dX12_read_124 rfl rfl ?_
                exact ⟨((((f34.tr (MF2.of f35)).tr (MF2.of f42)).tr (MF2.of f61)).tr (MF2.of f81)), ⟨_, rfl⟩, g81.1, g81.2.1⟩
              · refine ez_iload 119 dX12_read_117 rfl rfl ?_
                refine ez_goto 124 dX12_read_119 (by decide) ?_
                refine ez_iret .int dX12_read_124 rfl rfl ?_
                exact ⟨((((f34.tr (MF2.of f35)).tr (MF2.of f42)).tr (MF2.of f61)).tr (MF2.of f81)), ⟨_, rfl⟩, g81.1, g81.2.1⟩
            · refine ez_iload_n 109 dX12_read_108 rfl rfl ?_
              refine ez_goto 124 dX12_read_109 (by decide) ?_
              refine ez_iret .int dX12_read_124 rfl rfl ?_
              exact ⟨((((f34.tr (MF2.of f35)).tr (MF2.of f42)).tr (MF2.of f61)).tr (MF2.of f81)), ⟨_, rfl⟩, g81.1, g81.2.1⟩
          · exact absurd h90 (by decide)
        · exact absurd h70 (by decide)
      · exact absurd h50 (by decide)
    · refine ez_aload_n 1 dX12_read_0 rfl rfl ?_
      refine ez_sipush 4 dX12_read_1 rfl (nI 160) (by decide) ?_
      refine ez_iload_n 5 dX12_read_4 rfl rfl ?_
      refine ez_imul 6 dX12_read_5 rfl ?_
      refine ez_top (nI (160 * x)) (pk_mul _ _) ?_
      refine ez_putf 9 .int dX12_read_6 rfl fp_X12_253 (by show 0 < 1; omega) rfl (by decide) rfl rfl ?_
      refine ez_aload_n 10 dX12_read_9 rfl rfl ?_
      refine ez_aload_n 11 dX12_read_10 rfl rfl ?_
      refine ez_getf 14 (eR 43 0) dX12_read_11 rfl fl_X12_17 (by show 0 < 1; omega) rfl ?_
      refine ez_iload_n 15 dX12_read_14 rfl rfl ?_
      refine ez_ialdN x 16 dX12_read_15 rfl (by decide) (by show 0 < 1; omega) (by show x < 6; omega) ?_
      refine ez_top (M.1 43 0 x) rfl ?_
      refine ez_top (nI n) hsz ?_
      refine ez_putf 19 .int dX12_read_16 rfl fp_X12_250 (by show 0 < 1; omega) rfl (by decide) rfl rfl ?_
      refine ez_aload_n 20 dX12_read_19 rfl rfl ?_
      refine ez_iconst 21 dX12_read_20 rfl (nI 0) (by decide) ?_
      refine ez_putf 24 .int dX12_read_21 rfl fp_X12_256 (by show 0 < 1; omega) rfl (by decide) rfl rfl ?_
      refine ez_aload_n 25 dX12_read_24 rfl rfl ?_
      refine ez_iconst 26 dX12_read_25 rfl (nI 0) (by decide) ?_
      refine ez_putf 29 .int dX12_read_26 rfl fp_X12_290 (by show 0 < 1; omega) rfl (by decide) rfl rfl ?_
      refine ez_aload_n 30 dX12_read_29 rfl rfl ?_
      refine ez_iconst 31 dX12_read_30 rfl (nI 0) (by decide) ?_
      refine ez_putf 34 .boolean dX12_read_31 rfl fp_X12_284 (by show 0 < 1; omega) rfl (by decide) (by decide) (by decide) ?_
      have hX0 : MX (160 * x) n b nm (ez_st (ez_st (ez_st (ez_st (ez_st M 12 0 21 (nI (160 * x))) 12 0 22 (nI n)) 12 0 26 (nI 0)) 12 0 27 (nI 0)) 12 0 28 (nI 0)) := ⟨by simp [ez_rd], by simp [ez_rd], fun i hi => hby i hi, fun f hf => by rw [← hnm f hf]; simp only [ez_rd]; rw [if_neg (by omega), if_neg (by omega), if_neg (by omega), if_neg (by omega), if_neg (by omega)]⟩
      have f34 : MF2 M (ez_st (ez_st (ez_st (ez_st (ez_st M 12 0 21 (nI (160 * x))) 12 0 22 (nI n)) 12 0 26 (nI 0)) 12 0 27 (nI 0)) 12 0 28 (nI 0)) := ((((MF2.s (by decide)).tr (MF2.s (by decide))).tr (MF2.s (by decide))).tr (MF2.s (by decide))).tr (MF2.s (by decide))
      have hh0 : ((ez_st (ez_st (ez_st (ez_st (ez_st M 12 0 21 (nI (160 * x))) 12 0 22 (nI n)) 12 0 26 (nI 0)) 12 0 27 (nI 0)) 12 0 28 (nI 0))).1 12 0 26 = nI 0 := by simp [ez_rd]
      have ho0 : ((ez_st (ez_st (ez_st (ez_st (ez_st M 12 0 21 (nI (160 * x))) 12 0 22 (nI n)) 12 0 26 (nI 0)) 12 0 27 (nI 0)) 12 0 28 (nI 0))).1 12 0 27 = nI 0 := by simp [ez_rd]
      have hb0 : ((ez_st (ez_st (ez_st (ez_st (ez_st M 12 0 21 (nI (160 * x))) 12 0 22 (nI n)) 12 0 26 (nI 0)) 12 0 27 (nI 0)) 12 0 28 (nI 0))).1 12 0 28 = nI 0 := by simp [ez_rd]
      generalize (ez_st (ez_st (ez_st (ez_st (ez_st M 12 0 21 (nI (160 * x))) 12 0 22 (nI n)) 12 0 26 (nI 0)) 12 0 27 (nI 0)) 12 0 28 (nI 0)) = M34 at hX0 f34 hh0 ho0 hb0 ⊢
      refine ez_aload_n 35 dX12_read_34 rfl rfl ?_
      refine ez_callV 38 [] [] dX12_read_35 rfl rfl ok_X12_next in_X12_next (by decide) (by show 0 < 1; omega) ln_X12_296 (by omega) (Nat.le_of_ble_eq_true rfl) (c_next g (d - 1) 0 M34 (by omega) (by omega) hn hb hX0 (Nat.zero_le n) hh0 ho0 hb0) (fun r35 M35 q35 => ?_)
      obtain ⟨rfl, f35, t35, a35, e35, o35, b35⟩ := q35
      have g35 : MG (ep_tk b n) (ep_pl b n) (fun k => ep_en b n (ep_pl b n k)) N (160 * x) n b nm 0 0 M35 := ⟨hX0.mf f35, Nat.zero_le _, t35, a35, e35, o35, b35⟩
      show Ez (true, g) mX12_read d 38 [(0, eR 12 0), (1, eI (nI x)), (2, eI (nI wh))] [] M35 _
      refine ez_aload_n 39 dX12_read_38 rfl rfl ?_
      refine ez_ldc2 42 dX12_read_39 rfl 204 cn_X12_353 ?_
      refine ez_callV 45 [eL 204] [] dX12_read_42 rfl rfl ok_X12_part in_X12_part (by decide) (by show 0 < 1; omega) ln_X12_355 (by omega) (Nat.le_of_ble_eq_true rfl) (c_part g (d - 1) 204 _ M35 (by omega) hH hN g35 (by decide : 0 < 3) (by decide) h0) (fun r42 M42 q42 => ?_)
      obtain ⟨f42, rfl, g42⟩ := q42
      have g42 : MG (ep_tk b n) (ep_pl b n) (fun k => ep_en b n (ep_pl b n k)) N (160 * x) n b nm 0 k1 M42 := g42
      show Ez (true, g) mX12_read d 45 [(0, eR 12 0), (1, eI (nI x)), (2, eI (nI wh))] [eI (q1.2 nm)] M42 _
      refine ez_istore_n 46 [(3, eI (q1.2 nm)), (0, eR 12 0), (1, eI (nI x)), (2, eI (nI wh))] dX12_read_45 rfl (by decide) rfl ?_
      refine ez_aload_n 47 dX12_read_46 rfl rfl ?_
      refine ez_getf 50 (eI (M42.1 12 0 28)) dX12_read_47 rfl fl_X12_284 (by show 0 < 1; omega) rfl ?_
      refine ez_top (nI 0) g42.2.2.2.2.2.2 ?_
      refine ez_nif_eq 53 57 dX12_read_50 rfl (by decide) (by omega) (fun h50 => ?_) (fun h50 => ?_)
      · refine ez_aload_n 58 dX12_read_57 rfl rfl ?_
        refine ez_ldc2 61 dX12_read_58 rfl 12251 cn_X12_359 ?_
        refine ez_callV 64 [eL 12251] [] dX12_read_61 rfl rfl ok_X12_part in_X12_part (by decide) (by show 0 < 1; omega) ln_X12_355 (by omega) (Nat.le_of_ble_eq_true rfl) (c_part g (d - 1) 12251 _ M42 (by omega) hH hN g42 (by decide : 1 < 3) (by decide) h1) (fun r61 M61 q61 => ?_)
        obtain ⟨f61, rfl, g61⟩ := q61
        have g61 : MG (ep_tk b n) (ep_pl b n) (fun k => ep_en b n (ep_pl b n k)) N (160 * x) n b nm 0 k2 M61 := g61
        show Ez (true, g) mX12_read d 64 [(3, eI (q1.2 nm)), (0, eR 12 0), (1, eI (nI x)), (2, eI (nI wh))] [eI (q2.2 nm)] M61 _
        refine ez_istore 66 [(4, eI (q2.2 nm)), (3, eI (q1.2 nm)), (0, eR 12 0), (1, eI (nI x)), (2, eI (nI wh))] dX12_read_64 rfl (by decide) rfl ?_
        refine ez_aload_n 67 dX12_read_66 rfl rfl ?_
        refine ez_getf 70 (eI (M61.1 12 0 28)) dX12_read_67 rfl fl_X12_284 (by show 0 < 1; omega) rfl ?_
        refine ez_top (nI 0) g61.2.2.2.2.2.2 ?_
        refine ez_nif_eq 73 77 dX12_read_70 rfl (by decide) (by omega) (fun h70 => ?_) (fun h70 => ?_)
        · refine ez_aload_n 78 dX12_read_77 rfl rfl ?_
          refine ez_ldc2 81 dX12_read_78 rfl 394691 cn_X12_361 ?_
          refine ez_callV 84 [eL 394691] [] dX12_read_81 rfl rfl ok_X12_part in_X12_part (by decide) (by show 0 < 1; omega) ln_X12_355 (by omega) (Nat.le_of_ble_eq_true rfl) (c_part g (d - 1) 394691 _ M61 (by omega) hH hN g61 (by decide : 2 < 3) (by decide) h2) (fun r81 M81 q81 => ?_)
          obtain ⟨f81, rfl, g81⟩ := q81
          have g81 : MG (ep_tk b n) (ep_pl b n) (fun k => ep_en b n (ep_pl b n k)) N (160 * x) n b nm 0 e M81 := g81
          show Ez (true, g) mX12_read d 84 [(4, eI (q2.2 nm)), (3, eI (q1.2 nm)), (0, eR 12 0), (1, eI (nI x)), (2, eI (nI wh))] [eI (q3.2 nm)] M81 _
          refine ez_istore 86 [(5, eI (q3.2 nm)), (4, eI (q2.2 nm)), (3, eI (q1.2 nm)), (0, eR 12 0), (1, eI (nI x)), (2, eI (nI wh))] dX12_read_84 rfl (by decide) rfl ?_
          refine ez_aload_n 87 dX12_read_86 rfl rfl ?_
          refine ez_getf 90 (eI (M81.1 12 0 28)) dX12_read_87 rfl fl_X12_284 (by show 0 < 1; omega) rfl ?_
          refine ez_top (nI 0) g81.2.2.2.2.2.2 ?_
          refine ez_nif_ne 93 104 dX12_read_90 rfl (by decide) (by omega) (fun h90 => ?_) (fun h90 => ?_)
          · exact absurd h90 (by decide)
          · refine ez_aload_n 94 dX12_read_93 rfl rfl ?_
            refine ez_getf 97 (eI (M81.1 12 0 23)) dX12_read_94 rfl fl_X12_265 (by show 0 < 1; omega) rfl ?_
            refine ez_if_eq 100 104 dX12_read_97 rfl (by decide) (fun h97 => ?_) (fun h97 => ?_)
            · exact absurd h97 (MTk_p g81.2.2.1 h3)
            · refine ez_aload_n 101 dX12_read_100 rfl rfl ?_
              refine ez_callV 104 [] [] dX12_read_101 rfl rfl ok_X12_fail in_X12_fail (by decide) (by show 0 < 1; omega) ln_X12_293 (by omega) (Nat.le_of_ble_eq_true rfl) (c_fail g (d - 1) M81 g81) (fun r101 M101 q101 => ?_)
              obtain ⟨rfl, f101, g101⟩ := q101
              show Ez (true, g) mX12_read d 104 [(5, eI (q3.2 nm)), (4, eI (q2.2 nm)), (3, eI (q1.2 nm)), (0, eR 12 0), (1, eI (nI x)), (2, eI (nI wh))] [] M101 _
              refine ez_iload_n 105 dX12_read_104 rfl rfl ?_
              refine ez_nif_ne 108 112 dX12_read_105 rfl (by decide) (by omega) (fun h105 => ?_) (fun h105 => ?_)
              · refine ez_iload_n 113 dX12_read_112 rfl rfl ?_
                refine ez_iconst 114 dX12_read_113 rfl (nI 1) (by decide) ?_
                refine ez_ncmp_ne 117 122 dX12_read_114 rfl (by decide) (by omega) (by omega) (fun h114 => ?_) (fun h114 => ?_)
                · refine ez_iload 124 dX12_read_122 rfl rfl ?_
                  refine ez_iret .int dX12_read_124 rfl rfl ?_
                  exact ⟨(((((f34.tr (MF2.of f35)).tr (MF2.of f42)).tr (MF2.of f61)).tr (MF2.of f81)).tr (MF2.of f101)), ⟨_, rfl⟩, g101.1, g101.2.1⟩
                · refine ez_iload 119 dX12_read_117 rfl rfl ?_
                  refine ez_goto 124 dX12_read_119 (by decide) ?_
                  refine ez_iret .int dX12_read_124 rfl rfl ?_
                  exact ⟨(((((f34.tr (MF2.of f35)).tr (MF2.of f42)).tr (MF2.of f61)).tr (MF2.of f81)).tr (MF2.of f101)), ⟨_, rfl⟩, g101.1, g101.2.1⟩
              · refine ez_iload_n 109 dX12_read_108 rfl rfl ?_
                refine ez_goto 124 dX12_read_109 (by decide) ?_
                refine ez_iret .int dX12_read_124 rfl rfl ?_
                exact ⟨(((((f34.tr (MF2.of f35)).tr (MF2.of f42)).tr (MF2.of f61)).tr (MF2.of f81)).tr (MF2.of f101)), ⟨_, rfl⟩, g101.1, g101.2.1⟩
        · exact absurd h70 (by decide)
      · exact absurd h50 (by decide)
