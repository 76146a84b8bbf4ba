/-! a grid of ints -/
theorem em_c (cA : ClassId) (h : Nat) : Jvm.Free.Multi.outerC cA 4 h 4 = arrV cA 4 (fun j => va_rf (some (h + 1 + j))) := by rfl
theorem em_i (cA : ClassId) : Jvm.Free.Multi.innerC cA 10 (.int 0) = arrV cA 10 (fun _ => .int 0) := by rfl
theorem em_cl : Cond.classLink RX0 9 ("[" ++ (FieldType.array .int).toString) ∈ ez_tbl := ez_mem 96 (by decide +kernel) (by decide +kernel)
def em_ws (cy : Nat → ClassId) (h : Nat) : va_W := [(h, .inl (cy 8, 4, .inr (.inr (.inr (.inr (fun j => some (h + 1 + j))))))), (h + 1, .inl (cy 0, 10, .inl (fun _ => 0))), (h + 1 + 1, .inl (cy 0, 10, .inl (fun _ => 0))), (h + 1 + 2, .inl (cy 0, 10, .inl (fun _ => 0))), (h + 1 + 3, .inl (cy 0, 10, .inl (fun _ => 0)))]
theorem eb_multi {G : EbG} {yy : MethodName} {cc : ByteArray} {ml : Nat} {rt : Option FieldType} {d mc ms k n pc : Nat} {ls : List (Nat × Value)} {st : List Value} {ws : va_W} {P : va_W → Prop} {idx : Nat} (hd : decode cc pc = .ok (.multianewarray idx 2, 4)) (hcl : Cond.classLink yy.cls idx ("[" ++ (FieldType.array .int).toString) ∈ ez_tbl) (hac : Cond.arrayClass .int ∈ ez_tbl) (hk9 : k + 5 ≤ mc) (hn9 : n + 44 ≤ ms) (kk : ∀ q : Nat, Eb G (yy, cc, ml, rt) d mc ms (k + 5) (n + 44) (pc + 4) ls (.ref q :: st) (ws ++ em_ws G.2.2.1 q) P) : Eb G (yy, cc, ml, rt) d mc ms k n pc ls (.int 10 :: .int 4 :: st) ws P := by
  intro p e s m args below meth c H locs lsA hx hb hr hml hown hts hlk hin hK hB hD hP hS hl T hT X
  obtain ⟨vm₁, cA, comp, hW, hfA, hfC, hO, hI, X1, stp⟩ := X.multianewarray2F hx (own := yy.cls) (index := idx) (ty := .int) hown (hts _ (List.mem_cons_of_mem _ hcl)) hK.2.2.2.2.2.2.1 (hts _ (List.mem_cons_of_mem _ hac)) (g := F0 m pc lsA (.int 10 :: .int 4 :: st)) rfl (by rw [hb]; exact hd) rfl (by decide) (by decide) (by decide) (by decide) (by decide) rfl rfl (by show k + (1 + 4) ≤ mc; omega) (by show n + (4 + 4 * 10) ≤ ms; omega)
  have n4 : (4 : Int32).toNatClampNeg = 4 := by decide
  have n10 : (10 : Int32).toNatClampNeg = 10 := by decide
  rw [n4, n10] at X1 stp
  obtain ⟨f1, f2, f3, f4⟩ := Jvm.Free.Multi.fill_facts (T.setVm vm₁) cA comp 4 10 (defaultValue .int) 4
  have fo := fun (a : Addr) (ha : a < T.heap.size) => Jvm.Free.Multi.fill_old (T.setVm vm₁) cA comp 4 10 (defaultValue .int) (a := a) ha 4
  have fi := fun (j : Nat) (hj : j < 4) => Jvm.Free.Multi.fill_inner (T.setVm vm₁) cA comp 4 10 (defaultValue .int) 4 j hj
  have e8 : cA = G.2.2.1 8 := by
    have a1 := va_RA_fc (hK.1.2 8 (G.2.2.1 8, ez_ty 8) (by simp only [ez_tys, List.getElem?_map, List.getElem?_range (show 8 < 9 by decide)]; rfl)).2
    have a2 : s.vm.findClass ("[" ++ (ez_ty 8).toString) = some cA := hfA
    rw [a1] at a2; exact (Option.some.inj a2).symm
  have e0 : comp = G.2.2.1 0 := by
    have a1 := va_RA_fc (hK.1.2 0 (G.2.2.1 0, ez_ty 0) (by simp only [ez_tys, List.getElem?_map, List.getElem?_range (show 0 < 9 by decide)]; rfl)).2
    have a2 : s.vm.findClass ("[" ++ (ez_ty 0).toString) = some comp := hfC
    rw [a1] at a2; exact (Option.some.inj a2).symm
  subst e8; subst e0
  have hTs : (T.setVm vm₁).heap = H := hT
  generalize hH1 : (Jvm.Free.Multi.fill (T.setVm vm₁) (G.2.2.1 8) (G.2.2.1 0) 4 10 (defaultValue .int) 4) = T1 at *
  rw [hTs] at f1 f2 fi
  have fo : ∀ a : Nat, a < H.size → T1.heap[a]? = H[a]? := fun a ha => by rw [← hTs]; exact fo a (by rw [hT]; exact ha)
  have key : ∀ (a : Nat) (e9 : va_E), (a, e9) ∈ em_ws G.2.2.1 H.size → va_at G.2.1 vwCl (a, e9) T1.heap ∧ H.size ≤ a := by
    intro a e9 h9
    unfold em_ws at h9
    simp only [List.mem_cons, List.not_mem_nil, or_false, Prod.mk.injEq] at h9
    rcases h9 with ⟨rfl, rfl⟩ | ⟨rfl, rfl⟩ | ⟨rfl, rfl⟩ | ⟨rfl, rfl⟩ | ⟨rfl, rfl⟩
    · exact ⟨f2.trans (by rw [em_c]; rfl), Nat.le_refl _⟩
    · exact ⟨(fi 0 (by decide)).trans rfl, by omega⟩
    · exact ⟨(fi 1 (by decide)).trans rfl, by omega⟩
    · exact ⟨(fi 2 (by decide)).trans rfl, by omega⟩
    · exact ⟨(fi 3 (by decide)).trans rfl, by omega⟩
  have hS1 : va_S (eb_A G.2.2.2) s.heap T1.heap locs := ⟨Nat.le_trans hS.1 (by omega), fun q h1 h2 => (fo q (Nat.lt_of_lt_of_le h1 hS.1)).trans (hS.2.1 q h1 h2), hS.2.2⟩
  have hP1 : va_P G.2.1 vwCl (ws ++ em_ws G.2.2.1 H.size) T1.heap := va_P.app (hP.kept (fun j x hx9 => fo x.1 ((hP j x hx9).lt))) (fun j x hx9 => (key x.1 x.2 (List.mem_of_getElem? hx9)).1)
  have hD1 : va_D (eb_A G.2.2.2) (ws ++ em_ws G.2.2.1 H.size) := by
    refine va_D.app hD ⟨fun i j x y hi hj hxy => ?_, fun j x hx9 => Nat.le_trans (Nat.le_trans hB hS.1) (key x.1 x.2 (List.mem_of_getElem? hx9)).2⟩ (fun i j x y hi hj hxy => ?_)
    · have li : i < 5 := (List.getElem?_eq_some_iff.mp hi).1
      have lj : j < 5 := (List.getElem?_eq_some_iff.mp hj).1
      have ad : ∀ t z, t < 5 → (em_ws G.2.2.1 H.size)[t]? = some z → z.1 = H.size + t := by
        intro t z ht hz
        rcases (show t = 0 ∨ t = 1 ∨ t = 2 ∨ t = 3 ∨ t = 4 by omega) with rfl | rfl | rfl | rfl | rfl <;> cases hz <;> rfl
      rw [ad i x li hi, ad j y lj hj] at hxy
      omega
    · have a1 := (hP i x hi).lt
      have a2 := (key y.1 y.2 (List.mem_of_getElem? hj)).2
      omega
  obtain ⟨t2, a1, b1⟩ := kk H.size p e s m args below meth c T1.heap locs lsA hx hb hr hml hown hts hlk hin hK hB hD1 hP1 hS1 hl T1 rfl X1
  refine ⟨t2, stp t2 ?_, b1⟩
  rw [hT]
  exact a1
