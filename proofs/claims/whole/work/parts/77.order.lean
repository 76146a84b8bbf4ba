/-! building: the order of the cells; a table of references, told otherwise -/
theorem va_D_nd {A : Nat → Prop} {ws : va_W} (h : va_D A ws) : (ws.map Prod.fst).Nodup := by
  rw [List.Nodup, List.pairwise_iff_getElem]
  intro i j hi hj hij e
  rw [List.length_map] at hi hj
  have := h.1 i j ws[i] ws[j] (List.getElem?_eq_getElem hi) (List.getElem?_eq_getElem hj) (by simpa using e)
  omega
theorem va_D_of {A : Nat → Prop} {ws : va_W} (h1 : (ws.map Prod.fst).Nodup) (h2 : ∀ x ∈ ws, A x.1) : va_D A ws := by
  refine ⟨fun i j x y hi hj e => ?_, fun k q hk => h2 q (List.mem_of_getElem? hk)⟩
  rw [List.Nodup, List.pairwise_iff_getElem] at h1
  obtain ⟨li, ei⟩ := List.getElem?_eq_some_iff.mp hi
  obtain ⟨lj, ej⟩ := List.getElem?_eq_some_iff.mp hj
  have key : ∀ a b (la : a < ws.length) (lb : b < ws.length), a < b → ¬ ws[a].1 = ws[b].1 := fun a b la lb hab z => h1 a b (by rw [List.length_map]; exact la) (by rw [List.length_map]; exact lb) hab (by simpa using z)
  rcases Nat.lt_trichotomy i j with q | q | q
  · exact absurd (by rw [ei, ej]; exact e) (key i j li lj q)
  · exact q
  · exact absurd (by rw [ei, ej]; exact e.symm) (key j i lj li q)
theorem eb_perm {G : EbG} {yy : MethodName} {cc : ByteArray} {ml : Nat} {rt : Option FieldType} {d mc ms k n pc : Nat} {ls : List (Nat × Value)} {st : List Value} {ws : va_W} {P : va_W → Prop} {ws2 : va_W} (h : ws.Perm ws2) (kk : Eb G (yy, cc, ml, rt) d mc ms k n pc ls st ws2 P) : Eb G (yy, cc, ml, rt) d mc ms k n pc ls st ws P := by
  intro p e s m args below meth c H locs lsA hx hb hr hml hown hts hlk hin hK hB hD hP hS hl
  refine kk p e s m args below meth c H locs lsA hx hb hr hml hown hts hlk hin hK hB (va_D_of ((h.map Prod.fst).nodup_iff.mp (va_D_nd hD)) (fun x hx9 => ?_)) (fun j x hx9 => ?_) hS hl
  · obtain ⟨i9, h9⟩ := List.getElem?_of_mem (h.mem_iff.mpr hx9)
    exact hD.2 i9 x h9
  · obtain ⟨i9, h9⟩ := List.getElem?_of_mem (h.mem_iff.mpr (List.mem_of_getElem? hx9))
    exact hP i9 x h9
theorem eb_mv {ws R : va_W} {a : Nat × va_E} : (ws ++ a :: R).Perm ((ws ++ R) ++ [a]) := by
  rw [List.append_assoc]
  exact List.Perm.append_left ws (List.perm_append_singleton a R).symm
theorem vp_refs {cA : ClassId} {N : Nat} {f f' : Nat → Option Nat} (h : ∀ j, j < N → f j = f' j) : vp_cell cA (N, .inr (.inr (.inr (.inr f')))) = vp_cell cA (N, .inr (.inr (.inr (.inr f)))) := by
  rw [vp_cell_q, vp_cell_q]
  unfold arrV
  congr 1
  congr 1
  funext j
  show va_rf (f' j.val) = va_rf (f j.val)
  rw [h j.val j.isLt]
theorem eb_refs {G : EbG} {yy : MethodName} {cc : ByteArray} {ml : Nat} {rt : Option FieldType} {d mc ms k n pc : Nat} {ls : List (Nat × Value)} {st : List Value} {ws : va_W} {P : va_W → Prop} {a N : Nat} {cA : ClassId} {f : Nat → Option Nat} (q0 : Nat) (f' : Nat → Option Nat) (hq : ws[q0]? = some (a, .inl (cA, N, .inr (.inr (.inr (.inr f)))))) (hf : ∀ j, j < N → f j = f' j) (kk : Eb G (yy, cc, ml, rt) d mc ms k n pc ls st (ws.set q0 (a, .inl (cA, N, .inr (.inr (.inr (.inr f')))))) P) : Eb G (yy, cc, ml, rt) d mc ms k n pc ls st ws P := by
  intro p e s m args below meth c H locs lsA hx hb hr hml hown hts hlk hin hK hB hD hP hS hl
  refine kk p e s m args below meth c H locs lsA hx hb hr hml hown hts hlk hin hK hB (hD.set hq) (hP.set hD hq ?_ (fun _ _ => rfl)) hS hl
  have h1 : H[a]? = some (vp_cell cA (N, .inr (.inr (.inr (.inr f))))) := hP q0 _ hq
  show H[a]? = some (vp_cell cA (N, .inr (.inr (.inr (.inr f')))))
  rw [vp_refs hf]; exact h1
