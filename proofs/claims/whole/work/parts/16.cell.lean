/-! ===== a row's contents beyond its end are nobody's ===== -/
theorem z_cell {l : Launch} {g : zG} {own : String} {cc : ByteArray} {nL : Nat} {rt : Option FieldType} {nm : String} {R : Room} {mc ms : Nat} {Q : Option Value → List va_E → Prop} {k n pc : Nat} {ls : List (Option Value)} {st : List Value} {h : List va_E} {q N : Nat} {f f2 : Nat → Int} (he : h[q]? = some (zA g N f)) (hff : ∀ j, j < N → f j = f2 j) (kk : zJ l g own cc nL rt nm R mc ms Q k n pc ls st (h.set q (zA g N f2))) : zJ l g own cc nL rt nm R mc ms Q k n pc ls st h := by
  intro p e s m args below meth c H locs la hC hw hS hl
  refine kk p e s m args below meth c H locs la hC (zw_set hw he ?_ rfl (fun _ _ => rfl)) hS hl
  have h1 := hw.1 q _ (zws_at he)
  have e9 : vp_cell (g.2.2 0) (N, .inl (fun j => iz (f j))) = vp_cell (g.2.2 0) (N, .inl (fun j => iz (f2 j))) := by
    rw [vp_cell_i, vp_cell_i]
    exact z_arr (fun j hj => by rw [hff j hj])
  show H[_]? = some (vp_cell (g.2.2 0) (N, .inl (fun j => iz (f2 j))))
  rw [← e9]
  exact h1
