/-! ===== Math.max, Math.min; System.arraycopy of a whole int array ===== -/
theorem z_maxc : cJ9_max_7cf53 = Lib.Math.max.code := by decide +kernel
theorem z_minc : cJ9_min_7cf53 = Lib.Math.min.code := by decide +kernel
theorem z_maxn : yJ9_max_7cf53 = Lib.Math.max.name := by decide +kernel
theorem z_minn : yJ9_min_7cf53 = Lib.Math.min.name := by decide +kernel
theorem z_arr {cA : ClassId} {n : Nat} {f g : Nat → Value} (h : ∀ j, j < n → f j = g j) : arrV cA n f = arrV cA n g := by
  unfold arrV
  congr 1
  apply Array.ext
  · simp
  · intro j h1 h2
    simp at h1
    simp
    exact h j h1
section ZMATH
variable {l : Launch} {g : zG} {own : String} {cc : ByteArray} {nL : Nat} {rt : Option FieldType} {nm : String} {R : Room} {mc ms : Nat} {Q : Option Value → List va_E → Prop} {k n pc i : Nat} {ls : List (Option Value)} {st : List Value} {h : List va_E}
theorem z_mmax {a b : Int} (hk : zLk own i yJ9_max_7cf53 cJ9_max_7cf53 2 (some .int) 2) (ha : ir a) (hb : ir b) (hR : 1 ≤ R.frames ∧ 21 ≤ R.locals) (hcat : (st.map fun v => v.category).sum ≤ 8) (hf : k ≤ R.cells ∧ n ≤ R.slots) (hd : decode cc pc = .ok (.invokestatic i, 3)) (kk : zJ l g own cc nL rt nm R mc ms Q k n (pc + 3) ls (.int (iz (max a b)) :: st) h) : zJ l g own cc nL rt nm R mc ms Q k n pc ls (.int (iz b) :: .int (iz a) :: st) h := by
  intro p e s m args below meth c H locs la hC hw hS hl
  rw [z_maxc, z_maxn] at hk
  refine va_mmax hC.1 hC.2.1 (hC.2.2.1.trans hl.1.1.symm) hC.2.2.2.1 (hC.2.2.2.2.1 _ hk.2.2.1) (hC.2.2.2.2.1 _ (by rw [← z_maxn]; exact st_J9_max_7cf53)) (hC.2.2.2.2.1 _ hk.2.1) (hC.2.2.2.2.1 _ hk.1) hR.1 (by have := hR.2; omega) hf.1 hf.2 hd ?_
  have e9 : (if iz a < iz b then iz b else iz a) = iz (max a b) := by
    by_cases hq : a < b
    · rw [if_pos ((iz_lt ha hb).mpr hq), show max a b = b by omega]
    · rw [if_neg (fun z => hq ((iz_lt ha hb).mp z)), show max a b = a by omega]
  rw [e9]
  exact kk p e s m args below meth c H locs la hC hw hS hl
theorem z_mmin {a b : Int} (hk : zLk own i yJ9_min_7cf53 cJ9_min_7cf53 2 (some .int) 2) (ha : ir a) (hb : ir b) (hR : 1 ≤ R.frames ∧ 21 ≤ R.locals) (hcat : (st.map fun v => v.category).sum ≤ 8) (hf : k ≤ R.cells ∧ n ≤ R.slots) (hd : decode cc pc = .ok (.invokestatic i, 3)) (kk : zJ l g own cc nL rt nm R mc ms Q k n (pc + 3) ls (.int (iz (min a b)) :: st) h) : zJ l g own cc nL rt nm R mc ms Q k n pc ls (.int (iz b) :: .int (iz a) :: st) h := by
  intro p e s m args below meth c H locs la hC hw hS hl
  rw [z_minc, z_minn] at hk
  refine va_mmin hC.1 hC.2.1 (hC.2.2.1.trans hl.1.1.symm) hC.2.2.2.1 (hC.2.2.2.2.1 _ hk.2.2.1) (hC.2.2.2.2.1 _ (by rw [← z_minn]; exact st_J9_min_7cf53)) (hC.2.2.2.2.1 _ hk.2.1) (hC.2.2.2.2.1 _ hk.1) hR.1 (by have := hR.2; omega) hf.1 hf.2 hd ?_
  have e9 : (if iz b < iz a then iz b else iz a) = iz (min a b) := by
    by_cases hq : b < a
    · rw [if_pos ((iz_lt hb ha).mpr hq), show min a b = b by omega]
    · rw [if_neg (fun z => hq ((iz_lt hb ha).mp z)), show min a b = a by omega]
  rw [e9]
  exact kk p e s m args below meth c H locs la hC hw hS hl
theorem z_copy {q0 q1 n2 : Nat} {f f2 : Nat → Int} (hm : Cond.methodLink own i arraycopyName ∈ zT) (h0 : h[q0]? = some (zA g n2 f)) (he : h[q1]? = some (zA g n2 f2)) (hn2 : n2 ≤ 2147483647) (hR : 1 ≤ R.frames ∧ 38 ≤ R.locals) (hcat : (st.map fun v => v.category).sum ≤ 8) (hd : decode cc pc = .ok (.invokestatic i, 3)) (kk : zJ l g own cc nL rt nm R mc ms Q k n (pc + 3) ls st (h.set q1 (zA g n2 f))) : zJ l g own cc nL rt nm R mc ms Q k n pc ls (.int (iz n2) :: .int (iz 0) :: .ref (g.2.1 + q1) :: .int (iz 0) :: .ref (g.2.1 + q0) :: st) h := by
  intro p e s m args below meth c H locs la hC hw hS hl
  have hrn : ir (n2 : Int) := ⟨by omega, by omega⟩
  have cn : (iz (n2 : Int)).toNatClampNeg = n2 := by rw [iz_cl hrn]; simp
  have c0 : (iz 0).toNatClampNeg = 0 := rfl
  have nn : ¬ iz (n2 : Int) < 0 := fun q => by rw [← iz_0, iz_lt hrn ir_0] at q; omega
  have n0 : ¬ iz 0 < 0 := by decide
  have h4 : (iz 0).toNatClampNeg + (iz (n2 : Int)).toNatClampNeg ≤ n2 := by rw [c0, cn]; omega
  have hc0 := hw.1 q0 _ (zws_at h0)
  have hc1 := hw.1 q1 _ (zws_at he)
  obtain ⟨-, k0, hk0, cm0, hkk0⟩ := (hw.2.2.2 0 _ rfl).1 n2 (fun j => .int (iz (f j)))
  obtain ⟨-, k1, hk1, cm1, hkk1⟩ := (hw.2.2.2 0 _ rfl).1 n2 (fun j => .int (iz (f2 j)))
  intro T hT X
  obtain ⟨vm', X', step⟩ := X.arraycopy hC.1 hC.2.2.2.1 (hC.2.2.2.2.1 _ hm) (hC.2.2.2.2.1 _ ac_nat) (hC.2.2.2.2.1 _ ac_st) (hC.2.2.2.2.1 _ ac_ini) (src := g.2.1 + q0) (dst := g.2.1 + q1) (cs := vp_cell (g.2.2 0) (n2, .inl (fun j => iz (f j)))) (cd := vp_cell (g.2.2 0) (n2, .inl (fun j => iz (f2 j)))) (srcPos := iz 0) (destPos := iz 0) (n := iz n2) (by rw [hT]; exact hc0) (by rw [hT]; exact hc1)
    (fun _ h => by cases h) (fun _ h => by cases h) (fun h => by cases h) (fun h => by cases h) hk0 hk1 hkk0 hkk1 (by simp [refKind]) n0 n0 nn
    (by rw [iz_toInt hrn, iz_toInt ir_0]; show ¬ _ > ((arrV (g.2.2 0) n2 (fun j => .int (iz (f j)))).slots.size : Int); rw [arrV_size]; omega)
    (by rw [iz_toInt hrn, iz_toInt ir_0]; show ¬ _ > ((arrV (g.2.2 0) n2 (fun j => .int (iz (f2 j)))).slots.size : Int); rw [arrV_size]; omega)
    (fun vm₁ _ i hi => by
      rw [cn] at hi
      have e9 : (vp_cell (g.2.2 0) (n2, .inl (fun j => iz (f j)))).slots.getD ((iz 0).toNatClampNeg + i) .null = .int (iz (f i)) := by
        rw [c0, Nat.zero_add]
        show (arrV (g.2.2 0) n2 (fun j => .int (iz (f j)))).slots.getD _ _ = _
        rw [Array.getD_eq_getD_getElem?, arrV_read _ _ hi]
        rfl
      refine ⟨?_, ?_⟩
      · rw [e9]; rfl
      · rw [e9]; exact trivial)
    (g := F0 m pc la (.int (iz n2) :: .int (iz 0) :: .ref (g.2.1 + q1) :: .int (iz 0) :: .ref (g.2.1 + q0) :: st)) rfl (by rw [hC.2.2.1]; exact hl.1.1) (rest := st) rfl (by rw [hC.2.1]; exact hd) hR.1 (by show 2 * 0 + _ + (5 + 2 + 11) ≤ _; have := hR.2; omega)
  have e1 : copied (vp_cell (g.2.2 0) (n2, .inl (fun j => iz (f j)))) (vp_cell (g.2.2 0) (n2, .inl (fun j => iz (f2 j)))) (iz 0) (iz 0) (iz n2) = vp_cell (g.2.2 0) (n2, .inl (fun j => iz (f j))) := by
    refine (va_copied (fun z => Value.int z) (g.2.2 0) (g.2.2 0) (fun j => iz (f j)) (fun j => iz (f2 j)) h4).trans ?_
    rw [c0, cn]
    show arrV (g.2.2 0) n2 (fun j => Value.int (va_cpy (fun j => iz (f j)) (fun j => iz (f2 j)) 0 0 n2 j)) = arrV (g.2.2 0) n2 (fun j => Value.int (iz (f j)))
    refine z_arr (fun j hj => ?_)
    have e9 : va_cpy (fun j => iz (f j)) (fun j => iz (f2 j)) 0 0 n2 j = iz (f j) := by rw [pk_cpy_in (by omega) (by omega)]; simp
    exact congrArg Value.int e9
  rw [e1] at X' step
  have hla : g.2.1 + q1 < H.size := (Array.getElem?_eq_some_iff.mp hc1).1
  refine Exists.imp (fun t ht => ⟨step t ht.1, ht.2⟩) (kk p e s m args below meth c (H.setIfInBounds (g.2.1 + q1) (vp_cell (g.2.2 0) (n2, .inl (fun j => iz (f j))))) _ la hC (zw_set hw he (show (H.setIfInBounds (g.2.1 + q1) _)[g.2.1 + q1]? = some _ by simp [Array.getElem?_setIfInBounds, hla]) (by simp) (fun x hx => by simp [Array.getElem?_setIfInBounds, Ne.symm hx])) ⟨by simp; exact hS.1, fun x g1 g2 => by
      rw [show (H.setIfInBounds (g.2.1 + q1) (vp_cell (g.2.2 0) (n2, .inl (fun j => iz (f j)))))[x]? = H[x]? by simp [Array.getElem?_setIfInBounds, show ¬ g.2.1 + q1 = x from fun e => g2 (by show g.2.1 ≤ x; omega)]]
      exact hS.2.1 x g1 g2, fun x hx => by
      rcases List.mem_append.mp hx with h | h
      · exact hS.2.2 x h
      · obtain ⟨z, -, hz⟩ := List.mem_map.mp h
        rw [← hz]
        exact Nat.le_add_right _ _⟩ hl _ (by rw [← hT]; rfl) X')
end ZMATH
