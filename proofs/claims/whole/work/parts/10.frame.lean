/-! ===== numbers: Java's int and long as images of whole numbers ===== -/
def iz (z : Int) : Int32 := Int32.ofInt z
def lz (z : Int) : Int64 := Int64.ofInt z
abbrev ir (z : Int) : Prop := -2147483648 ≤ z ∧ z ≤ 2147483647
abbrev lr (z : Int) : Prop := -9223372036854775808 ≤ z ∧ z ≤ 9223372036854775807
theorem iz_add (a b : Int) : iz a + iz b = iz (a + b) := (Int32.ofInt_add a b).symm
theorem iz_sub (a b : Int) : iz a - iz b = iz (a - b) := (Int32.ofInt_sub a b).symm
theorem iz_mul (a b : Int) : iz a * iz b = iz (a * b) := (Int32.ofInt_mul a b).symm
theorem iz_neg (a : Int) : -iz a = iz (-a) := (Int32.ofInt_neg a).symm
theorem lz_add (a b : Int) : lz a + lz b = lz (a + b) := (Int64.ofInt_add a b).symm
theorem lz_sub (a b : Int) : lz a - lz b = lz (a - b) := (Int64.ofInt_sub a b).symm
theorem lz_mul (a b : Int) : lz a * lz b = lz (a * b) := (Int64.ofInt_mul a b).symm
theorem iz_toInt {z : Int} (h : ir z) : (iz z).toInt = z := Int32.toInt_ofInt_of_le (by have := h.1; omega) (by have := h.2; omega)
theorem lz_toInt {z : Int} (h : lr z) : (lz z).toInt = z := Int64.toInt_ofInt_of_le (by have := h.1; omega) (by have := h.2; omega)
theorem iz_of (x : Int32) : x = iz x.toInt := (Int32.ofInt_toInt x).symm
theorem ir_toInt (x : Int32) : ir x.toInt := ⟨by have := x.le_toInt; omega, by have := x.toInt_lt; omega⟩
theorem iz_lt {a b : Int} (ha : ir a) (hb : ir b) : iz a < iz b ↔ a < b := by rw [Int32.lt_iff_toInt_lt, iz_toInt ha, iz_toInt hb]
theorem iz_le {a b : Int} (ha : ir a) (hb : ir b) : iz a ≤ iz b ↔ a ≤ b := by rw [Int32.le_iff_toInt_le, iz_toInt ha, iz_toInt hb]
theorem iz_eq {a b : Int} (ha : ir a) (hb : ir b) : iz a = iz b ↔ a = b := by rw [← Int32.toInt_inj, iz_toInt ha, iz_toInt hb]
theorem lz_lt {a b : Int} (ha : lr a) (hb : lr b) : lz a < lz b ↔ a < b := by rw [Int64.lt_iff_toInt_lt, lz_toInt ha, lz_toInt hb]
theorem lz_eq {a b : Int} (ha : lr a) (hb : lr b) : lz a = lz b ↔ a = b := by rw [← Int64.toInt_inj, lz_toInt ha, lz_toInt hb]
theorem ir_0 : ir 0 := ⟨by decide, by decide⟩
theorem iz_0 : iz 0 = 0 := rfl
theorem iz_cl {z : Int} (h : ir z) : (iz z).toNatClampNeg = z.toNat := by
  show (iz z).toInt.toNat = z.toNat
  rw [iz_toInt h]
theorem iz_in {z : Int} {n : Nat} (hn : n ≤ 2147483647) (h0 : 0 ≤ z) (h1 : z < n) : vp_in (iz z) n ∧ (iz z).toNatClampNeg = z.toNat := by
  have hr : ir z := ⟨by omega, by omega⟩
  refine ⟨fun h => ?_, iz_cl hr⟩
  rcases h with h | h
  · rw [← iz_0, iz_lt hr ir_0] at h
    omega
  · rw [iz_cl hr] at h
    omega
theorem iz_l {z : Int} (h : ir z) : (iz z).toInt64 = lz z := by
  rw [← Int64.toInt_inj, Int32.toInt_toInt64, iz_toInt h, lz_toInt ⟨by have := h.1; omega, by have := h.2; omega⟩]
theorem lz_i (z : Int) : (lz z).toInt32 = iz z := Int64.toInt32_ofInt
theorem lz_div {a b : Int} (ha : lr a) (h0 : 0 ≤ a) (hb : lr b) (h1 : 0 < b) : lz a / lz b = lz (a / b) := by
  have e : a.tdiv b = a / b := Int.tdiv_eq_ediv_of_nonneg h0
  have h2 : 0 ≤ a / b := Int.ediv_nonneg h0 (Int.le_of_lt h1)
  have h3 : a / b ≤ a := Int.ediv_le_self b h0
  rw [← Int64.toInt_inj, Int64.toInt_div, lz_toInt ha, lz_toInt hb, e, lz_toInt ⟨by omega, by have := ha.2; omega⟩]
  exact Int.bmod_eq_of_le (by omega) (by have := ha.2; omega)
/-! ===== cells, worlds ===== -/
abbrev zE : Type := va_E
abbrev zG : Type := va_G × Nat × (Nat → ClassId)
abbrev zA (g : zG) (n : Nat) (f : Nat → Int) : va_E := .inl (g.2.2 0, n, .inl (fun j => iz (f j)))
abbrev zB (g : zG) (n : Nat) (f : Nat → Int) : va_E := .inl (g.2.2 1, n, .inl (fun j => iz (f j)))
abbrev zL (g : zG) (n : Nat) (f : Nat → Int) : va_E := .inl (g.2.2 2, n, .inr (.inl (fun j => lz (f j))))
abbrev zR (g : zG) (n : Nat) (f : Nat → Option Nat) : va_E := .inl (g.2.2 3, n, .inr (.inr (.inr (.inr f))))
abbrev zcl : List vw_C := [(RX0, TX0, 1), (RX1, TX1, 9), (RX2, TX2, 9), (RX3, TX3, 3), (RX4, TX4, 5), (RX5, TX5, 21)]
abbrev ztys (g : zG) : List (ClassId × FieldType) := [(g.2.2 0, .int), (g.2.2 1, .boolean), (g.2.2 2, .long), (g.2.2 3, .object "BoughtAhead$Book")]
def zws : Nat → List va_E → va_W
  | _, [] => []
  | b, e :: t => (b, e) :: zws (b + 1) t
theorem zws_get : ∀ (h : List va_E) (b k : Nat), (zws b h)[k]? = (h[k]?).map (fun e => (b + k, e))
  | [], b, k => by simp [zws]
  | e :: t, b, 0 => by simp [zws]
  | e :: t, b, k + 1 => by
    simp only [zws, List.getElem?_cons_succ]
    rw [zws_get t (b + 1) k]
    have : b + 1 + k = b + (k + 1) := by omega
    rw [this]
theorem zws_len : ∀ (h : List va_E) (b : Nat), (zws b h).length = h.length
  | [], b => rfl
  | e :: t, b => by simp [zws, zws_len t (b + 1)]
theorem zws_at {h : List va_E} {b k : Nat} {e : va_E} (hk : h[k]? = some e) : (zws b h)[k]? = some (b + k, e) := by rw [zws_get, hk]; rfl
theorem zws_inv {h : List va_E} {b k : Nat} {q : Nat × va_E} (hk : (zws b h)[k]? = some q) : q.1 = b + k ∧ h[k]? = some q.2 := by
  rw [zws_get] at hk
  cases hh : h[k]? with
  | none => rw [hh] at hk; cases hk
  | some e => rw [hh] at hk; cases hk; exact ⟨rfl, rfl⟩
theorem zws_D (b : Nat) (h : List va_E) : va_D (fun q => b ≤ q) (zws b h) := by
  refine ⟨fun i j x y hi hj hxy => ?_, fun k q hk => ?_⟩
  · have h1 := (zws_inv hi).1
    have h2 := (zws_inv hj).1
    omega
  · have h1 := (zws_inv hk).1
    show b ≤ q.1
    omega
theorem zws_set : ∀ (h : List va_E) (b k : Nat) (e : va_E), zws b (h.set k e) = (zws b h).set k (b + k, e)
  | [], b, k, e => by simp [zws]
  | x :: t, b, 0, e => by simp [zws]
  | x :: t, b, k + 1, e => by
    simp only [zws, List.set_cons_succ]
    rw [zws_set t (b + 1) k e]
    have : b + 1 + k = b + (k + 1) := by omega
    rw [this]
theorem zws_app : ∀ (h : List va_E) (b : Nat) (e : va_E), zws b (h ++ [e]) = zws b h ++ [(b + h.length, e)]
  | [], b, e => by simp [zws]
  | x :: t, b, e => by
    simp only [zws, List.cons_append, List.length_cons]
    rw [zws_app t (b + 1) e]
    have : b + 1 + t.length = b + (t.length + 1) := by omega
    rw [this]
/-- the world: the cells from g.2.1 on are those of h, and there are no others -/
def zw (g : zG) (h : List va_E) (U : State) (H : Heap) : Prop := va_P g.1 zcl (zws g.2.1 h) H ∧ H.size = g.2.1 + h.length ∧ va_K g.1 zcl (ztys g) U
abbrev zF (g : zG) : Nat → Prop := fun q => g.2.1 ≤ q
theorem zw_set {g : zG} {h : List va_E} {U : State} {H H1 : Heap} {q : Nat} {e0 e : va_E} (hw : zw g h U H) (hq : h[q]? = some e0) (he : va_at g.1 zcl (g.2.1 + q, e) H1) (z : H1.size = H.size) (oq : ∀ x : Nat, x ≠ g.2.1 + q → H1[x]? = H[x]?) : zw g (h.set q e) U H1 := by
  refine ⟨?_, by rw [z, hw.2.1, List.length_set], hw.2.2⟩
  rw [zws_set]
  exact va_P.set hw.1 (zws_D g.2.1 h) (zws_at hq) he oq
theorem zw_push {g : zG} {h : List va_E} {U : State} {H H1 : Heap} {e : va_E} (hw : zw g h U H) (he : va_at g.1 zcl (H.size, e) H1) (z : H1.size = H.size + 1) (oq : ∀ x : Nat, x < H.size → H1[x]? = H[x]?) : zw g (h ++ [e]) U H1 := by
  refine ⟨?_, by rw [z, hw.2.1, List.length_append]; simp; omega, hw.2.2⟩
  rw [zws_app]
  refine va_P.app (hw.1.kept (fun k x hx => oq x.1 ((hw.1 k x hx).lt))) (fun k x hx => ?_)
  have hz : k < 1 := (List.getElem?_eq_some_iff.mp hx).1
  rw [show k = 0 by omega] at hx
  cases hx
  rw [← hw.2.1]
  exact he
/-! ===== locals ===== -/
def zpr (ls : List (Option Value)) : List (Nat × Value) := (List.range ls.length).filterMap (fun i => (ls[i]?.join).map (fun v => (i, v)))
theorem zpr_mem {ls : List (Option Value)} {i : Nat} {v : Value} : (i, v) ∈ zpr ls ↔ ls[i]? = some (some v) := by
  unfold zpr
  rw [List.mem_filterMap]
  constructor
  · rintro ⟨j, hj, h⟩
    cases h1 : ls[j]? with
    | none => rw [h1] at h; cases h
    | some o =>
      rw [h1] at h
      cases o with
      | none => cases h
      | some w => cases h; exact h1
  · intro h
    exact ⟨i, List.mem_range.mpr (List.getElem?_eq_some_iff.mp h).1, by rw [h]; rfl⟩
def zl (la : Array Slot) (nL : Nat) (ls : List (Option Value)) : Prop := lv_has la nL (zpr ls) ∧ ls.length = nL
theorem zl_at {la : Array Slot} {nL : Nat} {ls : List (Option Value)} (h : zl la nL ls) {i : Nat} {v : Value} (hi : ls[i]? = some (some v)) : la[i]? = some (.val v) := h.1.2.2 (i, v) (zpr_mem.mpr hi)
def zk1 (ls : List (Option Value)) : Nat → Bool
  | 0 => true
  | i + 1 => match ls[i]? with
    | some (some v) => v.category == 1
    | _ => true
theorem zl_put1 {la : Array Slot} {nL : Nat} {ls : List (Option Value)} {i : Nat} {v : Value} (hk : zk1 ls i = true) (hn : ls.length = nL) (h : lv_has la nL ((i, v) :: (zpr ls).filter (fun q => !(q.1 == i) && !(q.1 + 1 == i && q.2.category == 2)))) : zl la nL (ls.set i (some v)) := by
  refine ⟨⟨h.1, h.2.1, fun q hq => ?_⟩, by rw [List.length_set]; exact hn⟩
  obtain ⟨j, w⟩ := q
  rw [zpr_mem] at hq
  by_cases hij : i = j
  · subst hij
    have hl : i < ls.length := by
      have := (List.getElem?_eq_some_iff.mp hq).1
      rwa [List.length_set] at this
    rw [List.getElem?_set_self hl] at hq
    cases hq
    exact h.2.2 _ List.mem_cons_self
  · rw [List.getElem?_set_ne hij] at hq
    refine h.2.2 _ (List.mem_cons_of_mem _ (List.mem_filter.mpr ⟨zpr_mem.mpr hq, ?_⟩))
    have h1 : (j == i) = false := by simp; omega
    simp only [h1, Bool.not_false, Bool.true_and]
    by_cases hj : j + 1 = i
    · subst hj
      simp only [zk1, hq] at hk
      have hc : w.category = 1 := by simpa using hk
      simp [hc]
    · simp [hj]
theorem zl_put2 {la : Array Slot} {nL : Nat} {ls : List (Option Value)} {i : Nat} {v : Value} (hk : zk1 ls i = true) (hn : ls.length = nL) (h : lv_has la nL ((i, v) :: (zpr ls).filter (fun q => !(q.1 == i) && (!(q.1 == i + 1) && !(q.1 + 1 == i && q.2.category == 2))))) : zl la nL ((ls.set i (some v)).set (i + 1) none) := by
  refine ⟨⟨h.1, h.2.1, fun q hq => ?_⟩, by rw [List.length_set, List.length_set]; exact hn⟩
  obtain ⟨j, w⟩ := q
  rw [zpr_mem] at hq
  have hj1 : ¬ i + 1 = j := by
    intro e
    subst e
    have hl : i + 1 < (ls.set i (some v)).length := by
      have := (List.getElem?_eq_some_iff.mp hq).1
      rwa [List.length_set] at this
    rw [List.getElem?_set_self hl] at hq
    cases hq
  rw [List.getElem?_set_ne hj1] at hq
  by_cases hij : i = j
  · subst hij
    have hl : i < ls.length := by
      have := (List.getElem?_eq_some_iff.mp hq).1
      rwa [List.length_set] at this
    rw [List.getElem?_set_self hl] at hq
    cases hq
    exact h.2.2 _ List.mem_cons_self
  · rw [List.getElem?_set_ne hij] at hq
    refine h.2.2 _ (List.mem_cons_of_mem _ (List.mem_filter.mpr ⟨zpr_mem.mpr hq, ?_⟩))
    have h1 : (j == i) = false := by simp; omega
    have h2 : (j == i + 1) = false := by simp; omega
    simp only [h1, h2, Bool.not_false, Bool.true_and]
    by_cases hj : j + 1 = i
    · subst hj
      simp only [zk1, hq] at hk
      have hc : w.category = 1 := by simpa using hk
      simp [hc]
    · simp [hj]
/-- the locals at a method's entry -/
def zen : List Value → List (Option Value)
  | [] => []
  | v :: t => if v.category = 2 then some v :: none :: zen t else some v :: zen t
theorem zen_mem : ∀ (vs : List Value) (b : Nat) (i : Nat) (v : Value), (zen vs)[i]? = some (some v) → (b + i, v) ∈ lv_args b vs
  | [], b, i, v, h => by simp [zen] at h
  | w :: t, b, i, v, h => by
    unfold lv_args
    by_cases hc : w.category = 2
    · simp only [zen, if_pos hc] at h
      rw [if_pos hc]
      match i, h with
      | 0, h => cases h; exact List.mem_cons_self
      | 1, h => cases h
      | i + 2, h =>
        have h1 := zen_mem t (b + 2) i v (by simpa using h)
        rw [show b + (i + 2) = b + 2 + i by omega]
        exact List.mem_cons_of_mem _ h1
    · simp only [zen, if_neg hc] at h
      rw [if_neg hc]
      match i, h with
      | 0, h => cases h; exact List.mem_cons_self
      | i + 1, h =>
        have h1 := zen_mem t (b + 1) i v (by simpa using h)
        rw [show b + (i + 1) = b + 1 + i by omega]
        exact List.mem_cons_of_mem _ h1
theorem zen_entry {vs : List Value} {nL : Nat} {la : Array Slot} (h : lv_has la nL (lv_args 0 vs)) {k : Nat} (hk : (zen vs ++ List.replicate k none).length = nL) : zl la nL (zen vs ++ List.replicate k none) := by
  refine ⟨⟨h.1, h.2.1, fun q hq => ?_⟩, hk⟩
  obtain ⟨i, v⟩ := q
  rw [zpr_mem] at hq
  by_cases hi : i < (zen vs).length
  · rw [List.getElem?_append_left hi] at hq
    have := zen_mem vs 0 i v hq
    rw [Nat.zero_add] at this
    exact h.2.2 _ this
  · rw [List.getElem?_append_right (by omega)] at hq
    have := List.eq_of_mem_replicate (List.mem_of_getElem? hq)
    cases this
