/-! ===== the judgement: from a frame over the world h the method comes to its end with Q ===== -/
/-- the tables' words that a callee may take over as they are, and those (links to a nest mate's fields) that it may take over by their own law -/
def zT : List Cond := lw_tbl.filter goodWord
def zisN : Cond → Bool
  | .fieldLinkNest .. => true
  | _ => false
def zN : List Cond := lw_tbl.filter zisN
def zNs (U : State) : Prop := (∀ w ∈ zN, va_Nw w U) ∧ va_AO "BoughtAhead$Book" U
theorem zisN_of {w : Cond} (h : w ∈ zN) : ∃ a i b n d hs, w = Cond.fieldLinkNest a i b n d hs := by
  have h1 := (List.mem_filter.mp h).2
  cases w <;> first | exact ⟨_, _, _, _, _, _, rfl⟩ | cases h1
theorem zNs_same {u U : State} (h : u.vm = U.vm) (hZ : zNs u) : zNs U := by
  refine ⟨fun w hw => ?_, va_AO.moved (by rw [h]; exact Vm.Alike.refl U.vm) hZ.2⟩
  obtain ⟨a, i, b, n, d, hs, rfl⟩ := zisN_of hw
  exact va_Nw.same rfl h (hZ.1 _ hw)
theorem zNs_warm {s U : State} (hW : s.WarmedH U.vm) (hZ : zNs s) : zNs U := by
  refine ⟨fun w hw => ?_, va_AO.moved hW.alike hZ.2⟩
  obtain ⟨a, i, b, n, d, hs, rfl⟩ := zisN_of hw
  exact va_Nw.warmF hW (hZ.1 _ hw)
def zC (own : String) (cc : ByteArray) (nL : Nat) (rt : Option FieldType) (nm : String) (p : Program) (s : State) (m : MethodId) (args : Array Value) (meth : Method) (c : Code) : Prop :=
  p.tables.exec = Jvm.exec ∧ c.code = cc ∧ c.maxLocals = nL ∧ s.vm.findClass own = some m.cls ∧ (∀ w ∈ zT, w.before args s = true) ∧ meth.sig.returnType = rt ∧ meth.locks = false ∧ meth.name = nm ∧ zNs s
def zQ (g : zG) (Q : Option Value → List va_E → Prop) : Array Value → State → Outcome → State → Prop := fun _ st oc t => (∃ (r : Option Value) (h : List va_E), oc = .returned r ∧ Q r h ∧ zw g h t t.heap) ∧ va_F (zF g) st t
def zJ (l : Launch) (g : zG) (own : String) (cc : ByteArray) (nL : Nat) (rt : Option FieldType) (nm : String) (R : Room) (mc ms : Nat) (Q : Option Value → List va_E → Prop) (k n pc : Nat) (ls : List (Option Value)) (st : List Value) (h : List va_E) : Prop :=
  ∀ (p : Program) (e : Env) (s : State) (m : MethodId) (args : Array Value) (below : List Frame) (meth : Method) (c : Code) (H : Heap) (locs : List Loc) (la : Array Slot), zC own cc nL rt nm p s m args meth c → zw g h s H → va_S (zF g) s.heap H locs → zl la nL ls →
    W p l e R s m args below meth c H locs k n (MQ below (zQ g Q) args s mc ms (zF g)) (F0 m pc la st)
abbrev zRm (d mc ms : Nat) : Room := { frames := d, cells := mc, slots := ms, locals := 38 * d }
/-- a contract: from the world h, with these arguments, the method returns, and Q holds of answer and world -/
def zM (l : Launch) (g : zG) (y : MethodName) (cc : ByteArray) (nL : Nat) (rt : Option FieldType) (d mc ms : Nat) (As : List Value) (h : List va_E) (Q : Option Value → List va_E → Prop) : Prop :=
  Met l y (Cond.code y cc nL rt :: zT) (zRm d mc ms) (va_Pc As (fun U => zw g h U U.heap ∧ zNs U)) (zQ g Q) mc ms (zF g)
theorem zen_len : ∀ vs : List Value, (lg_sl vs).length = (zen vs).length
  | [] => rfl
  | v :: t => by
    have ih := zen_len t
    unfold lg_sl at ih ⊢
    by_cases hc : v.category = 2
    · simp only [zen, if_pos hc, List.flatMap_cons, List.length_append, List.length_cons, List.length_nil, ih]; omega
    · simp only [zen, if_neg hc, List.flatMap_cons, List.length_append, List.length_cons, List.length_nil, ih]; omega
theorem zw_moved {g : zG} {h : List va_E} {s t : State} {H : Heap} (hw : zw g h s H) (hvm : s.vm.Alike t.vm) (ht : t.heap = H) : zw g h t t.heap := by
  rw [ht]
  exact ⟨hw.1, hw.2.1, va_K.moved hvm hw.2.2⟩
theorem zM_of {l : Launch} {g : zG} {y : MethodName} {cc : ByteArray} {nL : Nat} {rt : Option FieldType} {d mc ms : Nat} {As : List Value} {h : List va_E} {Q : Option Value → List va_E → Prop} (j : Nat) (hy : plainName y.cls = true) (hj : (zen As).length + j = nL) (hJ : zJ l g y.cls cc nL rt y.name (zRm d mc ms) mc ms Q 0 0 0 (zen As ++ List.replicate j none) [] h) : zM l g y cc nL rt d mc ms As h Q := by
  refine Met.ofW (cc := cc) (maxL := nL) (ret := rt) hy rfl ?_
  intro p e s m args below meth c s₁ B hml hv
  obtain ⟨rfl, hw, hZ⟩ := hv
  have hts := atoms_spec (ws := Cond.code y cc nL rt :: zT) B.pre
  have hC : zC y.cls cc nL rt y.name p s m As.toArray meth c := ⟨B.exec, B.bytes, hml, findClass_of_methodNamed B.named, fun w h => hts w (List.mem_cons_of_mem _ h), B.returns, B.notSynchronized, (name_of_methodNamed B.named B.method).1, hZ⟩
  rw [lg_entry_eq]
  exact hJ p e s m As.toArray below meth c s.heap [] _ hC hw va_S.rf (zen_entry (lv_entry As (by rw [zen_len]; omega)) (by rw [List.length_append, List.length_replicate]; exact hj))
section ZROWS
variable {l : Launch} {g : zG} {own : String} {cc : ByteArray} {nL : Nat} {rt : Option FieldType} {nm : String} {R : Room} {mc ms : Nat} {Q : Option Value → List va_E → Prop} {k n pc : Nat} {ls : List (Option Value)} {st : List Value} {h : List va_E}

theorem z_iconst {z : Int} (hd : decode cc pc = .ok (.iconst z, 1)) (kk : zJ l g own cc nL rt nm R mc ms Q k n (pc + 1) ls (.int (iz z) :: st) h) : zJ l g own cc nL rt nm R mc ms Q k n pc ls st h := by
  intro p e s m args below meth c H locs la hC hw hS hl
  exact lv_iconst hC.1 hC.2.1 hd rfl (kk p e s m args below meth c H locs la hC hw hS hl)
theorem z_bipush {z : Int} (hz : (Int8.ofInt z).toInt32 = iz z) (hd : decode cc pc = .ok (.bipush z, 2)) (kk : zJ l g own cc nL rt nm R mc ms Q k n (pc + 2) ls (.int (iz z) :: st) h) : zJ l g own cc nL rt nm R mc ms Q k n pc ls st h := by
  intro p e s m args below meth c H locs la hC hw hS hl
  exact lv_bipush hC.1 hC.2.1 hd hz (kk p e s m args below meth c H locs la hC hw hS hl)
theorem z_sipush {z : Int} (hz : (Int16.ofInt z).toInt32 = iz z) (hd : decode cc pc = .ok (.sipush z, 3)) (kk : zJ l g own cc nL rt nm R mc ms Q k n (pc + 3) ls (.int (iz z) :: st) h) : zJ l g own cc nL rt nm R mc ms Q k n pc ls st h := by
  intro p e s m args below meth c H locs la hC hw hS hl
  exact lv_sipush hC.1 hC.2.1 hd hz (kk p e s m args below meth c H locs la hC hw hS hl)
theorem z_lconst {z : Fin 2} {v : Int} (hz : Int64.ofNat (z : Nat) = lz v) (hd : decode cc pc = .ok (.lconst z, 1)) (kk : zJ l g own cc nL rt nm R mc ms Q k n (pc + 1) ls (.long (lz v) :: st) h) : zJ l g own cc nL rt nm R mc ms Q k n pc ls st h := by
  intro p e s m args below meth c H locs la hC hw hS hl
  exact lv_lconst hC.1 hC.2.1 hd hz (kk p e s m args below meth c H locs la hC hw hS hl)
theorem z_ldc {i : Nat} {z : Int} (hm : Cond.constant own i (iz z) ∈ zT) (hd : decode cc pc = .ok (.ldc i, 2)) (kk : zJ l g own cc nL rt nm R mc ms Q k n (pc + 2) ls (.int (iz z) :: st) h) : zJ l g own cc nL rt nm R mc ms Q k n pc ls st h := by
  intro p e s m args below meth c H locs la hC hw hS hl
  exact lv_ldc hC.1 hC.2.1 hC.2.2.2.1 (hC.2.2.2.2.1 _ hm) hd (kk p e s m args below meth c H locs la hC hw hS hl)
theorem z_ldc2 {i : Nat} {z : Int} (hm : Cond.constantLong own i (lz z) ∈ zT) (hd : decode cc pc = .ok (.ldc2_w i, 3)) (kk : zJ l g own cc nL rt nm R mc ms Q k n (pc + 3) ls (.long (lz z) :: st) h) : zJ l g own cc nL rt nm R mc ms Q k n pc ls st h := by
  intro p e s m args below meth c H locs la hC hw hS hl
  exact lv_ldc2 hC.1 hC.2.1 hC.2.2.2.1 (hC.2.2.2.2.1 _ hm) hd (kk p e s m args below meth c H locs la hC hw hS hl)
theorem z_iload_n {j : Fin 4} {x : Int32} (hv : ls[(j : Nat)]? = some (some (.int x))) (hd : decode cc pc = .ok (.iload_n j, 1)) (kk : zJ l g own cc nL rt nm R mc ms Q k n (pc + 1) ls (.int x :: st) h) : zJ l g own cc nL rt nm R mc ms Q k n pc ls st h := by
  intro p e s m args below meth c H locs la hC hw hS hl
  exact lv_iload_n hC.1 hC.2.1 hd rfl (zl_at hl hv) (kk p e s m args below meth c H locs la hC hw hS hl)
theorem z_iload {j : Nat} {x : Int32} (hv : ls[j]? = some (some (.int x))) (hd : decode cc pc = .ok (.iload j, 2)) (kk : zJ l g own cc nL rt nm R mc ms Q k n (pc + 2) ls (.int x :: st) h) : zJ l g own cc nL rt nm R mc ms Q k n pc ls st h := by
  intro p e s m args below meth c H locs la hC hw hS hl
  exact lv_iload hC.1 hC.2.1 hd (zl_at hl hv) (kk p e s m args below meth c H locs la hC hw hS hl)
theorem z_aload_n {j : Fin 4} {x : Nat} (hv : ls[(j : Nat)]? = some (some (.ref x))) (hd : decode cc pc = .ok (.aload_n j, 1)) (kk : zJ l g own cc nL rt nm R mc ms Q k n (pc + 1) ls (.ref x :: st) h) : zJ l g own cc nL rt nm R mc ms Q k n pc ls st h := by
  intro p e s m args below meth c H locs la hC hw hS hl
  exact lv_aload_n hC.1 hC.2.1 hd rfl (zl_at hl hv) (kk p e s m args below meth c H locs la hC hw hS hl)
theorem z_aload {j : Nat} {x : Nat} (hv : ls[j]? = some (some (.ref x))) (hd : decode cc pc = .ok (.aload j, 2)) (kk : zJ l g own cc nL rt nm R mc ms Q k n (pc + 2) ls (.ref x :: st) h) : zJ l g own cc nL rt nm R mc ms Q k n pc ls st h := by
  intro p e s m args below meth c H locs la hC hw hS hl
  exact lv_aload hC.1 hC.2.1 hd (zl_at hl hv) (kk p e s m args below meth c H locs la hC hw hS hl)
theorem z_lload_n {j : Fin 4} {x : Int64} (hv : ls[(j : Nat)]? = some (some (.long x))) (hd : decode cc pc = .ok (.lload_n j, 1)) (kk : zJ l g own cc nL rt nm R mc ms Q k n (pc + 1) ls (.long x :: st) h) : zJ l g own cc nL rt nm R mc ms Q k n pc ls st h := by
  intro p e s m args below meth c H locs la hC hw hS hl
  exact lv_lload_n hC.1 hC.2.1 hd rfl (zl_at hl hv) (kk p e s m args below meth c H locs la hC hw hS hl)
theorem z_lload {j : Nat} {x : Int64} (hv : ls[j]? = some (some (.long x))) (hd : decode cc pc = .ok (.lload j, 2)) (kk : zJ l g own cc nL rt nm R mc ms Q k n (pc + 2) ls (.long x :: st) h) : zJ l g own cc nL rt nm R mc ms Q k n pc ls st h := by
  intro p e s m args below meth c H locs la hC hw hS hl
  exact lv_lload hC.1 hC.2.1 hd (zl_at hl hv) (kk p e s m args below meth c H locs la hC hw hS hl)
theorem z_istore_n {j : Fin 4} {x : Int32} (hj : (j : Nat) < nL) (h1 : zk1 ls (j : Nat) = true) (hd : decode cc pc = .ok (.istore_n j, 1)) (kk : zJ l g own cc nL rt nm R mc ms Q k n (pc + 1) (ls.set (j : Nat) (some (.int x))) st h) : zJ l g own cc nL rt nm R mc ms Q k n pc ls (.int x :: st) h := by
  intro p e s m args below meth c H locs la hC hw hS hl
  exact lv_istore_n hC.1 hC.2.1 hd rfl hl.1 hj rfl (fun la2 hl2 => kk p e s m args below meth c H locs la2 hC hw hS (zl_put1 h1 hl.2 hl2))
theorem z_istore {j : Nat} {x : Int32} (hj : j < nL) (h1 : zk1 ls j = true) (hd : decode cc pc = .ok (.istore j, 2)) (kk : zJ l g own cc nL rt nm R mc ms Q k n (pc + 2) (ls.set j (some (.int x))) st h) : zJ l g own cc nL rt nm R mc ms Q k n pc ls (.int x :: st) h := by
  intro p e s m args below meth c H locs la hC hw hS hl
  exact lv_istore hC.1 hC.2.1 hd hl.1 hj rfl (fun la2 hl2 => kk p e s m args below meth c H locs la2 hC hw hS (zl_put1 h1 hl.2 hl2))
theorem z_astore_n {j : Fin 4} {x : Nat} (hj : (j : Nat) < nL) (h1 : zk1 ls (j : Nat) = true) (hd : decode cc pc = .ok (.astore_n j, 1)) (kk : zJ l g own cc nL rt nm R mc ms Q k n (pc + 1) (ls.set (j : Nat) (some (.ref x))) st h) : zJ l g own cc nL rt nm R mc ms Q k n pc ls (.ref x :: st) h := by
  intro p e s m args below meth c H locs la hC hw hS hl
  exact lv_astore_n hC.1 hC.2.1 hd rfl hl.1 hj rfl (fun la2 hl2 => kk p e s m args below meth c H locs la2 hC hw hS (zl_put1 h1 hl.2 hl2))
theorem z_astore {j : Nat} {x : Nat} (hj : j < nL) (h1 : zk1 ls j = true) (hd : decode cc pc = .ok (.astore j, 2)) (kk : zJ l g own cc nL rt nm R mc ms Q k n (pc + 2) (ls.set j (some (.ref x))) st h) : zJ l g own cc nL rt nm R mc ms Q k n pc ls (.ref x :: st) h := by
  intro p e s m args below meth c H locs la hC hw hS hl
  exact lv_astore hC.1 hC.2.1 hd hl.1 hj rfl (fun la2 hl2 => kk p e s m args below meth c H locs la2 hC hw hS (zl_put1 h1 hl.2 hl2))
theorem z_lstore_n {j : Fin 4} {x : Int64} (hj : (j : Nat) + 1 < nL) (h1 : zk1 ls (j : Nat) = true) (hd : decode cc pc = .ok (.lstore_n j, 1)) (kk : zJ l g own cc nL rt nm R mc ms Q k n (pc + 1) ((ls.set (j : Nat) (some (.long x))).set ((j : Nat) + 1) none) st h) : zJ l g own cc nL rt nm R mc ms Q k n pc ls (.long x :: st) h := by
  intro p e s m args below meth c H locs la hC hw hS hl
  exact lv_lstore_n hC.1 hC.2.1 hd rfl hl.1 hj rfl (fun la2 hl2 => kk p e s m args below meth c H locs la2 hC hw hS (zl_put2 h1 hl.2 hl2))
theorem z_lstore {j : Nat} {x : Int64} (hj : j + 1 < nL) (h1 : zk1 ls j = true) (hd : decode cc pc = .ok (.lstore j, 2)) (kk : zJ l g own cc nL rt nm R mc ms Q k n (pc + 2) ((ls.set j (some (.long x))).set (j + 1) none) st h) : zJ l g own cc nL rt nm R mc ms Q k n pc ls (.long x :: st) h := by
  intro p e s m args below meth c H locs la hC hw hS hl
  exact lv_lstore hC.1 hC.2.1 hd hl.1 hj rfl (fun la2 hl2 => kk p e s m args below meth c H locs la2 hC hw hS (zl_put2 h1 hl.2 hl2))
theorem z_iinc {j : Nat} {d x : Int} (hv : ls[j]? = some (some (.int (iz x)))) (hj : j < nL) (h1 : zk1 ls j = true) (hd : decode cc pc = .ok (.iinc j d, 3)) (kk : zJ l g own cc nL rt nm R mc ms Q k n (pc + 3) (ls.set j (some (.int (iz (x + d))))) st h) : zJ l g own cc nL rt nm R mc ms Q k n pc ls st h := by
  intro p e s m args below meth c H locs la hC hw hS hl
  obtain ⟨i, hi⟩ := List.getElem?_of_mem (zpr_mem.mpr hv)
  exact lv_iinc hC.1 hC.2.1 hd hl.1 hi (iz_add x d) hj rfl (fun la2 hl2 => kk p e s m args below meth c H locs la2 hC hw hS (zl_put1 h1 hl.2 hl2))
theorem z_is0 {a0 : Option Value} {t : List (Option Value)} {x : Int32} (hj : 0 < nL) (hd : decode cc pc = .ok (.istore_n 0, 1)) (kk : zJ l g own cc nL rt nm R mc ms Q k n (pc + 1) (some (.int x) :: t) st h) : zJ l g own cc nL rt nm R mc ms Q k n pc (a0 :: t) (.int x :: st) h := z_istore_n (j := 0) hj rfl hd kk
theorem z_as0 {a0 : Option Value} {t : List (Option Value)} {x : Nat} (hj : 0 < nL) (hd : decode cc pc = .ok (.astore_n 0, 1)) (kk : zJ l g own cc nL rt nm R mc ms Q k n (pc + 1) (some (.ref x) :: t) st h) : zJ l g own cc nL rt nm R mc ms Q k n pc (a0 :: t) (.ref x :: st) h := z_astore_n (j := 0) hj rfl hd kk
theorem z_ii0  {t : List (Option Value)} {d x : Int} (hj : 0 < nL) (hd : decode cc pc = .ok (.iinc 0 d, 3)) (kk : zJ l g own cc nL rt nm R mc ms Q k n (pc + 3) (some (.int (iz (x + d))) :: t) st h) : zJ l g own cc nL rt nm R mc ms Q k n pc (some (.int (iz x)) :: t) st h := z_iinc rfl hj rfl hd kk
theorem z_ls0 {a0 a1 : Option Value} {t : List (Option Value)} {x : Int64} (hj : 0 + 1 < nL) (hd : decode cc pc = .ok (.lstore_n 0, 1)) (kk : zJ l g own cc nL rt nm R mc ms Q k n (pc + 1) (some (.long x) :: none :: t) st h) : zJ l g own cc nL rt nm R mc ms Q k n pc (a0 :: a1 :: t) (.long x :: st) h := z_lstore_n (j := 0) hj rfl hd kk
theorem z_is1 {a0 a1 : Option Value} {t : List (Option Value)} {x : Int32} (hj : 1 < nL) (h1 : zk1 (a0 :: a1 :: t) 1 = true) (hd : decode cc pc = .ok (.istore_n 1, 1)) (kk : zJ l g own cc nL rt nm R mc ms Q k n (pc + 1) (a0 :: some (.int x) :: t) st h) : zJ l g own cc nL rt nm R mc ms Q k n pc (a0 :: a1 :: t) (.int x :: st) h := z_istore_n (j := 1) hj h1 hd kk
theorem z_as1 {a0 a1 : Option Value} {t : List (Option Value)} {x : Nat} (hj : 1 < nL) (h1 : zk1 (a0 :: a1 :: t) 1 = true) (hd : decode cc pc = .ok (.astore_n 1, 1)) (kk : zJ l g own cc nL rt nm R mc ms Q k n (pc + 1) (a0 :: some (.ref x) :: t) st h) : zJ l g own cc nL rt nm R mc ms Q k n pc (a0 :: a1 :: t) (.ref x :: st) h := z_astore_n (j := 1) hj h1 hd kk
theorem z_ii1 {a0 : Option Value} {t : List (Option Value)} {d x : Int} (hj : 1 < nL) (h1 : zk1 (a0 :: some (.int (iz x)) :: t) 1 = true) (hd : decode cc pc = .ok (.iinc 1 d, 3)) (kk : zJ l g own cc nL rt nm R mc ms Q k n (pc + 3) (a0 :: some (.int (iz (x + d))) :: t) st h) : zJ l g own cc nL rt nm R mc ms Q k n pc (a0 :: some (.int (iz x)) :: t) st h := z_iinc rfl hj h1 hd kk
theorem z_ls1 {a0 a1 a2 : Option Value} {t : List (Option Value)} {x : Int64} (hj : 1 + 1 < nL) (h1 : zk1 (a0 :: a1 :: a2 :: t) 1 = true) (hd : decode cc pc = .ok (.lstore_n 1, 1)) (kk : zJ l g own cc nL rt nm R mc ms Q k n (pc + 1) (a0 :: some (.long x) :: none :: t) st h) : zJ l g own cc nL rt nm R mc ms Q k n pc (a0 :: a1 :: a2 :: t) (.long x :: st) h := z_lstore_n (j := 1) hj h1 hd kk
theorem z_is2 {a0 a1 a2 : Option Value} {t : List (Option Value)} {x : Int32} (hj : 2 < nL) (h1 : zk1 (a0 :: a1 :: a2 :: t) 2 = true) (hd : decode cc pc = .ok (.istore_n 2, 1)) (kk : zJ l g own cc nL rt nm R mc ms Q k n (pc + 1) (a0 :: a1 :: some (.int x) :: t) st h) : zJ l g own cc nL rt nm R mc ms Q k n pc (a0 :: a1 :: a2 :: t) (.int x :: st) h := z_istore_n (j := 2) hj h1 hd kk
theorem z_as2 {a0 a1 a2 : Option Value} {t : List (Option Value)} {x : Nat} (hj : 2 < nL) (h1 : zk1 (a0 :: a1 :: a2 :: t) 2 = true) (hd : decode cc pc = .ok (.astore_n 2, 1)) (kk : zJ l g own cc nL rt nm R mc ms Q k n (pc + 1) (a0 :: a1 :: some (.ref x) :: t) st h) : zJ l g own cc nL rt nm R mc ms Q k n pc (a0 :: a1 :: a2 :: t) (.ref x :: st) h := z_astore_n (j := 2) hj h1 hd kk
theorem z_ii2 {a0 a1 : Option Value} {t : List (Option Value)} {d x : Int} (hj : 2 < nL) (h1 : zk1 (a0 :: a1 :: some (.int (iz x)) :: t) 2 = true) (hd : decode cc pc = .ok (.iinc 2 d, 3)) (kk : zJ l g own cc nL rt nm R mc ms Q k n (pc + 3) (a0 :: a1 :: some (.int (iz (x + d))) :: t) st h) : zJ l g own cc nL rt nm R mc ms Q k n pc (a0 :: a1 :: some (.int (iz x)) :: t) st h := z_iinc rfl hj h1 hd kk
theorem z_ls2 {a0 a1 a2 a3 : Option Value} {t : List (Option Value)} {x : Int64} (hj : 2 + 1 < nL) (h1 : zk1 (a0 :: a1 :: a2 :: a3 :: t) 2 = true) (hd : decode cc pc = .ok (.lstore_n 2, 1)) (kk : zJ l g own cc nL rt nm R mc ms Q k n (pc + 1) (a0 :: a1 :: some (.long x) :: none :: t) st h) : zJ l g own cc nL rt nm R mc ms Q k n pc (a0 :: a1 :: a2 :: a3 :: t) (.long x :: st) h := z_lstore_n (j := 2) hj h1 hd kk
theorem z_is3 {a0 a1 a2 a3 : Option Value} {t : List (Option Value)} {x : Int32} (hj : 3 < nL) (h1 : zk1 (a0 :: a1 :: a2 :: a3 :: t) 3 = true) (hd : decode cc pc = .ok (.istore_n 3, 1)) (kk : zJ l g own cc nL rt nm R mc ms Q k n (pc + 1) (a0 :: a1 :: a2 :: some (.int x) :: t) st h) : zJ l g own cc nL rt nm R mc ms Q k n pc (a0 :: a1 :: a2 :: a3 :: t) (.int x :: st) h := z_istore_n (j := 3) hj h1 hd kk
theorem z_as3 {a0 a1 a2 a3 : Option Value} {t : List (Option Value)} {x : Nat} (hj : 3 < nL) (h1 : zk1 (a0 :: a1 :: a2 :: a3 :: t) 3 = true) (hd : decode cc pc = .ok (.astore_n 3, 1)) (kk : zJ l g own cc nL rt nm R mc ms Q k n (pc + 1) (a0 :: a1 :: a2 :: some (.ref x) :: t) st h) : zJ l g own cc nL rt nm R mc ms Q k n pc (a0 :: a1 :: a2 :: a3 :: t) (.ref x :: st) h := z_astore_n (j := 3) hj h1 hd kk
theorem z_ii3 {a0 a1 a2 : Option Value} {t : List (Option Value)} {d x : Int} (hj : 3 < nL) (h1 : zk1 (a0 :: a1 :: a2 :: some (.int (iz x)) :: t) 3 = true) (hd : decode cc pc = .ok (.iinc 3 d, 3)) (kk : zJ l g own cc nL rt nm R mc ms Q k n (pc + 3) (a0 :: a1 :: a2 :: some (.int (iz (x + d))) :: t) st h) : zJ l g own cc nL rt nm R mc ms Q k n pc (a0 :: a1 :: a2 :: some (.int (iz x)) :: t) st h := z_iinc rfl hj h1 hd kk
theorem z_ls3 {a0 a1 a2 a3 a4 : Option Value} {t : List (Option Value)} {x : Int64} (hj : 3 + 1 < nL) (h1 : zk1 (a0 :: a1 :: a2 :: a3 :: a4 :: t) 3 = true) (hd : decode cc pc = .ok (.lstore_n 3, 1)) (kk : zJ l g own cc nL rt nm R mc ms Q k n (pc + 1) (a0 :: a1 :: a2 :: some (.long x) :: none :: t) st h) : zJ l g own cc nL rt nm R mc ms Q k n pc (a0 :: a1 :: a2 :: a3 :: a4 :: t) (.long x :: st) h := z_lstore_n (j := 3) hj h1 hd kk
theorem z_is4 {a0 a1 a2 a3 a4 : Option Value} {t : List (Option Value)} {x : Int32} (hj : 4 < nL) (h1 : zk1 (a0 :: a1 :: a2 :: a3 :: a4 :: t) 4 = true) (hd : decode cc pc = .ok (.istore 4, 2)) (kk : zJ l g own cc nL rt nm R mc ms Q k n (pc + 2) (a0 :: a1 :: a2 :: a3 :: some (.int x) :: t) st h) : zJ l g own cc nL rt nm R mc ms Q k n pc (a0 :: a1 :: a2 :: a3 :: a4 :: t) (.int x :: st) h := z_istore hj h1 hd kk
theorem z_ii4 {a0 a1 a2 a3 : Option Value} {t : List (Option Value)} {d x : Int} (hj : 4 < nL) (h1 : zk1 (a0 :: a1 :: a2 :: a3 :: some (.int (iz x)) :: t) 4 = true) (hd : decode cc pc = .ok (.iinc 4 d, 3)) (kk : zJ l g own cc nL rt nm R mc ms Q k n (pc + 3) (a0 :: a1 :: a2 :: a3 :: some (.int (iz (x + d))) :: t) st h) : zJ l g own cc nL rt nm R mc ms Q k n pc (a0 :: a1 :: a2 :: a3 :: some (.int (iz x)) :: t) st h := z_iinc rfl hj h1 hd kk
theorem z_ls4 {a0 a1 a2 a3 a4 a5 : Option Value} {t : List (Option Value)} {x : Int64} (hj : 4 + 1 < nL) (h1 : zk1 (a0 :: a1 :: a2 :: a3 :: a4 :: a5 :: t) 4 = true) (hd : decode cc pc = .ok (.lstore 4, 2)) (kk : zJ l g own cc nL rt nm R mc ms Q k n (pc + 2) (a0 :: a1 :: a2 :: a3 :: some (.long x) :: none :: t) st h) : zJ l g own cc nL rt nm R mc ms Q k n pc (a0 :: a1 :: a2 :: a3 :: a4 :: a5 :: t) (.long x :: st) h := z_lstore hj h1 hd kk
theorem z_is5 {a0 a1 a2 a3 a4 a5 : Option Value} {t : List (Option Value)} {x : Int32} (hj : 5 < nL) (h1 : zk1 (a0 :: a1 :: a2 :: a3 :: a4 :: a5 :: t) 5 = true) (hd : decode cc pc = .ok (.istore 5, 2)) (kk : zJ l g own cc nL rt nm R mc ms Q k n (pc + 2) (a0 :: a1 :: a2 :: a3 :: a4 :: some (.int x) :: t) st h) : zJ l g own cc nL rt nm R mc ms Q k n pc (a0 :: a1 :: a2 :: a3 :: a4 :: a5 :: t) (.int x :: st) h := z_istore hj h1 hd kk
theorem z_ii5 {a0 a1 a2 a3 a4 : Option Value} {t : List (Option Value)} {d x : Int} (hj : 5 < nL) (h1 : zk1 (a0 :: a1 :: a2 :: a3 :: a4 :: some (.int (iz x)) :: t) 5 = true) (hd : decode cc pc = .ok (.iinc 5 d, 3)) (kk : zJ l g own cc nL rt nm R mc ms Q k n (pc + 3) (a0 :: a1 :: a2 :: a3 :: a4 :: some (.int (iz (x + d))) :: t) st h) : zJ l g own cc nL rt nm R mc ms Q k n pc (a0 :: a1 :: a2 :: a3 :: a4 :: some (.int (iz x)) :: t) st h := z_iinc rfl hj h1 hd kk
theorem z_ls5 {a0 a1 a2 a3 a4 a5 a6 : Option Value} {t : List (Option Value)} {x : Int64} (hj : 5 + 1 < nL) (h1 : zk1 (a0 :: a1 :: a2 :: a3 :: a4 :: a5 :: a6 :: t) 5 = true) (hd : decode cc pc = .ok (.lstore 5, 2)) (kk : zJ l g own cc nL rt nm R mc ms Q k n (pc + 2) (a0 :: a1 :: a2 :: a3 :: a4 :: some (.long x) :: none :: t) st h) : zJ l g own cc nL rt nm R mc ms Q k n pc (a0 :: a1 :: a2 :: a3 :: a4 :: a5 :: a6 :: t) (.long x :: st) h := z_lstore hj h1 hd kk
theorem z_is6 {a0 a1 a2 a3 a4 a5 a6 : Option Value} {t : List (Option Value)} {x : Int32} (hj : 6 < nL) (h1 : zk1 (a0 :: a1 :: a2 :: a3 :: a4 :: a5 :: a6 :: t) 6 = true) (hd : decode cc pc = .ok (.istore 6, 2)) (kk : zJ l g own cc nL rt nm R mc ms Q k n (pc + 2) (a0 :: a1 :: a2 :: a3 :: a4 :: a5 :: some (.int x) :: t) st h) : zJ l g own cc nL rt nm R mc ms Q k n pc (a0 :: a1 :: a2 :: a3 :: a4 :: a5 :: a6 :: t) (.int x :: st) h := z_istore hj h1 hd kk
theorem z_ii6 {a0 a1 a2 a3 a4 a5 : Option Value} {t : List (Option Value)} {d x : Int} (hj : 6 < nL) (h1 : zk1 (a0 :: a1 :: a2 :: a3 :: a4 :: a5 :: some (.int (iz x)) :: t) 6 = true) (hd : decode cc pc = .ok (.iinc 6 d, 3)) (kk : zJ l g own cc nL rt nm R mc ms Q k n (pc + 3) (a0 :: a1 :: a2 :: a3 :: a4 :: a5 :: some (.int (iz (x + d))) :: t) st h) : zJ l g own cc nL rt nm R mc ms Q k n pc (a0 :: a1 :: a2 :: a3 :: a4 :: a5 :: some (.int (iz x)) :: t) st h := z_iinc rfl hj h1 hd kk
theorem z_ls6 {a0 a1 a2 a3 a4 a5 a6 a7 : Option Value} {t : List (Option Value)} {x : Int64} (hj : 6 + 1 < nL) (h1 : zk1 (a0 :: a1 :: a2 :: a3 :: a4 :: a5 :: a6 :: a7 :: t) 6 = true) (hd : decode cc pc = .ok (.lstore 6, 2)) (kk : zJ l g own cc nL rt nm R mc ms Q k n (pc + 2) (a0 :: a1 :: a2 :: a3 :: a4 :: a5 :: some (.long x) :: none :: t) st h) : zJ l g own cc nL rt nm R mc ms Q k n pc (a0 :: a1 :: a2 :: a3 :: a4 :: a5 :: a6 :: a7 :: t) (.long x :: st) h := z_lstore hj h1 hd kk
theorem z_is7 {a0 a1 a2 a3 a4 a5 a6 a7 : Option Value} {t : List (Option Value)} {x : Int32} (hj : 7 < nL) (h1 : zk1 (a0 :: a1 :: a2 :: a3 :: a4 :: a5 :: a6 :: a7 :: t) 7 = true) (hd : decode cc pc = .ok (.istore 7, 2)) (kk : zJ l g own cc nL rt nm R mc ms Q k n (pc + 2) (a0 :: a1 :: a2 :: a3 :: a4 :: a5 :: a6 :: some (.int x) :: t) st h) : zJ l g own cc nL rt nm R mc ms Q k n pc (a0 :: a1 :: a2 :: a3 :: a4 :: a5 :: a6 :: a7 :: t) (.int x :: st) h := z_istore hj h1 hd kk
theorem z_ii7 {a0 a1 a2 a3 a4 a5 a6 : Option Value} {t : List (Option Value)} {d x : Int} (hj : 7 < nL) (h1 : zk1 (a0 :: a1 :: a2 :: a3 :: a4 :: a5 :: a6 :: some (.int (iz x)) :: t) 7 = true) (hd : decode cc pc = .ok (.iinc 7 d, 3)) (kk : zJ l g own cc nL rt nm R mc ms Q k n (pc + 3) (a0 :: a1 :: a2 :: a3 :: a4 :: a5 :: a6 :: some (.int (iz (x + d))) :: t) st h) : zJ l g own cc nL rt nm R mc ms Q k n pc (a0 :: a1 :: a2 :: a3 :: a4 :: a5 :: a6 :: some (.int (iz x)) :: t) st h := z_iinc rfl hj h1 hd kk
theorem z_ls7 {a0 a1 a2 a3 a4 a5 a6 a7 a8 : Option Value} {t : List (Option Value)} {x : Int64} (hj : 7 + 1 < nL) (h1 : zk1 (a0 :: a1 :: a2 :: a3 :: a4 :: a5 :: a6 :: a7 :: a8 :: t) 7 = true) (hd : decode cc pc = .ok (.lstore 7, 2)) (kk : zJ l g own cc nL rt nm R mc ms Q k n (pc + 2) (a0 :: a1 :: a2 :: a3 :: a4 :: a5 :: a6 :: some (.long x) :: none :: t) st h) : zJ l g own cc nL rt nm R mc ms Q k n pc (a0 :: a1 :: a2 :: a3 :: a4 :: a5 :: a6 :: a7 :: a8 :: t) (.long x :: st) h := z_lstore hj h1 hd kk
theorem z_is8 {a0 a1 a2 a3 a4 a5 a6 a7 a8 : Option Value} {t : List (Option Value)} {x : Int32} (hj : 8 < nL) (h1 : zk1 (a0 :: a1 :: a2 :: a3 :: a4 :: a5 :: a6 :: a7 :: a8 :: t) 8 = true) (hd : decode cc pc = .ok (.istore 8, 2)) (kk : zJ l g own cc nL rt nm R mc ms Q k n (pc + 2) (a0 :: a1 :: a2 :: a3 :: a4 :: a5 :: a6 :: a7 :: some (.int x) :: t) st h) : zJ l g own cc nL rt nm R mc ms Q k n pc (a0 :: a1 :: a2 :: a3 :: a4 :: a5 :: a6 :: a7 :: a8 :: t) (.int x :: st) h := z_istore hj h1 hd kk
theorem z_ii8 {a0 a1 a2 a3 a4 a5 a6 a7 : Option Value} {t : List (Option Value)} {d x : Int} (hj : 8 < nL) (h1 : zk1 (a0 :: a1 :: a2 :: a3 :: a4 :: a5 :: a6 :: a7 :: some (.int (iz x)) :: t) 8 = true) (hd : decode cc pc = .ok (.iinc 8 d, 3)) (kk : zJ l g own cc nL rt nm R mc ms Q k n (pc + 3) (a0 :: a1 :: a2 :: a3 :: a4 :: a5 :: a6 :: a7 :: some (.int (iz (x + d))) :: t) st h) : zJ l g own cc nL rt nm R mc ms Q k n pc (a0 :: a1 :: a2 :: a3 :: a4 :: a5 :: a6 :: a7 :: some (.int (iz x)) :: t) st h := z_iinc rfl hj h1 hd kk
theorem z_ls8 {a0 a1 a2 a3 a4 a5 a6 a7 a8 a9 : Option Value} {t : List (Option Value)} {x : Int64} (hj : 8 + 1 < nL) (h1 : zk1 (a0 :: a1 :: a2 :: a3 :: a4 :: a5 :: a6 :: a7 :: a8 :: a9 :: t) 8 = true) (hd : decode cc pc = .ok (.lstore 8, 2)) (kk : zJ l g own cc nL rt nm R mc ms Q k n (pc + 2) (a0 :: a1 :: a2 :: a3 :: a4 :: a5 :: a6 :: a7 :: some (.long x) :: none :: t) st h) : zJ l g own cc nL rt nm R mc ms Q k n pc (a0 :: a1 :: a2 :: a3 :: a4 :: a5 :: a6 :: a7 :: a8 :: a9 :: t) (.long x :: st) h := z_lstore hj h1 hd kk
theorem z_is9 {a0 a1 a2 a3 a4 a5 a6 a7 a8 a9 : Option Value} {t : List (Option Value)} {x : Int32} (hj : 9 < nL) (h1 : zk1 (a0 :: a1 :: a2 :: a3 :: a4 :: a5 :: a6 :: a7 :: a8 :: a9 :: t) 9 = true) (hd : decode cc pc = .ok (.istore 9, 2)) (kk : zJ l g own cc nL rt nm R mc ms Q k n (pc + 2) (a0 :: a1 :: a2 :: a3 :: a4 :: a5 :: a6 :: a7 :: a8 :: some (.int x) :: t) st h) : zJ l g own cc nL rt nm R mc ms Q k n pc (a0 :: a1 :: a2 :: a3 :: a4 :: a5 :: a6 :: a7 :: a8 :: a9 :: t) (.int x :: st) h := z_istore hj h1 hd kk
theorem z_ii9 {a0 a1 a2 a3 a4 a5 a6 a7 a8 : Option Value} {t : List (Option Value)} {d x : Int} (hj : 9 < nL) (h1 : zk1 (a0 :: a1 :: a2 :: a3 :: a4 :: a5 :: a6 :: a7 :: a8 :: some (.int (iz x)) :: t) 9 = true) (hd : decode cc pc = .ok (.iinc 9 d, 3)) (kk : zJ l g own cc nL rt nm R mc ms Q k n (pc + 3) (a0 :: a1 :: a2 :: a3 :: a4 :: a5 :: a6 :: a7 :: a8 :: some (.int (iz (x + d))) :: t) st h) : zJ l g own cc nL rt nm R mc ms Q k n pc (a0 :: a1 :: a2 :: a3 :: a4 :: a5 :: a6 :: a7 :: a8 :: some (.int (iz x)) :: t) st h := z_iinc rfl hj h1 hd kk
theorem z_ls9 {a0 a1 a2 a3 a4 a5 a6 a7 a8 a9 a10 : Option Value} {t : List (Option Value)} {x : Int64} (hj : 9 + 1 < nL) (h1 : zk1 (a0 :: a1 :: a2 :: a3 :: a4 :: a5 :: a6 :: a7 :: a8 :: a9 :: a10 :: t) 9 = true) (hd : decode cc pc = .ok (.lstore 9, 2)) (kk : zJ l g own cc nL rt nm R mc ms Q k n (pc + 2) (a0 :: a1 :: a2 :: a3 :: a4 :: a5 :: a6 :: a7 :: a8 :: some (.long x) :: none :: t) st h) : zJ l g own cc nL rt nm R mc ms Q k n pc (a0 :: a1 :: a2 :: a3 :: a4 :: a5 :: a6 :: a7 :: a8 :: a9 :: a10 :: t) (.long x :: st) h := z_lstore hj h1 hd kk
theorem z_is10 {a0 a1 a2 a3 a4 a5 a6 a7 a8 a9 a10 : Option Value} {t : List (Option Value)} {x : Int32} (hj : 10 < nL) (h1 : zk1 (a0 :: a1 :: a2 :: a3 :: a4 :: a5 :: a6 :: a7 :: a8 :: a9 :: a10 :: t) 10 = true) (hd : decode cc pc = .ok (.istore 10, 2)) (kk : zJ l g own cc nL rt nm R mc ms Q k n (pc + 2) (a0 :: a1 :: a2 :: a3 :: a4 :: a5 :: a6 :: a7 :: a8 :: a9 :: some (.int x) :: t) st h) : zJ l g own cc nL rt nm R mc ms Q k n pc (a0 :: a1 :: a2 :: a3 :: a4 :: a5 :: a6 :: a7 :: a8 :: a9 :: a10 :: t) (.int x :: st) h := z_istore hj h1 hd kk
theorem z_ii10 {a0 a1 a2 a3 a4 a5 a6 a7 a8 a9 : Option Value} {t : List (Option Value)} {d x : Int} (hj : 10 < nL) (h1 : zk1 (a0 :: a1 :: a2 :: a3 :: a4 :: a5 :: a6 :: a7 :: a8 :: a9 :: some (.int (iz x)) :: t) 10 = true) (hd : decode cc pc = .ok (.iinc 10 d, 3)) (kk : zJ l g own cc nL rt nm R mc ms Q k n (pc + 3) (a0 :: a1 :: a2 :: a3 :: a4 :: a5 :: a6 :: a7 :: a8 :: a9 :: some (.int (iz (x + d))) :: t) st h) : zJ l g own cc nL rt nm R mc ms Q k n pc (a0 :: a1 :: a2 :: a3 :: a4 :: a5 :: a6 :: a7 :: a8 :: a9 :: some (.int (iz x)) :: t) st h := z_iinc rfl hj h1 hd kk
theorem z_ls10 {a0 a1 a2 a3 a4 a5 a6 a7 a8 a9 a10 a11 : Option Value} {t : List (Option Value)} {x : Int64} (hj : 10 + 1 < nL) (h1 : zk1 (a0 :: a1 :: a2 :: a3 :: a4 :: a5 :: a6 :: a7 :: a8 :: a9 :: a10 :: a11 :: t) 10 = true) (hd : decode cc pc = .ok (.lstore 10, 2)) (kk : zJ l g own cc nL rt nm R mc ms Q k n (pc + 2) (a0 :: a1 :: a2 :: a3 :: a4 :: a5 :: a6 :: a7 :: a8 :: a9 :: some (.long x) :: none :: t) st h) : zJ l g own cc nL rt nm R mc ms Q k n pc (a0 :: a1 :: a2 :: a3 :: a4 :: a5 :: a6 :: a7 :: a8 :: a9 :: a10 :: a11 :: t) (.long x :: st) h := z_lstore hj h1 hd kk
theorem z_is11 {a0 a1 a2 a3 a4 a5 a6 a7 a8 a9 a10 a11 : Option Value} {t : List (Option Value)} {x : Int32} (hj : 11 < nL) (h1 : zk1 (a0 :: a1 :: a2 :: a3 :: a4 :: a5 :: a6 :: a7 :: a8 :: a9 :: a10 :: a11 :: t) 11 = true) (hd : decode cc pc = .ok (.istore 11, 2)) (kk : zJ l g own cc nL rt nm R mc ms Q k n (pc + 2) (a0 :: a1 :: a2 :: a3 :: a4 :: a5 :: a6 :: a7 :: a8 :: a9 :: a10 :: some (.int x) :: t) st h) : zJ l g own cc nL rt nm R mc ms Q k n pc (a0 :: a1 :: a2 :: a3 :: a4 :: a5 :: a6 :: a7 :: a8 :: a9 :: a10 :: a11 :: t) (.int x :: st) h := z_istore hj h1 hd kk
theorem z_ii11 {a0 a1 a2 a3 a4 a5 a6 a7 a8 a9 a10 : Option Value} {t : List (Option Value)} {d x : Int} (hj : 11 < nL) (h1 : zk1 (a0 :: a1 :: a2 :: a3 :: a4 :: a5 :: a6 :: a7 :: a8 :: a9 :: a10 :: some (.int (iz x)) :: t) 11 = true) (hd : decode cc pc = .ok (.iinc 11 d, 3)) (kk : zJ l g own cc nL rt nm R mc ms Q k n (pc + 3) (a0 :: a1 :: a2 :: a3 :: a4 :: a5 :: a6 :: a7 :: a8 :: a9 :: a10 :: some (.int (iz (x + d))) :: t) st h) : zJ l g own cc nL rt nm R mc ms Q k n pc (a0 :: a1 :: a2 :: a3 :: a4 :: a5 :: a6 :: a7 :: a8 :: a9 :: a10 :: some (.int (iz x)) :: t) st h := z_iinc rfl hj h1 hd kk
theorem z_ls11 {a0 a1 a2 a3 a4 a5 a6 a7 a8 a9 a10 a11 a12 : Option Value} {t : List (Option Value)} {x : Int64} (hj : 11 + 1 < nL) (h1 : zk1 (a0 :: a1 :: a2 :: a3 :: a4 :: a5 :: a6 :: a7 :: a8 :: a9 :: a10 :: a11 :: a12 :: t) 11 = true) (hd : decode cc pc = .ok (.lstore 11, 2)) (kk : zJ l g own cc nL rt nm R mc ms Q k n (pc + 2) (a0 :: a1 :: a2 :: a3 :: a4 :: a5 :: a6 :: a7 :: a8 :: a9 :: a10 :: some (.long x) :: none :: t) st h) : zJ l g own cc nL rt nm R mc ms Q k n pc (a0 :: a1 :: a2 :: a3 :: a4 :: a5 :: a6 :: a7 :: a8 :: a9 :: a10 :: a11 :: a12 :: t) (.long x :: st) h := z_lstore hj h1 hd kk
theorem z_is12 {a0 a1 a2 a3 a4 a5 a6 a7 a8 a9 a10 a11 a12 : Option Value} {t : List (Option Value)} {x : Int32} (hj : 12 < nL) (h1 : zk1 (a0 :: a1 :: a2 :: a3 :: a4 :: a5 :: a6 :: a7 :: a8 :: a9 :: a10 :: a11 :: a12 :: t) 12 = true) (hd : decode cc pc = .ok (.istore 12, 2)) (kk : zJ l g own cc nL rt nm R mc ms Q k n (pc + 2) (a0 :: a1 :: a2 :: a3 :: a4 :: a5 :: a6 :: a7 :: a8 :: a9 :: a10 :: a11 :: some (.int x) :: t) st h) : zJ l g own cc nL rt nm R mc ms Q k n pc (a0 :: a1 :: a2 :: a3 :: a4 :: a5 :: a6 :: a7 :: a8 :: a9 :: a10 :: a11 :: a12 :: t) (.int x :: st) h := z_istore hj h1 hd kk
theorem z_ii12 {a0 a1 a2 a3 a4 a5 a6 a7 a8 a9 a10 a11 : Option Value} {t : List (Option Value)} {d x : Int} (hj : 12 < nL) (h1 : zk1 (a0 :: a1 :: a2 :: a3 :: a4 :: a5 :: a6 :: a7 :: a8 :: a9 :: a10 :: a11 :: some (.int (iz x)) :: t) 12 = true) (hd : decode cc pc = .ok (.iinc 12 d, 3)) (kk : zJ l g own cc nL rt nm R mc ms Q k n (pc + 3) (a0 :: a1 :: a2 :: a3 :: a4 :: a5 :: a6 :: a7 :: a8 :: a9 :: a10 :: a11 :: some (.int (iz (x + d))) :: t) st h) : zJ l g own cc nL rt nm R mc ms Q k n pc (a0 :: a1 :: a2 :: a3 :: a4 :: a5 :: a6 :: a7 :: a8 :: a9 :: a10 :: a11 :: some (.int (iz x)) :: t) st h := z_iinc rfl hj h1 hd kk
theorem z_ls12 {a0 a1 a2 a3 a4 a5 a6 a7 a8 a9 a10 a11 a12 a13 : Option Value} {t : List (Option Value)} {x : Int64} (hj : 12 + 1 < nL) (h1 : zk1 (a0 :: a1 :: a2 :: a3 :: a4 :: a5 :: a6 :: a7 :: a8 :: a9 :: a10 :: a11 :: a12 :: a13 :: t) 12 = true) (hd : decode cc pc = .ok (.lstore 12, 2)) (kk : zJ l g own cc nL rt nm R mc ms Q k n (pc + 2) (a0 :: a1 :: a2 :: a3 :: a4 :: a5 :: a6 :: a7 :: a8 :: a9 :: a10 :: a11 :: some (.long x) :: none :: t) st h) : zJ l g own cc nL rt nm R mc ms Q k n pc (a0 :: a1 :: a2 :: a3 :: a4 :: a5 :: a6 :: a7 :: a8 :: a9 :: a10 :: a11 :: a12 :: a13 :: t) (.long x :: st) h := z_lstore hj h1 hd kk
theorem z_is13 {a0 a1 a2 a3 a4 a5 a6 a7 a8 a9 a10 a11 a12 a13 : Option Value} {t : List (Option Value)} {x : Int32} (hj : 13 < nL) (h1 : zk1 (a0 :: a1 :: a2 :: a3 :: a4 :: a5 :: a6 :: a7 :: a8 :: a9 :: a10 :: a11 :: a12 :: a13 :: t) 13 = true) (hd : decode cc pc = .ok (.istore 13, 2)) (kk : zJ l g own cc nL rt nm R mc ms Q k n (pc + 2) (a0 :: a1 :: a2 :: a3 :: a4 :: a5 :: a6 :: a7 :: a8 :: a9 :: a10 :: a11 :: a12 :: some (.int x) :: t) st h) : zJ l g own cc nL rt nm R mc ms Q k n pc (a0 :: a1 :: a2 :: a3 :: a4 :: a5 :: a6 :: a7 :: a8 :: a9 :: a10 :: a11 :: a12 :: a13 :: t) (.int x :: st) h := z_istore hj h1 hd kk
theorem z_ii13 {a0 a1 a2 a3 a4 a5 a6 a7 a8 a9 a10 a11 a12 : Option Value} {t : List (Option Value)} {d x : Int} (hj : 13 < nL) (h1 : zk1 (a0 :: a1 :: a2 :: a3 :: a4 :: a5 :: a6 :: a7 :: a8 :: a9 :: a10 :: a11 :: a12 :: some (.int (iz x)) :: t) 13 = true) (hd : decode cc pc = .ok (.iinc 13 d, 3)) (kk : zJ l g own cc nL rt nm R mc ms Q k n (pc + 3) (a0 :: a1 :: a2 :: a3 :: a4 :: a5 :: a6 :: a7 :: a8 :: a9 :: a10 :: a11 :: a12 :: some (.int (iz (x + d))) :: t) st h) : zJ l g own cc nL rt nm R mc ms Q k n pc (a0 :: a1 :: a2 :: a3 :: a4 :: a5 :: a6 :: a7 :: a8 :: a9 :: a10 :: a11 :: a12 :: some (.int (iz x)) :: t) st h := z_iinc rfl hj h1 hd kk
theorem z_ls13 {a0 a1 a2 a3 a4 a5 a6 a7 a8 a9 a10 a11 a12 a13 a14 : Option Value} {t : List (Option Value)} {x : Int64} (hj : 13 + 1 < nL) (h1 : zk1 (a0 :: a1 :: a2 :: a3 :: a4 :: a5 :: a6 :: a7 :: a8 :: a9 :: a10 :: a11 :: a12 :: a13 :: a14 :: t) 13 = true) (hd : decode cc pc = .ok (.lstore 13, 2)) (kk : zJ l g own cc nL rt nm R mc ms Q k n (pc + 2) (a0 :: a1 :: a2 :: a3 :: a4 :: a5 :: a6 :: a7 :: a8 :: a9 :: a10 :: a11 :: a12 :: some (.long x) :: none :: t) st h) : zJ l g own cc nL rt nm R mc ms Q k n pc (a0 :: a1 :: a2 :: a3 :: a4 :: a5 :: a6 :: a7 :: a8 :: a9 :: a10 :: a11 :: a12 :: a13 :: a14 :: t) (.long x :: st) h := z_lstore hj h1 hd kk
theorem z_is14 {a0 a1 a2 a3 a4 a5 a6 a7 a8 a9 a10 a11 a12 a13 a14 : Option Value} {t : List (Option Value)} {x : Int32} (hj : 14 < nL) (h1 : zk1 (a0 :: a1 :: a2 :: a3 :: a4 :: a5 :: a6 :: a7 :: a8 :: a9 :: a10 :: a11 :: a12 :: a13 :: a14 :: t) 14 = true) (hd : decode cc pc = .ok (.istore 14, 2)) (kk : zJ l g own cc nL rt nm R mc ms Q k n (pc + 2) (a0 :: a1 :: a2 :: a3 :: a4 :: a5 :: a6 :: a7 :: a8 :: a9 :: a10 :: a11 :: a12 :: a13 :: some (.int x) :: t) st h) : zJ l g own cc nL rt nm R mc ms Q k n pc (a0 :: a1 :: a2 :: a3 :: a4 :: a5 :: a6 :: a7 :: a8 :: a9 :: a10 :: a11 :: a12 :: a13 :: a14 :: t) (.int x :: st) h := z_istore hj h1 hd kk
theorem z_ii14 {a0 a1 a2 a3 a4 a5 a6 a7 a8 a9 a10 a11 a12 a13 : Option Value} {t : List (Option Value)} {d x : Int} (hj : 14 < nL) (h1 : zk1 (a0 :: a1 :: a2 :: a3 :: a4 :: a5 :: a6 :: a7 :: a8 :: a9 :: a10 :: a11 :: a12 :: a13 :: some (.int (iz x)) :: t) 14 = true) (hd : decode cc pc = .ok (.iinc 14 d, 3)) (kk : zJ l g own cc nL rt nm R mc ms Q k n (pc + 3) (a0 :: a1 :: a2 :: a3 :: a4 :: a5 :: a6 :: a7 :: a8 :: a9 :: a10 :: a11 :: a12 :: a13 :: some (.int (iz (x + d))) :: t) st h) : zJ l g own cc nL rt nm R mc ms Q k n pc (a0 :: a1 :: a2 :: a3 :: a4 :: a5 :: a6 :: a7 :: a8 :: a9 :: a10 :: a11 :: a12 :: a13 :: some (.int (iz x)) :: t) st h := z_iinc rfl hj h1 hd kk
theorem z_ls14 {a0 a1 a2 a3 a4 a5 a6 a7 a8 a9 a10 a11 a12 a13 a14 a15 : Option Value} {t : List (Option Value)} {x : Int64} (hj : 14 + 1 < nL) (h1 : zk1 (a0 :: a1 :: a2 :: a3 :: a4 :: a5 :: a6 :: a7 :: a8 :: a9 :: a10 :: a11 :: a12 :: a13 :: a14 :: a15 :: t) 14 = true) (hd : decode cc pc = .ok (.lstore 14, 2)) (kk : zJ l g own cc nL rt nm R mc ms Q k n (pc + 2) (a0 :: a1 :: a2 :: a3 :: a4 :: a5 :: a6 :: a7 :: a8 :: a9 :: a10 :: a11 :: a12 :: a13 :: some (.long x) :: none :: t) st h) : zJ l g own cc nL rt nm R mc ms Q k n pc (a0 :: a1 :: a2 :: a3 :: a4 :: a5 :: a6 :: a7 :: a8 :: a9 :: a10 :: a11 :: a12 :: a13 :: a14 :: a15 :: t) (.long x :: st) h := z_lstore hj h1 hd kk
theorem z_iadd {a b : Int} (hd : decode cc pc = .ok (.iadd, 1)) (kk : zJ l g own cc nL rt nm R mc ms Q k n (pc + 1) ls (.int (iz (a + b)) :: st) h) : zJ l g own cc nL rt nm R mc ms Q k n pc ls (.int (iz b) :: .int (iz a) :: st) h := by
  intro p e s m args below meth c H locs la hC hw hS hl
  exact lv_iadd hC.1 hC.2.1 hd (by rw [iz_add]; exact kk p e s m args below meth c H locs la hC hw hS hl)
theorem z_isub {a b : Int} (hd : decode cc pc = .ok (.isub, 1)) (kk : zJ l g own cc nL rt nm R mc ms Q k n (pc + 1) ls (.int (iz (a - b)) :: st) h) : zJ l g own cc nL rt nm R mc ms Q k n pc ls (.int (iz b) :: .int (iz a) :: st) h := by
  intro p e s m args below meth c H locs la hC hw hS hl
  exact lv_isub hC.1 hC.2.1 hd (by rw [iz_sub]; exact kk p e s m args below meth c H locs la hC hw hS hl)
theorem z_imul {a b : Int} (hd : decode cc pc = .ok (.imul, 1)) (kk : zJ l g own cc nL rt nm R mc ms Q k n (pc + 1) ls (.int (iz (a * b)) :: st) h) : zJ l g own cc nL rt nm R mc ms Q k n pc ls (.int (iz b) :: .int (iz a) :: st) h := by
  intro p e s m args below meth c H locs la hC hw hS hl
  exact lv_imul hC.1 hC.2.1 hd (by rw [iz_mul]; exact kk p e s m args below meth c H locs la hC hw hS hl)
theorem z_ladd {a b : Int} (hd : decode cc pc = .ok (.ladd, 1)) (kk : zJ l g own cc nL rt nm R mc ms Q k n (pc + 1) ls (.long (lz (a + b)) :: st) h) : zJ l g own cc nL rt nm R mc ms Q k n pc ls (.long (lz b) :: .long (lz a) :: st) h := by
  intro p e s m args below meth c H locs la hC hw hS hl
  exact lv_ladd hC.1 hC.2.1 hd (by rw [lz_add]; exact kk p e s m args below meth c H locs la hC hw hS hl)
theorem z_lsub {a b : Int} (hd : decode cc pc = .ok (.lsub, 1)) (kk : zJ l g own cc nL rt nm R mc ms Q k n (pc + 1) ls (.long (lz (a - b)) :: st) h) : zJ l g own cc nL rt nm R mc ms Q k n pc ls (.long (lz b) :: .long (lz a) :: st) h := by
  intro p e s m args below meth c H locs la hC hw hS hl
  exact lv_lsub hC.1 hC.2.1 hd (by rw [lz_sub]; exact kk p e s m args below meth c H locs la hC hw hS hl)
theorem z_lmul {a b : Int} (hd : decode cc pc = .ok (.lmul, 1)) (kk : zJ l g own cc nL rt nm R mc ms Q k n (pc + 1) ls (.long (lz (a * b)) :: st) h) : zJ l g own cc nL rt nm R mc ms Q k n pc ls (.long (lz b) :: .long (lz a) :: st) h := by
  intro p e s m args below meth c H locs la hC hw hS hl
  exact lv_lmul hC.1 hC.2.1 hd (by rw [lz_mul]; exact kk p e s m args below meth c H locs la hC hw hS hl)
theorem z_ineg {a : Int} (hd : decode cc pc = .ok (.ineg, 1)) (kk : zJ l g own cc nL rt nm R mc ms Q k n (pc + 1) ls (.int (iz (-a)) :: st) h) : zJ l g own cc nL rt nm R mc ms Q k n pc ls (.int (iz a) :: st) h := by
  intro p e s m args below meth c H locs la hC hw hS hl
  exact lv_ineg hC.1 hC.2.1 hd (by rw [iz_neg]; exact kk p e s m args below meth c H locs la hC hw hS hl)
theorem z_ldiv {a b : Int} (ha : lr a) (h0 : 0 ≤ a) (hb : lr b) (h1 : 0 < b) (hd : decode cc pc = .ok (.ldiv, 1)) (kk : zJ l g own cc nL rt nm R mc ms Q k n (pc + 1) ls (.long (lz (a / b)) :: st) h) : zJ l g own cc nL rt nm R mc ms Q k n pc ls (.long (lz b) :: .long (lz a) :: st) h := by
  intro p e s m args below meth c H locs la hC hw hS hl
  exact lv_ldiv hC.1 hC.2.1 hd (fun e0 => by have := (lz_eq hb (show lr 0 from ⟨by decide, by decide⟩)).mp e0; omega) (by rw [lz_div ha h0 hb h1]; exact kk p e s m args below meth c H locs la hC hw hS hl)
theorem z_iand {x y : Int32} (hd : decode cc pc = .ok (.iand, 1)) (kk : zJ l g own cc nL rt nm R mc ms Q k n (pc + 1) ls (.int (x &&& y) :: st) h) : zJ l g own cc nL rt nm R mc ms Q k n pc ls (.int y :: .int x :: st) h := by
  intro p e s m args below meth c H locs la hC hw hS hl
  exact lv_iand hC.1 hC.2.1 hd (kk p e s m args below meth c H locs la hC hw hS hl)
theorem z_ishr {x y : Int32} (hd : decode cc pc = .ok (.ishr, 1)) (kk : zJ l g own cc nL rt nm R mc ms Q k n (pc + 1) ls (.int (x >>> (y &&& 31)) :: st) h) : zJ l g own cc nL rt nm R mc ms Q k n pc ls (.int y :: .int x :: st) h := by
  intro p e s m args below meth c H locs la hC hw hS hl
  exact lv_ishr hC.1 hC.2.1 hd (kk p e s m args below meth c H locs la hC hw hS hl)
theorem z_iushr {x y : Int32} (hd : decode cc pc = .ok (.iushr, 1)) (kk : zJ l g own cc nL rt nm R mc ms Q k n (pc + 1) ls (.int (x.toUInt32 >>> (y.toUInt32 &&& Int32.toUInt32 31)).toInt32 :: st) h) : zJ l g own cc nL rt nm R mc ms Q k n pc ls (.int y :: .int x :: st) h := by
  intro p e s m args below meth c H locs la hC hw hS hl
  exact lv_iushr hC.1 hC.2.1 hd rfl (kk p e s m args below meth c H locs la hC hw hS hl)
theorem z_i2l {a : Int} (ha : ir a) (hd : decode cc pc = .ok (.i2l, 1)) (kk : zJ l g own cc nL rt nm R mc ms Q k n (pc + 1) ls (.long (lz a) :: st) h) : zJ l g own cc nL rt nm R mc ms Q k n pc ls (.int (iz a) :: st) h := by
  intro p e s m args below meth c H locs la hC hw hS hl
  exact lv_i2l hC.1 hC.2.1 hd (iz_l ha) (kk p e s m args below meth c H locs la hC hw hS hl)
theorem z_l2i {a : Int} (hd : decode cc pc = .ok (.l2i, 1)) (kk : zJ l g own cc nL rt nm R mc ms Q k n (pc + 1) ls (.int (iz a) :: st) h) : zJ l g own cc nL rt nm R mc ms Q k n pc ls (.long (lz a) :: st) h := by
  intro p e s m args below meth c H locs la hC hw hS hl
  exact lv_l2i hC.1 hC.2.1 hd (lz_i a) (kk p e s m args below meth c H locs la hC hw hS hl)
theorem z_lcmp {a b : Int} (ha : lr a) (hb : lr b) (hd : decode cc pc = .ok (.lcmp, 1)) (kk : zJ l g own cc nL rt nm R mc ms Q k n (pc + 1) ls (.int (iz (if b < a then 1 else if a = b then 0 else -1)) :: st) h) : zJ l g own cc nL rt nm R mc ms Q k n pc ls (.long (lz b) :: .long (lz a) :: st) h := by
  intro p e s m args below meth c H locs la hC hw hS hl
  refine W.lcmp hC.1 hC.2.1 hd ?_
  have e9 : lg_cmp (lz a) (lz b) = iz (if b < a then 1 else if a = b then 0 else -1) := by
    unfold lg_cmp
    by_cases h1 : b < a
    · simp [(lz_lt hb ha).mpr h1, h1]; rfl
    · by_cases h2 : a = b
      · subst h2; simp; rfl
      · have h3 : ¬ lz b < lz a := fun q => h1 ((lz_lt hb ha).mp q)
        have h4 : ¬ lz a = lz b := fun q => h2 ((lz_eq ha hb).mp q)
        simp [h1, h2, h3, h4]; rfl
  rw [e9]
  exact kk p e s m args below meth c H locs la hC hw hS hl
theorem z_dup {v : Value} (hv : v.category = 1) (hd : decode cc pc = .ok (.dup, 1)) (kk : zJ l g own cc nL rt nm R mc ms Q k n (pc + 1) ls (v :: v :: st) h) : zJ l g own cc nL rt nm R mc ms Q k n pc ls (v :: st) h := by
  intro p e s m args below meth c H locs la hC hw hS hl
  exact lv_dup hC.1 hC.2.1 hd hv (kk p e s m args below meth c H locs la hC hw hS hl)
theorem z_dup2 {v u : Value} (hv : v.category = 1) (hu : u.category = 1) (hd : decode cc pc = .ok (.dup2, 1)) (kk : zJ l g own cc nL rt nm R mc ms Q k n (pc + 1) ls (v :: u :: v :: u :: st) h) : zJ l g own cc nL rt nm R mc ms Q k n pc ls (v :: u :: st) h := by
  intro p e s m args below meth c H locs la hC hw hS hl
  exact lv_dup2_11 hC.1 hC.2.1 hd hv hu (kk p e s m args below meth c H locs la hC hw hS hl)
theorem z_dup2l {v : Value} (hv : v.category = 2) (hd : decode cc pc = .ok (.dup2, 1)) (kk : zJ l g own cc nL rt nm R mc ms Q k n (pc + 1) ls (v :: v :: st) h) : zJ l g own cc nL rt nm R mc ms Q k n pc ls (v :: st) h := by
  intro p e s m args below meth c H locs la hC hw hS hl
  exact lv_dup2_2 hC.1 hC.2.1 hd hv (kk p e s m args below meth c H locs la hC hw hS hl)
theorem z_pop2 {v : Value} (hv : v.category = 2) (hd : decode cc pc = .ok (.pop2, 1)) (kk : zJ l g own cc nL rt nm R mc ms Q k n (pc + 1) ls st h) : zJ l g own cc nL rt nm R mc ms Q k n pc ls (v :: st) h := by
  intro p e s m args below meth c H locs la hC hw hS hl
  exact lv_pop2_2 hC.1 hC.2.1 hd hv (kk p e s m args below meth c H locs la hC hw hS hl)
theorem z_icmp_eq {a b : Int} (ha : ir a) (hb : ir b) {off : Int} (tgt : Nat) (ht : (pc : Int) + off = (tgt : Int)) (hd : decode cc pc = .ok (.if_icmp .eq off, 3)) (kt : a = b → zJ l g own cc nL rt nm R mc ms Q k n tgt ls st h) (kf : ¬ a = b → zJ l g own cc nL rt nm R mc ms Q k n (pc + 3) ls st h) : zJ l g own cc nL rt nm R mc ms Q k n pc ls (.int (iz b) :: .int (iz a) :: st) h := by
  intro p e s m args below meth c H locs la hC hw hS hl
  exact lv_icmp_eq hC.1 hC.2.1 hd ht (fun q => kt ((iz_eq ha hb).mp q) p e s m args below meth c H locs la hC hw hS hl) (fun q => kf (fun z => q ((iz_eq ha hb).mpr z)) p e s m args below meth c H locs la hC hw hS hl)
theorem z_if_eq {a : Int} (ha : ir a) {off : Int} (tgt : Nat) (ht : (pc : Int) + off = (tgt : Int)) (hd : decode cc pc = .ok (.ifCond .eq off, 3)) (kt : a = 0 → zJ l g own cc nL rt nm R mc ms Q k n tgt ls st h) (kf : ¬ a = 0 → zJ l g own cc nL rt nm R mc ms Q k n (pc + 3) ls st h) : zJ l g own cc nL rt nm R mc ms Q k n pc ls (.int (iz a) :: st) h := by
  intro p e s m args below meth c H locs la hC hw hS hl
  have hb : ir 0 := ir_0
  exact lv_if_eq hC.1 hC.2.1 hd ht (fun q => kt ((iz_eq ha hb).mp q) p e s m args below meth c H locs la hC hw hS hl) (fun q => kf (fun z => q ((iz_eq ha hb).mpr z)) p e s m args below meth c H locs la hC hw hS hl)
theorem z_icmp_ne {a b : Int} (ha : ir a) (hb : ir b) {off : Int} (tgt : Nat) (ht : (pc : Int) + off = (tgt : Int)) (hd : decode cc pc = .ok (.if_icmp .ne off, 3)) (kt : ¬ a = b → zJ l g own cc nL rt nm R mc ms Q k n tgt ls st h) (kf : a = b → zJ l g own cc nL rt nm R mc ms Q k n (pc + 3) ls st h) : zJ l g own cc nL rt nm R mc ms Q k n pc ls (.int (iz b) :: .int (iz a) :: st) h := by
  intro p e s m args below meth c H locs la hC hw hS hl
  exact lv_icmp_ne hC.1 hC.2.1 hd ht (fun q => kt (fun z => q ((iz_eq ha hb).mpr z)) p e s m args below meth c H locs la hC hw hS hl) (fun q => kf ((iz_eq ha hb).mp q) p e s m args below meth c H locs la hC hw hS hl)
theorem z_if_ne {a : Int} (ha : ir a) {off : Int} (tgt : Nat) (ht : (pc : Int) + off = (tgt : Int)) (hd : decode cc pc = .ok (.ifCond .ne off, 3)) (kt : ¬ a = 0 → zJ l g own cc nL rt nm R mc ms Q k n tgt ls st h) (kf : a = 0 → zJ l g own cc nL rt nm R mc ms Q k n (pc + 3) ls st h) : zJ l g own cc nL rt nm R mc ms Q k n pc ls (.int (iz a) :: st) h := by
  intro p e s m args below meth c H locs la hC hw hS hl
  have hb : ir 0 := ir_0
  exact lv_if_ne hC.1 hC.2.1 hd ht (fun q => kt (fun z => q ((iz_eq ha hb).mpr z)) p e s m args below meth c H locs la hC hw hS hl) (fun q => kf ((iz_eq ha hb).mp q) p e s m args below meth c H locs la hC hw hS hl)
theorem z_icmp_lt {a b : Int} (ha : ir a) (hb : ir b) {off : Int} (tgt : Nat) (ht : (pc : Int) + off = (tgt : Int)) (hd : decode cc pc = .ok (.if_icmp .lt off, 3)) (kt : a < b → zJ l g own cc nL rt nm R mc ms Q k n tgt ls st h) (kf : b ≤ a → zJ l g own cc nL rt nm R mc ms Q k n (pc + 3) ls st h) : zJ l g own cc nL rt nm R mc ms Q k n pc ls (.int (iz b) :: .int (iz a) :: st) h := by
  intro p e s m args below meth c H locs la hC hw hS hl
  exact lv_icmp_lt hC.1 hC.2.1 hd ht (fun q => kt ((iz_lt ha hb).mp q) p e s m args below meth c H locs la hC hw hS hl) (fun q => kf (Int.not_lt.mp fun z => q ((iz_lt ha hb).mpr z)) p e s m args below meth c H locs la hC hw hS hl)
theorem z_if_lt {a : Int} (ha : ir a) {off : Int} (tgt : Nat) (ht : (pc : Int) + off = (tgt : Int)) (hd : decode cc pc = .ok (.ifCond .lt off, 3)) (kt : a < 0 → zJ l g own cc nL rt nm R mc ms Q k n tgt ls st h) (kf : 0 ≤ a → zJ l g own cc nL rt nm R mc ms Q k n (pc + 3) ls st h) : zJ l g own cc nL rt nm R mc ms Q k n pc ls (.int (iz a) :: st) h := by
  intro p e s m args below meth c H locs la hC hw hS hl
  have hb : ir 0 := ir_0
  exact lv_if_lt hC.1 hC.2.1 hd ht (fun q => kt ((iz_lt ha hb).mp q) p e s m args below meth c H locs la hC hw hS hl) (fun q => kf (Int.not_lt.mp fun z => q ((iz_lt ha hb).mpr z)) p e s m args below meth c H locs la hC hw hS hl)
theorem z_icmp_ge {a b : Int} (ha : ir a) (hb : ir b) {off : Int} (tgt : Nat) (ht : (pc : Int) + off = (tgt : Int)) (hd : decode cc pc = .ok (.if_icmp .ge off, 3)) (kt : b ≤ a → zJ l g own cc nL rt nm R mc ms Q k n tgt ls st h) (kf : a < b → zJ l g own cc nL rt nm R mc ms Q k n (pc + 3) ls st h) : zJ l g own cc nL rt nm R mc ms Q k n pc ls (.int (iz b) :: .int (iz a) :: st) h := by
  intro p e s m args below meth c H locs la hC hw hS hl
  exact lv_icmp_ge hC.1 hC.2.1 hd ht (fun q => kt ((iz_le hb ha).mp q) p e s m args below meth c H locs la hC hw hS hl) (fun q => kf (Int.not_le.mp fun z => q ((iz_le hb ha).mpr z)) p e s m args below meth c H locs la hC hw hS hl)
theorem z_if_ge {a : Int} (ha : ir a) {off : Int} (tgt : Nat) (ht : (pc : Int) + off = (tgt : Int)) (hd : decode cc pc = .ok (.ifCond .ge off, 3)) (kt : 0 ≤ a → zJ l g own cc nL rt nm R mc ms Q k n tgt ls st h) (kf : a < 0 → zJ l g own cc nL rt nm R mc ms Q k n (pc + 3) ls st h) : zJ l g own cc nL rt nm R mc ms Q k n pc ls (.int (iz a) :: st) h := by
  intro p e s m args below meth c H locs la hC hw hS hl
  have hb : ir 0 := ir_0
  exact lv_if_ge hC.1 hC.2.1 hd ht (fun q => kt ((iz_le hb ha).mp q) p e s m args below meth c H locs la hC hw hS hl) (fun q => kf (Int.not_le.mp fun z => q ((iz_le hb ha).mpr z)) p e s m args below meth c H locs la hC hw hS hl)
theorem z_icmp_gt {a b : Int} (ha : ir a) (hb : ir b) {off : Int} (tgt : Nat) (ht : (pc : Int) + off = (tgt : Int)) (hd : decode cc pc = .ok (.if_icmp .gt off, 3)) (kt : b < a → zJ l g own cc nL rt nm R mc ms Q k n tgt ls st h) (kf : a ≤ b → zJ l g own cc nL rt nm R mc ms Q k n (pc + 3) ls st h) : zJ l g own cc nL rt nm R mc ms Q k n pc ls (.int (iz b) :: .int (iz a) :: st) h := by
  intro p e s m args below meth c H locs la hC hw hS hl
  exact lv_icmp_gt hC.1 hC.2.1 hd ht (fun q => kt ((iz_lt hb ha).mp q) p e s m args below meth c H locs la hC hw hS hl) (fun q => kf (Int.not_lt.mp fun z => q ((iz_lt hb ha).mpr z)) p e s m args below meth c H locs la hC hw hS hl)
theorem z_if_gt {a : Int} (ha : ir a) {off : Int} (tgt : Nat) (ht : (pc : Int) + off = (tgt : Int)) (hd : decode cc pc = .ok (.ifCond .gt off, 3)) (kt : 0 < a → zJ l g own cc nL rt nm R mc ms Q k n tgt ls st h) (kf : a ≤ 0 → zJ l g own cc nL rt nm R mc ms Q k n (pc + 3) ls st h) : zJ l g own cc nL rt nm R mc ms Q k n pc ls (.int (iz a) :: st) h := by
  intro p e s m args below meth c H locs la hC hw hS hl
  have hb : ir 0 := ir_0
  exact lv_if_gt hC.1 hC.2.1 hd ht (fun q => kt ((iz_lt hb ha).mp q) p e s m args below meth c H locs la hC hw hS hl) (fun q => kf (Int.not_lt.mp fun z => q ((iz_lt hb ha).mpr z)) p e s m args below meth c H locs la hC hw hS hl)
theorem z_icmp_le {a b : Int} (ha : ir a) (hb : ir b) {off : Int} (tgt : Nat) (ht : (pc : Int) + off = (tgt : Int)) (hd : decode cc pc = .ok (.if_icmp .le off, 3)) (kt : a ≤ b → zJ l g own cc nL rt nm R mc ms Q k n tgt ls st h) (kf : b < a → zJ l g own cc nL rt nm R mc ms Q k n (pc + 3) ls st h) : zJ l g own cc nL rt nm R mc ms Q k n pc ls (.int (iz b) :: .int (iz a) :: st) h := by
  intro p e s m args below meth c H locs la hC hw hS hl
  exact lv_icmp_le hC.1 hC.2.1 hd ht (fun q => kt ((iz_le ha hb).mp q) p e s m args below meth c H locs la hC hw hS hl) (fun q => kf (Int.not_le.mp fun z => q ((iz_le ha hb).mpr z)) p e s m args below meth c H locs la hC hw hS hl)
theorem z_if_le {a : Int} (ha : ir a) {off : Int} (tgt : Nat) (ht : (pc : Int) + off = (tgt : Int)) (hd : decode cc pc = .ok (.ifCond .le off, 3)) (kt : a ≤ 0 → zJ l g own cc nL rt nm R mc ms Q k n tgt ls st h) (kf : 0 < a → zJ l g own cc nL rt nm R mc ms Q k n (pc + 3) ls st h) : zJ l g own cc nL rt nm R mc ms Q k n pc ls (.int (iz a) :: st) h := by
  intro p e s m args below meth c H locs la hC hw hS hl
  have hb : ir 0 := ir_0
  exact lv_if_le hC.1 hC.2.1 hd ht (fun q => kt ((iz_le ha hb).mp q) p e s m args below meth c H locs la hC hw hS hl) (fun q => kf (Int.not_le.mp fun z => q ((iz_le ha hb).mpr z)) p e s m args below meth c H locs la hC hw hS hl)
theorem z_goto {off : Int} (tgt : Nat) (ht : (pc : Int) + off = (tgt : Int)) (hd : decode cc pc = .ok (.goto off, 3)) (kk : zJ l g own cc nL rt nm R mc ms Q k n tgt ls st h) : zJ l g own cc nL rt nm R mc ms Q k n pc ls st h := by
  intro p e s m args below meth c H locs la hC hw hS hl
  exact lv_goto hC.1 hC.2.1 hd ht (kk p e s m args below meth c H locs la hC hw hS hl)
theorem z_ifnn {off : Int} {x : Nat} (tgt : Nat) (ht : (pc : Int) + off = (tgt : Int)) (hd : decode cc pc = .ok (.ifnonnull off, 3)) (kk : zJ l g own cc nL rt nm R mc ms Q k n tgt ls st h) : zJ l g own cc nL rt nm R mc ms Q k n pc ls (.ref x :: st) h := by
  intro p e s m args below meth c H locs la hC hw hS hl
  exact lv_ifnonnull hC.1 hC.2.1 hd ht (kk p e s m args below meth c H locs la hC hw hS hl)
theorem z_ifnnN {off : Int} (hd : decode cc pc = .ok (.ifnonnull off, 3)) (kk : zJ l g own cc nL rt nm R mc ms Q k n (pc + 3) ls st h) : zJ l g own cc nL rt nm R mc ms Q k n pc ls (.null :: st) h := by
  intro p e s m args below meth c H locs la hC hw hS hl
  exact lv_ifnonnullN hC.1 hC.2.1 hd (kk p e s m args below meth c H locs la hC hw hS hl)
theorem z_tsIn {dflt lo hi : Int} {offs : Array Int} {len : Nat} {a off : Int} (tgt : Nat) (ha : ir a) (h1 : lo ≤ a) (h2 : a ≤ hi) (ho : offs[(a - lo).toNat]? = some off) (ht : (pc : Int) + off = (tgt : Int)) (hd : decode cc pc = .ok (.tableswitch dflt lo hi offs, len)) (kk : zJ l g own cc nL rt nm R mc ms Q k n tgt ls st h) : zJ l g own cc nL rt nm R mc ms Q k n pc ls (.int (iz a) :: st) h := by
  intro p e s m args below meth c H locs la hC hw hS hl
  exact lv_tableIn hC.1 hC.2.1 hd (by rw [iz_toInt ha]; omega) (by rw [iz_toInt ha]; omega) (by rw [iz_toInt ha]; exact ho) ht (kk p e s m args below meth c H locs la hC hw hS hl)
theorem z_tsOut {dflt lo hi : Int} {offs : Array Int} {len : Nat} {a : Int} (tgt : Nat) (ha : ir a) (h1 : a < lo ∨ hi < a) (ht : (pc : Int) + dflt = (tgt : Int)) (hd : decode cc pc = .ok (.tableswitch dflt lo hi offs, len)) (kk : zJ l g own cc nL rt nm R mc ms Q k n tgt ls st h) : zJ l g own cc nL rt nm R mc ms Q k n pc ls (.int (iz a) :: st) h := by
  intro p e s m args below meth c H locs la hC hw hS hl
  exact lv_tableOut hC.1 hC.2.1 hd (by rw [iz_toInt ha]; exact h1) ht (kk p e s m args below meth c H locs la hC hw hS hl)
theorem z_top {x y : Int32} (e0 : x = y) (kk : zJ l g own cc nL rt nm R mc ms Q k n pc ls (.int y :: st) h) : zJ l g own cc nL rt nm R mc ms Q k n pc ls (.int x :: st) h := by rw [e0]; exact kk
theorem z_topL {x y : Int64} (e0 : x = y) (kk : zJ l g own cc nL rt nm R mc ms Q k n pc ls (.long y :: st) h) : zJ l g own cc nL rt nm R mc ms Q k n pc ls (.long x :: st) h := by rw [e0]; exact kk
theorem z_hp {h2 : List va_E} (e0 : h = h2) (kk : zJ l g own cc nL rt nm R mc ms Q k n pc ls st h2) : zJ l g own cc nL rt nm R mc ms Q k n pc ls st h := by rw [e0]; exact kk
theorem z_pc {pc2 : Nat} (e0 : pc = pc2) (kk : zJ l g own cc nL rt nm R mc ms Q k n pc2 ls st h) : zJ l g own cc nL rt nm R mc ms Q k n pc ls st h := by rw [e0]; exact kk
theorem z_get {C : String} {T : u_T} {N ci i : Nat} (hin : ∀ w ∈ u_ws C T N, w ∈ zT) (hc : zcl[ci]? = some (C, T, N)) (kf : Nat) (hk : kf < N) (hm : Cond.fieldLink own i C (T kf).2.1 (T kf).2.2.1 ∈ zT) (hdc : (T kf).1 = C) {q0 : Nat} {fs : List Value} {v : Value} (he : h[q0]? = some (.inr (ci, fs))) (hv : fs[kf]? = some v) (hd : decode cc pc = .ok (.getfield i, 3)) (kk : zJ l g own cc nL rt nm R mc ms Q k n (pc + 3) ls (v :: st) h) : zJ l g own cc nL rt nm R mc ms Q k n pc ls (.ref (g.2.1 + q0) :: st) h := by
  intro p e s m args below meth c H locs la hC hw hS hl
  exact va_get hC.1 hC.2.1 hC.2.2.2.2.1 hin hC.2.2.2.1 hw.2.2 hw.1 q0 (zws_at he) hc kf hk (hC.2.2.2.2.1 _ hm) (fun x h9 => by rw [← hdc]; exact h9) hv hd (kk p e s m args below meth c H locs la hC hw hS hl)
theorem z_getN {C host : String} {T : u_T} {N ci i : Nat} (hin : ∀ w ∈ u_ws C T N, w ∈ zT) (hc : zcl[ci]? = some (C, T, N)) (kf : Nat) (hk : kf < N) (hm : Cond.fieldLinkNest own i C (T kf).2.1 (T kf).2.2.1 host ∈ zN) (hdc : (T kf).1 = C) {q0 : Nat} {fs : List Value} {v : Value} (he : h[q0]? = some (.inr (ci, fs))) (hv : fs[kf]? = some v) (hd : decode cc pc = .ok (.getfield i, 3)) (kk : zJ l g own cc nL rt nm R mc ms Q k n (pc + 3) ls (v :: st) h) : zJ l g own cc nL rt nm R mc ms Q k n pc ls (.ref (g.2.1 + q0) :: st) h := by
  intro p e s m args below meth c H locs la hC hw hS hl
  exact va_getN hC.1 hC.2.1 hC.2.2.2.2.1 hin hC.2.2.2.1 hw.2.2 hw.1 q0 (zws_at he) hc kf hk (va_Nw.use rfl (hC.2.2.2.2.2.2.2.2.1 _ hm)) (fun x h9 => by rw [← hdc]; exact h9) hv hd (kk p e s m args below meth c H locs la hC hw hS hl)
theorem z_put {C : String} {T : u_T} {N ci i : Nat} (hin : ∀ w ∈ u_ws C T N, w ∈ zT) (ty0 : Nat → FieldType) (hty : ∀ k, k < N → parseFieldDescriptor (T k).2.2.1 = some (ty0 k)) (hnm : ∀ a, a < N → ∀ b, b < N → a ≠ b → (T a).2.1 ≠ (T b).2.1) (hc : zcl[ci]? = some (C, T, N)) (kf : Nat) (hk : kf < N) (hm : Cond.fieldLink own i C (T kf).2.1 (T kf).2.2.1 ∈ zT) (hdc : (T kf).1 = C) (hfin : (T kf).2.2.2 = false) {ty : FieldType} (hdd : parseFieldDescriptor (T kf).2.2.1 = some ty) {q0 : Nat} {fs : List Value} {v : Value} (hn : narrow ty v = v) (hfit : fits ty v = true) (he : h[q0]? = some (.inr (ci, fs))) (hlf : kf < fs.length) (hd : decode cc pc = .ok (.putfield i, 3)) (kk : zJ l g own cc nL rt nm R mc ms Q k n (pc + 3) ls st (h.set q0 (.inr (ci, fs.set kf v)))) : zJ l g own cc nL rt nm R mc ms Q k n pc ls (v :: .ref (g.2.1 + q0) :: st) h := by
  intro p e s m args below meth c H locs la hC hw hS hl
  have hap := va_apart (own := own) hC.2.2.2.2.1 hin ty0 hty hnm hw.2.2 hc
  obtain ⟨r, h1, cell, q1, q2, q3, q4⟩ := hw.1 q0 _ (zws_at he)
  have hr : r = (C, T, N) := Option.some.inj (h1.symm.trans hc)
  subst hr
  obtain ⟨hS1, hfc, kC, hkC, hkind⟩ := hw.2.2.1 ci _ hc
  obtain ⟨cf, kfd, fi, f, hi, hsl⟩ := hS1 kf hk
  have hlay := hC.2.2.2.2.1 _ (hin _ (u_in_lay hk))
  unfold u_lay at hlay
  rw [if_neg (by rw [hfin]; decide)] at hlay
  have hst := (u_facts hfc hkC (u_lays hC.2.2.2.2.1 hin hk) hi).1
  have h6 := u_store hfc hkC hkind hlay hi hdd hn hfit
  refine W.putK hC.1 hC.2.1 (f := f) ⟨hC.2.2.2.1, hC.2.2.2.2.1 _ hm, ⟨_, _, _, (by rw [← hdc]; exact hi)⟩, hst⟩ (by rw [q2]; exact h6) q1 q3 (by rw [hsl]; exact k2_hasslot (q4 kf hk)) rfl rfl hd fun H1 e1 e2 e3 => ?_
  rw [hsl] at e1 ⊢
  refine kk p e s m args below meth c H1 _ la hC (zw_set hw he ?_ e2 e3) (hS.put e2 e3 (Nat.le_add_right _ _)) hl
  exact ⟨_, hc, t_OB.to (V := updV (vp_V fs) kf v) ⟨_, e1, q2, q3, t_set q4 hap hk v⟩ (fun j _ => vp_updV_set hlf v j)⟩
theorem z_putF {C : String} {T : u_T} {N ci i : Nat} (hin : ∀ w ∈ u_ws C T N, w ∈ zT) (ty0 : Nat → FieldType) (hty : ∀ k, k < N → parseFieldDescriptor (T k).2.2.1 = some (ty0 k)) (hnm : ∀ a, a < N → ∀ b, b < N → a ≠ b → (T a).2.1 ≠ (T b).2.1) (hc : zcl[ci]? = some (C, T, N)) (kf : Nat) (hk : kf < N) (hm : Cond.fieldLink own i C (T kf).2.1 (T kf).2.2.1 ∈ zT) (hdc : (T kf).1 = C) (hfin : (T kf).2.2.2 = true) (hin2 : nm = "<init>") (hdo : C = own) {ty : FieldType} (hdd : parseFieldDescriptor (T kf).2.2.1 = some ty) {q0 : Nat} {fs : List Value} {v : Value} (hn : narrow ty v = v) (hfit : fits ty v = true) (he : h[q0]? = some (.inr (ci, fs))) (hlf : kf < fs.length) (hd : decode cc pc = .ok (.putfield i, 3)) (kk : zJ l g own cc nL rt nm R mc ms Q k n (pc + 3) ls st (h.set q0 (.inr (ci, fs.set kf v)))) : zJ l g own cc nL rt nm R mc ms Q k n pc ls (v :: .ref (g.2.1 + q0) :: st) h := by
  intro p e s m args below meth c H locs la hC hw hS hl
  have hap := va_apart (own := own) hC.2.2.2.2.1 hin ty0 hty hnm hw.2.2 hc
  obtain ⟨r, h1, cell, q1, q2, q3, q4⟩ := hw.1 q0 _ (zws_at he)
  have hr : r = (C, T, N) := Option.some.inj (h1.symm.trans hc)
  subst hr
  obtain ⟨hS1, hfc, kC, hkC, hkind⟩ := hw.2.2.1 ci _ hc
  obtain ⟨cf, kfd, fi, f, hi, hsl⟩ := hS1 kf hk
  have hlay := hC.2.2.2.2.1 _ (hin _ (u_in_lay hk))
  unfold u_lay at hlay
  rw [if_pos hfin] at hlay
  have hst := (u_facts hfc hkC (u_lays hC.2.2.2.2.1 hin hk) hi).1
  have hcf : m.cls = cf := by
    obtain ⟨_, _, c', _, _, _, -, -, hf', -, -, -, hown2, -⟩ := Cond.laysFinal_spec hlay
    have e1 : c' = cf := by have := hi.symm.trans hf'; simp at this; exact this.1.symm
    rw [hdc, hdo] at hown2
    rw [← e1]; exact Option.some.inj (hC.2.2.2.1.symm.trans hown2)
  have h6 := u_fits hfc hkC hkind (Or.inr hlay) hi hdd hn hfit
  refine W.putFinK hC.1 hC.2.1 hC.2.2.2.1 (hC.2.2.2.2.1 _ hm) (by rw [← hdc]; exact hi) hst hcf (hC.2.2.2.2.2.2.2.1.trans hin2) (by rw [q2]; exact h6) q1 q3 (by rw [hsl]; exact k2_hasslot (q4 kf hk)) rfl rfl hd fun H1 e1 e2 e3 => ?_
  rw [hsl] at e1 ⊢
  refine kk p e s m args below meth c H1 _ la hC (zw_set hw he ?_ e2 e3) (hS.put e2 e3 (Nat.le_add_right _ _)) hl
  exact ⟨_, hc, t_OB.to (V := updV (vp_V fs) kf v) ⟨_, e1, q2, q3, t_set q4 hap hk v⟩ (fun j _ => vp_updV_set hlf v j)⟩
theorem z_iald {q0 n2 : Nat} {f : Nat → Int} {z : Int} (he : h[q0]? = some (zA g n2 f)) (hn2 : n2 ≤ 2147483647) (h0 : 0 ≤ z) (h1 : z < n2) (hd : decode cc pc = .ok (.iaload, 1)) (kk : zJ l g own cc nL rt nm R mc ms Q k n (pc + 1) ls (.int (iz (f z.toNat)) :: st) h) : zJ l g own cc nL rt nm R mc ms Q k n pc ls (.int (iz z) :: .ref (g.2.1 + q0) :: st) h := by
  intro p e s m args below meth c H locs la hC hw hS hl
  obtain ⟨hi, hcl⟩ := iz_in hn2 h0 h1
  exact va_iald hC.1 hC.2.1 hw.2.2 hw.1 q0 0 (zws_at he) rfl hi hd (by rw [hcl]; exact kk p e s m args below meth c H locs la hC hw hS hl)
theorem z_zald {q0 n2 : Nat} {f : Nat → Int} {z : Int} (he : h[q0]? = some (zB g n2 f)) (hn2 : n2 ≤ 2147483647) (h0 : 0 ≤ z) (h1 : z < n2) (hd : decode cc pc = .ok (.baload, 1)) (kk : zJ l g own cc nL rt nm R mc ms Q k n (pc + 1) ls (.int (iz (f z.toNat)) :: st) h) : zJ l g own cc nL rt nm R mc ms Q k n pc ls (.int (iz z) :: .ref (g.2.1 + q0) :: st) h := by
  intro p e s m args below meth c H locs la hC hw hS hl
  obtain ⟨hi, hcl⟩ := iz_in hn2 h0 h1
  exact va_zald hC.1 hC.2.1 hw.2.2 hw.1 q0 1 (zws_at he) rfl hi hd (by rw [hcl]; exact kk p e s m args below meth c H locs la hC hw hS hl)
theorem z_lald {q0 n2 : Nat} {f : Nat → Int} {z : Int} (he : h[q0]? = some (zL g n2 f)) (hn2 : n2 ≤ 2147483647) (h0 : 0 ≤ z) (h1 : z < n2) (hd : decode cc pc = .ok (.laload, 1)) (kk : zJ l g own cc nL rt nm R mc ms Q k n (pc + 1) ls (.long (lz (f z.toNat)) :: st) h) : zJ l g own cc nL rt nm R mc ms Q k n pc ls (.int (iz z) :: .ref (g.2.1 + q0) :: st) h := by
  intro p e s m args below meth c H locs la hC hw hS hl
  obtain ⟨hi, hcl⟩ := iz_in hn2 h0 h1
  exact va_lald hC.1 hC.2.1 hw.2.2 hw.1 q0 2 (zws_at he) rfl hi hd (by rw [hcl]; exact kk p e s m args below meth c H locs la hC hw hS hl)
theorem z_aald {q0 n2 : Nat} {f : Nat → Option Nat} {z : Int} (he : h[q0]? = some (zR g n2 f)) (hn2 : n2 ≤ 2147483647) (h0 : 0 ≤ z) (h1 : z < n2) (hd : decode cc pc = .ok (.aaload, 1)) (kk : zJ l g own cc nL rt nm R mc ms Q k n (pc + 1) ls (va_rf (f z.toNat) :: st) h) : zJ l g own cc nL rt nm R mc ms Q k n pc ls (.int (iz z) :: .ref (g.2.1 + q0) :: st) h := by
  intro p e s m args below meth c H locs la hC hw hS hl
  obtain ⟨hi, hcl⟩ := iz_in hn2 h0 h1
  exact va_aldq hC.1 hC.2.1 hw.2.2 hw.1 q0 3 (zws_at he) rfl hi hd (by rw [hcl]; exact kk p e s m args below meth c H locs la hC hw hS hl)
theorem z_alen {q0 n2 : Nat} {f : Nat → Int} (he : h[q0]? = some (zA g n2 f)) (hd : decode cc pc = .ok (.arraylength, 1)) (kk : zJ l g own cc nL rt nm R mc ms Q k n (pc + 1) ls (.int (iz n2) :: st) h) : zJ l g own cc nL rt nm R mc ms Q k n pc ls (.ref (g.2.1 + q0) :: st) h := by
  intro p e s m args below meth c H locs la hC hw hS hl
  exact va_alen hC.1 hC.2.1 hw.2.2 hw.1 q0 0 (zws_at he) (ty := .int) rfl (v := iz n2) Int32.ofInt_eq_ofNat.symm hd (kk p e s m args below meth c H locs la hC hw hS hl)
theorem z_iast {q0 n2 : Nat} {f : Nat → Int} {z v : Int} (he : h[q0]? = some (zA g n2 f)) (hn2 : n2 ≤ 2147483647) (h0 : 0 ≤ z) (h1 : z < n2) (hd : decode cc pc = .ok (.iastore, 1)) (kk : zJ l g own cc nL rt nm R mc ms Q k n (pc + 1) ls st (h.set q0 (zA g n2 (vf_upd f z.toNat v)))) : zJ l g own cc nL rt nm R mc ms Q k n pc ls (.int (iz v) :: .int (iz z) :: .ref (g.2.1 + q0) :: st) h := by
  intro p e s m args below meth c H locs la hC hw hS hl
  obtain ⟨hi, hcl⟩ := iz_in hn2 h0 h1
  have ha := hw.1 q0 _ (zws_at he)
  refine W.iast hC.1 hC.2.1 ha ((hw.2.2.2 0 _ rfl).1 n2 (fun j => .int (iz (f j)))) (fun q => by cases q) (by show ¬ (iz z < 0 ∨ (arrV _ _ _).slots.size ≤ _); rw [arrV_size]; exact hi) rfl rfl hd fun H1 e1 e2 e3 => ?_
  refine kk p e s m args below meth c H1 _ la hC (zw_set hw he ?_ e2 e3) (hS.put e2 e3 (Nat.le_add_right _ _)) hl
  show H1[_]? = some (vp_cell _ _)
  rw [e1, vp_cell_i, vp_cell_i, arrV_store, hcl]
  congr 2
  funext q
  by_cases hq : q = z.toNat
  · subst hq
    simp [updV, vf_upd]
  · simp [updV, vf_upd, hq]
theorem z_zast {q0 n2 : Nat} {f : Nat → Int} {z v : Int} (he : h[q0]? = some (zB g n2 f)) (hn2 : n2 ≤ 2147483647) (h0 : 0 ≤ z) (h1 : z < n2) (hv : v = 0 ∨ v = 1) (hd : decode cc pc = .ok (.bastore, 1)) (kk : zJ l g own cc nL rt nm R mc ms Q k n (pc + 1) ls st (h.set q0 (zB g n2 (vf_upd f z.toNat v)))) : zJ l g own cc nL rt nm R mc ms Q k n pc ls (.int (iz v) :: .int (iz z) :: .ref (g.2.1 + q0) :: st) h := by
  intro p e s m args below meth c H locs la hC hw hS hl
  obtain ⟨hi, hcl⟩ := iz_in hn2 h0 h1
  have ha := hw.1 q0 _ (zws_at he)
  refine W.zast hC.1 hC.2.1 ha ((hw.2.2.2 1 _ rfl).1 n2 (fun j => .int (iz (f j)))) (fun q => by cases q) (by show ¬ (iz z < 0 ∨ (arrV _ _ _).slots.size ≤ _); rw [arrV_size]; exact hi) rfl rfl hd fun H1 e1 e2 e3 => ?_
  refine kk p e s m args below meth c H1 _ la hC (zw_set hw he ?_ e2 e3) (hS.put e2 e3 (Nat.le_add_right _ _)) hl
  show H1[_]? = some (vp_cell _ _)
  rw [e1, vp_cell_i, vp_cell_i, arrV_store, hcl]
  congr 2
  funext q
  by_cases hq : q = z.toNat
  · subst hq
    simp [updV, vf_upd]
    rcases hv with rfl | rfl <;> rfl
  · simp [updV, vf_upd, hq]
theorem z_last {q0 n2 : Nat} {f : Nat → Int} {z v : Int} (he : h[q0]? = some (zL g n2 f)) (hn2 : n2 ≤ 2147483647) (h0 : 0 ≤ z) (h1 : z < n2) (hd : decode cc pc = .ok (.lastore, 1)) (kk : zJ l g own cc nL rt nm R mc ms Q k n (pc + 1) ls st (h.set q0 (zL g n2 (vf_upd f z.toNat v)))) : zJ l g own cc nL rt nm R mc ms Q k n pc ls (.long (lz v) :: .int (iz z) :: .ref (g.2.1 + q0) :: st) h := by
  intro p e s m args below meth c H locs la hC hw hS hl
  obtain ⟨hi, hcl⟩ := iz_in hn2 h0 h1
  have ha := hw.1 q0 _ (zws_at he)
  refine W.last hC.1 hC.2.1 ha ((hw.2.2.2 2 _ rfl).1 n2 (fun j => .long (lz (f j)))) (fun q => by cases q) (by show ¬ (iz z < 0 ∨ (arrV _ _ _).slots.size ≤ _); rw [arrV_size]; exact hi) rfl rfl hd fun H1 e1 e2 e3 => ?_
  refine kk p e s m args below meth c H1 _ la hC (zw_set hw he ?_ e2 e3) (hS.put e2 e3 (Nat.le_add_right _ _)) hl
  show H1[_]? = some (vp_cell _ _)
  rw [e1, vp_cell_l, vp_cell_l, arrV_store, hcl]
  congr 2
  funext q
  by_cases hq : q = z.toNat
  · subst hq
    simp [updV, vf_upd]
  · simp [updV, vf_upd, hq]
theorem z_reti {x : Int32} (hr : rt = some .int) (hk : k ≤ mc) (hn : n ≤ ms) (hd : decode cc pc = .ok (.ireturn, 1)) (hQ : Q (some (.int x)) h) : zJ l g own cc nL rt nm R mc ms Q k n pc ls ([.int x]) h := by
  intro p e s m args below meth c H locs la hC hw hS hl
  refine W.widen hk hn ?_
  exact W.iret hC.1 hC.2.1 (hC.2.2.2.2.2.1.trans hr) (fun t ht hW => ⟨⟨_, h, rfl, hQ, zw_moved hw hW.alike ht⟩, hS.F ht⟩) hS.2.2 hd hC.2.2.2.2.2.2.1
theorem z_retl {x : Int64} (hr : rt = some .long) (hk : k ≤ mc) (hn : n ≤ ms) (hd : decode cc pc = .ok (.lreturn, 1)) (hQ : Q (some (.long x)) h) : zJ l g own cc nL rt nm R mc ms Q k n pc ls ([.long x]) h := by
  intro p e s m args below meth c H locs la hC hw hS hl
  refine W.widen hk hn ?_
  exact W.lret hC.1 hC.2.1 (hC.2.2.2.2.2.1.trans hr) (fun t ht hW => ⟨⟨_, h, rfl, hQ, zw_moved hw hW.alike ht⟩, hS.F ht⟩) hS.2.2 hd hC.2.2.2.2.2.2.1
theorem z_retz {v : Int} (hr : rt = some .boolean) (hv : v = 0 ∨ v = 1) (hk : k ≤ mc) (hn : n ≤ ms) (hd : decode cc pc = .ok (.ireturn, 1)) (hQ : Q (some (.int (iz v))) h) : zJ l g own cc nL rt nm R mc ms Q k n pc ls ([.int (iz v)]) h := by
  intro p e s m args below meth c H locs la hC hw hS hl
  refine W.widen hk hn ?_
  exact W.zret hC.1 hC.2.1 (hC.2.2.2.2.2.1.trans hr) (by rcases hv with rfl | rfl <;> rfl) (fun t ht hW => ⟨⟨_, h, rfl, hQ, zw_moved hw hW.alike ht⟩, hS.F ht⟩) hS.2.2 hd hC.2.2.2.2.2.2.1
theorem z_retv (hr : rt = none) (hk : k ≤ mc) (hn : n ≤ ms) (hd : decode cc pc = .ok (.return_, 1)) (hQ : Q none h) : zJ l g own cc nL rt nm R mc ms Q k n pc ls ([]) h := by
  intro p e s m args below meth c H locs la hC hw hS hl
  refine W.widen hk hn ?_
  exact W.vret hC.1 hC.2.1 (hC.2.2.2.2.2.1.trans hr) (fun t ht hW => ⟨⟨_, h, rfl, hQ, zw_moved hw hW.alike ht⟩, hS.F ht⟩) hS.2.2 hd hC.2.2.2.2.2.2.1
end ZROWS
