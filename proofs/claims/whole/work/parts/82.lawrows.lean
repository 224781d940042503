/-! ===== the law: its own judgement ===== -/
def R_law : String := "BoughtAheadLaw"
def lw_P (b : Addr) (xs : List Int32) (args : Array Value) (s : State) : Prop := args = #[.ref b] ∧ s.IntsAt b xs ∧ xs.length ≤ 2560 ∧ (Jvm.Cond.and given_1 narrow_1).before args s = true
def lw_Q (_ : Array Value) (s : State) (o : Outcome) (t : State) : Prop := o = .returned (some (.int 1)) ∧ Framed s o t [] 600000 7302250
def lw_Z (below : List Frame) (a : Array Value) (s : State) : State → Prop := fun t => ∃ o, t.status = .running ∧ Ended t below o ∧ lw_Q a s o t
/-- the law's own end, with 1 on the stack, nothing written that was there before, its room as the claim has it -/
theorem lw_ret {p : Program} {l : Launch} {e : Env} {s : State} {m : MethodId} {below : List Frame} {meth : Method} {c : Code} {b : Nat} (hx : p.tables.exec = Jvm.exec) (hb : c.code = code) (hr : meth.sig.returnType = ret) (hlocks : meth.locks = false) {pc : Nat} {H : Heap} {ls : Array Slot} (hdg : decode code pc = .ok (.ireturn, 1)) : W p l e room_1 s m #[Value.ref b] below meth c H [] 600000 7302250 (lw_Z below #[Value.ref b] s) (F0 m pc ls [.int 1]) := by
  intro T hT X
  obtain ⟨fs, hret, hrun, hended, hW, hframe⟩ := X.leave (v := some (.int 1)) (hlocks := hlocks) (fun h => by rw [hr] at h; cases h)
  have hmeth' : T.vm.method? m = some meth := X.method'
  refine ⟨T.setFrames fs, ?_, .returned (some (.int 1)), hrun, hended, rfl, ⟨_, rfl⟩, hW, hframe⟩
  jvm_step X.here [X.here.top, hx, hb, hdg, hmeth', hr, ret, narrow_b1]
  (try refine ⟨rfl, ?_⟩); (try refine ⟨rfl, ?_⟩)
  first | (intro acts; rw [hret _ acts rfl rfl rfl]) | rw [hret _ _ rfl rfl rfl]
  exact Steps.refl _
/-- what holds at the law's entry: the machine, the code, the tables' words (any of lw_tbl by 'hts w (by decide +kernel)'), the script of L ints xs at the cell b, what the Statement gives of the start (any of its parts by flat_of_before) -/
def lw_At (p : Program) (s : State) (m : MethodId) (meth : Method) (c : Code) (b L : Nat) (xs : Nat → Int32) : Prop :=
  p.tables.exec = Jvm.exec ∧ c.code = code ∧ meth.sig.returnType = ret ∧ c.maxLocals = 4 ∧ s.vm.findClass R_law = some m.cls ∧ (∀ w ∈ lw_tbl, w.before #[Value.ref b] s = true) ∧ va_X b L xs s s.heap ∧ b < s.heap.size ∧ meth.locks = false ∧ (Jvm.Cond.and given_1 narrow_1).before #[Value.ref b] s = true
def zY (p : Program) (l : Launch) (e : Env) (s : State) (m : MethodId) (below : List Frame) (meth : Method) (c : Code) (sb : Nat) (g : zG) (k n pc : Nat) (ls : List (Option Value)) (st : List Value) (h : List va_E) : Prop :=
  ∀ (H : Heap) (locs : List Loc) (la : Array Slot), zw g h s H → va_S (zF g) s.heap H locs → zl la 4 ls → W p l e room_1 s m #[Value.ref sb] below meth c H locs k n (lw_Z below #[Value.ref sb] s) (F0 m pc la st)
section ZLAW
variable {p : Program} {l : Launch} {e : Env} {s : State} {m : MethodId} {below : List Frame} {meth : Method} {c : Code} {sb : Nat} {g : zG}
variable {k n pc : Nat} {ls : List (Option Value)} {st : List Value} {h : List va_E}
variable {y : MethodName} {cc' : ByteArray} {nL' : Nat} {rt' : Option FieldType} {d mc' ms' i : Nat} {Q' : Option Value → List va_E → Prop} {rest : List Value}
theorem y_iconst (hC : zC RL code 4 ret meth.name p s m #[Value.ref sb] meth c) {z : Int} (hd : decode code pc = .ok (.iconst z, 1)) (kk : zY p l e s m below meth c sb g k n (pc + 1) ls (.int (iz z) :: st) h) : zY p l e s m below meth c sb g k n pc ls st h := by
  intro H locs la hw hS hl
  exact lv_iconst hC.1 hC.2.1 hd rfl (kk H locs la hw hS hl)
theorem y_bipush (hC : zC RL code 4 ret meth.name p s m #[Value.ref sb] meth c) {z : Int} (hz : (Int8.ofInt z).toInt32 = iz z) (hd : decode code pc = .ok (.bipush z, 2)) (kk : zY p l e s m below meth c sb g k n (pc + 2) ls (.int (iz z) :: st) h) : zY p l e s m below meth c sb g k n pc ls st h := by
  intro H locs la hw hS hl
  exact lv_bipush hC.1 hC.2.1 hd hz (kk H locs la hw hS hl)
theorem y_aload_n (hC : zC RL code 4 ret meth.name p s m #[Value.ref sb] meth c) {j : Fin 4} {x : Nat} (hv : ls[(j : Nat)]? = some (some (.ref x))) (hd : decode code pc = .ok (.aload_n j, 1)) (kk : zY p l e s m below meth c sb g k n (pc + 1) ls (.ref x :: st) h) : zY p l e s m below meth c sb g k n pc ls st h := by
  intro H locs la hw hS hl
  exact lv_aload_n hC.1 hC.2.1 hd rfl (zl_at hl hv) (kk H locs la hw hS hl)
theorem y_iload_n (hC : zC RL code 4 ret meth.name p s m #[Value.ref sb] meth c) {j : Fin 4} {x : Int32} (hv : ls[(j : Nat)]? = some (some (.int x))) (hd : decode code pc = .ok (.iload_n j, 1)) (kk : zY p l e s m below meth c sb g k n (pc + 1) ls (.int x :: st) h) : zY p l e s m below meth c sb g k n pc ls st h := by
  intro H locs la hw hS hl
  exact lv_iload_n hC.1 hC.2.1 hd rfl (zl_at hl hv) (kk H locs la hw hS hl)
theorem y_istore_n (hC : zC RL code 4 ret meth.name p s m #[Value.ref sb] meth c) {j : Fin 4} {x : Int32} (hj : (j : Nat) < 4) (h1 : zk1 ls (j : Nat) = true) (hd : decode code pc = .ok (.istore_n j, 1)) (kk : zY p l e s m below meth c sb g k n (pc + 1) (ls.set (j : Nat) (some (.int x))) st h) : zY p l e s m below meth c sb g k n pc ls (.int x :: st) h := by
  intro H locs la hw hS hl
  exact lv_istore_n hC.1 hC.2.1 hd rfl hl.1 hj rfl (fun la2 hl2 => kk H locs la2 hw hS (zl_put1 h1 hl.2 hl2))
theorem y_astore_n (hC : zC RL code 4 ret meth.name p s m #[Value.ref sb] meth c) {j : Fin 4} {x : Nat} (hj : (j : Nat) < 4) (h1 : zk1 ls (j : Nat) = true) (hd : decode code pc = .ok (.astore_n j, 1)) (kk : zY p l e s m below meth c sb g k n (pc + 1) (ls.set (j : Nat) (some (.ref x))) st h) : zY p l e s m below meth c sb g k n pc ls (.ref x :: st) h := by
  intro H locs la hw hS hl
  exact lv_astore_n hC.1 hC.2.1 hd rfl hl.1 hj rfl (fun la2 hl2 => kk H locs la2 hw hS (zl_put1 h1 hl.2 hl2))
theorem y_iinc (hC : zC RL code 4 ret meth.name p s m #[Value.ref sb] meth c) {j : Nat} {d x : Int} (hv : ls[j]? = some (some (.int (iz x)))) (hj : j < 4) (h1 : zk1 ls j = true) (hd : decode code pc = .ok (.iinc j d, 3)) (kk : zY p l e s m below meth c sb g k n (pc + 3) (ls.set j (some (.int (iz (x + d))))) st h) : zY p l e s m below meth c sb g k n pc ls st h := by
  intro H locs la hw hS hl
  obtain ⟨i, hi⟩ := List.getElem?_of_mem (zpr_mem.mpr hv)
  exact lv_iinc hC.1 hC.2.1 hd hl.1 hi (iz_add x d) hj rfl (fun la2 hl2 => kk H locs la2 hw hS (zl_put1 h1 hl.2 hl2))
theorem y_as1 (hC : zC RL code 4 ret meth.name p s m #[Value.ref sb] meth c) {a0 a1 : Option Value} {t : List (Option Value)} {x : Nat} (hj : 1 < 4) (h1 : zk1 (a0 :: a1 :: t) 1 = true) (hd : decode code pc = .ok (.astore_n 1, 1)) (kk : zY p l e s m below meth c sb g k n (pc + 1) (a0 :: some (.ref x) :: t) st h) : zY p l e s m below meth c sb g k n pc (a0 :: a1 :: t) (.ref x :: st) h := y_astore_n hC (j := 1) hj h1 hd kk
theorem y_as2 (hC : zC RL code 4 ret meth.name p s m #[Value.ref sb] meth c) {a0 a1 a2 : Option Value} {t : List (Option Value)} {x : Nat} (hj : 2 < 4) (h1 : zk1 (a0 :: a1 :: a2 :: t) 2 = true) (hd : decode code pc = .ok (.astore_n 2, 1)) (kk : zY p l e s m below meth c sb g k n (pc + 1) (a0 :: a1 :: some (.ref x) :: t) st h) : zY p l e s m below meth c sb g k n pc (a0 :: a1 :: a2 :: t) (.ref x :: st) h := y_astore_n hC (j := 2) hj h1 hd kk
theorem y_is3 (hC : zC RL code 4 ret meth.name p s m #[Value.ref sb] meth c) {a0 a1 a2 a3 : Option Value} {t : List (Option Value)} {x : Int32} (hj : 3 < 4) (h1 : zk1 (a0 :: a1 :: a2 :: a3 :: t) 3 = true) (hd : decode code pc = .ok (.istore_n 3, 1)) (kk : zY p l e s m below meth c sb g k n (pc + 1) (a0 :: a1 :: a2 :: some (.int x) :: t) st h) : zY p l e s m below meth c sb g k n pc (a0 :: a1 :: a2 :: a3 :: t) (.int x :: st) h := y_istore_n hC (j := 3) hj h1 hd kk
theorem y_ii3 (hC : zC RL code 4 ret meth.name p s m #[Value.ref sb] meth c) {a0 a1 a2 : Option Value} {t : List (Option Value)} {d x : Int} (hj : 3 < 4) (h1 : zk1 (a0 :: a1 :: a2 :: some (.int (iz x)) :: t) 3 = true) (hd : decode code pc = .ok (.iinc 3 d, 3)) (kk : zY p l e s m below meth c sb g k n (pc + 3) (a0 :: a1 :: a2 :: some (.int (iz (x + d))) :: t) st h) : zY p l e s m below meth c sb g k n pc (a0 :: a1 :: a2 :: some (.int (iz x)) :: t) st h := y_iinc hC rfl hj h1 hd kk
theorem y_iadd (hC : zC RL code 4 ret meth.name p s m #[Value.ref sb] meth c) {a b : Int} (hd : decode code pc = .ok (.iadd, 1)) (kk : zY p l e s m below meth c sb g k n (pc + 1) ls (.int (iz (a + b)) :: st) h) : zY p l e s m below meth c sb g k n pc ls (.int (iz b) :: .int (iz a) :: st) h := by
  intro H locs la hw hS hl
  exact lv_iadd hC.1 hC.2.1 hd (by rw [iz_add]; exact kk H locs la hw hS hl)
theorem y_isub (hC : zC RL code 4 ret meth.name p s m #[Value.ref sb] meth c) {a b : Int} (hd : decode code pc = .ok (.isub, 1)) (kk : zY p l e s m below meth c sb g k n (pc + 1) ls (.int (iz (a - b)) :: st) h) : zY p l e s m below meth c sb g k n pc ls (.int (iz b) :: .int (iz a) :: st) h := by
  intro H locs la hw hS hl
  exact lv_isub hC.1 hC.2.1 hd (by rw [iz_sub]; exact kk H locs la hw hS hl)
theorem y_iand (hC : zC RL code 4 ret meth.name p s m #[Value.ref sb] meth c) {x y : Int32} (hd : decode code pc = .ok (.iand, 1)) (kk : zY p l e s m below meth c sb g k n (pc + 1) ls (.int (x &&& y) :: st) h) : zY p l e s m below meth c sb g k n pc ls (.int y :: .int x :: st) h := by
  intro H locs la hw hS hl
  exact lv_iand hC.1 hC.2.1 hd (kk H locs la hw hS hl)
theorem y_dup (hC : zC RL code 4 ret meth.name p s m #[Value.ref sb] meth c) {v : Value} (hv : v.category = 1) (hd : decode code pc = .ok (.dup, 1)) (kk : zY p l e s m below meth c sb g k n (pc + 1) ls (v :: v :: st) h) : zY p l e s m below meth c sb g k n pc ls (v :: st) h := by
  intro H locs la hw hS hl
  exact lv_dup hC.1 hC.2.1 hd hv (kk H locs la hw hS hl)
theorem y_icmp_gt (hC : zC RL code 4 ret meth.name p s m #[Value.ref sb] meth c) {a b : Int} (ha : ir a) (hb : ir b) {off : Int} (tgt : Nat) (ht : (pc : Int) + off = (tgt : Int)) (hd : decode code pc = .ok (.if_icmp .gt off, 3)) (kt : b < a → zY p l e s m below meth c sb g k n tgt ls st h) (kf : a ≤ b → zY p l e s m below meth c sb g k n (pc + 3) ls st h) : zY p l e s m below meth c sb g k n pc ls (.int (iz b) :: .int (iz a) :: st) h := by
  intro H locs la hw hS hl
  exact lv_icmp_gt hC.1 hC.2.1 hd ht (fun q => kt ((iz_lt hb ha).mp q) H locs la hw hS hl) (fun q => kf (Int.not_lt.mp fun z => q ((iz_lt hb ha).mpr z)) H locs la hw hS hl)
theorem y_goto (hC : zC RL code 4 ret meth.name p s m #[Value.ref sb] meth c) {off : Int} (tgt : Nat) (ht : (pc : Int) + off = (tgt : Int)) (hd : decode code pc = .ok (.goto off, 3)) (kk : zY p l e s m below meth c sb g k n tgt ls st h) : zY p l e s m below meth c sb g k n pc ls st h := by
  intro H locs la hw hS hl
  exact lv_goto hC.1 hC.2.1 hd ht (kk H locs la hw hS hl)
theorem y_tsIn (hC : zC RL code 4 ret meth.name p s m #[Value.ref sb] meth c) {dflt lo hi : Int} {offs : Array Int} {len : Nat} {a off : Int} (tgt : Nat) (ha : ir a) (h1 : lo ≤ a) (h2 : a ≤ hi) (ho : offs[(a - lo).toNat]? = some off) (ht : (pc : Int) + off = (tgt : Int)) (hd : decode code pc = .ok (.tableswitch dflt lo hi offs, len)) (kk : zY p l e s m below meth c sb g k n tgt ls st h) : zY p l e s m below meth c sb g k n pc ls (.int (iz a) :: st) h := by
  intro H locs la hw hS hl
  exact lv_tableIn hC.1 hC.2.1 hd (by rw [iz_toInt ha]; omega) (by rw [iz_toInt ha]; omega) (by rw [iz_toInt ha]; exact ho) ht (kk H locs la hw hS hl)
theorem y_tsOut (hC : zC RL code 4 ret meth.name p s m #[Value.ref sb] meth c) {dflt lo hi : Int} {offs : Array Int} {len : Nat} {a : Int} (tgt : Nat) (ha : ir a) (h1 : a < lo ∨ hi < a) (ht : (pc : Int) + dflt = (tgt : Int)) (hd : decode code pc = .ok (.tableswitch dflt lo hi offs, len)) (kk : zY p l e s m below meth c sb g k n tgt ls st h) : zY p l e s m below meth c sb g k n pc ls (.int (iz a) :: st) h := by
  intro H locs la hw hS hl
  exact lv_tableOut hC.1 hC.2.1 hd (by rw [iz_toInt ha]; exact h1) ht (kk H locs la hw hS hl)
theorem y_callV (hC : zC RL code 4 ret meth.name p s m #[Value.ref sb] meth c) {np q0 ci N : Nat} {T : u_T} {fs As : List Value} (hM : zM l g y cc' nL' rt' d mc' ms' (.ref (g.2.1 + q0) :: As) h Q') (hk : zLk RL i y cc' nL' rt' np) (hiv : Cond.instanceMethod y ∈ zT ∧ Cond.selects y.cls y y ∈ zT) (hn : As.length = np) (he : h[q0]? = some (.inr (ci, fs))) (hc : zcl[ci]? = some (y.cls, T, N)) (hR : d + 1 ≤ room_1.frames ∧ 8 + (nL' + 11) + 38 * d ≤ room_1.locals) (hcat : (rest.map fun v => v.category).sum ≤ 8) (hf : k + mc' ≤ room_1.cells ∧ n + ms' ≤ room_1.slots) (hd : decode code pc = .ok (.invokevirtual i, 3)) (kk : ∀ (r : Option Value) (h' : List va_E), Q' r h' → zY p l e s m below meth c sb g (k + mc') (n + ms') (pc + 3) ls (r.toList ++ rest) (h')) : zY p l e s m below meth c sb g k n pc ls (As.reverse ++ .ref (g.2.1 + q0) :: rest) h := by
  intro H locs la hw hS hl
  refine z_go (va_runV (C := y.cls) (b := g.2.1 + q0) (As := As) (rest := rest) ⟨hC.1, hC.2.1, hC.2.2.1, hC.2.2.2.1, hC.2.2.2.2.1⟩ hM ⟨callB_of (rm := zRm d mc' ms') np hC.2.2.2.2.1 (z_goodIn hk.1) rfl rfl rfl (hC.2.2.2.2.1 _ hk.2.1) (hC.2.2.2.2.1 _ hk.2.2.1) hk.2.2.2 hR, hC.2.2.2.2.1 _ hiv.1, hC.2.2.2.2.1 _ hiv.2⟩ ⟨zM_blind, va_recv hw.2.2 hw.1 hc (zws_at he), fun U hU hW => ⟨rfl, zw_moved hw hW.alike hU, zNs_warm hW hC.2.2.2.2.2.2.2.2⟩⟩ rfl hn hl.1.1 rfl (by show 2 * 0 + _ ≤ 8; omega) hd hf) hS (fun r h' H1 locs1 hq hw1 hS1 => kk r h' hq H1 locs1 la hw1 hS1 hl)
theorem y_callI (hC : zC RL code 4 ret meth.name p s m #[Value.ref sb] meth c) {np q0 : Nat} {As : List Value} (hM : zM l g y cc' nL' none d mc' ms' (.ref (g.2.1 + q0) :: As) h Q') (hk : zLk RL i y cc' nL' none np) (hin : Cond.instanceMethod y ∈ zT) (hy : y.name = "<init>") (hn : As.length = np) (hR : d + 1 ≤ room_1.frames ∧ 8 + (nL' + 11) + 38 * d ≤ room_1.locals) (hcat : (rest.map fun v => v.category).sum ≤ 8) (hf : k + mc' ≤ room_1.cells ∧ n + ms' ≤ room_1.slots) (hd : decode code pc = .ok (.invokespecial i, 3)) (kk : ∀ (r : Option Value) (h' : List va_E), Q' r h' → zY p l e s m below meth c sb g (k + mc') (n + ms') (pc + 3) ls (r.toList ++ rest) (h')) : zY p l e s m below meth c sb g k n pc ls (As.reverse ++ .ref (g.2.1 + q0) :: rest) h := by
  intro H locs la hw hS hl
  refine z_go (va_runI (b := g.2.1 + q0) (As := As) (rest := rest) ⟨hC.1, hC.2.1, hC.2.2.1, hC.2.2.2.1, hC.2.2.2.2.1⟩ hM ⟨callB_of (rm := zRm d mc' ms') np hC.2.2.2.2.1 (z_goodIn hk.1) rfl rfl rfl (hC.2.2.2.2.1 _ hk.2.1) (hC.2.2.2.2.1 _ hk.2.2.1) hk.2.2.2 hR, hy, hC.2.2.2.2.1 _ hin⟩ ⟨zM_blind, fun U hU hW => ⟨rfl, zw_moved hw hW.alike hU, zNs_warm hW hC.2.2.2.2.2.2.2.2⟩⟩ rfl hn hl.1.1 rfl (by show 2 * 0 + _ ≤ 8; omega) hd hf) hS (fun r h' H1 locs1 hq hw1 hS1 => kk r h' hq H1 locs1 la hw1 hS1 hl)
theorem y_V1 (hC : zC RL code 4 ret meth.name p s m #[Value.ref sb] meth c) {q0 ci N : Nat} {T : u_T} {fs : List Value} {v1 : Value} (hM : zM l g y cc' nL' rt' d mc' ms' [.ref (g.2.1 + q0), v1] h Q') (hk : zLk RL i y cc' nL' rt' 1) (hiv : Cond.instanceMethod y ∈ zT ∧ Cond.selects y.cls y y ∈ zT) (he : h[q0]? = some (.inr (ci, fs))) (hc : zcl[ci]? = some (y.cls, T, N)) (hR : d + 1 ≤ room_1.frames ∧ 8 + (nL' + 11) + 38 * d ≤ room_1.locals) (hcat : (rest.map fun v => v.category).sum ≤ 8) (hf : k + mc' ≤ room_1.cells ∧ n + ms' ≤ room_1.slots) (hd : decode code pc = .ok (.invokevirtual i, 3)) (kk : ∀ (r : Option Value) (h' : List va_E), Q' r h' → zY p l e s m below meth c sb g (k + mc') (n + ms') (pc + 3) ls (r.toList ++ rest) (h')) : zY p l e s m below meth c sb g k n pc ls (v1 :: .ref (g.2.1 + q0) :: rest) h := y_callV hC (As := [v1]) hM hk hiv rfl he hc hR hcat hf hd kk
theorem y_V2 (hC : zC RL code 4 ret meth.name p s m #[Value.ref sb] meth c) {q0 ci N : Nat} {T : u_T} {fs : List Value} {v1 v2 : Value} (hM : zM l g y cc' nL' rt' d mc' ms' [.ref (g.2.1 + q0), v1, v2] h Q') (hk : zLk RL i y cc' nL' rt' 2) (hiv : Cond.instanceMethod y ∈ zT ∧ Cond.selects y.cls y y ∈ zT) (he : h[q0]? = some (.inr (ci, fs))) (hc : zcl[ci]? = some (y.cls, T, N)) (hR : d + 1 ≤ room_1.frames ∧ 8 + (nL' + 11) + 38 * d ≤ room_1.locals) (hcat : (rest.map fun v => v.category).sum ≤ 8) (hf : k + mc' ≤ room_1.cells ∧ n + ms' ≤ room_1.slots) (hd : decode code pc = .ok (.invokevirtual i, 3)) (kk : ∀ (r : Option Value) (h' : List va_E), Q' r h' → zY p l e s m below meth c sb g (k + mc') (n + ms') (pc + 3) ls (r.toList ++ rest) (h')) : zY p l e s m below meth c sb g k n pc ls (v2 :: v1 :: .ref (g.2.1 + q0) :: rest) h := y_callV hC (As := [v1, v2]) hM hk hiv rfl he hc hR hcat hf hd kk
theorem y_V3 (hC : zC RL code 4 ret meth.name p s m #[Value.ref sb] meth c) {q0 ci N : Nat} {T : u_T} {fs : List Value} {v1 v2 v3 : Value} (hM : zM l g y cc' nL' rt' d mc' ms' [.ref (g.2.1 + q0), v1, v2, v3] h Q') (hk : zLk RL i y cc' nL' rt' 3) (hiv : Cond.instanceMethod y ∈ zT ∧ Cond.selects y.cls y y ∈ zT) (he : h[q0]? = some (.inr (ci, fs))) (hc : zcl[ci]? = some (y.cls, T, N)) (hR : d + 1 ≤ room_1.frames ∧ 8 + (nL' + 11) + 38 * d ≤ room_1.locals) (hcat : (rest.map fun v => v.category).sum ≤ 8) (hf : k + mc' ≤ room_1.cells ∧ n + ms' ≤ room_1.slots) (hd : decode code pc = .ok (.invokevirtual i, 3)) (kk : ∀ (r : Option Value) (h' : List va_E), Q' r h' → zY p l e s m below meth c sb g (k + mc') (n + ms') (pc + 3) ls (r.toList ++ rest) (h')) : zY p l e s m below meth c sb g k n pc ls (v3 :: v2 :: v1 :: .ref (g.2.1 + q0) :: rest) h := y_callV hC (As := [v1, v2, v3]) hM hk hiv rfl he hc hR hcat hf hd kk
theorem y_V4 (hC : zC RL code 4 ret meth.name p s m #[Value.ref sb] meth c) {q0 ci N : Nat} {T : u_T} {fs : List Value} {v1 v2 v3 v4 : Value} (hM : zM l g y cc' nL' rt' d mc' ms' [.ref (g.2.1 + q0), v1, v2, v3, v4] h Q') (hk : zLk RL i y cc' nL' rt' 4) (hiv : Cond.instanceMethod y ∈ zT ∧ Cond.selects y.cls y y ∈ zT) (he : h[q0]? = some (.inr (ci, fs))) (hc : zcl[ci]? = some (y.cls, T, N)) (hR : d + 1 ≤ room_1.frames ∧ 8 + (nL' + 11) + 38 * d ≤ room_1.locals) (hcat : (rest.map fun v => v.category).sum ≤ 8) (hf : k + mc' ≤ room_1.cells ∧ n + ms' ≤ room_1.slots) (hd : decode code pc = .ok (.invokevirtual i, 3)) (kk : ∀ (r : Option Value) (h' : List va_E), Q' r h' → zY p l e s m below meth c sb g (k + mc') (n + ms') (pc + 3) ls (r.toList ++ rest) (h')) : zY p l e s m below meth c sb g k n pc ls (v4 :: v3 :: v2 :: v1 :: .ref (g.2.1 + q0) :: rest) h := y_callV hC (As := [v1, v2, v3, v4]) hM hk hiv rfl he hc hR hcat hf hd kk
theorem y_new (hC : zC RL code 4 ret meth.name p s m #[Value.ref sb] meth c) {C : String} {T : u_T} {N ci : Nat} (hin : ∀ w ∈ u_ws C T N, w ∈ zT) (ty0 : Nat → FieldType) (hty : ∀ k, k < N → parseFieldDescriptor (T k).2.2.1 = some (ty0 k)) (hc : zcl[ci]? = some (C, T, N)) (hcl : Cond.classLink RL i C ∈ zT) (hit : Cond.instantiable C N ∈ zT) (hini : Cond.initialized C ∈ zT) {fs : List Value} (hfs : ∀ j, j < N → defaultValue (ty0 j) = vp_V fs j) (hf : k + 1 ≤ room_1.cells ∧ n + N ≤ room_1.slots) (hd : decode code pc = .ok (.new i, 3)) (kk : zY p l e s m below meth c sb g (k + 1) (n + N) (pc + 3) ls (.ref (g.2.1 + h.length) :: st) (h ++ [.inr (ci, fs)])) : zY p l e s m below meth c sb g k n pc ls st h := by
  intro H locs la hw hS hl
  have hKn := hw.2.2.1 ci _ hc
  refine W.newcK hC.1 hC.2.1 hC.2.2.2.1 (hC.2.2.2.2.1 _ hcl) (hC.2.2.2.2.1 _ hit) (hC.2.2.2.2.1 _ hini) rfl hd hf.1 hf.2 hKn.2.1 rfl fun H1 kC hkC e1 z1 o1 => ?_
  have hb : va_at g.1 zcl (H.size, .inr (ci, fs)) H1 := ⟨_, hc, (u_born ty0 hC.2.2.2.2.1 hin hKn hkC e1 hty).to hfs⟩
  have hw1 := zw_push (e := .inr (ci, fs)) hw hb z1 o1
  have kk2 := kk H1 locs la hw1 ⟨Nat.le_trans hS.1 (by omega), fun x h1 h2 => (o1 x (Nat.lt_of_lt_of_le h1 hS.1)).trans (hS.2.1 x h1 h2), hS.2.2⟩ hl
  rw [← hw.2.1] at kk2
  exact kk2
theorem y_top (hC : zC RL code 4 ret meth.name p s m #[Value.ref sb] meth c) {x y : Int32} (e0 : x = y) (kk : zY p l e s m below meth c sb g k n pc ls (.int y :: st) h) : zY p l e s m below meth c sb g k n pc ls (.int x :: st) h := by rw [e0]; exact kk
theorem y_topR {x y : Nat} (e0 : x = y) (kk : zY p l e s m below meth c sb g k n pc ls (.ref (g.2.1 + y) :: st) h) : zY p l e s m below meth c sb g k n pc ls (.ref (g.2.1 + x) :: st) h := by rw [e0]; exact kk
theorem y_hp {h2 : List va_E} (e0 : h = h2) (kk : zY p l e s m below meth c sb g k n pc ls st h2) : zY p l e s m below meth c sb g k n pc ls st h := by rw [e0]; exact kk
theorem y_r1 {v : Value} (kk : zY p l e s m below meth c sb g k n pc ls (v :: st) h) : zY p l e s m below meth c sb g k n pc ls ((some v).toList ++ st) h := kk
theorem y_r0 (kk : zY p l e s m below meth c sb g k n pc ls st h) : zY p l e s m below meth c sb g k n pc ls ((none : Option Value).toList ++ st) h := kk
theorem y_wide {k2 n2 : Nat} (h1 : k ≤ k2) (h2 : n ≤ n2) (kk : zY p l e s m below meth c sb g k2 n2 pc ls st h) : zY p l e s m below meth c sb g k n pc ls st h := by
  intro H locs la hw hS hl
  exact W.widen h1 h2 (kk H locs la hw hS hl)
theorem y_sld (hC : zC RL code 4 ret meth.name p s m #[Value.ref sb] meth c) {L : Nat} {xs : Nat → Int32} (hX : va_X sb L xs s s.heap) (hbl : sb < s.heap.size) (hg : g.2.1 = s.heap.size) (hL : L ≤ 2560) {z : Int} {j : Nat} (hz : z = j) (h1 : j < L) (hd : decode code pc = .ok (.iaload, 1)) (kk : zY p l e s m below meth c sb g k n (pc + 1) ls (.int (iz (xs j).toInt) :: st) h) : zY p l e s m below meth c sb g k n pc ls (.int (iz z) :: .ref sb :: st) h := by
  intro H locs la hw hS hl
  subst hz
  obtain ⟨hi, hcl⟩ := iz_in (z := (j : Int)) (n := L) (by omega) (by omega) (by omega)
  refine va_sld (A := zF g) hC.1 hC.2.1 hX hbl (by show ¬ g.2.1 ≤ sb; omega) hS hi hd ?_
  have e9 : xs (iz (j : Int)).toNatClampNeg = iz (xs j).toInt := by rw [hcl]; exact iz_of (xs j)
  rw [e9]
  exact kk H locs la hw hS hl
theorem y_slen (hC : zC RL code 4 ret meth.name p s m #[Value.ref sb] meth c) {L : Nat} {xs : Nat → Int32} (hX : va_X sb L xs s s.heap) (hbl : sb < s.heap.size) (hg : g.2.1 = s.heap.size) (hd : decode code pc = .ok (.arraylength, 1)) (kk : zY p l e s m below meth c sb g k n (pc + 1) ls (.int (iz (L : Int)) :: st) h) : zY p l e s m below meth c sb g k n pc ls (.ref sb :: st) h := by
  intro H locs la hw hS hl
  refine va_slen (A := zF g) hC.1 hC.2.1 hX hbl (by show ¬ g.2.1 ≤ sb; omega) hS hd ?_
  have e9 : Int32.ofNat L = iz (L : Int) := Int32.ofInt_eq_ofNat.symm
  rw [e9]
  exact kk H locs la hw hS hl
theorem y_same (hC : zC RL code 4 ret meth.name p s m #[Value.ref sb] meth c) {x : Int32} {off : Int} (tgt : Nat) (ht : (pc : Int) + off = (tgt : Int)) (hd : decode code pc = .ok (.if_icmp .eq off, 3)) (kk : zY p l e s m below meth c sb g k n tgt ls st h) : zY p l e s m below meth c sb g k n pc ls (.int x :: .int x :: st) h := by
  intro H locs la hw hS hl
  exact lv_icmp_eq hC.1 hC.2.1 hd ht (fun _ => kk H locs la hw hS hl) (fun q => absurd rfl q)
theorem y_sameL (hC : zC RL code 4 ret meth.name p s m #[Value.ref sb] meth c) {x : Int64} {off : Int} (tgt : Nat) (ht : ((pc + 1 : Nat) : Int) + off = (tgt : Int)) (hd : decode code pc = .ok (.lcmp, 1)) (hd2 : decode code (pc + 1) = .ok (.ifCond .eq off, 3)) (kk : zY p l e s m below meth c sb g k n tgt ls st h) : zY p l e s m below meth c sb g k n pc ls (.long x :: .long x :: st) h := by
  intro H locs la hw hS hl
  refine W.lcmp hC.1 hC.2.1 hd ?_
  have e9 : lg_cmp x x = 0 := by unfold lg_cmp; simp
  rw [e9]
  exact lv_if_eq hC.1 hC.2.1 hd2 ht (fun _ => kk H locs la hw hS hl) (fun q => absurd rfl q)
theorem y_end (hC : zC RL code 4 ret meth.name p s m #[Value.ref sb] meth c) (hg : g.2.1 = s.heap.size) (hk : k ≤ 600000) (hn : n ≤ 7302250) (hd : decode code pc = .ok (.ireturn, 1)) : zY p l e s m below meth c sb g k n pc ls [.int (iz 1)] h := by
  intro H locs la hw hS hl
  refine va_forget (fun q hq => by have := hS.2.2 q hq; show s.heap.size ≤ q.base; rw [← hg]; exact this) ?_
  refine W.widen hk hn ?_
  exact lw_ret hC.1 hC.2.1 hC.2.2.2.2.2.1 hC.2.2.2.2.2.2.1 hd
theorem y_I0 (hC : zC RL code 4 ret meth.name p s m #[Value.ref sb] meth c) {q0 : Nat} (hM : zM l g y cc' nL' none d mc' ms' [.ref (g.2.1 + q0)] h Q') (hk : zLk RL i y cc' nL' none 0) (hin : Cond.instanceMethod y ∈ zT) (hy : y.name = "<init>") (hR : d + 1 ≤ room_1.frames ∧ 8 + (nL' + 11) + 38 * d ≤ room_1.locals) (hcat : (rest.map fun v => v.category).sum ≤ 8) (hf : k + mc' ≤ room_1.cells ∧ n + ms' ≤ room_1.slots) (hd : decode code pc = .ok (.invokespecial i, 3)) (kk : ∀ (r : Option Value) (h' : List va_E), Q' r h' → zY p l e s m below meth c sb g (k + mc') (n + ms') (pc + 3) ls (r.toList ++ rest) (h')) : zY p l e s m below meth c sb g k n pc ls (.ref (g.2.1 + q0) :: rest) h := y_callI hC (As := []) hM hk hin hy rfl hR hcat hf hd kk
end ZLAW
