/-! ===== calls ===== -/
theorem z_goodIn {y : MethodName} {cc : ByteArray} {nL : Nat} {rt : Option FieldType} (hc : Cond.code y cc nL rt ∈ zT) : GoodIn zT (Cond.code y cc nL rt :: zT) := by
  intro w hw
  have hm : w ∈ zT := by
    rcases List.mem_cons.mp hw with h | h
    · rw [h]; exact hc
    · exact h
  exact ⟨hm, good_of_word (List.mem_filter.mp hm).2⟩
/-- what the tables say of a call by an entry of own's pool: np arguments behind the receiver, if there is one -/
def zLk (own : String) (i : Nat) (y : MethodName) (cc : ByteArray) (nL : Nat) (rt : Option FieldType) (np : Nat) : Prop :=
  Cond.code y cc nL rt ∈ zT ∧ Cond.initialized y.cls ∈ zT ∧ Cond.methodLink own i y ∈ zT ∧ y.cls ≠ "java/lang/invoke/MethodHandle" ∧ y.cls ≠ "java/lang/invoke/VarHandle" ∧ (parseMethodDescriptor y.desc).map (fun d => d.parameters.length) = some np
theorem zM_blind {g : zG} {As : List Value} {h : List va_E} : FrameBlind (va_Pc As (fun U => zw g h U U.heap ∧ zNs U)) := by
  intro a U gf mk hq
  obtain ⟨h1, ⟨h2, h3, h4⟩, h5⟩ := hq
  exact ⟨h1, ⟨h2, h3, va_K.moved (u := U) (U := U.calling gf mk a) (Vm.Alike.refl U.vm) h4⟩, zNs_same (u := U) (U := U.calling gf mk a) rfl h5⟩
theorem z_go {p : Program} {l : Launch} {e : Env} {R : Room} {s : State} {m : MethodId} {args : Array Value} {below : List Frame} {meth : Method} {c : Code} {H : Heap} {locs : List Loc} {k n mc' ms' pc : Nat} {la : Array Slot} {st0 rest : List Value} {Qw : State → Prop} {g : zG} {Q' : Option Value → List va_E → Prop} {a : Array Value}
    (hr : va_Run p l e R s m args below meth c H locs k n mc' ms' (F0 m pc la st0) rest (zQ g Q' a) (zF g)) (hS : va_S (zF g) s.heap H locs)
    (kk : ∀ (r : Option Value) (h' : List va_E) (H1 : Heap) (locs1 : List Loc), Q' r h' → zw g h' s H1 → va_S (zF g) s.heap H1 locs1 → W p l e R s m args below meth c H1 locs1 (k + mc') (n + ms') Qw (F0 m (pc + 3) la (r.toList ++ rest))) :
    W p l e R s m args below meth c H locs k n Qw (F0 m pc la st0) := by
  intro T hT X
  obtain ⟨v, st₀, t, T', L, h0, X', hL, e1, e2, ⟨⟨r, h', hv, hq, hw'⟩, hz, hk⟩, st⟩ := hr T hT X
  cases hv
  rw [h0] at hz hk
  have hal : s.vm.Alike t.vm := by rw [← e2]; exact X'.warmed.alike
  obtain ⟨t2, a1, b1⟩ := kk v h' T'.heap (locs ++ L) hq (by rw [e1]; exact ⟨hw'.1, hw'.2.1, va_K.moved hal.symm hw'.2.2⟩)
    ⟨Nat.le_trans hS.1 (by rw [e1]; exact hz), fun x h1 h2 => by rw [e1, hk x (Nat.lt_of_lt_of_le h1 hS.1) h2]; exact hS.2.1 x h1 h2, fun x hx => by
      rcases List.mem_append.mp hx with h | h
      · exact hS.2.2 x h
      · exact hL x h⟩ T' rfl X'
  exact ⟨t2, st t2 a1, b1⟩
section ZCALLS
variable {l : Launch} {g : zG} {own : String} {cc : ByteArray} {nL : Nat} {rt : Option FieldType} {nm : String} {R : Room} {mc ms : Nat} {Q : Option Value → List va_E → Prop} {k n pc : Nat} {ls : List (Option Value)} {st : List Value} {h : List va_E}
variable {y : MethodName} {cc' : ByteArray} {nL' : Nat} {rt' : Option FieldType} {d mc' ms' i : Nat} {Q' : Option Value → List va_E → Prop} {rest : List Value}

theorem z_callV {np q0 ci N : Nat} {T : u_T} {fs As : List Value} (hM : zM l g y cc' nL' rt' d mc' ms' (.ref (g.2.1 + q0) :: As) h Q') (hk : zLk own i y cc' nL' rt' np) (hiv : Cond.instanceMethod y ∈ zT ∧ Cond.selects y.cls y y ∈ zT) (hn : As.length = np) (he : h[q0]? = some (.inr (ci, fs))) (hc : zcl[ci]? = some (y.cls, T, N)) (hR : d + 1 ≤ R.frames ∧ 8 + (nL' + 11) + 38 * d ≤ R.locals) (hcat : (rest.map fun v => v.category).sum ≤ 8) (hf : k + mc' ≤ R.cells ∧ n + ms' ≤ R.slots) (hd : decode cc pc = .ok (.invokevirtual i, 3)) (kk : ∀ (r : Option Value) (h' : List va_E), Q' r h' → zJ l g own cc nL rt nm R mc ms Q (k + mc') (n + ms') (pc + 3) ls (r.toList ++ rest) (h')) : zJ l g own cc nL rt nm R mc ms Q k n pc ls (As.reverse ++ .ref (g.2.1 + q0) :: rest) h := by
  intro p e s m args below meth c H locs la hC hw hS hl
  refine z_go (va_runV (C := y.cls) (b := g.2.1 + q0) (As := As) (rest := rest) ⟨hC.1, hC.2.1, hC.2.2.1, hC.2.2.2.1, hC.2.2.2.2.1⟩ hM ⟨callB_of (rm := zRm d mc' ms') np hC.2.2.2.2.1 (z_goodIn hk.1) rfl rfl rfl (hC.2.2.2.2.1 _ hk.2.1) (hC.2.2.2.2.1 _ hk.2.2.1) hk.2.2.2 hR, hC.2.2.2.2.1 _ hiv.1, hC.2.2.2.2.1 _ hiv.2⟩ ⟨zM_blind, va_recv hw.2.2 hw.1 hc (zws_at he), fun U hU hW => ⟨rfl, zw_moved hw hW.alike hU, zNs_warm hW hC.2.2.2.2.2.2.2.2⟩⟩ rfl hn hl.1.1 rfl (by show 2 * 0 + _ ≤ 8; omega) hd hf) hS (fun r h' H1 locs1 hq hw1 hS1 => kk r h' hq p e s m args below meth c H1 locs1 la hC hw1 hS1 hl)
theorem z_callS {np : Nat} {As : List Value} (hM : zM l g y cc' nL' rt' d mc' ms' As h Q') (hk : zLk own i y cc' nL' rt' np) (hst : Cond.static y ∈ zT) (hn : As.length = np) (hR : d + 1 ≤ R.frames ∧ 8 + (nL' + 11) + 38 * d ≤ R.locals) (hcat : (rest.map fun v => v.category).sum ≤ 8) (hf : k + mc' ≤ R.cells ∧ n + ms' ≤ R.slots) (hd : decode cc pc = .ok (.invokestatic i, 3)) (kk : ∀ (r : Option Value) (h' : List va_E), Q' r h' → zJ l g own cc nL rt nm R mc ms Q (k + mc') (n + ms') (pc + 3) ls (r.toList ++ rest) (h')) : zJ l g own cc nL rt nm R mc ms Q k n pc ls (As.reverse ++ rest) h := by
  intro p e s m args below meth c H locs la hC hw hS hl
  refine z_go (va_runS (As := As) (rest := rest) ⟨hC.1, hC.2.1, hC.2.2.1, hC.2.2.2.1, hC.2.2.2.2.1⟩ hM ⟨callB_of (rm := zRm d mc' ms') np hC.2.2.2.2.1 (z_goodIn hk.1) rfl rfl rfl (hC.2.2.2.2.1 _ hk.2.1) (hC.2.2.2.2.1 _ hk.2.2.1) hk.2.2.2 hR, hC.2.2.2.2.1 _ hst⟩ ⟨zM_blind, fun U hU hW => ⟨rfl, zw_moved hw hW.alike hU, zNs_warm hW hC.2.2.2.2.2.2.2.2⟩⟩ rfl hn hl.1.1 rfl (by show 2 * 0 + _ ≤ 8; omega) hd hf) hS (fun r h' H1 locs1 hq hw1 hS1 => kk r h' hq p e s m args below meth c H1 locs1 la hC hw1 hS1 hl)
theorem z_callI {np q0 : Nat} {As : List Value} (hM : zM l g y cc' nL' none d mc' ms' (.ref (g.2.1 + q0) :: As) h Q') (hk : zLk own i y cc' nL' none np) (hin : Cond.instanceMethod y ∈ zT) (hy : y.name = "<init>") (hn : As.length = np) (hR : d + 1 ≤ R.frames ∧ 8 + (nL' + 11) + 38 * d ≤ R.locals) (hcat : (rest.map fun v => v.category).sum ≤ 8) (hf : k + mc' ≤ R.cells ∧ n + ms' ≤ R.slots) (hd : decode cc pc = .ok (.invokespecial i, 3)) (kk : ∀ (r : Option Value) (h' : List va_E), Q' r h' → zJ l g own cc nL rt nm R mc ms Q (k + mc') (n + ms') (pc + 3) ls (r.toList ++ rest) (h')) : zJ l g own cc nL rt nm R mc ms Q k n pc ls (As.reverse ++ .ref (g.2.1 + q0) :: rest) h := by
  intro p e s m args below meth c H locs la hC hw hS hl
  refine z_go (va_runI (b := g.2.1 + q0) (As := As) (rest := rest) ⟨hC.1, hC.2.1, hC.2.2.1, hC.2.2.2.1, hC.2.2.2.2.1⟩ hM ⟨callB_of (rm := zRm d mc' ms') np hC.2.2.2.2.1 (z_goodIn hk.1) rfl rfl rfl (hC.2.2.2.2.1 _ hk.2.1) (hC.2.2.2.2.1 _ hk.2.2.1) hk.2.2.2 hR, hy, hC.2.2.2.2.1 _ hin⟩ ⟨zM_blind, fun U hU hW => ⟨rfl, zw_moved hw hW.alike hU, zNs_warm hW hC.2.2.2.2.2.2.2.2⟩⟩ rfl hn hl.1.1 rfl (by show 2 * 0 + _ ≤ 8; omega) hd hf) hS (fun r h' H1 locs1 hq hw1 hS1 => kk r h' hq p e s m args below meth c H1 locs1 la hC hw1 hS1 hl)
theorem z_objInit {q0 : Nat} (hm : Cond.methodLink own i objectInit ∈ zT) (hin : Cond.instanceMethod objectInit ∈ zT) (hcd : Cond.code objectInit ⟨#[0xb1]⟩ 1 none ∈ zT) (hR : 1 ≤ R.frames ∧ 20 ≤ R.locals) (hcat : (st.map fun v => v.category).sum ≤ 8) (hd : decode cc pc = .ok (.invokespecial i, 3)) (kk : zJ l g own cc nL rt nm R mc ms Q k n (pc + 3) ls st h) : zJ l g own cc nL rt nm R mc ms Q k n pc ls (.ref (g.2.1 + q0) :: st) h := by
  intro p e s m args below meth c H locs la hC hw hS hl
  refine W.objInit hC.1 hC.2.1 hC.2.2.2.1 (hC.2.2.2.2.1 _ hm) (hC.2.2.2.2.1 _ hin) (hC.2.2.2.2.1 _ hcd) rfl (hl.1.1.trans hC.2.2.1.symm) rfl hd hR.1 (by show 2 * 0 + _ + 12 ≤ _; have := hR.2; omega) ?_
  exact kk p e s m args below meth c H locs la hC hw hS hl
theorem z_V0 {q0 ci N : Nat} {T : u_T} {fs : List Value} (hM : zM l g y cc' nL' rt' d mc' ms' [.ref (g.2.1 + q0)] h Q') (hk : zLk own i y cc' nL' rt' 0) (hiv : Cond.instanceMethod y ∈ zT ∧ Cond.selects y.cls y y ∈ zT) (he : h[q0]? = some (.inr (ci, fs))) (hc : zcl[ci]? = some (y.cls, T, N)) (hR : d + 1 ≤ R.frames ∧ 8 + (nL' + 11) + 38 * d ≤ R.locals) (hcat : (rest.map fun v => v.category).sum ≤ 8) (hf : k + mc' ≤ R.cells ∧ n + ms' ≤ R.slots) (hd : decode cc pc = .ok (.invokevirtual i, 3)) (kk : ∀ (r : Option Value) (h' : List va_E), Q' r h' → zJ l g own cc nL rt nm R mc ms Q (k + mc') (n + ms') (pc + 3) ls (r.toList ++ rest) (h')) : zJ l g own cc nL rt nm R mc ms Q k n pc ls (.ref (g.2.1 + q0) :: rest) h := z_callV (As := []) hM hk hiv rfl he hc hR hcat hf hd kk
theorem z_S0 (hM : zM l g y cc' nL' rt' d mc' ms' [] h Q') (hk : zLk own i y cc' nL' rt' 0) (hst : Cond.static y ∈ zT) (hR : d + 1 ≤ R.frames ∧ 8 + (nL' + 11) + 38 * d ≤ R.locals) (hcat : (rest.map fun v => v.category).sum ≤ 8) (hf : k + mc' ≤ R.cells ∧ n + ms' ≤ R.slots) (hd : decode cc pc = .ok (.invokestatic i, 3)) (kk : ∀ (r : Option Value) (h' : List va_E), Q' r h' → zJ l g own cc nL rt nm R mc ms Q (k + mc') (n + ms') (pc + 3) ls (r.toList ++ rest) (h')) : zJ l g own cc nL rt nm R mc ms Q k n pc ls rest h := z_callS (As := []) hM hk hst rfl hR hcat hf hd kk
theorem z_V1 {q0 ci N : Nat} {T : u_T} {fs : List Value} {v1 : Value} (hM : zM l g y cc' nL' rt' d mc' ms' [.ref (g.2.1 + q0), v1] h Q') (hk : zLk own i y cc' nL' rt' 1) (hiv : Cond.instanceMethod y ∈ zT ∧ Cond.selects y.cls y y ∈ zT) (he : h[q0]? = some (.inr (ci, fs))) (hc : zcl[ci]? = some (y.cls, T, N)) (hR : d + 1 ≤ R.frames ∧ 8 + (nL' + 11) + 38 * d ≤ R.locals) (hcat : (rest.map fun v => v.category).sum ≤ 8) (hf : k + mc' ≤ R.cells ∧ n + ms' ≤ R.slots) (hd : decode cc pc = .ok (.invokevirtual i, 3)) (kk : ∀ (r : Option Value) (h' : List va_E), Q' r h' → zJ l g own cc nL rt nm R mc ms Q (k + mc') (n + ms') (pc + 3) ls (r.toList ++ rest) (h')) : zJ l g own cc nL rt nm R mc ms Q k n pc ls (v1 :: .ref (g.2.1 + q0) :: rest) h := z_callV (As := [v1]) hM hk hiv rfl he hc hR hcat hf hd kk
theorem z_S1 {v1 : Value} (hM : zM l g y cc' nL' rt' d mc' ms' [v1] h Q') (hk : zLk own i y cc' nL' rt' 1) (hst : Cond.static y ∈ zT) (hR : d + 1 ≤ R.frames ∧ 8 + (nL' + 11) + 38 * d ≤ R.locals) (hcat : (rest.map fun v => v.category).sum ≤ 8) (hf : k + mc' ≤ R.cells ∧ n + ms' ≤ R.slots) (hd : decode cc pc = .ok (.invokestatic i, 3)) (kk : ∀ (r : Option Value) (h' : List va_E), Q' r h' → zJ l g own cc nL rt nm R mc ms Q (k + mc') (n + ms') (pc + 3) ls (r.toList ++ rest) (h')) : zJ l g own cc nL rt nm R mc ms Q k n pc ls (v1 :: rest) h := z_callS (As := [v1]) hM hk hst rfl hR hcat hf hd kk
theorem z_V2 {q0 ci N : Nat} {T : u_T} {fs : List Value} {v1 v2 : Value} (hM : zM l g y cc' nL' rt' d mc' ms' [.ref (g.2.1 + q0), v1, v2] h Q') (hk : zLk own i y cc' nL' rt' 2) (hiv : Cond.instanceMethod y ∈ zT ∧ Cond.selects y.cls y y ∈ zT) (he : h[q0]? = some (.inr (ci, fs))) (hc : zcl[ci]? = some (y.cls, T, N)) (hR : d + 1 ≤ R.frames ∧ 8 + (nL' + 11) + 38 * d ≤ R.locals) (hcat : (rest.map fun v => v.category).sum ≤ 8) (hf : k + mc' ≤ R.cells ∧ n + ms' ≤ R.slots) (hd : decode cc pc = .ok (.invokevirtual i, 3)) (kk : ∀ (r : Option Value) (h' : List va_E), Q' r h' → zJ l g own cc nL rt nm R mc ms Q (k + mc') (n + ms') (pc + 3) ls (r.toList ++ rest) (h')) : zJ l g own cc nL rt nm R mc ms Q k n pc ls (v2 :: v1 :: .ref (g.2.1 + q0) :: rest) h := z_callV (As := [v1, v2]) hM hk hiv rfl he hc hR hcat hf hd kk
theorem z_S2 {v1 v2 : Value} (hM : zM l g y cc' nL' rt' d mc' ms' [v1, v2] h Q') (hk : zLk own i y cc' nL' rt' 2) (hst : Cond.static y ∈ zT) (hR : d + 1 ≤ R.frames ∧ 8 + (nL' + 11) + 38 * d ≤ R.locals) (hcat : (rest.map fun v => v.category).sum ≤ 8) (hf : k + mc' ≤ R.cells ∧ n + ms' ≤ R.slots) (hd : decode cc pc = .ok (.invokestatic i, 3)) (kk : ∀ (r : Option Value) (h' : List va_E), Q' r h' → zJ l g own cc nL rt nm R mc ms Q (k + mc') (n + ms') (pc + 3) ls (r.toList ++ rest) (h')) : zJ l g own cc nL rt nm R mc ms Q k n pc ls (v2 :: v1 :: rest) h := z_callS (As := [v1, v2]) hM hk hst rfl hR hcat hf hd kk
theorem z_V3 {q0 ci N : Nat} {T : u_T} {fs : List Value} {v1 v2 v3 : Value} (hM : zM l g y cc' nL' rt' d mc' ms' [.ref (g.2.1 + q0), v1, v2, v3] h Q') (hk : zLk own i y cc' nL' rt' 3) (hiv : Cond.instanceMethod y ∈ zT ∧ Cond.selects y.cls y y ∈ zT) (he : h[q0]? = some (.inr (ci, fs))) (hc : zcl[ci]? = some (y.cls, T, N)) (hR : d + 1 ≤ R.frames ∧ 8 + (nL' + 11) + 38 * d ≤ R.locals) (hcat : (rest.map fun v => v.category).sum ≤ 8) (hf : k + mc' ≤ R.cells ∧ n + ms' ≤ R.slots) (hd : decode cc pc = .ok (.invokevirtual i, 3)) (kk : ∀ (r : Option Value) (h' : List va_E), Q' r h' → zJ l g own cc nL rt nm R mc ms Q (k + mc') (n + ms') (pc + 3) ls (r.toList ++ rest) (h')) : zJ l g own cc nL rt nm R mc ms Q k n pc ls (v3 :: v2 :: v1 :: .ref (g.2.1 + q0) :: rest) h := z_callV (As := [v1, v2, v3]) hM hk hiv rfl he hc hR hcat hf hd kk
theorem z_S3 {v1 v2 v3 : Value} (hM : zM l g y cc' nL' rt' d mc' ms' [v1, v2, v3] h Q') (hk : zLk own i y cc' nL' rt' 3) (hst : Cond.static y ∈ zT) (hR : d + 1 ≤ R.frames ∧ 8 + (nL' + 11) + 38 * d ≤ R.locals) (hcat : (rest.map fun v => v.category).sum ≤ 8) (hf : k + mc' ≤ R.cells ∧ n + ms' ≤ R.slots) (hd : decode cc pc = .ok (.invokestatic i, 3)) (kk : ∀ (r : Option Value) (h' : List va_E), Q' r h' → zJ l g own cc nL rt nm R mc ms Q (k + mc') (n + ms') (pc + 3) ls (r.toList ++ rest) (h')) : zJ l g own cc nL rt nm R mc ms Q k n pc ls (v3 :: v2 :: v1 :: rest) h := z_callS (As := [v1, v2, v3]) hM hk hst rfl hR hcat hf hd kk
theorem z_V4 {q0 ci N : Nat} {T : u_T} {fs : List Value} {v1 v2 v3 v4 : Value} (hM : zM l g y cc' nL' rt' d mc' ms' [.ref (g.2.1 + q0), v1, v2, v3, v4] h Q') (hk : zLk own i y cc' nL' rt' 4) (hiv : Cond.instanceMethod y ∈ zT ∧ Cond.selects y.cls y y ∈ zT) (he : h[q0]? = some (.inr (ci, fs))) (hc : zcl[ci]? = some (y.cls, T, N)) (hR : d + 1 ≤ R.frames ∧ 8 + (nL' + 11) + 38 * d ≤ R.locals) (hcat : (rest.map fun v => v.category).sum ≤ 8) (hf : k + mc' ≤ R.cells ∧ n + ms' ≤ R.slots) (hd : decode cc pc = .ok (.invokevirtual i, 3)) (kk : ∀ (r : Option Value) (h' : List va_E), Q' r h' → zJ l g own cc nL rt nm R mc ms Q (k + mc') (n + ms') (pc + 3) ls (r.toList ++ rest) (h')) : zJ l g own cc nL rt nm R mc ms Q k n pc ls (v4 :: v3 :: v2 :: v1 :: .ref (g.2.1 + q0) :: rest) h := z_callV (As := [v1, v2, v3, v4]) hM hk hiv rfl he hc hR hcat hf hd kk
theorem z_S4 {v1 v2 v3 v4 : Value} (hM : zM l g y cc' nL' rt' d mc' ms' [v1, v2, v3, v4] h Q') (hk : zLk own i y cc' nL' rt' 4) (hst : Cond.static y ∈ zT) (hR : d + 1 ≤ R.frames ∧ 8 + (nL' + 11) + 38 * d ≤ R.locals) (hcat : (rest.map fun v => v.category).sum ≤ 8) (hf : k + mc' ≤ R.cells ∧ n + ms' ≤ R.slots) (hd : decode cc pc = .ok (.invokestatic i, 3)) (kk : ∀ (r : Option Value) (h' : List va_E), Q' r h' → zJ l g own cc nL rt nm R mc ms Q (k + mc') (n + ms') (pc + 3) ls (r.toList ++ rest) (h')) : zJ l g own cc nL rt nm R mc ms Q k n pc ls (v4 :: v3 :: v2 :: v1 :: rest) h := z_callS (As := [v1, v2, v3, v4]) hM hk hst rfl hR hcat hf hd kk
theorem z_new {C : String} {T : u_T} {N ci : Nat} (hin : ∀ w ∈ u_ws C T N, w ∈ zT) (ty0 : Nat → FieldType) (hty : ∀ k, k < N → parseFieldDescriptor (T k).2.2.1 = some (ty0 k)) (hc : zcl[ci]? = some (C, T, N)) (hcl : Cond.classLink own i C ∈ zT) (hit : Cond.instantiable C N ∈ zT) (hini : Cond.initialized C ∈ zT) {fs : List Value} (hfs : ∀ j, j < N → defaultValue (ty0 j) = vp_V fs j) (hf : k + 1 ≤ R.cells ∧ n + N ≤ R.slots) (hd : decode cc pc = .ok (.new i, 3)) (kk : zJ l g own cc nL rt nm R mc ms Q (k + 1) (n + N) (pc + 3) ls (.ref (g.2.1 + h.length) :: st) (h ++ [.inr (ci, fs)])) : zJ l g own cc nL rt nm R mc ms Q k n pc ls st h := by
  intro p e s m args below meth c H locs la hC hw hS hl
  have hKn := hw.2.2.1 ci _ hc
  refine W.newcK hC.1 hC.2.1 hC.2.2.2.1 (hC.2.2.2.2.1 _ hcl) (hC.2.2.2.2.1 _ hit) (hC.2.2.2.2.1 _ hini) rfl hd hf.1 hf.2 hKn.2.1 rfl fun H1 kC hkC e1 z1 o1 => ?_
  have hb : va_at g.1 zcl (H.size, .inr (ci, fs)) H1 := ⟨_, hc, (u_born ty0 hC.2.2.2.2.1 hin hKn hkC e1 hty).to hfs⟩
  have hw1 := zw_push (e := .inr (ci, fs)) hw hb z1 o1
  have kk2 := kk p e s m args below meth c H1 locs la hC hw1 ⟨Nat.le_trans hS.1 (by omega), fun x h1 h2 => (o1 x (Nat.lt_of_lt_of_le h1 hS.1)).trans (hS.2.1 x h1 h2), hS.2.2⟩ hl
  rw [← hw.2.1] at kk2
  exact kk2
theorem z_newI {N2 : Nat} {z : Int} (hz : z = N2) (hN : N2 ≤ 60000000) (harr : Cond.arrayClass .int ∈ zT) (hf : k + 1 ≤ R.cells ∧ n + N2 ≤ R.slots) (hd : decode cc pc = .ok (.newarray .int, 2)) (kk : zJ l g own cc nL rt nm R mc ms Q (k + 1) (n + N2) (pc + 2) ls (.ref (g.2.1 + h.length) :: st) (h ++ [zA g N2 (fun _ => 0)])) : zJ l g own cc nL rt nm R mc ms Q k n pc ls (.int (iz z) :: st) h := by
  intro p e s m args below meth c H locs la hC hw hS hl
  subst hz
  have hr : ir (N2 : Int) := ⟨by omega, by omega⟩
  refine va_newaK (atype := .int) (N := N2) hC.1 hC.2.1 (hC.2.2.2.2.1 _ harr) rfl hd rfl (fun q => by rw [← iz_0, iz_lt hr ir_0] at q; omega) (by rw [iz_cl hr]; simp) (by show N2 * _ ≤ _; simp [newarray.typeOf, componentBytes]; omega) hf.1 hf.2 rfl fun H1 cA e1 z1 o1 hAr hNm => ?_
  have hcA : cA = g.2.2 0 := Option.some.inj (hNm.symm.trans (hw.2.2.2 0 _ rfl).2)
  subst hcA
  have hb : va_at g.1 zcl (H.size, zA g N2 (fun _ => 0)) H1 := by
    show H1[H.size]? = some (vp_cell _ _)
    rw [e1, vp_cell_i]
    rfl
  have hw1 := zw_push hw hb z1 o1
  have kk2 := kk p e s m args below meth c H1 locs la hC hw1 ⟨Nat.le_trans hS.1 (by omega), fun x h1 h2 => (o1 x (Nat.lt_of_lt_of_le h1 hS.1)).trans (hS.2.1 x h1 h2), hS.2.2⟩ hl
  rw [← hw.2.1] at kk2
  exact kk2
theorem z_newZ {N2 : Nat} {z : Int} (hz : z = N2) (hN : N2 ≤ 60000000) (harr : Cond.arrayClass .boolean ∈ zT) (hf : k + 1 ≤ R.cells ∧ n + N2 ≤ R.slots) (hd : decode cc pc = .ok (.newarray .boolean, 2)) (kk : zJ l g own cc nL rt nm R mc ms Q (k + 1) (n + N2) (pc + 2) ls (.ref (g.2.1 + h.length) :: st) (h ++ [zB g N2 (fun _ => 0)])) : zJ l g own cc nL rt nm R mc ms Q k n pc ls (.int (iz z) :: st) h := by
  intro p e s m args below meth c H locs la hC hw hS hl
  subst hz
  have hr : ir (N2 : Int) := ⟨by omega, by omega⟩
  refine va_newaK (atype := .boolean) (N := N2) hC.1 hC.2.1 (hC.2.2.2.2.1 _ harr) rfl hd rfl (fun q => by rw [← iz_0, iz_lt hr ir_0] at q; omega) (by rw [iz_cl hr]; simp) (by show N2 * _ ≤ _; simp [newarray.typeOf, componentBytes]; omega) hf.1 hf.2 rfl fun H1 cA e1 z1 o1 hAr hNm => ?_
  have hcA : cA = g.2.2 1 := Option.some.inj (hNm.symm.trans (hw.2.2.2 1 _ rfl).2)
  subst hcA
  have hb : va_at g.1 zcl (H.size, zB g N2 (fun _ => 0)) H1 := by
    show H1[H.size]? = some (vp_cell _ _)
    rw [e1, vp_cell_i]
    rfl
  have hw1 := zw_push hw hb z1 o1
  have kk2 := kk p e s m args below meth c H1 locs la hC hw1 ⟨Nat.le_trans hS.1 (by omega), fun x h1 h2 => (o1 x (Nat.lt_of_lt_of_le h1 hS.1)).trans (hS.2.1 x h1 h2), hS.2.2⟩ hl
  rw [← hw.2.1] at kk2
  exact kk2
theorem z_newL {N2 : Nat} {z : Int} (hz : z = N2) (hN : N2 ≤ 60000000) (harr : Cond.arrayClass .long ∈ zT) (hf : k + 1 ≤ R.cells ∧ n + N2 ≤ R.slots) (hd : decode cc pc = .ok (.newarray .long, 2)) (kk : zJ l g own cc nL rt nm R mc ms Q (k + 1) (n + N2) (pc + 2) ls (.ref (g.2.1 + h.length) :: st) (h ++ [zL g N2 (fun _ => 0)])) : zJ l g own cc nL rt nm R mc ms Q k n pc ls (.int (iz z) :: st) h := by
  intro p e s m args below meth c H locs la hC hw hS hl
  subst hz
  have hr : ir (N2 : Int) := ⟨by omega, by omega⟩
  refine va_newaK (atype := .long) (N := N2) hC.1 hC.2.1 (hC.2.2.2.2.1 _ harr) rfl hd rfl (fun q => by rw [← iz_0, iz_lt hr ir_0] at q; omega) (by rw [iz_cl hr]; simp) (by show N2 * _ ≤ _; simp [newarray.typeOf, componentBytes]; omega) hf.1 hf.2 rfl fun H1 cA e1 z1 o1 hAr hNm => ?_
  have hcA : cA = g.2.2 2 := Option.some.inj (hNm.symm.trans (hw.2.2.2 2 _ rfl).2)
  subst hcA
  have hb : va_at g.1 zcl (H.size, zL g N2 (fun _ => 0)) H1 := by
    show H1[H.size]? = some (vp_cell _ _)
    rw [e1, vp_cell_l]
    rfl
  have hw1 := zw_push hw hb z1 o1
  have kk2 := kk p e s m args below meth c H1 locs la hC hw1 ⟨Nat.le_trans hS.1 (by omega), fun x h1 h2 => (o1 x (Nat.lt_of_lt_of_le h1 hS.1)).trans (hS.2.1 x h1 h2), hS.2.2⟩ hl
  rw [← hw.2.1] at kk2
  exact kk2
theorem z_newB {N2 : Nat} {z : Int} (hz : z = N2) (hN : N2 ≤ 60000000) (hcl : Cond.classLink own i "BoughtAhead$Book" ∈ zT) (hf : k + 1 ≤ R.cells ∧ n + N2 ≤ R.slots) (hd : decode cc pc = .ok (.anewarray i, 3)) (kk : zJ l g own cc nL rt nm R mc ms Q (k + 1) (n + N2) (pc + 3) ls (.ref (g.2.1 + h.length) :: st) (h ++ [zR g N2 (fun _ => none)])) : zJ l g own cc nL rt nm R mc ms Q k n pc ls (.int (iz z) :: st) h := by
  intro p e s m args below meth c H locs la hC hw hS hl
  subst hz
  have hr : ir (N2 : Int) := ⟨by omega, by omega⟩
  have hcl2 : (iz (N2 : Int)).toNatClampNeg = N2 := by rw [iz_cl hr]; simp
  refine W.anew hC.1 hC.2.1 hC.2.2.2.1 (hC.2.2.2.2.1 _ hcl) (va_AO.use hC.2.2.2.2.2.2.2.2.2) rfl hd rfl (fun q => by rw [← iz_0, iz_lt hr ir_0] at q; omega) (by rw [hcl2]; omega) hf.1 (by rw [hcl2]; exact hf.2) fun cA kA comp f1 f2 f3 f4 => ?_
  rw [hcl2]
  generalize hH1 : H.push ({ cls := cA, slots := Array.replicate N2 .null, vm := .none } : Cell) = H1
  have z1 : H1.size = H.size + 1 := by rw [← hH1, Array.size_push]
  have e1 : H1[H.size]? = some (arrV cA N2 (fun _ => .null)) := by rw [← hH1, Array.getElem?_push_size, ← arrV_new]
  have o1 : ∀ q : Nat, q < H.size → H1[q]? = H[q]? := fun q hq => by rw [← hH1, Array.getElem?_push, if_neg (Nat.ne_of_lt hq)]
  obtain ⟨kA2, comp2, j1, j2, j3, j4⟩ := (hw.2.2.2 3 _ rfl).2
  have hcA : cA = g.2.2 3 := by first | exact Option.some.inj (f1.symm.trans j4) | exact Option.some.inj (f4.symm.trans j4)
  subst hcA
  have hb : va_at g.1 zcl (H.size, zR g N2 (fun _ => none)) H1 := by
    show H1[H.size]? = some (vp_cell _ _)
    rw [e1, vp_cell_q]
    rfl
  have hw1 := zw_push hw hb z1 o1
  have kk2 := kk p e s m args below meth c H1 locs la hC hw1 ⟨Nat.le_trans hS.1 (by omega), fun x h1 h2 => (o1 x (Nat.lt_of_lt_of_le h1 hS.1)).trans (hS.2.1 x h1 h2), hS.2.2⟩ hl
  rw [← hw.2.1] at kk2
  exact kk2
theorem z_aast {q0 q1 n2 : Nat} {vs : List Value} {f : Nat → Option Nat} {z : Int} (he : h[q0]? = some (zR g n2 f)) (hv : h[q1]? = some (.inr (1, vs))) (hn2 : n2 ≤ 2147483647) (h0 : 0 ≤ z) (h1 : z < n2) (hd : decode cc pc = .ok (.aastore, 1)) (kk : zJ l g own cc nL rt nm R mc ms Q k n (pc + 1) ls st (h.set q0 (zR g n2 (vf_upd f z.toNat (some (g.2.1 + q1)))))) : zJ l g own cc nL rt nm R mc ms Q k n pc ls (.ref (g.2.1 + q1) :: .int (iz z) :: .ref (g.2.1 + q0) :: st) h := by
  intro p e s m args below meth c H locs la hC hw hS hl
  obtain ⟨hi, hcl⟩ := iz_in hn2 h0 h1
  have hlt : (iz z).toNatClampNeg < n2 := Nat.not_le.mp fun q => hi (Or.inr q)
  obtain ⟨r', hr', cellV, g1, g2, g3, -⟩ := hw.1 q1 _ (zws_at hv)
  have hcls := (hw.2.2.1 1 _ rfl).2
  obtain ⟨kA, comp, k1, k2, k3, -⟩ := (hw.2.2.2 3 _ rfl).2
  have hcomp : comp = g.1.1 1 := Option.some.inj (k3.symm.trans hcls.1)
  subst hcomp
  obtain ⟨kC, hkC, -⟩ := hcls.2
  refine W.aast hC.1 hC.2.1 (hw.1 q0 _ (zws_at he)) (fun q h => by cases h) (fun h => by cases h) k1 k2 rfl hkC ⟨fun q => hi (Or.inl q), by show _ < (arrV _ _ _).slots.size; rw [arrV_size]; exact hlt⟩ g1 (fun q h => by rw [g3] at h; cases h) (by rw [g2]; exact hkC) (by rw [g2]; exact va_assign hcls) rfl rfl hd fun H1 e1 e2 e3 => ?_
  refine kk p e s m args below meth c H1 _ la hC (zw_set hw he ?_ e2 e3) (hS.put e2 e3 (Nat.le_add_right _ _)) hl
  show H1[_]? = some (vp_cell _ _)
  rw [e1, vp_cell_q, vp_cell_q, arrV_store, hcl]
  congr 2
  funext q
  by_cases hq : q = z.toNat
  · subst hq
    simp [updV, vf_upd, va_rf]
  · simp [updV, vf_upd, hq]
end ZCALLS
