/-! ===== the law: its loop, its start ===== -/
section LOOP
variable {p : Program} {l : Launch} {e : Env} {s : State} {m : MethodId} {below : List Frame} {meth : Method} {c : Code} {sb : Nat} {g : zG}
theorem law_loop (hC : zC RL code 4 ret meth.name p s m #[Value.ref sb] meth c) {L : Nat} {xs : Nat → Int32} (hX : va_X sb L xs s s.heap) (hbl : sb < s.heap.size) (hg : g.2.1 = s.heap.size) (hL : L ≤ 2560) : ∀ (f j : Nat), 5 * j ≤ L → L + 1 ≤ 5 * j + f → ∀ (F : Nat → Nat → Int) (Lf : Nat → Int) (im : Nat → Option Nat) (ci : Nat), Rl g F im ci → zY p l e s m below meth c sb g (44 + 7 * j) (7909 + 750 * j) 18 [some (.ref sb), some (.ref (g.2.1 + 0)), some (.ref (g.2.1 + 23)), some (.int (iz ((5 * j : Nat) : Int)))] [] (zk g F Lf im ci) := by
  intro f
  induction f with
  | zero => intro j h1 h2; exact absurd h2 (by omega)
  | succ f ih =>
    intro j h1 h2 F Lf im ci hR
    refine y_iload_n hC (pc := 18) rfl dL_law_18 ?_
    refine y_aload_n hC (pc := 19) rfl dL_law_19 ?_
    refine y_slen hC (pc := 20) hX hbl hg dL_law_20 ?_
    refine y_iconst hC (pc := 21) dL_law_21 ?_
    refine y_isub hC (pc := 22) dL_law_22 ?_
    refine y_icmp_gt hC (pc := 23) ⟨by omega, by omega⟩ ⟨by omega, by omega⟩ 751 (by decide) dL_law_23 (fun hq => ?_) (fun hq => ?_)
    · refine y_iconst hC (pc := 751) dL_law_751 ?_
      exact y_end hC hg (by omega) (by omega) dL_law_752
    · have hi : 5 * j + 5 ≤ L := by omega
      have hk : 44 + 7 * j + 7 ≤ 600000 := by omega
      have hn : 7909 + 750 * j + 750 ≤ 7302250 := by omega
      have next : ∀ (F2 : Nat → Nat → Int) (L2 : Nat → Int) (im2 : Nat → Option Nat) (c2 : Nat), Rl g F2 im2 c2 → zY p l e s m below meth c sb g (44 + 7 * j + 7) (7909 + 750 * j + 750) 745 [some (.ref sb), some (.ref (g.2.1 + 0)), some (.ref (g.2.1 + 23)), some (.int (iz ((5 * j : Nat) : Int)))] [] (zk g F2 L2 im2 c2) := by
        intro F2 L2 im2 c2 hR2
        have K := ih (j + 1) (by omega) (by omega) F2 L2 im2 c2 hR2
        rw [show 44 + 7 * (j + 1) = 44 + 7 * j + 7 by omega, show 7909 + 750 * (j + 1) = 7909 + 750 * j + 750 by omega, show ((5 * (j + 1) : Nat) : Int) = ((5 * j : Nat) : Int) + 5 by omega] at K
        refine y_ii3 hC (pc := 745) (by decide) rfl dL_law_745 ?_
        exact y_goto hC (pc := 748) 18 (by decide) dL_law_748 K
      refine y_aload_n hC (pc := 26) rfl dL_law_26 ?_
      refine y_iload_n hC (pc := 27) rfl dL_law_27 ?_
      refine y_sld hC (pc := 28) hX hbl hg hL (j := 5 * j) rfl (by omega) dL_law_28 ?_
      refine y_bipush hC (pc := 29) (by decide) dL_law_29 ?_
      refine y_iand hC (pc := 31) dL_law_31 ?_
      refine y_top hC (iz_of _) ?_
      have ha := ir_toInt (iz (xs (5 * j)).toInt &&& iz 31)
      generalize (iz (xs (5 * j)).toInt &&& iz 31).toInt = a at ha ⊢
      rcases (show a = 0 ∨ a = 1 ∨ a = 2 ∨ a = 3 ∨ a = 4 ∨ a = 5 ∨ a = 6 ∨ a = 7 ∨ a = 8 ∨ a = 9 ∨ a = 10 ∨ a = 11 ∨ a = 12 ∨ a = 13 ∨ a = 14 ∨ a = 15 ∨ a = 16 ∨ a = 17 ∨ a = 18 ∨ (a < 0 ∨ 18 < a) by omega) with rfl | rfl | rfl | rfl | rfl | rfl | rfl | rfl | rfl | rfl | rfl | rfl | rfl | rfl | rfl | rfl | rfl | rfl | rfl | ho
      · exact y_tsIn hC (pc := 32) (off := 92) 124 ha (by decide) (by decide) (by decide) (by decide) dL_law_32 (law_hours hC hX hbl hg hL hi hR hk hn next)
      · exact y_tsIn hC (pc := 32) (off := 115) 147 ha (by decide) (by decide) (by decide) (by decide) dL_law_32 (law_kind hC hX hbl hg hL hi hR hk hn next)
      · exact y_tsIn hC (pc := 32) (off := 138) 170 ha (by decide) (by decide) (by decide) (by decide) dL_law_32 (law_offer hC hX hbl hg hL hi hR hk hn next)
      · exact y_tsIn hC (pc := 32) (off := 181) 213 ha (by decide) (by decide) (by decide) (by decide) dL_law_32 (law_reprice hC hX hbl hg hL hi hR hk hn next)
      · exact y_tsIn hC (pc := 32) (off := 214) 246 ha (by decide) (by decide) (by decide) (by decide) dL_law_32 (law_need hC hX hbl hg hL hi hR hk hn next)
      · exact y_tsIn hC (pc := 32) (off := 267) 299 ha (by decide) (by decide) (by decide) (by decide) dL_law_32 (law_needs hC hX hbl hg hL hi hR hk hn next)
      · exact y_tsIn hC (pc := 32) (off := 320) 352 ha (by decide) (by decide) (by decide) (by decide) dL_law_32 (law_buy hC hX hbl hg hL hi hR hk hn next)
      · exact y_tsIn hC (pc := 32) (off := 363) 395 ha (by decide) (by decide) (by decide) (by decide) dL_law_32 (law_clear hC hX hbl hg hL hi hR hk hn next)
      · exact y_tsIn hC (pc := 32) (off := 386) 418 ha (by decide) (by decide) (by decide) (by decide) dL_law_32 (law_tell hC hX hbl hg hL hi hR hk hn next)
      · exact y_tsIn hC (pc := 32) (off := 429) 461 ha (by decide) (by decide) (by decide) (by decide) dL_law_32 (law_cost hC hX hbl hg hL hi hR hk hn next)
      · exact y_tsIn hC (pc := 32) (off := 453) 485 ha (by decide) (by decide) (by decide) (by decide) dL_law_32 (law_best hC hX hbl hg hL hi hR hk hn next)
      · exact y_tsIn hC (pc := 32) (off := 477) 509 ha (by decide) (by decide) (by decide) (by decide) dL_law_32 (law_price hC hX hbl hg hL hi hR hk hn next)
      · exact y_tsIn hC (pc := 32) (off := 510) 542 ha (by decide) (by decide) (by decide) (by decide) dL_law_32 (law_more hC hX hbl hg hL hi hR hk hn next)
      · exact y_tsIn hC (pc := 32) (off := 553) 585 ha (by decide) (by decide) (by decide) (by decide) dL_law_32 (law_blind hC hX hbl hg hL hi hR hk hn next)
      · exact y_tsIn hC (pc := 32) (off := 577) 609 ha (by decide) (by decide) (by decide) (by decide) dL_law_32 (law_pays hC hX hbl hg hL hi hR hk hn next)
      · exact y_tsIn hC (pc := 32) (off := 611) 643 ha (by decide) (by decide) (by decide) (by decide) dL_law_32 (law_about hC hX hbl hg hL hi hR hk hn next)
      · exact y_tsIn hC (pc := 32) (off := 644) 676 ha (by decide) (by decide) (by decide) (by decide) dL_law_32 (law_count hC hX hbl hg hL hi hR hk hn next)
      · exact y_tsIn hC (pc := 32) (off := 667) 699 ha (by decide) (by decide) (by decide) (by decide) dL_law_32 (law_image hC hX hbl hg hL hi hR hk hn next)
      · exact y_tsIn hC (pc := 32) (off := 690) 722 ha (by decide) (by decide) (by decide) (by decide) dL_law_32 (law_again hC hX hbl hg hL hi hR hk hn next)
      · exact y_tsOut hC (pc := 32) 745 ha ho (by decide) dL_law_32 (y_wide (by omega) (by omega) (next F Lf im ci hR))
end LOOP
def F00 : Nat → Nat → Int := fun q => if q = 1 then (fun j => if j = 0 then 24 else 0) else if q = 24 then vf_upd (fun _ => 0) 0 24 else fun _ => 0
theorem F00_0 {q : Nat} (h1 : q ≠ 1) (h2 : q ≠ 24) (j : Nat) : F00 q j = 0 := by
  unfold F00
  rw [if_neg h1, if_neg h2]
theorem Rl_0 {g : zG} : Rl g F00 (fun _ => none) 0 := by
  have z : ∀ q j, q ≠ 1 → q ≠ 24 → F00 q j = 0 := fun q j h1 h2 => F00_0 h1 h2 j
  refine ⟨⟨⟨by decide, by decide⟩, ⟨by decide, by decide⟩, ⟨by decide, by decide⟩, fun j => ?_, fun j hj => ?_, fun j => ?_, fun j hj => ?_, fun j => ?_, fun j hj => ?_, fun j => ?_, fun j => ?_, fun j => ?_, fun o t _ _ _ => ?_⟩, rl_rq ⟨rfl, rfl, rfl, fun j _ => rfl, fun j _ => ⟨rfl, rfl, rfl⟩, fun _ _ _ _ _ _ => rfl⟩ (fun _ _ _ _ => rfl), ⟨fun v => ?_, fun v => ?_, fun v => ?_, fun v => ?_, fun v => ?_⟩, rfl, rfl, fun k _ => Or.inl ⟨rfl, rfl⟩, fun k k2 _ _ h _ => absurd rfl h⟩
  · rw [z _ _ (by decide) (by decide)]; decide
  · have h0 : (j : Int) < 0 := hj
    omega
  · rw [z _ _ (by decide) (by decide)]; decide
  · have h0 : (j : Int) < 0 := hj
    omega
  · rw [z _ _ (by decide) (by decide)]; decide
  · have h0 : (j : Int) < 0 := hj
    omega
  · rw [z _ _ (by decide) (by decide)]; decide
  · rw [z _ _ (by decide) (by decide)]; decide
  · rw [z _ _ (by decide) (by decide)]; decide
  · exact z _ _ (by decide) (by decide)
  · rw [z _ _ (by decide) (by decide)]; decide
  · rw [z _ _ (by decide) (by decide)]; decide
  · rw [z _ _ (by decide) (by decide)]; decide
  · rw [z _ _ (by decide) (by decide)]; decide
  · exact Or.inl (z _ _ (by decide) (by decide))

section START
variable {p : Program} {l : Launch} {e : Env} {s : State} {m : MethodId} {below : List Frame} {meth : Method} {c : Code} {sb : Nat} {g : zG}
theorem law_start (hC : zC RL code 4 ret meth.name p s m #[Value.ref sb] meth c) {L : Nat} {xs : Nat → Int32} (hX : va_X sb L xs s s.heap) (hbl : sb < s.heap.size) (hg : g.2.1 = s.heap.size) (hL : L ≤ 2560) : zY p l e s m below meth c sb g 0 0 0 [some (.ref sb), none, none, none] [] [] := by
  refine y_new hC (pc := 0) (C := RX4) (T := TX4) (N := 5) (ci := 4) zin_X4 tyX4 tyX4_ok rfl cl_L_7 nw_X4 nwi_X4 (fs := [.null, .null, .null, .null, .null]) (by decide +kernel) ⟨Nat.le_of_ble_eq_true rfl, Nat.le_of_ble_eq_true rfl⟩ dL_law_0 ?_
  refine y_topR (show _ = 0 from rfl) ?_
  refine y_hp (show _ = [.inr (4, [.null, .null, .null, .null, .null])] from rfl) ?_
  refine y_dup hC (pc := 3) rfl dL_law_3 ?_
  refine y_I0 hC (pc := 4) (q0 := 0) c_init_X4 lk_L_9 in_X4_init rfl ⟨by decide, by decide⟩ (Nat.le_of_ble_eq_true rfl) ⟨Nat.le_of_ble_eq_true rfl, Nat.le_of_ble_eq_true rfl⟩ dL_law_4 (fun r h9 hq => ?_)
  obtain ⟨rfl, e9⟩ := hq
  rw [e9]
  clear e9 h9
  refine y_r0 ?_
  refine y_as1 hC (pc := 7) (by decide) rfl dL_law_7 ?_
  refine y_new hC (pc := 8) (C := RX5) (T := TX5) (N := 21) (ci := 5) zin_X5 tyX5 tyX5_ok rfl cl_L_10 nw_X5 nwi_X5 (fs := [.int (iz 0), .null, .null, .null, .null, .null, .null, .null, .null, .null, .null, .null, .null, .null, .null, .null, .null, .null, .null, .null, .null]) (by decide +kernel) ⟨Nat.le_of_ble_eq_true rfl, Nat.le_of_ble_eq_true rfl⟩ dL_law_8 ?_
  refine y_topR (show _ = 23 from rfl) ?_
  refine y_dup hC (pc := 11) rfl dL_law_11 ?_
  refine y_I0 hC (pc := 12) (q0 := 23) (c_init_X5 (h := [.inr (4, [.ref (g.2.1 + 1), .ref (g.2.1 + 8), .ref (g.2.1 + 9), .ref (g.2.1 + 17), .ref (g.2.1 + 19)]), .inr (1, [.int (iz 24), .int (iz 0), .int (iz 0), .ref (g.2.1 + 2), .ref (g.2.1 + 3), .ref (g.2.1 + 4), .ref (g.2.1 + 5), .ref (g.2.1 + 6), .ref (g.2.1 + 7)]), zA g 3 (fun _ => 0), zA g 6 (fun _ => 0), zA g 6 (fun _ => 0), zA g 6 (fun _ => 0), zA g 480 (fun _ => 0), zA g 240 (fun _ => 0), zR g 3 (fun _ => none), .inr (2, [.int (iz 0), .int (iz 0), .ref (g.2.1 + 10), .ref (g.2.1 + 11), .ref (g.2.1 + 12), .ref (g.2.1 + 13), .ref (g.2.1 + 14), .ref (g.2.1 + 15), .ref (g.2.1 + 16)]), zA g 8 (fun _ => 0), zA g 8 (fun _ => 0), zA g 328 (fun _ => 0), zA g 41 (fun _ => 0), zA g 41 (fun _ => 0), zA g 41 (fun _ => 0), zB g 41 (fun _ => 0), .inr (0, [.ref (g.2.1 + 18)]), zA g 40 (fun _ => 0), .inr (3, [.ref (g.2.1 + 20), .ref (g.2.1 + 21), .ref (g.2.1 + 22)]), zA g 4 (fun _ => 0), zA g 4 (fun _ => 0), zA g 4 (fun _ => 0)])) lk_L_12 in_X5_init rfl ⟨by decide, by decide⟩ (Nat.le_of_ble_eq_true rfl) ⟨Nat.le_of_ble_eq_true rfl, Nat.le_of_ble_eq_true rfl⟩ dL_law_12 (fun r h9 hq => ?_)
  obtain ⟨rfl, e9⟩ := hq
  rw [e9]
  clear e9 h9
  refine y_r0 ?_
  refine y_hp (show _ = zk g F00 (fun _ => 0) (fun _ => none) 0 from rfl) ?_
  refine y_as2 hC (pc := 15) (by decide) rfl dL_law_15 ?_
  refine y_iconst hC (pc := 16) dL_law_16 ?_
  refine y_is3 hC (pc := 17) (by decide) rfl dL_law_17 ?_
  exact law_loop hC hX hbl hg hL (L + 1) 0 (by omega) (by omega) F00 (fun _ => 0) (fun _ => none) 0 Rl_0
end START
theorem law_known {s : State} {A : Array Value} (hts : ∀ w ∈ zT, w.before A s = true) (hao : (Cond.arrayOver (.object "BoughtAhead$Book")).before A s = true) : ∃ g : zG, g.2.1 = s.heap.size ∧ va_K g.1 zcl (ztys g) s := by
  obtain ⟨c0, i0, k0⟩ := u_known (C := RX0) (T := TX0) (N := 1) (n := 1) hts zin_X0 (hts _ nw_X0)
  obtain ⟨c1, i1, k1⟩ := u_known (C := RX1) (T := TX1) (N := 9) (n := 9) hts zin_X1 (hts _ nw_X1)
  obtain ⟨c2, i2, k2⟩ := u_known (C := RX2) (T := TX2) (N := 9) (n := 9) hts zin_X2 (hts _ nw_X2)
  obtain ⟨c3, i3, k3⟩ := u_known (C := RX3) (T := TX3) (N := 3) (n := 3) hts zin_X3 (hts _ nw_X3)
  obtain ⟨c4, i4, k4⟩ := u_known (C := RX4) (T := TX4) (N := 5) (n := 5) hts zin_X4 (hts _ nw_X4)
  obtain ⟨c5, i5, k5⟩ := u_known (C := RX5) (T := TX5) (N := 21) (n := 21) hts zin_X5 (hts _ nw_X5)
  obtain ⟨a0, b0, d0, x0, y0, z0⟩ := Cond.arrayClass_spec (hts _ ar_int)
  obtain ⟨a1, b1, d1, x1, y1, z1⟩ := Cond.arrayClass_spec (hts _ ar_boolean)
  obtain ⟨a2, b2, d2, x2, y2, z2⟩ := Cond.arrayClass_spec (hts _ ar_long)
  obtain ⟨d3, a3, b3, x3, -, y3, z3, w3⟩ := Cond.arrayOver_spec hao
  refine ⟨((fun k => if k = 0 then c0 else if k = 1 then c1 else if k = 2 then c2 else if k = 3 then c3 else if k = 4 then c4 else c5, fun k => if k = 0 then i0 else if k = 1 then i1 else if k = 2 then i2 else if k = 3 then i3 else if k = 4 then i4 else i5), s.heap.size, fun k => if k = 0 then a0 else if k = 1 then a1 else if k = 2 then a2 else a3), rfl, fun k q hq => ?_, fun k q hq => ?_⟩
  · match k, hq with
    | 0, hq => cases hq; exact k0
    | 1, hq => cases hq; exact k1
    | 2, hq => cases hq; exact k2
    | 3, hq => cases hq; exact k3
    | 4, hq => cases hq; exact k4
    | 5, hq => cases hq; exact k5
    | k + 6, hq => simp [zcl] at hq
  · match k, hq with
    | 0, hq => cases hq; exact ⟨fun n z => ⟨fun k h => (by cases h), b0, y0, d0, z0⟩, x0⟩
    | 1, hq => cases hq; exact ⟨fun n z => ⟨fun k h => (by cases h), b1, y1, d1, z1⟩, x1⟩
    | 2, hq => cases hq; exact ⟨fun n z => ⟨fun k h => (by cases h), b2, y2, d2, z2⟩, x2⟩
    | 3, hq => cases hq; exact ⟨fun n z => ⟨fun k h => (by cases h), b3, y3, d3, z3⟩, b3, d3, y3, z3, x3, w3⟩
    | k + 4, hq => simp [ztys] at hq
theorem ao_in : Cond.arrayOver (.object "BoughtAhead$Book") ∈ lw_tbl := List.mem_append_right _ (List.mem_of_getElem? (i := 73) (by decide +kernel))
