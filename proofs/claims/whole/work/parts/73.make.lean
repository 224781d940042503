/-! ===== makings ===== -/
theorem ap_0 {h t : List va_E} {e : va_E} : (h ++ e :: t)[h.length]? = some e := by
  rw [List.getElem?_append_right (Nat.le_refl _), Nat.sub_self]; rfl
theorem ap_at {h t : List va_E} {q : Nat} : (h ++ t)[h.length + q]? = t[q]? := by
  rw [List.getElem?_append_right (Nat.le_add_right _ _), Nat.add_sub_cancel_left]
theorem ap_set {h t : List va_E} {q : Nat} {e : va_E} : (h ++ t).set (h.length + q) e = h ++ t.set q e := by
  rw [List.set_append_right _ _ (Nat.le_add_right _ _), Nat.add_sub_cancel_left]
theorem ap_s0 {h t : List va_E} {e e2 : va_E} : (h ++ e :: t).set h.length e2 = h ++ e2 :: t := by
  rw [List.set_append_right _ _ (Nat.le_refl _), Nat.sub_self]; rfl
theorem z_topR {l : Launch} {g : zG} {own : String} {cc : ByteArray} {nL : Nat} {rt : Option FieldType} {nm : String} {R : Room} {mc ms : Nat} {Q : Option Value → List va_E → Prop} {k n pc : Nat} {ls : List (Option Value)} {st : List Value} {h : List va_E} {x y : Nat} (e0 : x = y) (kk : zJ l g own cc nL rt nm R mc ms Q k n pc ls (.ref (g.2.1 + y) :: st) h) : zJ l g own cc nL rt nm R mc ms Q k n pc ls (.ref (g.2.1 + x) :: st) h := by rw [e0]; exact kk
theorem z_I0 {l : Launch} {g : zG} {own : String} {cc : ByteArray} {nL : Nat} {rt : Option FieldType} {nm : String} {R : Room} {mc ms : Nat} {Q : Option Value → List va_E → Prop} {k n pc : Nat} {ls : List (Option Value)} {h : List va_E} {y : MethodName} {cc' : ByteArray} {nL' : Nat} {d mc' ms' i : Nat} {Q' : Option Value → List va_E → Prop} {rest : List Value} {q0 : Nat} (hM : zM l g y cc' nL' none d mc' ms' [.ref (g.2.1 + q0)] h Q') (hk : zLk own i y cc' nL' none 0) (hin : Cond.instanceMethod y ∈ zT) (hy : y.name = "<init>") (hR : d + 1 ≤ R.frames ∧ 8 + (nL' + 11) + 38 * d ≤ R.locals) (hcat : (rest.map fun v => v.category).sum ≤ 8) (hf : k + mc' ≤ R.cells ∧ n + ms' ≤ R.slots) (hd : decode cc pc = .ok (.invokespecial i, 3)) (kk : ∀ (r : Option Value) (h' : List va_E), Q' r h' → zJ l g own cc nL rt nm R mc ms Q (k + mc') (n + ms') (pc + 3) ls (r.toList ++ rest) (h')) : zJ l g own cc nL rt nm R mc ms Q k n pc ls (.ref (g.2.1 + q0) :: rest) h := z_callI (As := []) hM hk hin hy rfl hR hcat hf hd kk
section MAKE
variable {l : Launch} {g : zG}
theorem c_init_X1 {h : List va_E} : zM l g yX1_init cX1_init 1 none 1 6 741 [.ref (g.2.1 + h.length)] (h ++ [.inr (1, [.int (iz 0), .int (iz 0), .int (iz 0), .null, .null, .null, .null, .null, .null])]) (fun r h2 => r = none ∧ h2 = h ++ [.inr (1, [.int (iz 24), .int (iz 0), .int (iz 0), .ref (g.2.1 + (h.length + 1)), .ref (g.2.1 + (h.length + 2)), .ref (g.2.1 + (h.length + 3)), .ref (g.2.1 + (h.length + 4)), .ref (g.2.1 + (h.length + 5)), .ref (g.2.1 + (h.length + 6))]), zA g 3 (fun _ => 0), zA g 6 (fun _ => 0), zA g 6 (fun _ => 0), zA g 6 (fun _ => 0), zA g 480 (fun _ => 0), zA g 240 (fun _ => 0)]) := by
  refine zM_of 0 (by decide) rfl ?_
  show zJ l g RX1 cX1_init 1 none "<init>" (zRm 1 6 741) 6 741 _ 0 0 0 [some (.ref (g.2.1 + h.length))] [] _
  refine z_aload_n (pc := 0) rfl dX1_init_0 ?_
  refine z_objInit (pc := 1) ob_X1_3 ob_in ob_cd ⟨by decide, by decide⟩ (Nat.le_of_ble_eq_true rfl) dX1_init_1 ?_
  refine z_aload_n (pc := 4) rfl dX1_init_4 ?_
  refine z_bipush (pc := 5) (by decide) dX1_init_5 ?_
  refine zp_X1_9 (pc := 7) ap_0 (Nat.le_of_ble_eq_true rfl) dX1_init_7 ?_
  refine z_hp (show _ = h ++ [.inr (1, [.int (iz 24), .int (iz 0), .int (iz 0), .null, .null, .null, .null, .null, .null])] from ap_s0) ?_
  refine z_aload_n (pc := 10) rfl dX1_init_10 ?_
  refine z_iconst (pc := 11) dX1_init_11 ?_
  refine z_newI (pc := 12) (N2 := 3) rfl (by decide) ar_int ⟨Nat.le_of_ble_eq_true rfl, Nat.le_of_ble_eq_true rfl⟩ dX1_init_12 ?_
  refine z_topR (show _ = h.length + 1 by rw [List.length_append]; rfl) ?_
  refine z_hp (show _ = h ++ [.inr (1, [.int (iz 24), .int (iz 0), .int (iz 0), .null, .null, .null, .null, .null, .null]), zA g 3 (fun _ => 0)] from List.append_assoc _ _ _) ?_
  refine zp_X1_15 (pc := 14) rfl ap_0 (Nat.le_of_ble_eq_true rfl) dX1_init_14 ?_
  refine z_hp (show _ = h ++ [.inr (1, [.int (iz 24), .int (iz 0), .int (iz 0), .ref (g.2.1 + (h.length + 1)), .null, .null, .null, .null, .null]), zA g 3 (fun _ => 0)] from ap_s0) ?_
  refine z_aload_n (pc := 17) rfl dX1_init_17 ?_
  refine z_bipush (pc := 18) (by decide) dX1_init_18 ?_
  refine z_newI (pc := 20) (N2 := 6) rfl (by decide) ar_int ⟨Nat.le_of_ble_eq_true rfl, Nat.le_of_ble_eq_true rfl⟩ dX1_init_20 ?_
  refine z_topR (show _ = h.length + 2 by rw [List.length_append]; rfl) ?_
  refine z_hp (show _ = h ++ [.inr (1, [.int (iz 24), .int (iz 0), .int (iz 0), .ref (g.2.1 + (h.length + 1)), .null, .null, .null, .null, .null]), zA g 3 (fun _ => 0), zA g 6 (fun _ => 0)] from List.append_assoc _ _ _) ?_
  refine zp_X1_19 (pc := 22) rfl ap_0 (Nat.le_of_ble_eq_true rfl) dX1_init_22 ?_
  refine z_hp (show _ = h ++ [.inr (1, [.int (iz 24), .int (iz 0), .int (iz 0), .ref (g.2.1 + (h.length + 1)), .ref (g.2.1 + (h.length + 2)), .null, .null, .null, .null]), zA g 3 (fun _ => 0), zA g 6 (fun _ => 0)] from ap_s0) ?_
  refine z_aload_n (pc := 25) rfl dX1_init_25 ?_
  refine z_bipush (pc := 26) (by decide) dX1_init_26 ?_
  refine z_newI (pc := 28) (N2 := 6) rfl (by decide) ar_int ⟨Nat.le_of_ble_eq_true rfl, Nat.le_of_ble_eq_true rfl⟩ dX1_init_28 ?_
  refine z_topR (show _ = h.length + 3 by rw [List.length_append]; rfl) ?_
  refine z_hp (show _ = h ++ [.inr (1, [.int (iz 24), .int (iz 0), .int (iz 0), .ref (g.2.1 + (h.length + 1)), .ref (g.2.1 + (h.length + 2)), .null, .null, .null, .null]), zA g 3 (fun _ => 0), zA g 6 (fun _ => 0), zA g 6 (fun _ => 0)] from List.append_assoc _ _ _) ?_
  refine zp_X1_22 (pc := 30) rfl ap_0 (Nat.le_of_ble_eq_true rfl) dX1_init_30 ?_
  refine z_hp (show _ = h ++ [.inr (1, [.int (iz 24), .int (iz 0), .int (iz 0), .ref (g.2.1 + (h.length + 1)), .ref (g.2.1 + (h.length + 2)), .ref (g.2.1 + (h.length + 3)), .null, .null, .null]), zA g 3 (fun _ => 0), zA g 6 (fun _ => 0), zA g 6 (fun _ => 0)] from ap_s0) ?_
  refine z_aload_n (pc := 33) rfl dX1_init_33 ?_
  refine z_bipush (pc := 34) (by decide) dX1_init_34 ?_
  refine z_newI (pc := 36) (N2 := 6) rfl (by decide) ar_int ⟨Nat.le_of_ble_eq_true rfl, Nat.le_of_ble_eq_true rfl⟩ dX1_init_36 ?_
  refine z_topR (show _ = h.length + 4 by rw [List.length_append]; rfl) ?_
  refine z_hp (show _ = h ++ [.inr (1, [.int (iz 24), .int (iz 0), .int (iz 0), .ref (g.2.1 + (h.length + 1)), .ref (g.2.1 + (h.length + 2)), .ref (g.2.1 + (h.length + 3)), .null, .null, .null]), zA g 3 (fun _ => 0), zA g 6 (fun _ => 0), zA g 6 (fun _ => 0), zA g 6 (fun _ => 0)] from List.append_assoc _ _ _) ?_
  refine zp_X1_25 (pc := 38) rfl ap_0 (Nat.le_of_ble_eq_true rfl) dX1_init_38 ?_
  refine z_hp (show _ = h ++ [.inr (1, [.int (iz 24), .int (iz 0), .int (iz 0), .ref (g.2.1 + (h.length + 1)), .ref (g.2.1 + (h.length + 2)), .ref (g.2.1 + (h.length + 3)), .ref (g.2.1 + (h.length + 4)), .null, .null]), zA g 3 (fun _ => 0), zA g 6 (fun _ => 0), zA g 6 (fun _ => 0), zA g 6 (fun _ => 0)] from ap_s0) ?_
  refine z_aload_n (pc := 41) rfl dX1_init_41 ?_
  refine z_sipush (pc := 42) (by decide) dX1_init_42 ?_
  refine z_newI (pc := 45) (N2 := 480) rfl (by decide) ar_int ⟨Nat.le_of_ble_eq_true rfl, Nat.le_of_ble_eq_true rfl⟩ dX1_init_45 ?_
  refine z_topR (show _ = h.length + 5 by rw [List.length_append]; rfl) ?_
  refine z_hp (show _ = h ++ [.inr (1, [.int (iz 24), .int (iz 0), .int (iz 0), .ref (g.2.1 + (h.length + 1)), .ref (g.2.1 + (h.length + 2)), .ref (g.2.1 + (h.length + 3)), .ref (g.2.1 + (h.length + 4)), .null, .null]), zA g 3 (fun _ => 0), zA g 6 (fun _ => 0), zA g 6 (fun _ => 0), zA g 6 (fun _ => 0), zA g 480 (fun _ => 0)] from List.append_assoc _ _ _) ?_
  refine zp_X1_28 (pc := 47) rfl ap_0 (Nat.le_of_ble_eq_true rfl) dX1_init_47 ?_
  refine z_hp (show _ = h ++ [.inr (1, [.int (iz 24), .int (iz 0), .int (iz 0), .ref (g.2.1 + (h.length + 1)), .ref (g.2.1 + (h.length + 2)), .ref (g.2.1 + (h.length + 3)), .ref (g.2.1 + (h.length + 4)), .ref (g.2.1 + (h.length + 5)), .null]), zA g 3 (fun _ => 0), zA g 6 (fun _ => 0), zA g 6 (fun _ => 0), zA g 6 (fun _ => 0), zA g 480 (fun _ => 0)] from ap_s0) ?_
  refine z_aload_n (pc := 50) rfl dX1_init_50 ?_
  refine z_sipush (pc := 51) (by decide) dX1_init_51 ?_
  refine z_newI (pc := 54) (N2 := 240) rfl (by decide) ar_int ⟨Nat.le_of_ble_eq_true rfl, Nat.le_of_ble_eq_true rfl⟩ dX1_init_54 ?_
  refine z_topR (show _ = h.length + 6 by rw [List.length_append]; rfl) ?_
  refine z_hp (show _ = h ++ [.inr (1, [.int (iz 24), .int (iz 0), .int (iz 0), .ref (g.2.1 + (h.length + 1)), .ref (g.2.1 + (h.length + 2)), .ref (g.2.1 + (h.length + 3)), .ref (g.2.1 + (h.length + 4)), .ref (g.2.1 + (h.length + 5)), .null]), zA g 3 (fun _ => 0), zA g 6 (fun _ => 0), zA g 6 (fun _ => 0), zA g 6 (fun _ => 0), zA g 480 (fun _ => 0), zA g 240 (fun _ => 0)] from List.append_assoc _ _ _) ?_
  refine zp_X1_31 (pc := 56) rfl ap_0 (Nat.le_of_ble_eq_true rfl) dX1_init_56 ?_
  refine z_hp (show _ = h ++ [.inr (1, [.int (iz 24), .int (iz 0), .int (iz 0), .ref (g.2.1 + (h.length + 1)), .ref (g.2.1 + (h.length + 2)), .ref (g.2.1 + (h.length + 3)), .ref (g.2.1 + (h.length + 4)), .ref (g.2.1 + (h.length + 5)), .ref (g.2.1 + (h.length + 6))]), zA g 3 (fun _ => 0), zA g 6 (fun _ => 0), zA g 6 (fun _ => 0), zA g 6 (fun _ => 0), zA g 480 (fun _ => 0), zA g 240 (fun _ => 0)] from ap_s0) ?_
  exact z_retv (pc := 59) rfl (Nat.le_of_ble_eq_true rfl) (Nat.le_of_ble_eq_true rfl) dX1_init_59 ⟨rfl, rfl⟩
theorem c_init_X2 {h : List va_E} : zM l g yX2_init cX2_init 1 none 1 7 508 [.ref (g.2.1 + h.length)] (h ++ [.inr (2, [.int (iz 0), .int (iz 0), .null, .null, .null, .null, .null, .null, .null])]) (fun r h2 => r = none ∧ h2 = h ++ [.inr (2, [.int (iz 0), .int (iz 0), .ref (g.2.1 + (h.length + 1)), .ref (g.2.1 + (h.length + 2)), .ref (g.2.1 + (h.length + 3)), .ref (g.2.1 + (h.length + 4)), .ref (g.2.1 + (h.length + 5)), .ref (g.2.1 + (h.length + 6)), .ref (g.2.1 + (h.length + 7))]), zA g 8 (fun _ => 0), zA g 8 (fun _ => 0), zA g 328 (fun _ => 0), zA g 41 (fun _ => 0), zA g 41 (fun _ => 0), zA g 41 (fun _ => 0), zB g 41 (fun _ => 0)]) := by
  refine zM_of 0 (by decide) rfl ?_
  show zJ l g RX2 cX2_init 1 none "<init>" (zRm 1 7 508) 7 508 _ 0 0 0 [some (.ref (g.2.1 + h.length))] [] _
  refine z_aload_n (pc := 0) rfl dX2_init_0 ?_
  refine z_objInit (pc := 1) ob_X2_3 ob_in ob_cd ⟨by decide, by decide⟩ (Nat.le_of_ble_eq_true rfl) dX2_init_1 ?_
  refine z_aload_n (pc := 4) rfl dX2_init_4 ?_
  refine z_bipush (pc := 5) (by decide) dX2_init_5 ?_
  refine z_newI (pc := 7) (N2 := 8) rfl (by decide) ar_int ⟨Nat.le_of_ble_eq_true rfl, Nat.le_of_ble_eq_true rfl⟩ dX2_init_7 ?_
  refine z_topR (show _ = h.length + 1 by rw [List.length_append]; rfl) ?_
  refine z_hp (show _ = h ++ [.inr (2, [.int (iz 0), .int (iz 0), .null, .null, .null, .null, .null, .null, .null]), zA g 8 (fun _ => 0)] from List.append_assoc _ _ _) ?_
  refine zp_X2_11 (pc := 9) rfl ap_0 (Nat.le_of_ble_eq_true rfl) dX2_init_9 ?_
  refine z_hp (show _ = h ++ [.inr (2, [.int (iz 0), .int (iz 0), .ref (g.2.1 + (h.length + 1)), .null, .null, .null, .null, .null, .null]), zA g 8 (fun _ => 0)] from ap_s0) ?_
  refine z_aload_n (pc := 12) rfl dX2_init_12 ?_
  refine z_bipush (pc := 13) (by decide) dX2_init_13 ?_
  refine z_newI (pc := 15) (N2 := 8) rfl (by decide) ar_int ⟨Nat.le_of_ble_eq_true rfl, Nat.le_of_ble_eq_true rfl⟩ dX2_init_15 ?_
  refine z_topR (show _ = h.length + 2 by rw [List.length_append]; rfl) ?_
  refine z_hp (show _ = h ++ [.inr (2, [.int (iz 0), .int (iz 0), .ref (g.2.1 + (h.length + 1)), .null, .null, .null, .null, .null, .null]), zA g 8 (fun _ => 0), zA g 8 (fun _ => 0)] from List.append_assoc _ _ _) ?_
  refine zp_X2_15 (pc := 17) rfl ap_0 (Nat.le_of_ble_eq_true rfl) dX2_init_17 ?_
  refine z_hp (show _ = h ++ [.inr (2, [.int (iz 0), .int (iz 0), .ref (g.2.1 + (h.length + 1)), .ref (g.2.1 + (h.length + 2)), .null, .null, .null, .null, .null]), zA g 8 (fun _ => 0), zA g 8 (fun _ => 0)] from ap_s0) ?_
  refine z_aload_n (pc := 20) rfl dX2_init_20 ?_
  refine z_sipush (pc := 21) (by decide) dX2_init_21 ?_
  refine z_newI (pc := 24) (N2 := 328) rfl (by decide) ar_int ⟨Nat.le_of_ble_eq_true rfl, Nat.le_of_ble_eq_true rfl⟩ dX2_init_24 ?_
  refine z_topR (show _ = h.length + 3 by rw [List.length_append]; rfl) ?_
  refine z_hp (show _ = h ++ [.inr (2, [.int (iz 0), .int (iz 0), .ref (g.2.1 + (h.length + 1)), .ref (g.2.1 + (h.length + 2)), .null, .null, .null, .null, .null]), zA g 8 (fun _ => 0), zA g 8 (fun _ => 0), zA g 328 (fun _ => 0)] from List.append_assoc _ _ _) ?_
  refine zp_X2_18 (pc := 26) rfl ap_0 (Nat.le_of_ble_eq_true rfl) dX2_init_26 ?_
  refine z_hp (show _ = h ++ [.inr (2, [.int (iz 0), .int (iz 0), .ref (g.2.1 + (h.length + 1)), .ref (g.2.1 + (h.length + 2)), .ref (g.2.1 + (h.length + 3)), .null, .null, .null, .null]), zA g 8 (fun _ => 0), zA g 8 (fun _ => 0), zA g 328 (fun _ => 0)] from ap_s0) ?_
  refine z_aload_n (pc := 29) rfl dX2_init_29 ?_
  refine z_bipush (pc := 30) (by decide) dX2_init_30 ?_
  refine z_newI (pc := 32) (N2 := 41) rfl (by decide) ar_int ⟨Nat.le_of_ble_eq_true rfl, Nat.le_of_ble_eq_true rfl⟩ dX2_init_32 ?_
  refine z_topR (show _ = h.length + 4 by rw [List.length_append]; rfl) ?_
  refine z_hp (show _ = h ++ [.inr (2, [.int (iz 0), .int (iz 0), .ref (g.2.1 + (h.length + 1)), .ref (g.2.1 + (h.length + 2)), .ref (g.2.1 + (h.length + 3)), .null, .null, .null, .null]), zA g 8 (fun _ => 0), zA g 8 (fun _ => 0), zA g 328 (fun _ => 0), zA g 41 (fun _ => 0)] from List.append_assoc _ _ _) ?_
  refine zp_X2_21 (pc := 34) rfl ap_0 (Nat.le_of_ble_eq_true rfl) dX2_init_34 ?_
  refine z_hp (show _ = h ++ [.inr (2, [.int (iz 0), .int (iz 0), .ref (g.2.1 + (h.length + 1)), .ref (g.2.1 + (h.length + 2)), .ref (g.2.1 + (h.length + 3)), .ref (g.2.1 + (h.length + 4)), .null, .null, .null]), zA g 8 (fun _ => 0), zA g 8 (fun _ => 0), zA g 328 (fun _ => 0), zA g 41 (fun _ => 0)] from ap_s0) ?_
  refine z_aload_n (pc := 37) rfl dX2_init_37 ?_
  refine z_bipush (pc := 38) (by decide) dX2_init_38 ?_
  refine z_newI (pc := 40) (N2 := 41) rfl (by decide) ar_int ⟨Nat.le_of_ble_eq_true rfl, Nat.le_of_ble_eq_true rfl⟩ dX2_init_40 ?_
  refine z_topR (show _ = h.length + 5 by rw [List.length_append]; rfl) ?_
  refine z_hp (show _ = h ++ [.inr (2, [.int (iz 0), .int (iz 0), .ref (g.2.1 + (h.length + 1)), .ref (g.2.1 + (h.length + 2)), .ref (g.2.1 + (h.length + 3)), .ref (g.2.1 + (h.length + 4)), .null, .null, .null]), zA g 8 (fun _ => 0), zA g 8 (fun _ => 0), zA g 328 (fun _ => 0), zA g 41 (fun _ => 0), zA g 41 (fun _ => 0)] from List.append_assoc _ _ _) ?_
  refine zp_X2_24 (pc := 42) rfl ap_0 (Nat.le_of_ble_eq_true rfl) dX2_init_42 ?_
  refine z_hp (show _ = h ++ [.inr (2, [.int (iz 0), .int (iz 0), .ref (g.2.1 + (h.length + 1)), .ref (g.2.1 + (h.length + 2)), .ref (g.2.1 + (h.length + 3)), .ref (g.2.1 + (h.length + 4)), .ref (g.2.1 + (h.length + 5)), .null, .null]), zA g 8 (fun _ => 0), zA g 8 (fun _ => 0), zA g 328 (fun _ => 0), zA g 41 (fun _ => 0), zA g 41 (fun _ => 0)] from ap_s0) ?_
  refine z_aload_n (pc := 45) rfl dX2_init_45 ?_
  refine z_bipush (pc := 46) (by decide) dX2_init_46 ?_
  refine z_newI (pc := 48) (N2 := 41) rfl (by decide) ar_int ⟨Nat.le_of_ble_eq_true rfl, Nat.le_of_ble_eq_true rfl⟩ dX2_init_48 ?_
  refine z_topR (show _ = h.length + 6 by rw [List.length_append]; rfl) ?_
  refine z_hp (show _ = h ++ [.inr (2, [.int (iz 0), .int (iz 0), .ref (g.2.1 + (h.length + 1)), .ref (g.2.1 + (h.length + 2)), .ref (g.2.1 + (h.length + 3)), .ref (g.2.1 + (h.length + 4)), .ref (g.2.1 + (h.length + 5)), .null, .null]), zA g 8 (fun _ => 0), zA g 8 (fun _ => 0), zA g 328 (fun _ => 0), zA g 41 (fun _ => 0), zA g 41 (fun _ => 0), zA g 41 (fun _ => 0)] from List.append_assoc _ _ _) ?_
  refine zp_X2_27 (pc := 50) rfl ap_0 (Nat.le_of_ble_eq_true rfl) dX2_init_50 ?_
  refine z_hp (show _ = h ++ [.inr (2, [.int (iz 0), .int (iz 0), .ref (g.2.1 + (h.length + 1)), .ref (g.2.1 + (h.length + 2)), .ref (g.2.1 + (h.length + 3)), .ref (g.2.1 + (h.length + 4)), .ref (g.2.1 + (h.length + 5)), .ref (g.2.1 + (h.length + 6)), .null]), zA g 8 (fun _ => 0), zA g 8 (fun _ => 0), zA g 328 (fun _ => 0), zA g 41 (fun _ => 0), zA g 41 (fun _ => 0), zA g 41 (fun _ => 0)] from ap_s0) ?_
  refine z_aload_n (pc := 53) rfl dX2_init_53 ?_
  refine z_bipush (pc := 54) (by decide) dX2_init_54 ?_
  refine z_newZ (pc := 56) (N2 := 41) rfl (by decide) ar_boolean ⟨Nat.le_of_ble_eq_true rfl, Nat.le_of_ble_eq_true rfl⟩ dX2_init_56 ?_
  refine z_topR (show _ = h.length + 7 by rw [List.length_append]; rfl) ?_
  refine z_hp (show _ = h ++ [.inr (2, [.int (iz 0), .int (iz 0), .ref (g.2.1 + (h.length + 1)), .ref (g.2.1 + (h.length + 2)), .ref (g.2.1 + (h.length + 3)), .ref (g.2.1 + (h.length + 4)), .ref (g.2.1 + (h.length + 5)), .ref (g.2.1 + (h.length + 6)), .null]), zA g 8 (fun _ => 0), zA g 8 (fun _ => 0), zA g 328 (fun _ => 0), zA g 41 (fun _ => 0), zA g 41 (fun _ => 0), zA g 41 (fun _ => 0), zB g 41 (fun _ => 0)] from List.append_assoc _ _ _) ?_
  refine zp_X2_30 (pc := 58) rfl ap_0 (Nat.le_of_ble_eq_true rfl) dX2_init_58 ?_
  refine z_hp (show _ = h ++ [.inr (2, [.int (iz 0), .int (iz 0), .ref (g.2.1 + (h.length + 1)), .ref (g.2.1 + (h.length + 2)), .ref (g.2.1 + (h.length + 3)), .ref (g.2.1 + (h.length + 4)), .ref (g.2.1 + (h.length + 5)), .ref (g.2.1 + (h.length + 6)), .ref (g.2.1 + (h.length + 7))]), zA g 8 (fun _ => 0), zA g 8 (fun _ => 0), zA g 328 (fun _ => 0), zA g 41 (fun _ => 0), zA g 41 (fun _ => 0), zA g 41 (fun _ => 0), zB g 41 (fun _ => 0)] from ap_s0) ?_
  exact z_retv (pc := 61) rfl (Nat.le_of_ble_eq_true rfl) (Nat.le_of_ble_eq_true rfl) dX2_init_61 ⟨rfl, rfl⟩
theorem c_init_X0 {h : List va_E} : zM l g yX0_init cX0_init 1 none 1 1 40 [.ref (g.2.1 + h.length)] (h ++ [.inr (0, [.null])]) (fun r h2 => r = none ∧ h2 = h ++ [.inr (0, [.ref (g.2.1 + (h.length + 1))]), zA g 40 (fun _ => 0)]) := by
  refine zM_of 0 (by decide) rfl ?_
  show zJ l g RX0 cX0_init 1 none "<init>" (zRm 1 1 40) 1 40 _ 0 0 0 [some (.ref (g.2.1 + h.length))] [] _
  refine z_aload_n (pc := 0) rfl dX0_init_0 ?_
  refine z_objInit (pc := 1) ob_X0_3 ob_in ob_cd ⟨by decide, by decide⟩ (Nat.le_of_ble_eq_true rfl) dX0_init_1 ?_
  refine z_aload_n (pc := 4) rfl dX0_init_4 ?_
  refine z_bipush (pc := 5) (by decide) dX0_init_5 ?_
  refine z_newI (pc := 7) (N2 := 40) rfl (by decide) ar_int ⟨Nat.le_of_ble_eq_true rfl, Nat.le_of_ble_eq_true rfl⟩ dX0_init_7 ?_
  refine z_topR (show _ = h.length + 1 by rw [List.length_append]; rfl) ?_
  refine z_hp (show _ = h ++ [.inr (0, [.null]), zA g 40 (fun _ => 0)] from List.append_assoc _ _ _) ?_
  refine zp_X0_9 (pc := 9) rfl ap_0 (Nat.le_of_ble_eq_true rfl) dX0_init_9 ?_
  refine z_hp (show _ = h ++ [.inr (0, [.ref (g.2.1 + (h.length + 1))]), zA g 40 (fun _ => 0)] from ap_s0) ?_
  exact z_retv (pc := 12) rfl (Nat.le_of_ble_eq_true rfl) (Nat.le_of_ble_eq_true rfl) dX0_init_12 ⟨rfl, rfl⟩
theorem c_init_X3 {h : List va_E} : zM l g yX3_init cX3_init 1 none 1 3 12 [.ref (g.2.1 + h.length)] (h ++ [.inr (3, [.null, .null, .null])]) (fun r h2 => r = none ∧ h2 = h ++ [.inr (3, [.ref (g.2.1 + (h.length + 1)), .ref (g.2.1 + (h.length + 2)), .ref (g.2.1 + (h.length + 3))]), zA g 4 (fun _ => 0), zA g 4 (fun _ => 0), zA g 4 (fun _ => 0)]) := by
  refine zM_of 0 (by decide) rfl ?_
  show zJ l g RX3 cX3_init 1 none "<init>" (zRm 1 3 12) 3 12 _ 0 0 0 [some (.ref (g.2.1 + h.length))] [] _
  refine z_aload_n (pc := 0) rfl dX3_init_0 ?_
  refine z_objInit (pc := 1) ob_X3_3 ob_in ob_cd ⟨by decide, by decide⟩ (Nat.le_of_ble_eq_true rfl) dX3_init_1 ?_
  refine z_aload_n (pc := 4) rfl dX3_init_4 ?_
  refine z_iconst (pc := 5) dX3_init_5 ?_
  refine z_newI (pc := 6) (N2 := 4) rfl (by decide) ar_int ⟨Nat.le_of_ble_eq_true rfl, Nat.le_of_ble_eq_true rfl⟩ dX3_init_6 ?_
  refine z_topR (show _ = h.length + 1 by rw [List.length_append]; rfl) ?_
  refine z_hp (show _ = h ++ [.inr (3, [.null, .null, .null]), zA g 4 (fun _ => 0)] from List.append_assoc _ _ _) ?_
  refine zp_X3_9 (pc := 8) rfl ap_0 (Nat.le_of_ble_eq_true rfl) dX3_init_8 ?_
  refine z_hp (show _ = h ++ [.inr (3, [.ref (g.2.1 + (h.length + 1)), .null, .null]), zA g 4 (fun _ => 0)] from ap_s0) ?_
  refine z_aload_n (pc := 11) rfl dX3_init_11 ?_
  refine z_iconst (pc := 12) dX3_init_12 ?_
  refine z_newI (pc := 13) (N2 := 4) rfl (by decide) ar_int ⟨Nat.le_of_ble_eq_true rfl, Nat.le_of_ble_eq_true rfl⟩ dX3_init_13 ?_
  refine z_topR (show _ = h.length + 2 by rw [List.length_append]; rfl) ?_
  refine z_hp (show _ = h ++ [.inr (3, [.ref (g.2.1 + (h.length + 1)), .null, .null]), zA g 4 (fun _ => 0), zA g 4 (fun _ => 0)] from List.append_assoc _ _ _) ?_
  refine zp_X3_15 (pc := 15) rfl ap_0 (Nat.le_of_ble_eq_true rfl) dX3_init_15 ?_
  refine z_hp (show _ = h ++ [.inr (3, [.ref (g.2.1 + (h.length + 1)), .ref (g.2.1 + (h.length + 2)), .null]), zA g 4 (fun _ => 0), zA g 4 (fun _ => 0)] from ap_s0) ?_
  refine z_aload_n (pc := 18) rfl dX3_init_18 ?_
  refine z_iconst (pc := 19) dX3_init_19 ?_
  refine z_newI (pc := 20) (N2 := 4) rfl (by decide) ar_int ⟨Nat.le_of_ble_eq_true rfl, Nat.le_of_ble_eq_true rfl⟩ dX3_init_20 ?_
  refine z_topR (show _ = h.length + 3 by rw [List.length_append]; rfl) ?_
  refine z_hp (show _ = h ++ [.inr (3, [.ref (g.2.1 + (h.length + 1)), .ref (g.2.1 + (h.length + 2)), .null]), zA g 4 (fun _ => 0), zA g 4 (fun _ => 0), zA g 4 (fun _ => 0)] from List.append_assoc _ _ _) ?_
  refine zp_X3_18 (pc := 22) rfl ap_0 (Nat.le_of_ble_eq_true rfl) dX3_init_22 ?_
  refine z_hp (show _ = h ++ [.inr (3, [.ref (g.2.1 + (h.length + 1)), .ref (g.2.1 + (h.length + 2)), .ref (g.2.1 + (h.length + 3))]), zA g 4 (fun _ => 0), zA g 4 (fun _ => 0), zA g 4 (fun _ => 0)] from ap_s0) ?_
  exact z_retv (pc := 25) rfl (Nat.le_of_ble_eq_true rfl) (Nat.le_of_ble_eq_true rfl) dX3_init_25 ⟨rfl, rfl⟩
theorem c_init_X5 {h : List va_E} : zM l g yX5_init cX5_init 1 none 1 20 6557 [.ref (g.2.1 + h.length)] (h ++ [.inr (5, [.int (iz 0), .null, .null, .null, .null, .null, .null, .null, .null, .null, .null, .null, .null, .null, .null, .null, .null, .null, .null, .null, .null])]) (fun r h2 => r = none ∧ h2 = h ++ [.inr (5, [.int (iz 0), .ref (g.2.1 + (h.length + 1)), .ref (g.2.1 + (h.length + 2)), .ref (g.2.1 + (h.length + 3)), .ref (g.2.1 + (h.length + 4)), .ref (g.2.1 + (h.length + 5)), .ref (g.2.1 + (h.length + 6)), .ref (g.2.1 + (h.length + 7)), .ref (g.2.1 + (h.length + 8)), .ref (g.2.1 + (h.length + 9)), .ref (g.2.1 + (h.length + 10)), .ref (g.2.1 + (h.length + 11)), .ref (g.2.1 + (h.length + 12)), .ref (g.2.1 + (h.length + 13)), .ref (g.2.1 + (h.length + 14)), .ref (g.2.1 + (h.length + 15)), .ref (g.2.1 + (h.length + 16)), .ref (g.2.1 + (h.length + 17)), .ref (g.2.1 + (h.length + 18)), .ref (g.2.1 + (h.length + 19)), .ref (g.2.1 + (h.length + 20))]), zA g 4 (vf_upd (fun _ => 0) 0 24), zA g 4 (fun _ => 0), zA g 12 (fun _ => 0), zA g 4 (fun _ => 0), zA g 24 (fun _ => 0), zA g 24 (fun _ => 0), zA g 24 (fun _ => 0), zA g 1920 (fun _ => 0), zA g 960 (fun _ => 0), zA g 1681 (fun _ => 0), zA g 41 (fun _ => 0), zA g 41 (fun _ => 0), zA g 1681 (fun _ => 0), zA g 41 (fun _ => 0), zA g 41 (fun _ => 0), zA g 40 (fun _ => 0), zA g 4 (fun _ => 0), zA g 4 (fun _ => 0), zL g 4 (fun _ => 0), zB g 3 (fun _ => 0)]) := by
  refine zM_of 0 (by decide) rfl ?_
  show zJ l g RX5 cX5_init 1 none "<init>" (zRm 1 20 6557) 20 6557 _ 0 0 0 [some (.ref (g.2.1 + h.length))] [] _
  refine z_aload_n (pc := 0) rfl dX5_init_0 ?_
  refine z_objInit (pc := 1) ob_X5_1 ob_in ob_cd ⟨by decide, by decide⟩ (Nat.le_of_ble_eq_true rfl) dX5_init_1 ?_
  refine z_aload_n (pc := 4) rfl dX5_init_4 ?_
  refine z_iconst (pc := 5) dX5_init_5 ?_
  refine z_newI (pc := 6) (N2 := 4) rfl (by decide) ar_int ⟨Nat.le_of_ble_eq_true rfl, Nat.le_of_ble_eq_true rfl⟩ dX5_init_6 ?_
  refine z_topR (show _ = h.length + 1 by rw [List.length_append]; rfl) ?_
  refine z_hp (show _ = h ++ [.inr (5, [.int (iz 0), .null, .null, .null, .null, .null, .null, .null, .null, .null, .null, .null, .null, .null, .null, .null, .null, .null, .null, .null, .null]), zA g 4 (fun _ => 0)] from List.append_assoc _ _ _) ?_
  refine zp_X5_7 (pc := 8) rfl ap_0 (Nat.le_of_ble_eq_true rfl) dX5_init_8 ?_
  refine z_hp (show _ = h ++ [.inr (5, [.int (iz 0), .ref (g.2.1 + (h.length + 1)), .null, .null, .null, .null, .null, .null, .null, .null, .null, .null, .null, .null, .null, .null, .null, .null, .null, .null, .null]), zA g 4 (fun _ => 0)] from ap_s0) ?_
  refine z_aload_n (pc := 11) rfl dX5_init_11 ?_
  refine z_iconst (pc := 12) dX5_init_12 ?_
  refine z_newI (pc := 13) (N2 := 4) rfl (by decide) ar_int ⟨Nat.le_of_ble_eq_true rfl, Nat.le_of_ble_eq_true rfl⟩ dX5_init_13 ?_
  refine z_topR (show _ = h.length + 2 by rw [List.length_append]; rfl) ?_
  refine z_hp (show _ = h ++ [.inr (5, [.int (iz 0), .ref (g.2.1 + (h.length + 1)), .null, .null, .null, .null, .null, .null, .null, .null, .null, .null, .null, .null, .null, .null, .null, .null, .null, .null, .null]), zA g 4 (fun _ => 0), zA g 4 (fun _ => 0)] from List.append_assoc _ _ _) ?_
  refine zp_X5_13 (pc := 15) rfl ap_0 (Nat.le_of_ble_eq_true rfl) dX5_init_15 ?_
  refine z_hp (show _ = h ++ [.inr (5, [.int (iz 0), .ref (g.2.1 + (h.length + 1)), .ref (g.2.1 + (h.length + 2)), .null, .null, .null, .null, .null, .null, .null, .null, .null, .null, .null, .null, .null, .null, .null, .null, .null, .null]), zA g 4 (fun _ => 0), zA g 4 (fun _ => 0)] from ap_s0) ?_
  refine z_aload_n (pc := 18) rfl dX5_init_18 ?_
  refine z_bipush (pc := 19) (by decide) dX5_init_19 ?_
  refine z_newI (pc := 21) (N2 := 12) rfl (by decide) ar_int ⟨Nat.le_of_ble_eq_true rfl, Nat.le_of_ble_eq_true rfl⟩ dX5_init_21 ?_
  refine z_topR (show _ = h.length + 3 by rw [List.length_append]; rfl) ?_
  refine z_hp (show _ = h ++ [.inr (5, [.int (iz 0), .ref (g.2.1 + (h.length + 1)), .ref (g.2.1 + (h.length + 2)), .null, .null, .null, .null, .null, .null, .null, .null, .null, .null, .null, .null, .null, .null, .null, .null, .null, .null]), zA g 4 (fun _ => 0), zA g 4 (fun _ => 0), zA g 12 (fun _ => 0)] from List.append_assoc _ _ _) ?_
  refine zp_X5_16 (pc := 23) rfl ap_0 (Nat.le_of_ble_eq_true rfl) dX5_init_23 ?_
  refine z_hp (show _ = h ++ [.inr (5, [.int (iz 0), .ref (g.2.1 + (h.length + 1)), .ref (g.2.1 + (h.length + 2)), .ref (g.2.1 + (h.length + 3)), .null, .null, .null, .null, .null, .null, .null, .null, .null, .null, .null, .null, .null, .null, .null, .null, .null]), zA g 4 (fun _ => 0), zA g 4 (fun _ => 0), zA g 12 (fun _ => 0)] from ap_s0) ?_
  refine z_aload_n (pc := 26) rfl dX5_init_26 ?_
  refine z_iconst (pc := 27) dX5_init_27 ?_
  refine z_newI (pc := 28) (N2 := 4) rfl (by decide) ar_int ⟨Nat.le_of_ble_eq_true rfl, Nat.le_of_ble_eq_true rfl⟩ dX5_init_28 ?_
  refine z_topR (show _ = h.length + 4 by rw [List.length_append]; rfl) ?_
  refine z_hp (show _ = h ++ [.inr (5, [.int (iz 0), .ref (g.2.1 + (h.length + 1)), .ref (g.2.1 + (h.length + 2)), .ref (g.2.1 + (h.length + 3)), .null, .null, .null, .null, .null, .null, .null, .null, .null, .null, .null, .null, .null, .null, .null, .null, .null]), zA g 4 (fun _ => 0), zA g 4 (fun _ => 0), zA g 12 (fun _ => 0), zA g 4 (fun _ => 0)] from List.append_assoc _ _ _) ?_
  refine zp_X5_19 (pc := 30) rfl ap_0 (Nat.le_of_ble_eq_true rfl) dX5_init_30 ?_
  refine z_hp (show _ = h ++ [.inr (5, [.int (iz 0), .ref (g.2.1 + (h.length + 1)), .ref (g.2.1 + (h.length + 2)), .ref (g.2.1 + (h.length + 3)), .ref (g.2.1 + (h.length + 4)), .null, .null, .null, .null, .null, .null, .null, .null, .null, .null, .null, .null, .null, .null, .null, .null]), zA g 4 (fun _ => 0), zA g 4 (fun _ => 0), zA g 12 (fun _ => 0), zA g 4 (fun _ => 0)] from ap_s0) ?_
  refine z_aload_n (pc := 33) rfl dX5_init_33 ?_
  refine z_bipush (pc := 34) (by decide) dX5_init_34 ?_
  refine z_newI (pc := 36) (N2 := 24) rfl (by decide) ar_int ⟨Nat.le_of_ble_eq_true rfl, Nat.le_of_ble_eq_true rfl⟩ dX5_init_36 ?_
  refine z_topR (show _ = h.length + 5 by rw [List.length_append]; rfl) ?_
  refine z_hp (show _ = h ++ [.inr (5, [.int (iz 0), .ref (g.2.1 + (h.length + 1)), .ref (g.2.1 + (h.length + 2)), .ref (g.2.1 + (h.length + 3)), .ref (g.2.1 + (h.length + 4)), .null, .null, .null, .null, .null, .null, .null, .null, .null, .null, .null, .null, .null, .null, .null, .null]), zA g 4 (fun _ => 0), zA g 4 (fun _ => 0), zA g 12 (fun _ => 0), zA g 4 (fun _ => 0), zA g 24 (fun _ => 0)] from List.append_assoc _ _ _) ?_
  refine zp_X5_22 (pc := 38) rfl ap_0 (Nat.le_of_ble_eq_true rfl) dX5_init_38 ?_
  refine z_hp (show _ = h ++ [.inr (5, [.int (iz 0), .ref (g.2.1 + (h.length + 1)), .ref (g.2.1 + (h.length + 2)), .ref (g.2.1 + (h.length + 3)), .ref (g.2.1 + (h.length + 4)), .ref (g.2.1 + (h.length + 5)), .null, .null, .null, .null, .null, .null, .null, .null, .null, .null, .null, .null, .null, .null, .null]), zA g 4 (fun _ => 0), zA g 4 (fun _ => 0), zA g 12 (fun _ => 0), zA g 4 (fun _ => 0), zA g 24 (fun _ => 0)] from ap_s0) ?_
  refine z_aload_n (pc := 41) rfl dX5_init_41 ?_
  refine z_bipush (pc := 42) (by decide) dX5_init_42 ?_
  refine z_newI (pc := 44) (N2 := 24) rfl (by decide) ar_int ⟨Nat.le_of_ble_eq_true rfl, Nat.le_of_ble_eq_true rfl⟩ dX5_init_44 ?_
  refine z_topR (show _ = h.length + 6 by rw [List.length_append]; rfl) ?_
  refine z_hp (show _ = h ++ [.inr (5, [.int (iz 0), .ref (g.2.1 + (h.length + 1)), .ref (g.2.1 + (h.length + 2)), .ref (g.2.1 + (h.length + 3)), .ref (g.2.1 + (h.length + 4)), .ref (g.2.1 + (h.length + 5)), .null, .null, .null, .null, .null, .null, .null, .null, .null, .null, .null, .null, .null, .null, .null]), zA g 4 (fun _ => 0), zA g 4 (fun _ => 0), zA g 12 (fun _ => 0), zA g 4 (fun _ => 0), zA g 24 (fun _ => 0), zA g 24 (fun _ => 0)] from List.append_assoc _ _ _) ?_
  refine zp_X5_25 (pc := 46) rfl ap_0 (Nat.le_of_ble_eq_true rfl) dX5_init_46 ?_
  refine z_hp (show _ = h ++ [.inr (5, [.int (iz 0), .ref (g.2.1 + (h.length + 1)), .ref (g.2.1 + (h.length + 2)), .ref (g.2.1 + (h.length + 3)), .ref (g.2.1 + (h.length + 4)), .ref (g.2.1 + (h.length + 5)), .ref (g.2.1 + (h.length + 6)), .null, .null, .null, .null, .null, .null, .null, .null, .null, .null, .null, .null, .null, .null]), zA g 4 (fun _ => 0), zA g 4 (fun _ => 0), zA g 12 (fun _ => 0), zA g 4 (fun _ => 0), zA g 24 (fun _ => 0), zA g 24 (fun _ => 0)] from ap_s0) ?_
  refine z_aload_n (pc := 49) rfl dX5_init_49 ?_
  refine z_bipush (pc := 50) (by decide) dX5_init_50 ?_
  refine z_newI (pc := 52) (N2 := 24) rfl (by decide) ar_int ⟨Nat.le_of_ble_eq_true rfl, Nat.le_of_ble_eq_true rfl⟩ dX5_init_52 ?_
  refine z_topR (show _ = h.length + 7 by rw [List.length_append]; rfl) ?_
  refine z_hp (show _ = h ++ [.inr (5, [.int (iz 0), .ref (g.2.1 + (h.length + 1)), .ref (g.2.1 + (h.length + 2)), .ref (g.2.1 + (h.length + 3)), .ref (g.2.1 + (h.length + 4)), .ref (g.2.1 + (h.length + 5)), .ref (g.2.1 + (h.length + 6)), .null, .null, .null, .null, .null, .null, .null, .null, .null, .null, .null, .null, .null, .null]), zA g 4 (fun _ => 0), zA g 4 (fun _ => 0), zA g 12 (fun _ => 0), zA g 4 (fun _ => 0), zA g 24 (fun _ => 0), zA g 24 (fun _ => 0), zA g 24 (fun _ => 0)] from List.append_assoc _ _ _) ?_
  refine zp_X5_28 (pc := 54) rfl ap_0 (Nat.le_of_ble_eq_true rfl) dX5_init_54 ?_
  refine z_hp (show _ = h ++ [.inr (5, [.int (iz 0), .ref (g.2.1 + (h.length + 1)), .ref (g.2.1 + (h.length + 2)), .ref (g.2.1 + (h.length + 3)), .ref (g.2.1 + (h.length + 4)), .ref (g.2.1 + (h.length + 5)), .ref (g.2.1 + (h.length + 6)), .ref (g.2.1 + (h.length + 7)), .null, .null, .null, .null, .null, .null, .null, .null, .null, .null, .null, .null, .null]), zA g 4 (fun _ => 0), zA g 4 (fun _ => 0), zA g 12 (fun _ => 0), zA g 4 (fun _ => 0), zA g 24 (fun _ => 0), zA g 24 (fun _ => 0), zA g 24 (fun _ => 0)] from ap_s0) ?_
  refine z_aload_n (pc := 57) rfl dX5_init_57 ?_
  refine z_sipush (pc := 58) (by decide) dX5_init_58 ?_
  refine z_newI (pc := 61) (N2 := 1920) rfl (by decide) ar_int ⟨Nat.le_of_ble_eq_true rfl, Nat.le_of_ble_eq_true rfl⟩ dX5_init_61 ?_
  refine z_topR (show _ = h.length + 8 by rw [List.length_append]; rfl) ?_
  refine z_hp (show _ = h ++ [.inr (5, [.int (iz 0), .ref (g.2.1 + (h.length + 1)), .ref (g.2.1 + (h.length + 2)), .ref (g.2.1 + (h.length + 3)), .ref (g.2.1 + (h.length + 4)), .ref (g.2.1 + (h.length + 5)), .ref (g.2.1 + (h.length + 6)), .ref (g.2.1 + (h.length + 7)), .null, .null, .null, .null, .null, .null, .null, .null, .null, .null, .null, .null, .null]), zA g 4 (fun _ => 0), zA g 4 (fun _ => 0), zA g 12 (fun _ => 0), zA g 4 (fun _ => 0), zA g 24 (fun _ => 0), zA g 24 (fun _ => 0), zA g 24 (fun _ => 0), zA g 1920 (fun _ => 0)] from List.append_assoc _ _ _) ?_
  refine zp_X5_31 (pc := 63) rfl ap_0 (Nat.le_of_ble_eq_true rfl) dX5_init_63 ?_
  refine z_hp (show _ = h ++ [.inr (5, [.int (iz 0), .ref (g.2.1 + (h.length + 1)), .ref (g.2.1 + (h.length + 2)), .ref (g.2.1 + (h.length + 3)), .ref (g.2.1 + (h.length + 4)), .ref (g.2.1 + (h.length + 5)), .ref (g.2.1 + (h.length + 6)), .ref (g.2.1 + (h.length + 7)), .ref (g.2.1 + (h.length + 8)), .null, .null, .null, .null, .null, .null, .null, .null, .null, .null, .null, .null]), zA g 4 (fun _ => 0), zA g 4 (fun _ => 0), zA g 12 (fun _ => 0), zA g 4 (fun _ => 0), zA g 24 (fun _ => 0), zA g 24 (fun _ => 0), zA g 24 (fun _ => 0), zA g 1920 (fun _ => 0)] from ap_s0) ?_
  refine z_aload_n (pc := 66) rfl dX5_init_66 ?_
  refine z_sipush (pc := 67) (by decide) dX5_init_67 ?_
  refine z_newI (pc := 70) (N2 := 960) rfl (by decide) ar_int ⟨Nat.le_of_ble_eq_true rfl, Nat.le_of_ble_eq_true rfl⟩ dX5_init_70 ?_
  refine z_topR (show _ = h.length + 9 by rw [List.length_append]; rfl) ?_
  refine z_hp (show _ = h ++ [.inr (5, [.int (iz 0), .ref (g.2.1 + (h.length + 1)), .ref (g.2.1 + (h.length + 2)), .ref (g.2.1 + (h.length + 3)), .ref (g.2.1 + (h.length + 4)), .ref (g.2.1 + (h.length + 5)), .ref (g.2.1 + (h.length + 6)), .ref (g.2.1 + (h.length + 7)), .ref (g.2.1 + (h.length + 8)), .null, .null, .null, .null, .null, .null, .null, .null, .null, .null, .null, .null]), zA g 4 (fun _ => 0), zA g 4 (fun _ => 0), zA g 12 (fun _ => 0), zA g 4 (fun _ => 0), zA g 24 (fun _ => 0), zA g 24 (fun _ => 0), zA g 24 (fun _ => 0), zA g 1920 (fun _ => 0), zA g 960 (fun _ => 0)] from List.append_assoc _ _ _) ?_
  refine zp_X5_34 (pc := 72) rfl ap_0 (Nat.le_of_ble_eq_true rfl) dX5_init_72 ?_
  refine z_hp (show _ = h ++ [.inr (5, [.int (iz 0), .ref (g.2.1 + (h.length + 1)), .ref (g.2.1 + (h.length + 2)), .ref (g.2.1 + (h.length + 3)), .ref (g.2.1 + (h.length + 4)), .ref (g.2.1 + (h.length + 5)), .ref (g.2.1 + (h.length + 6)), .ref (g.2.1 + (h.length + 7)), .ref (g.2.1 + (h.length + 8)), .ref (g.2.1 + (h.length + 9)), .null, .null, .null, .null, .null, .null, .null, .null, .null, .null, .null]), zA g 4 (fun _ => 0), zA g 4 (fun _ => 0), zA g 12 (fun _ => 0), zA g 4 (fun _ => 0), zA g 24 (fun _ => 0), zA g 24 (fun _ => 0), zA g 24 (fun _ => 0), zA g 1920 (fun _ => 0), zA g 960 (fun _ => 0)] from ap_s0) ?_
  refine z_aload_n (pc := 75) rfl dX5_init_75 ?_
  refine z_sipush (pc := 76) (by decide) dX5_init_76 ?_
  refine z_newI (pc := 79) (N2 := 1681) rfl (by decide) ar_int ⟨Nat.le_of_ble_eq_true rfl, Nat.le_of_ble_eq_true rfl⟩ dX5_init_79 ?_
  refine z_topR (show _ = h.length + 10 by rw [List.length_append]; rfl) ?_
  refine z_hp (show _ = h ++ [.inr (5, [.int (iz 0), .ref (g.2.1 + (h.length + 1)), .ref (g.2.1 + (h.length + 2)), .ref (g.2.1 + (h.length + 3)), .ref (g.2.1 + (h.length + 4)), .ref (g.2.1 + (h.length + 5)), .ref (g.2.1 + (h.length + 6)), .ref (g.2.1 + (h.length + 7)), .ref (g.2.1 + (h.length + 8)), .ref (g.2.1 + (h.length + 9)), .null, .null, .null, .null, .null, .null, .null, .null, .null, .null, .null]), zA g 4 (fun _ => 0), zA g 4 (fun _ => 0), zA g 12 (fun _ => 0), zA g 4 (fun _ => 0), zA g 24 (fun _ => 0), zA g 24 (fun _ => 0), zA g 24 (fun _ => 0), zA g 1920 (fun _ => 0), zA g 960 (fun _ => 0), zA g 1681 (fun _ => 0)] from List.append_assoc _ _ _) ?_
  refine zp_X5_37 (pc := 81) rfl ap_0 (Nat.le_of_ble_eq_true rfl) dX5_init_81 ?_
  refine z_hp (show _ = h ++ [.inr (5, [.int (iz 0), .ref (g.2.1 + (h.length + 1)), .ref (g.2.1 + (h.length + 2)), .ref (g.2.1 + (h.length + 3)), .ref (g.2.1 + (h.length + 4)), .ref (g.2.1 + (h.length + 5)), .ref (g.2.1 + (h.length + 6)), .ref (g.2.1 + (h.length + 7)), .ref (g.2.1 + (h.length + 8)), .ref (g.2.1 + (h.length + 9)), .ref (g.2.1 + (h.length + 10)), .null, .null, .null, .null, .null, .null, .null, .null, .null, .null]), zA g 4 (fun _ => 0), zA g 4 (fun _ => 0), zA g 12 (fun _ => 0), zA g 4 (fun _ => 0), zA g 24 (fun _ => 0), zA g 24 (fun _ => 0), zA g 24 (fun _ => 0), zA g 1920 (fun _ => 0), zA g 960 (fun _ => 0), zA g 1681 (fun _ => 0)] from ap_s0) ?_
  refine z_aload_n (pc := 84) rfl dX5_init_84 ?_
  refine z_bipush (pc := 85) (by decide) dX5_init_85 ?_
  refine z_newI (pc := 87) (N2 := 41) rfl (by decide) ar_int ⟨Nat.le_of_ble_eq_true rfl, Nat.le_of_ble_eq_true rfl⟩ dX5_init_87 ?_
  refine z_topR (show _ = h.length + 11 by rw [List.length_append]; rfl) ?_
  refine z_hp (show _ = h ++ [.inr (5, [.int (iz 0), .ref (g.2.1 + (h.length + 1)), .ref (g.2.1 + (h.length + 2)), .ref (g.2.1 + (h.length + 3)), .ref (g.2.1 + (h.length + 4)), .ref (g.2.1 + (h.length + 5)), .ref (g.2.1 + (h.length + 6)), .ref (g.2.1 + (h.length + 7)), .ref (g.2.1 + (h.length + 8)), .ref (g.2.1 + (h.length + 9)), .ref (g.2.1 + (h.length + 10)), .null, .null, .null, .null, .null, .null, .null, .null, .null, .null]), zA g 4 (fun _ => 0), zA g 4 (fun _ => 0), zA g 12 (fun _ => 0), zA g 4 (fun _ => 0), zA g 24 (fun _ => 0), zA g 24 (fun _ => 0), zA g 24 (fun _ => 0), zA g 1920 (fun _ => 0), zA g 960 (fun _ => 0), zA g 1681 (fun _ => 0), zA g 41 (fun _ => 0)] from List.append_assoc _ _ _) ?_
  refine zp_X5_40 (pc := 89) rfl ap_0 (Nat.le_of_ble_eq_true rfl) dX5_init_89 ?_
  refine z_hp (show _ = h ++ [.inr (5, [.int (iz 0), .ref (g.2.1 + (h.length + 1)), .ref (g.2.1 + (h.length + 2)), .ref (g.2.1 + (h.length + 3)), .ref (g.2.1 + (h.length + 4)), .ref (g.2.1 + (h.length + 5)), .ref (g.2.1 + (h.length + 6)), .ref (g.2.1 + (h.length + 7)), .ref (g.2.1 + (h.length + 8)), .ref (g.2.1 + (h.length + 9)), .ref (g.2.1 + (h.length + 10)), .ref (g.2.1 + (h.length + 11)), .null, .null, .null, .null, .null, .null, .null, .null, .null]), zA g 4 (fun _ => 0), zA g 4 (fun _ => 0), zA g 12 (fun _ => 0), zA g 4 (fun _ => 0), zA g 24 (fun _ => 0), zA g 24 (fun _ => 0), zA g 24 (fun _ => 0), zA g 1920 (fun _ => 0), zA g 960 (fun _ => 0), zA g 1681 (fun _ => 0), zA g 41 (fun _ => 0)] from ap_s0) ?_
  refine z_aload_n (pc := 92) rfl dX5_init_92 ?_
  refine z_bipush (pc := 93) (by decide) dX5_init_93 ?_
  refine z_newI (pc := 95) (N2 := 41) rfl (by decide) ar_int ⟨Nat.le_of_ble_eq_true rfl, Nat.le_of_ble_eq_true rfl⟩ dX5_init_95 ?_
  refine z_topR (show _ = h.length + 12 by rw [List.length_append]; rfl) ?_
  refine z_hp (show _ = h ++ [.inr (5, [.int (iz 0), .ref (g.2.1 + (h.length + 1)), .ref (g.2.1 + (h.length + 2)), .ref (g.2.1 + (h.length + 3)), .ref (g.2.1 + (h.length + 4)), .ref (g.2.1 + (h.length + 5)), .ref (g.2.1 + (h.length + 6)), .ref (g.2.1 + (h.length + 7)), .ref (g.2.1 + (h.length + 8)), .ref (g.2.1 + (h.length + 9)), .ref (g.2.1 + (h.length + 10)), .ref (g.2.1 + (h.length + 11)), .null, .null, .null, .null, .null, .null, .null, .null, .null]), zA g 4 (fun _ => 0), zA g 4 (fun _ => 0), zA g 12 (fun _ => 0), zA g 4 (fun _ => 0), zA g 24 (fun _ => 0), zA g 24 (fun _ => 0), zA g 24 (fun _ => 0), zA g 1920 (fun _ => 0), zA g 960 (fun _ => 0), zA g 1681 (fun _ => 0), zA g 41 (fun _ => 0), zA g 41 (fun _ => 0)] from List.append_assoc _ _ _) ?_
  refine zp_X5_43 (pc := 97) rfl ap_0 (Nat.le_of_ble_eq_true rfl) dX5_init_97 ?_
  refine z_hp (show _ = h ++ [.inr (5, [.int (iz 0), .ref (g.2.1 + (h.length + 1)), .ref (g.2.1 + (h.length + 2)), .ref (g.2.1 + (h.length + 3)), .ref (g.2.1 + (h.length + 4)), .ref (g.2.1 + (h.length + 5)), .ref (g.2.1 + (h.length + 6)), .ref (g.2.1 + (h.length + 7)), .ref (g.2.1 + (h.length + 8)), .ref (g.2.1 + (h.length + 9)), .ref (g.2.1 + (h.length + 10)), .ref (g.2.1 + (h.length + 11)), .ref (g.2.1 + (h.length + 12)), .null, .null, .null, .null, .null, .null, .null, .null]), zA g 4 (fun _ => 0), zA g 4 (fun _ => 0), zA g 12 (fun _ => 0), zA g 4 (fun _ => 0), zA g 24 (fun _ => 0), zA g 24 (fun _ => 0), zA g 24 (fun _ => 0), zA g 1920 (fun _ => 0), zA g 960 (fun _ => 0), zA g 1681 (fun _ => 0), zA g 41 (fun _ => 0), zA g 41 (fun _ => 0)] from ap_s0) ?_
  refine z_aload_n (pc := 100) rfl dX5_init_100 ?_
  refine z_sipush (pc := 101) (by decide) dX5_init_101 ?_
  refine z_newI (pc := 104) (N2 := 1681) rfl (by decide) ar_int ⟨Nat.le_of_ble_eq_true rfl, Nat.le_of_ble_eq_true rfl⟩ dX5_init_104 ?_
  refine z_topR (show _ = h.length + 13 by rw [List.length_append]; rfl) ?_
  refine z_hp (show _ = h ++ [.inr (5, [.int (iz 0), .ref (g.2.1 + (h.length + 1)), .ref (g.2.1 + (h.length + 2)), .ref (g.2.1 + (h.length + 3)), .ref (g.2.1 + (h.length + 4)), .ref (g.2.1 + (h.length + 5)), .ref (g.2.1 + (h.length + 6)), .ref (g.2.1 + (h.length + 7)), .ref (g.2.1 + (h.length + 8)), .ref (g.2.1 + (h.length + 9)), .ref (g.2.1 + (h.length + 10)), .ref (g.2.1 + (h.length + 11)), .ref (g.2.1 + (h.length + 12)), .null, .null, .null, .null, .null, .null, .null, .null]), zA g 4 (fun _ => 0), zA g 4 (fun _ => 0), zA g 12 (fun _ => 0), zA g 4 (fun _ => 0), zA g 24 (fun _ => 0), zA g 24 (fun _ => 0), zA g 24 (fun _ => 0), zA g 1920 (fun _ => 0), zA g 960 (fun _ => 0), zA g 1681 (fun _ => 0), zA g 41 (fun _ => 0), zA g 41 (fun _ => 0), zA g 1681 (fun _ => 0)] from List.append_assoc _ _ _) ?_
  refine zp_X5_46 (pc := 106) rfl ap_0 (Nat.le_of_ble_eq_true rfl) dX5_init_106 ?_
  refine z_hp (show _ = h ++ [.inr (5, [.int (iz 0), .ref (g.2.1 + (h.length + 1)), .ref (g.2.1 + (h.length + 2)), .ref (g.2.1 + (h.length + 3)), .ref (g.2.1 + (h.length + 4)), .ref (g.2.1 + (h.length + 5)), .ref (g.2.1 + (h.length + 6)), .ref (g.2.1 + (h.length + 7)), .ref (g.2.1 + (h.length + 8)), .ref (g.2.1 + (h.length + 9)), .ref (g.2.1 + (h.length + 10)), .ref (g.2.1 + (h.length + 11)), .ref (g.2.1 + (h.length + 12)), .ref (g.2.1 + (h.length + 13)), .null, .null, .null, .null, .null, .null, .null]), zA g 4 (fun _ => 0), zA g 4 (fun _ => 0), zA g 12 (fun _ => 0), zA g 4 (fun _ => 0), zA g 24 (fun _ => 0), zA g 24 (fun _ => 0), zA g 24 (fun _ => 0), zA g 1920 (fun _ => 0), zA g 960 (fun _ => 0), zA g 1681 (fun _ => 0), zA g 41 (fun _ => 0), zA g 41 (fun _ => 0), zA g 1681 (fun _ => 0)] from ap_s0) ?_
  refine z_aload_n (pc := 109) rfl dX5_init_109 ?_
  refine z_bipush (pc := 110) (by decide) dX5_init_110 ?_
  refine z_newI (pc := 112) (N2 := 41) rfl (by decide) ar_int ⟨Nat.le_of_ble_eq_true rfl, Nat.le_of_ble_eq_true rfl⟩ dX5_init_112 ?_
  refine z_topR (show _ = h.length + 14 by rw [List.length_append]; rfl) ?_
  refine z_hp (show _ = h ++ [.inr (5, [.int (iz 0), .ref (g.2.1 + (h.length + 1)), .ref (g.2.1 + (h.length + 2)), .ref (g.2.1 + (h.length + 3)), .ref (g.2.1 + (h.length + 4)), .ref (g.2.1 + (h.length + 5)), .ref (g.2.1 + (h.length + 6)), .ref (g.2.1 + (h.length + 7)), .ref (g.2.1 + (h.length + 8)), .ref (g.2.1 + (h.length + 9)), .ref (g.2.1 + (h.length + 10)), .ref (g.2.1 + (h.length + 11)), .ref (g.2.1 + (h.length + 12)), .ref (g.2.1 + (h.length + 13)), .null, .null, .null, .null, .null, .null, .null]), zA g 4 (fun _ => 0), zA g 4 (fun _ => 0), zA g 12 (fun _ => 0), zA g 4 (fun _ => 0), zA g 24 (fun _ => 0), zA g 24 (fun _ => 0), zA g 24 (fun _ => 0), zA g 1920 (fun _ => 0), zA g 960 (fun _ => 0), zA g 1681 (fun _ => 0), zA g 41 (fun _ => 0), zA g 41 (fun _ => 0), zA g 1681 (fun _ => 0), zA g 41 (fun _ => 0)] from List.append_assoc _ _ _) ?_
  refine zp_X5_49 (pc := 114) rfl ap_0 (Nat.le_of_ble_eq_true rfl) dX5_init_114 ?_
  refine z_hp (show _ = h ++ [.inr (5, [.int (iz 0), .ref (g.2.1 + (h.length + 1)), .ref (g.2.1 + (h.length + 2)), .ref (g.2.1 + (h.length + 3)), .ref (g.2.1 + (h.length + 4)), .ref (g.2.1 + (h.length + 5)), .ref (g.2.1 + (h.length + 6)), .ref (g.2.1 + (h.length + 7)), .ref (g.2.1 + (h.length + 8)), .ref (g.2.1 + (h.length + 9)), .ref (g.2.1 + (h.length + 10)), .ref (g.2.1 + (h.length + 11)), .ref (g.2.1 + (h.length + 12)), .ref (g.2.1 + (h.length + 13)), .ref (g.2.1 + (h.length + 14)), .null, .null, .null, .null, .null, .null]), zA g 4 (fun _ => 0), zA g 4 (fun _ => 0), zA g 12 (fun _ => 0), zA g 4 (fun _ => 0), zA g 24 (fun _ => 0), zA g 24 (fun _ => 0), zA g 24 (fun _ => 0), zA g 1920 (fun _ => 0), zA g 960 (fun _ => 0), zA g 1681 (fun _ => 0), zA g 41 (fun _ => 0), zA g 41 (fun _ => 0), zA g 1681 (fun _ => 0), zA g 41 (fun _ => 0)] from ap_s0) ?_
  refine z_aload_n (pc := 117) rfl dX5_init_117 ?_
  refine z_bipush (pc := 118) (by decide) dX5_init_118 ?_
  refine z_newI (pc := 120) (N2 := 41) rfl (by decide) ar_int ⟨Nat.le_of_ble_eq_true rfl, Nat.le_of_ble_eq_true rfl⟩ dX5_init_120 ?_
  refine z_topR (show _ = h.length + 15 by rw [List.length_append]; rfl) ?_
  refine z_hp (show _ = h ++ [.inr (5, [.int (iz 0), .ref (g.2.1 + (h.length + 1)), .ref (g.2.1 + (h.length + 2)), .ref (g.2.1 + (h.length + 3)), .ref (g.2.1 + (h.length + 4)), .ref (g.2.1 + (h.length + 5)), .ref (g.2.1 + (h.length + 6)), .ref (g.2.1 + (h.length + 7)), .ref (g.2.1 + (h.length + 8)), .ref (g.2.1 + (h.length + 9)), .ref (g.2.1 + (h.length + 10)), .ref (g.2.1 + (h.length + 11)), .ref (g.2.1 + (h.length + 12)), .ref (g.2.1 + (h.length + 13)), .ref (g.2.1 + (h.length + 14)), .null, .null, .null, .null, .null, .null]), zA g 4 (fun _ => 0), zA g 4 (fun _ => 0), zA g 12 (fun _ => 0), zA g 4 (fun _ => 0), zA g 24 (fun _ => 0), zA g 24 (fun _ => 0), zA g 24 (fun _ => 0), zA g 1920 (fun _ => 0), zA g 960 (fun _ => 0), zA g 1681 (fun _ => 0), zA g 41 (fun _ => 0), zA g 41 (fun _ => 0), zA g 1681 (fun _ => 0), zA g 41 (fun _ => 0), zA g 41 (fun _ => 0)] from List.append_assoc _ _ _) ?_
  refine zp_X5_52 (pc := 122) rfl ap_0 (Nat.le_of_ble_eq_true rfl) dX5_init_122 ?_
  refine z_hp (show _ = h ++ [.inr (5, [.int (iz 0), .ref (g.2.1 + (h.length + 1)), .ref (g.2.1 + (h.length + 2)), .ref (g.2.1 + (h.length + 3)), .ref (g.2.1 + (h.length + 4)), .ref (g.2.1 + (h.length + 5)), .ref (g.2.1 + (h.length + 6)), .ref (g.2.1 + (h.length + 7)), .ref (g.2.1 + (h.length + 8)), .ref (g.2.1 + (h.length + 9)), .ref (g.2.1 + (h.length + 10)), .ref (g.2.1 + (h.length + 11)), .ref (g.2.1 + (h.length + 12)), .ref (g.2.1 + (h.length + 13)), .ref (g.2.1 + (h.length + 14)), .ref (g.2.1 + (h.length + 15)), .null, .null, .null, .null, .null]), zA g 4 (fun _ => 0), zA g 4 (fun _ => 0), zA g 12 (fun _ => 0), zA g 4 (fun _ => 0), zA g 24 (fun _ => 0), zA g 24 (fun _ => 0), zA g 24 (fun _ => 0), zA g 1920 (fun _ => 0), zA g 960 (fun _ => 0), zA g 1681 (fun _ => 0), zA g 41 (fun _ => 0), zA g 41 (fun _ => 0), zA g 1681 (fun _ => 0), zA g 41 (fun _ => 0), zA g 41 (fun _ => 0)] from ap_s0) ?_
  refine z_aload_n (pc := 125) rfl dX5_init_125 ?_
  refine z_bipush (pc := 126) (by decide) dX5_init_126 ?_
  refine z_newI (pc := 128) (N2 := 40) rfl (by decide) ar_int ⟨Nat.le_of_ble_eq_true rfl, Nat.le_of_ble_eq_true rfl⟩ dX5_init_128 ?_
  refine z_topR (show _ = h.length + 16 by rw [List.length_append]; rfl) ?_
  refine z_hp (show _ = h ++ [.inr (5, [.int (iz 0), .ref (g.2.1 + (h.length + 1)), .ref (g.2.1 + (h.length + 2)), .ref (g.2.1 + (h.length + 3)), .ref (g.2.1 + (h.length + 4)), .ref (g.2.1 + (h.length + 5)), .ref (g.2.1 + (h.length + 6)), .ref (g.2.1 + (h.length + 7)), .ref (g.2.1 + (h.length + 8)), .ref (g.2.1 + (h.length + 9)), .ref (g.2.1 + (h.length + 10)), .ref (g.2.1 + (h.length + 11)), .ref (g.2.1 + (h.length + 12)), .ref (g.2.1 + (h.length + 13)), .ref (g.2.1 + (h.length + 14)), .ref (g.2.1 + (h.length + 15)), .null, .null, .null, .null, .null]), zA g 4 (fun _ => 0), zA g 4 (fun _ => 0), zA g 12 (fun _ => 0), zA g 4 (fun _ => 0), zA g 24 (fun _ => 0), zA g 24 (fun _ => 0), zA g 24 (fun _ => 0), zA g 1920 (fun _ => 0), zA g 960 (fun _ => 0), zA g 1681 (fun _ => 0), zA g 41 (fun _ => 0), zA g 41 (fun _ => 0), zA g 1681 (fun _ => 0), zA g 41 (fun _ => 0), zA g 41 (fun _ => 0), zA g 40 (fun _ => 0)] from List.append_assoc _ _ _) ?_
  refine zp_X5_55 (pc := 130) rfl ap_0 (Nat.le_of_ble_eq_true rfl) dX5_init_130 ?_
  refine z_hp (show _ = h ++ [.inr (5, [.int (iz 0), .ref (g.2.1 + (h.length + 1)), .ref (g.2.1 + (h.length + 2)), .ref (g.2.1 + (h.length + 3)), .ref (g.2.1 + (h.length + 4)), .ref (g.2.1 + (h.length + 5)), .ref (g.2.1 + (h.length + 6)), .ref (g.2.1 + (h.length + 7)), .ref (g.2.1 + (h.length + 8)), .ref (g.2.1 + (h.length + 9)), .ref (g.2.1 + (h.length + 10)), .ref (g.2.1 + (h.length + 11)), .ref (g.2.1 + (h.length + 12)), .ref (g.2.1 + (h.length + 13)), .ref (g.2.1 + (h.length + 14)), .ref (g.2.1 + (h.length + 15)), .ref (g.2.1 + (h.length + 16)), .null, .null, .null, .null]), zA g 4 (fun _ => 0), zA g 4 (fun _ => 0), zA g 12 (fun _ => 0), zA g 4 (fun _ => 0), zA g 24 (fun _ => 0), zA g 24 (fun _ => 0), zA g 24 (fun _ => 0), zA g 1920 (fun _ => 0), zA g 960 (fun _ => 0), zA g 1681 (fun _ => 0), zA g 41 (fun _ => 0), zA g 41 (fun _ => 0), zA g 1681 (fun _ => 0), zA g 41 (fun _ => 0), zA g 41 (fun _ => 0), zA g 40 (fun _ => 0)] from ap_s0) ?_
  refine z_aload_n (pc := 133) rfl dX5_init_133 ?_
  refine z_iconst (pc := 134) dX5_init_134 ?_
  refine z_newI (pc := 135) (N2 := 4) rfl (by decide) ar_int ⟨Nat.le_of_ble_eq_true rfl, Nat.le_of_ble_eq_true rfl⟩ dX5_init_135 ?_
  refine z_topR (show _ = h.length + 17 by rw [List.length_append]; rfl) ?_
  refine z_hp (show _ = h ++ [.inr (5, [.int (iz 0), .ref (g.2.1 + (h.length + 1)), .ref (g.2.1 + (h.length + 2)), .ref (g.2.1 + (h.length + 3)), .ref (g.2.1 + (h.length + 4)), .ref (g.2.1 + (h.length + 5)), .ref (g.2.1 + (h.length + 6)), .ref (g.2.1 + (h.length + 7)), .ref (g.2.1 + (h.length + 8)), .ref (g.2.1 + (h.length + 9)), .ref (g.2.1 + (h.length + 10)), .ref (g.2.1 + (h.length + 11)), .ref (g.2.1 + (h.length + 12)), .ref (g.2.1 + (h.length + 13)), .ref (g.2.1 + (h.length + 14)), .ref (g.2.1 + (h.length + 15)), .ref (g.2.1 + (h.length + 16)), .null, .null, .null, .null]), zA g 4 (fun _ => 0), zA g 4 (fun _ => 0), zA g 12 (fun _ => 0), zA g 4 (fun _ => 0), zA g 24 (fun _ => 0), zA g 24 (fun _ => 0), zA g 24 (fun _ => 0), zA g 1920 (fun _ => 0), zA g 960 (fun _ => 0), zA g 1681 (fun _ => 0), zA g 41 (fun _ => 0), zA g 41 (fun _ => 0), zA g 1681 (fun _ => 0), zA g 41 (fun _ => 0), zA g 41 (fun _ => 0), zA g 40 (fun _ => 0), zA g 4 (fun _ => 0)] from List.append_assoc _ _ _) ?_
  refine zp_X5_58 (pc := 137) rfl ap_0 (Nat.le_of_ble_eq_true rfl) dX5_init_137 ?_
  refine z_hp (show _ = h ++ [.inr (5, [.int (iz 0), .ref (g.2.1 + (h.length + 1)), .ref (g.2.1 + (h.length + 2)), .ref (g.2.1 + (h.length + 3)), .ref (g.2.1 + (h.length + 4)), .ref (g.2.1 + (h.length + 5)), .ref (g.2.1 + (h.length + 6)), .ref (g.2.1 + (h.length + 7)), .ref (g.2.1 + (h.length + 8)), .ref (g.2.1 + (h.length + 9)), .ref (g.2.1 + (h.length + 10)), .ref (g.2.1 + (h.length + 11)), .ref (g.2.1 + (h.length + 12)), .ref (g.2.1 + (h.length + 13)), .ref (g.2.1 + (h.length + 14)), .ref (g.2.1 + (h.length + 15)), .ref (g.2.1 + (h.length + 16)), .ref (g.2.1 + (h.length + 17)), .null, .null, .null]), zA g 4 (fun _ => 0), zA g 4 (fun _ => 0), zA g 12 (fun _ => 0), zA g 4 (fun _ => 0), zA g 24 (fun _ => 0), zA g 24 (fun _ => 0), zA g 24 (fun _ => 0), zA g 1920 (fun _ => 0), zA g 960 (fun _ => 0), zA g 1681 (fun _ => 0), zA g 41 (fun _ => 0), zA g 41 (fun _ => 0), zA g 1681 (fun _ => 0), zA g 41 (fun _ => 0), zA g 41 (fun _ => 0), zA g 40 (fun _ => 0), zA g 4 (fun _ => 0)] from ap_s0) ?_
  refine z_aload_n (pc := 140) rfl dX5_init_140 ?_
  refine z_iconst (pc := 141) dX5_init_141 ?_
  refine z_newI (pc := 142) (N2 := 4) rfl (by decide) ar_int ⟨Nat.le_of_ble_eq_true rfl, Nat.le_of_ble_eq_true rfl⟩ dX5_init_142 ?_
  refine z_topR (show _ = h.length + 18 by rw [List.length_append]; rfl) ?_
  refine z_hp (show _ = h ++ [.inr (5, [.int (iz 0), .ref (g.2.1 + (h.length + 1)), .ref (g.2.1 + (h.length + 2)), .ref (g.2.1 + (h.length + 3)), .ref (g.2.1 + (h.length + 4)), .ref (g.2.1 + (h.length + 5)), .ref (g.2.1 + (h.length + 6)), .ref (g.2.1 + (h.length + 7)), .ref (g.2.1 + (h.length + 8)), .ref (g.2.1 + (h.length + 9)), .ref (g.2.1 + (h.length + 10)), .ref (g.2.1 + (h.length + 11)), .ref (g.2.1 + (h.length + 12)), .ref (g.2.1 + (h.length + 13)), .ref (g.2.1 + (h.length + 14)), .ref (g.2.1 + (h.length + 15)), .ref (g.2.1 + (h.length + 16)), .ref (g.2.1 + (h.length + 17)), .null, .null, .null]), zA g 4 (fun _ => 0), zA g 4 (fun _ => 0), zA g 12 (fun _ => 0), zA g 4 (fun _ => 0), zA g 24 (fun _ => 0), zA g 24 (fun _ => 0), zA g 24 (fun _ => 0), zA g 1920 (fun _ => 0), zA g 960 (fun _ => 0), zA g 1681 (fun _ => 0), zA g 41 (fun _ => 0), zA g 41 (fun _ => 0), zA g 1681 (fun _ => 0), zA g 41 (fun _ => 0), zA g 41 (fun _ => 0), zA g 40 (fun _ => 0), zA g 4 (fun _ => 0), zA g 4 (fun _ => 0)] from List.append_assoc _ _ _) ?_
  refine zp_X5_61 (pc := 144) rfl ap_0 (Nat.le_of_ble_eq_true rfl) dX5_init_144 ?_
  refine z_hp (show _ = h ++ [.inr (5, [.int (iz 0), .ref (g.2.1 + (h.length + 1)), .ref (g.2.1 + (h.length + 2)), .ref (g.2.1 + (h.length + 3)), .ref (g.2.1 + (h.length + 4)), .ref (g.2.1 + (h.length + 5)), .ref (g.2.1 + (h.length + 6)), .ref (g.2.1 + (h.length + 7)), .ref (g.2.1 + (h.length + 8)), .ref (g.2.1 + (h.length + 9)), .ref (g.2.1 + (h.length + 10)), .ref (g.2.1 + (h.length + 11)), .ref (g.2.1 + (h.length + 12)), .ref (g.2.1 + (h.length + 13)), .ref (g.2.1 + (h.length + 14)), .ref (g.2.1 + (h.length + 15)), .ref (g.2.1 + (h.length + 16)), .ref (g.2.1 + (h.length + 17)), .ref (g.2.1 + (h.length + 18)), .null, .null]), zA g 4 (fun _ => 0), zA g 4 (fun _ => 0), zA g 12 (fun _ => 0), zA g 4 (fun _ => 0), zA g 24 (fun _ => 0), zA g 24 (fun _ => 0), zA g 24 (fun _ => 0), zA g 1920 (fun _ => 0), zA g 960 (fun _ => 0), zA g 1681 (fun _ => 0), zA g 41 (fun _ => 0), zA g 41 (fun _ => 0), zA g 1681 (fun _ => 0), zA g 41 (fun _ => 0), zA g 41 (fun _ => 0), zA g 40 (fun _ => 0), zA g 4 (fun _ => 0), zA g 4 (fun _ => 0)] from ap_s0) ?_
  refine z_aload_n (pc := 147) rfl dX5_init_147 ?_
  refine z_iconst (pc := 148) dX5_init_148 ?_
  refine z_newL (pc := 149) (N2 := 4) rfl (by decide) ar_long ⟨Nat.le_of_ble_eq_true rfl, Nat.le_of_ble_eq_true rfl⟩ dX5_init_149 ?_
  refine z_topR (show _ = h.length + 19 by rw [List.length_append]; rfl) ?_
  refine z_hp (show _ = h ++ [.inr (5, [.int (iz 0), .ref (g.2.1 + (h.length + 1)), .ref (g.2.1 + (h.length + 2)), .ref (g.2.1 + (h.length + 3)), .ref (g.2.1 + (h.length + 4)), .ref (g.2.1 + (h.length + 5)), .ref (g.2.1 + (h.length + 6)), .ref (g.2.1 + (h.length + 7)), .ref (g.2.1 + (h.length + 8)), .ref (g.2.1 + (h.length + 9)), .ref (g.2.1 + (h.length + 10)), .ref (g.2.1 + (h.length + 11)), .ref (g.2.1 + (h.length + 12)), .ref (g.2.1 + (h.length + 13)), .ref (g.2.1 + (h.length + 14)), .ref (g.2.1 + (h.length + 15)), .ref (g.2.1 + (h.length + 16)), .ref (g.2.1 + (h.length + 17)), .ref (g.2.1 + (h.length + 18)), .null, .null]), zA g 4 (fun _ => 0), zA g 4 (fun _ => 0), zA g 12 (fun _ => 0), zA g 4 (fun _ => 0), zA g 24 (fun _ => 0), zA g 24 (fun _ => 0), zA g 24 (fun _ => 0), zA g 1920 (fun _ => 0), zA g 960 (fun _ => 0), zA g 1681 (fun _ => 0), zA g 41 (fun _ => 0), zA g 41 (fun _ => 0), zA g 1681 (fun _ => 0), zA g 41 (fun _ => 0), zA g 41 (fun _ => 0), zA g 40 (fun _ => 0), zA g 4 (fun _ => 0), zA g 4 (fun _ => 0), zL g 4 (fun _ => 0)] from List.append_assoc _ _ _) ?_
  refine zp_X5_64 (pc := 151) rfl ap_0 (Nat.le_of_ble_eq_true rfl) dX5_init_151 ?_
  refine z_hp (show _ = h ++ [.inr (5, [.int (iz 0), .ref (g.2.1 + (h.length + 1)), .ref (g.2.1 + (h.length + 2)), .ref (g.2.1 + (h.length + 3)), .ref (g.2.1 + (h.length + 4)), .ref (g.2.1 + (h.length + 5)), .ref (g.2.1 + (h.length + 6)), .ref (g.2.1 + (h.length + 7)), .ref (g.2.1 + (h.length + 8)), .ref (g.2.1 + (h.length + 9)), .ref (g.2.1 + (h.length + 10)), .ref (g.2.1 + (h.length + 11)), .ref (g.2.1 + (h.length + 12)), .ref (g.2.1 + (h.length + 13)), .ref (g.2.1 + (h.length + 14)), .ref (g.2.1 + (h.length + 15)), .ref (g.2.1 + (h.length + 16)), .ref (g.2.1 + (h.length + 17)), .ref (g.2.1 + (h.length + 18)), .ref (g.2.1 + (h.length + 19)), .null]), zA g 4 (fun _ => 0), zA g 4 (fun _ => 0), zA g 12 (fun _ => 0), zA g 4 (fun _ => 0), zA g 24 (fun _ => 0), zA g 24 (fun _ => 0), zA g 24 (fun _ => 0), zA g 1920 (fun _ => 0), zA g 960 (fun _ => 0), zA g 1681 (fun _ => 0), zA g 41 (fun _ => 0), zA g 41 (fun _ => 0), zA g 1681 (fun _ => 0), zA g 41 (fun _ => 0), zA g 41 (fun _ => 0), zA g 40 (fun _ => 0), zA g 4 (fun _ => 0), zA g 4 (fun _ => 0), zL g 4 (fun _ => 0)] from ap_s0) ?_
  refine z_aload_n (pc := 154) rfl dX5_init_154 ?_
  refine z_iconst (pc := 155) dX5_init_155 ?_
  refine z_newZ (pc := 156) (N2 := 3) rfl (by decide) ar_boolean ⟨Nat.le_of_ble_eq_true rfl, Nat.le_of_ble_eq_true rfl⟩ dX5_init_156 ?_
  refine z_topR (show _ = h.length + 20 by rw [List.length_append]; rfl) ?_
  refine z_hp (show _ = h ++ [.inr (5, [.int (iz 0), .ref (g.2.1 + (h.length + 1)), .ref (g.2.1 + (h.length + 2)), .ref (g.2.1 + (h.length + 3)), .ref (g.2.1 + (h.length + 4)), .ref (g.2.1 + (h.length + 5)), .ref (g.2.1 + (h.length + 6)), .ref (g.2.1 + (h.length + 7)), .ref (g.2.1 + (h.length + 8)), .ref (g.2.1 + (h.length + 9)), .ref (g.2.1 + (h.length + 10)), .ref (g.2.1 + (h.length + 11)), .ref (g.2.1 + (h.length + 12)), .ref (g.2.1 + (h.length + 13)), .ref (g.2.1 + (h.length + 14)), .ref (g.2.1 + (h.length + 15)), .ref (g.2.1 + (h.length + 16)), .ref (g.2.1 + (h.length + 17)), .ref (g.2.1 + (h.length + 18)), .ref (g.2.1 + (h.length + 19)), .null]), zA g 4 (fun _ => 0), zA g 4 (fun _ => 0), zA g 12 (fun _ => 0), zA g 4 (fun _ => 0), zA g 24 (fun _ => 0), zA g 24 (fun _ => 0), zA g 24 (fun _ => 0), zA g 1920 (fun _ => 0), zA g 960 (fun _ => 0), zA g 1681 (fun _ => 0), zA g 41 (fun _ => 0), zA g 41 (fun _ => 0), zA g 1681 (fun _ => 0), zA g 41 (fun _ => 0), zA g 41 (fun _ => 0), zA g 40 (fun _ => 0), zA g 4 (fun _ => 0), zA g 4 (fun _ => 0), zL g 4 (fun _ => 0), zB g 3 (fun _ => 0)] from List.append_assoc _ _ _) ?_
  refine zp_X5_68 (pc := 158) rfl ap_0 (Nat.le_of_ble_eq_true rfl) dX5_init_158 ?_
  refine z_hp (show _ = h ++ [.inr (5, [.int (iz 0), .ref (g.2.1 + (h.length + 1)), .ref (g.2.1 + (h.length + 2)), .ref (g.2.1 + (h.length + 3)), .ref (g.2.1 + (h.length + 4)), .ref (g.2.1 + (h.length + 5)), .ref (g.2.1 + (h.length + 6)), .ref (g.2.1 + (h.length + 7)), .ref (g.2.1 + (h.length + 8)), .ref (g.2.1 + (h.length + 9)), .ref (g.2.1 + (h.length + 10)), .ref (g.2.1 + (h.length + 11)), .ref (g.2.1 + (h.length + 12)), .ref (g.2.1 + (h.length + 13)), .ref (g.2.1 + (h.length + 14)), .ref (g.2.1 + (h.length + 15)), .ref (g.2.1 + (h.length + 16)), .ref (g.2.1 + (h.length + 17)), .ref (g.2.1 + (h.length + 18)), .ref (g.2.1 + (h.length + 19)), .ref (g.2.1 + (h.length + 20))]), zA g 4 (fun _ => 0), zA g 4 (fun _ => 0), zA g 12 (fun _ => 0), zA g 4 (fun _ => 0), zA g 24 (fun _ => 0), zA g 24 (fun _ => 0), zA g 24 (fun _ => 0), zA g 1920 (fun _ => 0), zA g 960 (fun _ => 0), zA g 1681 (fun _ => 0), zA g 41 (fun _ => 0), zA g 41 (fun _ => 0), zA g 1681 (fun _ => 0), zA g 41 (fun _ => 0), zA g 41 (fun _ => 0), zA g 40 (fun _ => 0), zA g 4 (fun _ => 0), zA g 4 (fun _ => 0), zL g 4 (fun _ => 0), zB g 3 (fun _ => 0)] from ap_s0) ?_
  refine z_aload_n (pc := 161) rfl dX5_init_161 ?_
  refine zf_X5_7 (pc := 162) ap_0 rfl dX5_init_162 ?_
  refine z_iconst (pc := 165) dX5_init_165 ?_
  refine z_bipush (pc := 166) (by decide) dX5_init_166 ?_
  refine z_iast (pc := 168) (ap_at.trans rfl) (by decide) (by decide) (by decide) dX5_init_168 ?_
  refine z_hp (show _ = h ++ [.inr (5, [.int (iz 0), .ref (g.2.1 + (h.length + 1)), .ref (g.2.1 + (h.length + 2)), .ref (g.2.1 + (h.length + 3)), .ref (g.2.1 + (h.length + 4)), .ref (g.2.1 + (h.length + 5)), .ref (g.2.1 + (h.length + 6)), .ref (g.2.1 + (h.length + 7)), .ref (g.2.1 + (h.length + 8)), .ref (g.2.1 + (h.length + 9)), .ref (g.2.1 + (h.length + 10)), .ref (g.2.1 + (h.length + 11)), .ref (g.2.1 + (h.length + 12)), .ref (g.2.1 + (h.length + 13)), .ref (g.2.1 + (h.length + 14)), .ref (g.2.1 + (h.length + 15)), .ref (g.2.1 + (h.length + 16)), .ref (g.2.1 + (h.length + 17)), .ref (g.2.1 + (h.length + 18)), .ref (g.2.1 + (h.length + 19)), .ref (g.2.1 + (h.length + 20))]), zA g 4 (vf_upd (fun _ => 0) 0 24), zA g 4 (fun _ => 0), zA g 12 (fun _ => 0), zA g 4 (fun _ => 0), zA g 24 (fun _ => 0), zA g 24 (fun _ => 0), zA g 24 (fun _ => 0), zA g 1920 (fun _ => 0), zA g 960 (fun _ => 0), zA g 1681 (fun _ => 0), zA g 41 (fun _ => 0), zA g 41 (fun _ => 0), zA g 1681 (fun _ => 0), zA g 41 (fun _ => 0), zA g 41 (fun _ => 0), zA g 40 (fun _ => 0), zA g 4 (fun _ => 0), zA g 4 (fun _ => 0), zL g 4 (fun _ => 0), zB g 3 (fun _ => 0)] from ap_set) ?_
  exact z_retv (pc := 169) rfl (Nat.le_of_ble_eq_true rfl) (Nat.le_of_ble_eq_true rfl) dX5_init_169 ⟨rfl, rfl⟩
theorem c_init_X4 : zM l g yX4_init cX4_init 1 none 2 22 1326 [.ref (g.2.1 + 0)] ([.inr (4, [.null, .null, .null, .null, .null])]) (fun r h2 => r = none ∧ h2 = [.inr (4, [.ref (g.2.1 + 1), .ref (g.2.1 + 8), .ref (g.2.1 + 9), .ref (g.2.1 + 17), .ref (g.2.1 + 19)]), .inr (1, [.int (iz 24), .int (iz 0), .int (iz 0), .ref (g.2.1 + 2), .ref (g.2.1 + 3), .ref (g.2.1 + 4), .ref (g.2.1 + 5), .ref (g.2.1 + 6), .ref (g.2.1 + 7)]), zA g 3 (fun _ => 0), zA g 6 (fun _ => 0), zA g 6 (fun _ => 0), zA g 6 (fun _ => 0), zA g 480 (fun _ => 0), zA g 240 (fun _ => 0), zR g 3 (fun _ => none), .inr (2, [.int (iz 0), .int (iz 0), .ref (g.2.1 + 10), .ref (g.2.1 + 11), .ref (g.2.1 + 12), .ref (g.2.1 + 13), .ref (g.2.1 + 14), .ref (g.2.1 + 15), .ref (g.2.1 + 16)]), zA g 8 (fun _ => 0), zA g 8 (fun _ => 0), zA g 328 (fun _ => 0), zA g 41 (fun _ => 0), zA g 41 (fun _ => 0), zA g 41 (fun _ => 0), zB g 41 (fun _ => 0), .inr (0, [.ref (g.2.1 + 18)]), zA g 40 (fun _ => 0), .inr (3, [.ref (g.2.1 + 20), .ref (g.2.1 + 21), .ref (g.2.1 + 22)]), zA g 4 (fun _ => 0), zA g 4 (fun _ => 0), zA g 4 (fun _ => 0)]) := by
  refine zM_of 0 (by decide) rfl ?_
  show zJ l g RX4 cX4_init 1 none "<init>" (zRm 2 22 1326) 22 1326 _ 0 0 0 [some (.ref (g.2.1 + 0))] [] _
  refine z_aload_n (pc := 0) rfl dX4_init_0 ?_
  refine z_objInit (q0 := 0) (pc := 1) ob_X4_1 ob_in ob_cd ⟨by decide, by decide⟩ (Nat.le_of_ble_eq_true rfl) dX4_init_1 ?_
  refine z_aload_n (pc := 4) rfl dX4_init_4 ?_
  refine z_new (pc := 5) (C := RX1) (T := TX1) (N := 9) (ci := 1) zin_X1 tyX1 tyX1_ok rfl cl_X4_7 nw_X1 nwi_X1 (fs := [.int (iz 0), .int (iz 0), .int (iz 0), .null, .null, .null, .null, .null, .null]) (by decide +kernel) ⟨Nat.le_of_ble_eq_true rfl, Nat.le_of_ble_eq_true rfl⟩ dX4_init_5 ?_
  refine z_topR (show _ = 1 from rfl) ?_
  refine z_dup (pc := 8) rfl dX4_init_8 ?_
  refine z_I0 (pc := 9) (q0 := 1) (c_init_X1 (h := [.inr (4, [.null, .null, .null, .null, .null])])) lk_X4_9 in_X1_init rfl ⟨by decide, by decide⟩ (Nat.le_of_ble_eq_true rfl) ⟨Nat.le_of_ble_eq_true rfl, Nat.le_of_ble_eq_true rfl⟩ dX4_init_9 (fun r h9 hq => ?_)
  obtain ⟨rfl, e9⟩ := hq
  rw [e9]
  clear e9 h9
  refine z_r0 ?_
  refine z_hp (show _ = [.inr (4, [.null, .null, .null, .null, .null]), .inr (1, [.int (iz 24), .int (iz 0), .int (iz 0), .ref (g.2.1 + 2), .ref (g.2.1 + 3), .ref (g.2.1 + 4), .ref (g.2.1 + 5), .ref (g.2.1 + 6), .ref (g.2.1 + 7)]), zA g 3 (fun _ => 0), zA g 6 (fun _ => 0), zA g 6 (fun _ => 0), zA g 6 (fun _ => 0), zA g 480 (fun _ => 0), zA g 240 (fun _ => 0)] from rfl) ?_
  refine zp_X4_10 (q0 := 0) (pc := 12) rfl rfl (Nat.le_of_ble_eq_true rfl) dX4_init_12 ?_
  refine z_hp (show _ = [.inr (4, [.ref (g.2.1 + 1), .null, .null, .null, .null]), .inr (1, [.int (iz 24), .int (iz 0), .int (iz 0), .ref (g.2.1 + 2), .ref (g.2.1 + 3), .ref (g.2.1 + 4), .ref (g.2.1 + 5), .ref (g.2.1 + 6), .ref (g.2.1 + 7)]), zA g 3 (fun _ => 0), zA g 6 (fun _ => 0), zA g 6 (fun _ => 0), zA g 6 (fun _ => 0), zA g 480 (fun _ => 0), zA g 240 (fun _ => 0)] from rfl) ?_
  refine z_aload_n (pc := 15) rfl dX4_init_15 ?_
  refine z_iconst (pc := 16) dX4_init_16 ?_
  refine z_newB (pc := 17) (N2 := 3) rfl (by decide) cl_X4_7 ⟨Nat.le_of_ble_eq_true rfl, Nat.le_of_ble_eq_true rfl⟩ dX4_init_17 ?_
  refine z_topR (show _ = 8 from rfl) ?_
  refine z_hp (show _ = [.inr (4, [.ref (g.2.1 + 1), .null, .null, .null, .null]), .inr (1, [.int (iz 24), .int (iz 0), .int (iz 0), .ref (g.2.1 + 2), .ref (g.2.1 + 3), .ref (g.2.1 + 4), .ref (g.2.1 + 5), .ref (g.2.1 + 6), .ref (g.2.1 + 7)]), zA g 3 (fun _ => 0), zA g 6 (fun _ => 0), zA g 6 (fun _ => 0), zA g 6 (fun _ => 0), zA g 480 (fun _ => 0), zA g 240 (fun _ => 0), zR g 3 (fun _ => none)] from rfl) ?_
  refine zp_X4_16 (q0 := 0) (pc := 20) rfl rfl (Nat.le_of_ble_eq_true rfl) dX4_init_20 ?_
  refine z_hp (show _ = [.inr (4, [.ref (g.2.1 + 1), .ref (g.2.1 + 8), .null, .null, .null]), .inr (1, [.int (iz 24), .int (iz 0), .int (iz 0), .ref (g.2.1 + 2), .ref (g.2.1 + 3), .ref (g.2.1 + 4), .ref (g.2.1 + 5), .ref (g.2.1 + 6), .ref (g.2.1 + 7)]), zA g 3 (fun _ => 0), zA g 6 (fun _ => 0), zA g 6 (fun _ => 0), zA g 6 (fun _ => 0), zA g 480 (fun _ => 0), zA g 240 (fun _ => 0), zR g 3 (fun _ => none)] from rfl) ?_
  refine z_aload_n (pc := 23) rfl dX4_init_23 ?_
  refine z_new (pc := 24) (C := RX2) (T := TX2) (N := 9) (ci := 2) zin_X2 tyX2 tyX2_ok rfl cl_X4_20 nw_X2 nwi_X2 (fs := [.int (iz 0), .int (iz 0), .null, .null, .null, .null, .null, .null, .null]) (by decide +kernel) ⟨Nat.le_of_ble_eq_true rfl, Nat.le_of_ble_eq_true rfl⟩ dX4_init_24 ?_
  refine z_topR (show _ = 9 from rfl) ?_
  refine z_dup (pc := 27) rfl dX4_init_27 ?_
  refine z_I0 (pc := 28) (q0 := 9) (c_init_X2 (h := [.inr (4, [.ref (g.2.1 + 1), .ref (g.2.1 + 8), .null, .null, .null]), .inr (1, [.int (iz 24), .int (iz 0), .int (iz 0), .ref (g.2.1 + 2), .ref (g.2.1 + 3), .ref (g.2.1 + 4), .ref (g.2.1 + 5), .ref (g.2.1 + 6), .ref (g.2.1 + 7)]), zA g 3 (fun _ => 0), zA g 6 (fun _ => 0), zA g 6 (fun _ => 0), zA g 6 (fun _ => 0), zA g 480 (fun _ => 0), zA g 240 (fun _ => 0), zR g 3 (fun _ => none)])) lk_X4_22 in_X2_init rfl ⟨by decide, by decide⟩ (Nat.le_of_ble_eq_true rfl) ⟨Nat.le_of_ble_eq_true rfl, Nat.le_of_ble_eq_true rfl⟩ dX4_init_28 (fun r h9 hq => ?_)
  obtain ⟨rfl, e9⟩ := hq
  rw [e9]
  clear e9 h9
  refine z_r0 ?_
  refine z_hp (show _ = [.inr (4, [.ref (g.2.1 + 1), .ref (g.2.1 + 8), .null, .null, .null]), .inr (1, [.int (iz 24), .int (iz 0), .int (iz 0), .ref (g.2.1 + 2), .ref (g.2.1 + 3), .ref (g.2.1 + 4), .ref (g.2.1 + 5), .ref (g.2.1 + 6), .ref (g.2.1 + 7)]), zA g 3 (fun _ => 0), zA g 6 (fun _ => 0), zA g 6 (fun _ => 0), zA g 6 (fun _ => 0), zA g 480 (fun _ => 0), zA g 240 (fun _ => 0), zR g 3 (fun _ => none), .inr (2, [.int (iz 0), .int (iz 0), .ref (g.2.1 + 10), .ref (g.2.1 + 11), .ref (g.2.1 + 12), .ref (g.2.1 + 13), .ref (g.2.1 + 14), .ref (g.2.1 + 15), .ref (g.2.1 + 16)]), zA g 8 (fun _ => 0), zA g 8 (fun _ => 0), zA g 328 (fun _ => 0), zA g 41 (fun _ => 0), zA g 41 (fun _ => 0), zA g 41 (fun _ => 0), zB g 41 (fun _ => 0)] from rfl) ?_
  refine zp_X4_23 (q0 := 0) (pc := 31) rfl rfl (Nat.le_of_ble_eq_true rfl) dX4_init_31 ?_
  refine z_hp (show _ = [.inr (4, [.ref (g.2.1 + 1), .ref (g.2.1 + 8), .ref (g.2.1 + 9), .null, .null]), .inr (1, [.int (iz 24), .int (iz 0), .int (iz 0), .ref (g.2.1 + 2), .ref (g.2.1 + 3), .ref (g.2.1 + 4), .ref (g.2.1 + 5), .ref (g.2.1 + 6), .ref (g.2.1 + 7)]), zA g 3 (fun _ => 0), zA g 6 (fun _ => 0), zA g 6 (fun _ => 0), zA g 6 (fun _ => 0), zA g 480 (fun _ => 0), zA g 240 (fun _ => 0), zR g 3 (fun _ => none), .inr (2, [.int (iz 0), .int (iz 0), .ref (g.2.1 + 10), .ref (g.2.1 + 11), .ref (g.2.1 + 12), .ref (g.2.1 + 13), .ref (g.2.1 + 14), .ref (g.2.1 + 15), .ref (g.2.1 + 16)]), zA g 8 (fun _ => 0), zA g 8 (fun _ => 0), zA g 328 (fun _ => 0), zA g 41 (fun _ => 0), zA g 41 (fun _ => 0), zA g 41 (fun _ => 0), zB g 41 (fun _ => 0)] from rfl) ?_
  refine z_aload_n (pc := 34) rfl dX4_init_34 ?_
  refine z_new (pc := 35) (C := RX0) (T := TX0) (N := 1) (ci := 0) zin_X0 tyX0 tyX0_ok rfl cl_X4_27 nw_X0 nwi_X0 (fs := [.null]) (by decide +kernel) ⟨Nat.le_of_ble_eq_true rfl, Nat.le_of_ble_eq_true rfl⟩ dX4_init_35 ?_
  refine z_topR (show _ = 17 from rfl) ?_
  refine z_dup (pc := 38) rfl dX4_init_38 ?_
  refine z_I0 (pc := 39) (q0 := 17) (c_init_X0 (h := [.inr (4, [.ref (g.2.1 + 1), .ref (g.2.1 + 8), .ref (g.2.1 + 9), .null, .null]), .inr (1, [.int (iz 24), .int (iz 0), .int (iz 0), .ref (g.2.1 + 2), .ref (g.2.1 + 3), .ref (g.2.1 + 4), .ref (g.2.1 + 5), .ref (g.2.1 + 6), .ref (g.2.1 + 7)]), zA g 3 (fun _ => 0), zA g 6 (fun _ => 0), zA g 6 (fun _ => 0), zA g 6 (fun _ => 0), zA g 480 (fun _ => 0), zA g 240 (fun _ => 0), zR g 3 (fun _ => none), .inr (2, [.int (iz 0), .int (iz 0), .ref (g.2.1 + 10), .ref (g.2.1 + 11), .ref (g.2.1 + 12), .ref (g.2.1 + 13), .ref (g.2.1 + 14), .ref (g.2.1 + 15), .ref (g.2.1 + 16)]), zA g 8 (fun _ => 0), zA g 8 (fun _ => 0), zA g 328 (fun _ => 0), zA g 41 (fun _ => 0), zA g 41 (fun _ => 0), zA g 41 (fun _ => 0), zB g 41 (fun _ => 0)])) lk_X4_29 in_X0_init rfl ⟨by decide, by decide⟩ (Nat.le_of_ble_eq_true rfl) ⟨Nat.le_of_ble_eq_true rfl, Nat.le_of_ble_eq_true rfl⟩ dX4_init_39 (fun r h9 hq => ?_)
  obtain ⟨rfl, e9⟩ := hq
  rw [e9]
  clear e9 h9
  refine z_r0 ?_
  refine z_hp (show _ = [.inr (4, [.ref (g.2.1 + 1), .ref (g.2.1 + 8), .ref (g.2.1 + 9), .null, .null]), .inr (1, [.int (iz 24), .int (iz 0), .int (iz 0), .ref (g.2.1 + 2), .ref (g.2.1 + 3), .ref (g.2.1 + 4), .ref (g.2.1 + 5), .ref (g.2.1 + 6), .ref (g.2.1 + 7)]), zA g 3 (fun _ => 0), zA g 6 (fun _ => 0), zA g 6 (fun _ => 0), zA g 6 (fun _ => 0), zA g 480 (fun _ => 0), zA g 240 (fun _ => 0), zR g 3 (fun _ => none), .inr (2, [.int (iz 0), .int (iz 0), .ref (g.2.1 + 10), .ref (g.2.1 + 11), .ref (g.2.1 + 12), .ref (g.2.1 + 13), .ref (g.2.1 + 14), .ref (g.2.1 + 15), .ref (g.2.1 + 16)]), zA g 8 (fun _ => 0), zA g 8 (fun _ => 0), zA g 328 (fun _ => 0), zA g 41 (fun _ => 0), zA g 41 (fun _ => 0), zA g 41 (fun _ => 0), zB g 41 (fun _ => 0), .inr (0, [.ref (g.2.1 + 18)]), zA g 40 (fun _ => 0)] from rfl) ?_
  refine zp_X4_30 (q0 := 0) (pc := 42) rfl rfl (Nat.le_of_ble_eq_true rfl) dX4_init_42 ?_
  refine z_hp (show _ = [.inr (4, [.ref (g.2.1 + 1), .ref (g.2.1 + 8), .ref (g.2.1 + 9), .ref (g.2.1 + 17), .null]), .inr (1, [.int (iz 24), .int (iz 0), .int (iz 0), .ref (g.2.1 + 2), .ref (g.2.1 + 3), .ref (g.2.1 + 4), .ref (g.2.1 + 5), .ref (g.2.1 + 6), .ref (g.2.1 + 7)]), zA g 3 (fun _ => 0), zA g 6 (fun _ => 0), zA g 6 (fun _ => 0), zA g 6 (fun _ => 0), zA g 480 (fun _ => 0), zA g 240 (fun _ => 0), zR g 3 (fun _ => none), .inr (2, [.int (iz 0), .int (iz 0), .ref (g.2.1 + 10), .ref (g.2.1 + 11), .ref (g.2.1 + 12), .ref (g.2.1 + 13), .ref (g.2.1 + 14), .ref (g.2.1 + 15), .ref (g.2.1 + 16)]), zA g 8 (fun _ => 0), zA g 8 (fun _ => 0), zA g 328 (fun _ => 0), zA g 41 (fun _ => 0), zA g 41 (fun _ => 0), zA g 41 (fun _ => 0), zB g 41 (fun _ => 0), .inr (0, [.ref (g.2.1 + 18)]), zA g 40 (fun _ => 0)] from rfl) ?_
  refine z_aload_n (pc := 45) rfl dX4_init_45 ?_
  refine z_new (pc := 46) (C := RX3) (T := TX3) (N := 3) (ci := 3) zin_X3 tyX3 tyX3_ok rfl cl_X4_34 nw_X3 nwi_X3 (fs := [.null, .null, .null]) (by decide +kernel) ⟨Nat.le_of_ble_eq_true rfl, Nat.le_of_ble_eq_true rfl⟩ dX4_init_46 ?_
  refine z_topR (show _ = 19 from rfl) ?_
  refine z_dup (pc := 49) rfl dX4_init_49 ?_
  refine z_I0 (pc := 50) (q0 := 19) (c_init_X3 (h := [.inr (4, [.ref (g.2.1 + 1), .ref (g.2.1 + 8), .ref (g.2.1 + 9), .ref (g.2.1 + 17), .null]), .inr (1, [.int (iz 24), .int (iz 0), .int (iz 0), .ref (g.2.1 + 2), .ref (g.2.1 + 3), .ref (g.2.1 + 4), .ref (g.2.1 + 5), .ref (g.2.1 + 6), .ref (g.2.1 + 7)]), zA g 3 (fun _ => 0), zA g 6 (fun _ => 0), zA g 6 (fun _ => 0), zA g 6 (fun _ => 0), zA g 480 (fun _ => 0), zA g 240 (fun _ => 0), zR g 3 (fun _ => none), .inr (2, [.int (iz 0), .int (iz 0), .ref (g.2.1 + 10), .ref (g.2.1 + 11), .ref (g.2.1 + 12), .ref (g.2.1 + 13), .ref (g.2.1 + 14), .ref (g.2.1 + 15), .ref (g.2.1 + 16)]), zA g 8 (fun _ => 0), zA g 8 (fun _ => 0), zA g 328 (fun _ => 0), zA g 41 (fun _ => 0), zA g 41 (fun _ => 0), zA g 41 (fun _ => 0), zB g 41 (fun _ => 0), .inr (0, [.ref (g.2.1 + 18)]), zA g 40 (fun _ => 0)])) lk_X4_36 in_X3_init rfl ⟨by decide, by decide⟩ (Nat.le_of_ble_eq_true rfl) ⟨Nat.le_of_ble_eq_true rfl, Nat.le_of_ble_eq_true rfl⟩ dX4_init_50 (fun r h9 hq => ?_)
  obtain ⟨rfl, e9⟩ := hq
  rw [e9]
  clear e9 h9
  refine z_r0 ?_
  refine z_hp (show _ = [.inr (4, [.ref (g.2.1 + 1), .ref (g.2.1 + 8), .ref (g.2.1 + 9), .ref (g.2.1 + 17), .null]), .inr (1, [.int (iz 24), .int (iz 0), .int (iz 0), .ref (g.2.1 + 2), .ref (g.2.1 + 3), .ref (g.2.1 + 4), .ref (g.2.1 + 5), .ref (g.2.1 + 6), .ref (g.2.1 + 7)]), zA g 3 (fun _ => 0), zA g 6 (fun _ => 0), zA g 6 (fun _ => 0), zA g 6 (fun _ => 0), zA g 480 (fun _ => 0), zA g 240 (fun _ => 0), zR g 3 (fun _ => none), .inr (2, [.int (iz 0), .int (iz 0), .ref (g.2.1 + 10), .ref (g.2.1 + 11), .ref (g.2.1 + 12), .ref (g.2.1 + 13), .ref (g.2.1 + 14), .ref (g.2.1 + 15), .ref (g.2.1 + 16)]), zA g 8 (fun _ => 0), zA g 8 (fun _ => 0), zA g 328 (fun _ => 0), zA g 41 (fun _ => 0), zA g 41 (fun _ => 0), zA g 41 (fun _ => 0), zB g 41 (fun _ => 0), .inr (0, [.ref (g.2.1 + 18)]), zA g 40 (fun _ => 0), .inr (3, [.ref (g.2.1 + 20), .ref (g.2.1 + 21), .ref (g.2.1 + 22)]), zA g 4 (fun _ => 0), zA g 4 (fun _ => 0), zA g 4 (fun _ => 0)] from rfl) ?_
  refine zp_X4_37 (q0 := 0) (pc := 53) rfl rfl (Nat.le_of_ble_eq_true rfl) dX4_init_53 ?_
  refine z_hp (show _ = [.inr (4, [.ref (g.2.1 + 1), .ref (g.2.1 + 8), .ref (g.2.1 + 9), .ref (g.2.1 + 17), .ref (g.2.1 + 19)]), .inr (1, [.int (iz 24), .int (iz 0), .int (iz 0), .ref (g.2.1 + 2), .ref (g.2.1 + 3), .ref (g.2.1 + 4), .ref (g.2.1 + 5), .ref (g.2.1 + 6), .ref (g.2.1 + 7)]), zA g 3 (fun _ => 0), zA g 6 (fun _ => 0), zA g 6 (fun _ => 0), zA g 6 (fun _ => 0), zA g 480 (fun _ => 0), zA g 240 (fun _ => 0), zR g 3 (fun _ => none), .inr (2, [.int (iz 0), .int (iz 0), .ref (g.2.1 + 10), .ref (g.2.1 + 11), .ref (g.2.1 + 12), .ref (g.2.1 + 13), .ref (g.2.1 + 14), .ref (g.2.1 + 15), .ref (g.2.1 + 16)]), zA g 8 (fun _ => 0), zA g 8 (fun _ => 0), zA g 328 (fun _ => 0), zA g 41 (fun _ => 0), zA g 41 (fun _ => 0), zA g 41 (fun _ => 0), zB g 41 (fun _ => 0), .inr (0, [.ref (g.2.1 + 18)]), zA g 40 (fun _ => 0), .inr (3, [.ref (g.2.1 + 20), .ref (g.2.1 + 21), .ref (g.2.1 + 22)]), zA g 4 (fun _ => 0), zA g 4 (fun _ => 0), zA g 4 (fun _ => 0)] from rfl) ?_
  exact z_retv (pc := 56) rfl (Nat.le_of_ble_eq_true rfl) (Nat.le_of_ble_eq_true rfl) dX4_init_56 ⟨rfl, rfl⟩
end MAKE
