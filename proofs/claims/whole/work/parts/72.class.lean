/-! ===== the class's own methods ===== -/
def sameC (F F' : Nat → Nat → Int) : Prop := ∀ q, q < 9 ∨ 16 < q → F' q = F q
theorem dv_nd2 {F : Nat → Nat → Int} (B : bi F 1) (k : Nat) {a : Nat} (x : Int) (w : Nat → Int) {n : Nat} (ha : a < n) : dv (nd2 F k a x) w n = dv (nda F k) w n + max x (-nda F k a) * (w a - w (a + 1)) := by
  have e : ∀ t, nd2 F k a x t * (w t - w (t + 1)) = vf_upd (fun t => nda F k t * (w t - w (t + 1))) a ((nda F k a + max x (-nda F k a)) * (w a - w (a + 1))) t := by
    intro t
    have b := nda_bd B k t
    unfold vf_upd nd2
    by_cases h : t = a
    · subst h
      rw [if_pos rfl, if_pos rfl, show max 0 (nda F k t + x) = nda F k t + max x (-nda F k t) by omega]
    · rw [if_neg h, if_neg (by omega), show max 0 (nda F k t + 0) = nda F k t by omega]
  unfold dv
  rw [show (fun t => nd2 F k a x t * (w t - w (t + 1))) = vf_upd (fun t => nda F k t * (w t - w (t + 1))) a ((nda F k a + max x (-nda F k a)) * (w a - w (a + 1))) from funext e, sm_upd ha, Int.add_mul]
  show sm (fun t => nda F k t * (w t - w (t + 1))) n - nda F k a * (w a - w (a + 1)) + (nda F k a * (w a - w (a + 1)) + max x (-nda F k a) * (w a - w (a + 1))) = _
  omega
theorem z_weak {l : Launch} {g : zG} {own : String} {cc : ByteArray} {nL : Nat} {rt : Option FieldType} {nm : String} {R : Room} {mc ms : Nat} {Q Q2 : Option Value → List va_E → Prop} {k n pc : Nat} {ls : List (Option Value)} {st : List Value} {h : List va_E} (h1 : zJ l g own cc nL rt nm R mc ms Q k n pc ls st h) (hQ : ∀ r h, Q r h → Q2 r h) : zJ l g own cc nL rt nm R mc ms Q2 k n pc ls st h := by
  intro p e s m args below meth c H locs la hC hw hS hl T hT X
  obtain ⟨t, a1, o, b1, b2, b3, b4⟩ := h1 p e s m args below meth c H locs la hC hw hS hl T hT X
  obtain ⟨⟨r, h', c1, c2, c3⟩, c4⟩ := b3
  exact ⟨t, a1, o, b1, b2, ⟨⟨r, h', c1, hQ r h' c2, c3⟩, c4⟩, b4⟩
section CLS
variable {l : Launch} {g : zG} {F : Nat → Nat → Int} {L : Nat → Int} {im : Nat → Option Nat} {c : Nat}
theorem c_isOwner {h : List va_E} {z : Int} (hz : ir z) : zM l g yX4_isOwner cX4_isOwner 1 (some .boolean) 0 0 0 [.int (iz z)] (h) (fun r h2 => r = some (.int (iz (if 0 ≤ z ∧ z < 4 then 1 else 0))) ∧ h2 = h) := by
  refine zM_of 0 (by decide) rfl ?_
  show zJ l g RX4 cX4_isOwner 1 (some .boolean) "isOwner" (zRm 0 0 0) 0 0 _ 0 0 0 [some (.int (iz z))] [] _
  refine z_iload_n (pc := 0) rfl dX4_isOwner_0 ?_
  refine z_if_lt (pc := 1) hz 13 (by decide) dX4_isOwner_1 (fun hq => ?_) (fun hq => ?_)
  · rw [if_neg (by omega)]
    refine z_iconst (pc := 13) dX4_isOwner_13 ?_
    exact z_retz (pc := 14) rfl (Or.inl rfl) (by decide) (by decide) dX4_isOwner_14 ⟨rfl, rfl⟩
  refine z_iload_n (pc := 4) rfl dX4_isOwner_4 ?_
  refine z_iconst (pc := 5) dX4_isOwner_5 ?_
  refine z_icmp_ge (pc := 6) hz ⟨by omega, by omega⟩ 13 (by decide) dX4_isOwner_6 (fun hq => ?_) (fun hq => ?_)
  · rw [if_neg (by omega)]
    refine z_iconst (pc := 13) dX4_isOwner_13 ?_
    exact z_retz (pc := 14) rfl (Or.inl rfl) (by decide) (by decide) dX4_isOwner_14 ⟨rfl, rfl⟩
  rw [if_pos (by omega)]
  refine z_iconst (pc := 9) dX4_isOwner_9 ?_
  refine z_goto (pc := 10) 14 (by decide) dX4_isOwner_10 ?_
  exact z_retz (pc := 14) rfl (Or.inr rfl) (by decide) (by decide) dX4_isOwner_14 ⟨rfl, rfl⟩
theorem c_isCost {h : List va_E} {z : Int} (hz : ir z) : zM l g yX4_isCost cX4_isCost 1 (some .boolean) 0 0 0 [.int (iz z)] (h) (fun r h2 => r = some (.int (iz (if 0 ≤ z ∧ z ≤ 100000 then 1 else 0))) ∧ h2 = h) := by
  refine zM_of 0 (by decide) rfl ?_
  show zJ l g RX4 cX4_isCost 1 (some .boolean) "isCost" (zRm 0 0 0) 0 0 _ 0 0 0 [some (.int (iz z))] [] _
  refine z_iload_n (pc := 0) rfl dX4_isCost_0 ?_
  refine z_if_lt (pc := 1) hz 14 (by decide) dX4_isCost_1 (fun hq => ?_) (fun hq => ?_)
  · rw [if_neg (by omega)]
    refine z_iconst (pc := 14) dX4_isCost_14 ?_
    exact z_retz (pc := 15) rfl (Or.inl rfl) (by decide) (by decide) dX4_isCost_15 ⟨rfl, rfl⟩
  refine z_iload_n (pc := 4) rfl dX4_isCost_4 ?_
  refine z_ldc (pc := 5) kc_X4_185 dX4_isCost_5 ?_
  refine z_icmp_gt (pc := 7) hz ⟨by omega, by omega⟩ 14 (by decide) dX4_isCost_7 (fun hq => ?_) (fun hq => ?_)
  · rw [if_neg (by omega)]
    refine z_iconst (pc := 14) dX4_isCost_14 ?_
    exact z_retz (pc := 15) rfl (Or.inl rfl) (by decide) (by decide) dX4_isCost_15 ⟨rfl, rfl⟩
  rw [if_pos (by omega)]
  refine z_iconst (pc := 10) dX4_isCost_10 ?_
  refine z_goto (pc := 11) 15 (by decide) dX4_isCost_11 ?_
  exact z_retz (pc := 15) rfl (Or.inr rfl) (by decide) (by decide) dX4_isCost_15 ⟨rfl, rfl⟩
theorem c_hours {z : Int} (hz : ir z) : zM l g yX4_hours cX4_hours 2 (some .boolean) 4 0 0 [.ref (g.2.1 + 0), .int (iz z)] (zk g F L im c) (fun r h => ((1 ≤ z ∧ z ≤ 40) ∧ r = some (.int (iz 1)) ∧ h = zk g (va_up (va_up (va_up F 6 (cut0 (F 6) z.toNat 480)) 7 (cut0 (F 7) z.toNat 240)) 1 (vf_upd (F 1) 0 z)) L im c) ∨ (¬ (1 ≤ z ∧ z ≤ 40) ∧ r = some (.int (iz 0)) ∧ h = zk g F L im c)) := by
  refine zM_of 0 (by decide) rfl ?_
  show zJ l g RX4 cX4_hours 2 (some .boolean) "hours" (zRm 4 0 0) 0 0 _ 0 0 0 [some (.ref (g.2.1 + 0)), some (.int (iz z))] [] _
  have no : ¬ (1 ≤ z ∧ z ≤ 40) → zJ l g RX4 cX4_hours 2 (some .boolean) "hours" (zRm 4 0 0) 0 0 (fun r h => ((1 ≤ z ∧ z ≤ 40) ∧ r = some (.int (iz 1)) ∧ h = zk g (va_up (va_up (va_up F 6 (cut0 (F 6) z.toNat 480)) 7 (cut0 (F 7) z.toNat 240)) 1 (vf_upd (F 1) 0 z)) L im c) ∨ (¬ (1 ≤ z ∧ z ≤ 40) ∧ r = some (.int (iz 0)) ∧ h = zk g F L im c)) 0 0 11 [some (.ref (g.2.1 + 0)), some (.int (iz z))] [] (zk g F L im c) := by
    intro hno
    refine z_iconst (pc := 11) dX4_hours_11 ?_
    exact z_retz (pc := 12) rfl (Or.inl rfl) (by decide) (by decide) dX4_hours_12 (Or.inr ⟨hno, rfl, rfl⟩)
  refine z_iload_n (pc := 0) rfl dX4_hours_0 ?_
  refine z_iconst (pc := 1) dX4_hours_1 ?_
  refine z_icmp_lt (pc := 2) hz ⟨by omega, by omega⟩ 11 (by decide) dX4_hours_2 (fun hq => ?_) (fun hq => ?_)
  · exact no (by omega)
  refine z_iload_n (pc := 5) rfl dX4_hours_5 ?_
  refine z_bipush (pc := 6) (by decide) dX4_hours_6 ?_
  refine z_icmp_le (pc := 8) hz ⟨by omega, by omega⟩ 13 (by decide) dX4_hours_8 (fun hq => ?_) (fun hq => ?_)
  rotate_left
  · exact no (by omega)
  obtain ⟨t, rfl⟩ := Int.eq_ofNat_of_zero_le (show 0 ≤ z by omega)
  refine z_aload_n (pc := 13) rfl dX4_hours_13 ?_
  refine zf_X4_10 (pc := 14) rfl rfl dX4_hours_14 ?_
  refine z_iload_n (pc := 17) rfl dX4_hours_17 ?_
  refine z_V1 (pc := 18) (c_setHours (t := t) (by omega)) lk_X4_41 iv_X1_setHours rfl rfl ⟨by decide, by decide⟩ (Nat.le_of_ble_eq_true rfl) ⟨by decide, by decide⟩ dX4_hours_18 (fun r h9 hq => ?_)
  obtain ⟨rfl, e9⟩ := hq
  rw [e9]
  clear e9 h9
  refine z_r0 ?_
  refine z_iconst (pc := 21) dX4_hours_21 ?_
  exact z_retz (pc := 22) rfl (Or.inr rfl) (by decide) (by decide) dX4_hours_22 (Or.inl ⟨by omega, rfl, rfl⟩)
theorem c_kind (B : bi F 1) {z : Int} (hz : ir z) : zM l g yX4_kind cX4_kind 2 (some .int) 1 0 0 [.ref (g.2.1 + 0), .int (iz z)] (zk g F L im c) (fun r h => ((F 1 1 < 3 ∧ 1 ≤ z ∧ z ≤ 1000) ∧ r = some (.int (iz (F 1 1))) ∧ h = zk g (va_up (va_up F 2 (vf_upd (F 2) (F 1 1).toNat z)) 1 (vf_upd (F 1) 1 (F 1 1 + 1))) L im c) ∨ (¬ (F 1 1 < 3 ∧ 1 ≤ z ∧ z ≤ 1000) ∧ r = some (.int (iz (-1))) ∧ h = zk g F L im c)) := by
  refine zM_of 0 (by decide) rfl ?_
  show zJ l g RX4 cX4_kind 2 (some .int) "kind" (zRm 1 0 0) 0 0 _ 0 0 0 [some (.ref (g.2.1 + 0)), some (.int (iz z))] [] _
  have b2 := bi_kinds B
  have no : ¬ (F 1 1 < 3 ∧ 1 ≤ z ∧ z ≤ 1000) → zJ l g RX4 cX4_kind 2 (some .int) "kind" (zRm 1 0 0) 0 0 (fun r h => ((F 1 1 < 3 ∧ 1 ≤ z ∧ z ≤ 1000) ∧ r = some (.int (iz (F 1 1))) ∧ h = zk g (va_up (va_up F 2 (vf_upd (F 2) (F 1 1).toNat z)) 1 (vf_upd (F 1) 1 (F 1 1 + 1))) L im c) ∨ (¬ (F 1 1 < 3 ∧ 1 ≤ z ∧ z ≤ 1000) ∧ r = some (.int (iz (-1))) ∧ h = zk g F L im c)) 0 0 23 [some (.ref (g.2.1 + 0)), some (.int (iz z))] [] (zk g F L im c) := by
    intro hno
    refine z_iconst (pc := 23) dX4_kind_23 ?_
    exact z_reti (pc := 24) rfl (by decide) (by decide) dX4_kind_24 (Or.inr ⟨hno, rfl, rfl⟩)
  refine z_aload_n (pc := 0) rfl dX4_kind_0 ?_
  refine zf_X4_10 (pc := 1) rfl rfl dX4_kind_1 ?_
  refine zf_X4_45 (pc := 4) rfl rfl dX4_kind_4 ?_
  refine z_iconst (pc := 7) dX4_kind_7 ?_
  refine z_icmp_ge (pc := 8) ⟨by omega, by omega⟩ ⟨by omega, by omega⟩ 23 (by decide) dX4_kind_8 (fun hq => ?_) (fun hq => ?_)
  · exact no (by omega)
  refine z_iload_n (pc := 11) rfl dX4_kind_11 ?_
  refine z_iconst (pc := 12) dX4_kind_12 ?_
  refine z_icmp_lt (pc := 13) hz ⟨by omega, by omega⟩ 23 (by decide) dX4_kind_13 (fun hq => ?_) (fun hq => ?_)
  · exact no (by omega)
  refine z_iload_n (pc := 16) rfl dX4_kind_16 ?_
  refine z_sipush (pc := 17) (by decide) dX4_kind_17 ?_
  refine z_icmp_le (pc := 20) hz ⟨by omega, by omega⟩ 25 (by decide) dX4_kind_20 (fun hq => ?_) (fun hq => ?_)
  rotate_left
  · exact no (by omega)
  refine z_aload_n (pc := 25) rfl dX4_kind_25 ?_
  refine zf_X4_10 (pc := 26) rfl rfl dX4_kind_26 ?_
  refine z_iload_n (pc := 29) rfl dX4_kind_29 ?_
  refine z_V1 (pc := 30) (c_addKind B (by omega) (v := z)) lk_X4_49 iv_X1_addKind rfl rfl ⟨by decide, by decide⟩ (Nat.le_of_ble_eq_true rfl) ⟨by decide, by decide⟩ dX4_kind_30 (fun r h9 hq => ?_)
  obtain ⟨rfl, e9⟩ := hq
  rw [e9]
  clear e9 h9
  refine z_r1 ?_
  exact z_reti (pc := 33) rfl (by decide) (by decide) dX4_kind_33 (Or.inl ⟨by omega, rfl, rfl⟩)
theorem c_offer (B : bi F 1) {z y x : Int} (hz : ir z) (hy : ir y) (hx : ir x) : zM l g yX4_offer cX4_offer 4 (some .int) 1 0 0 [.ref (g.2.1 + 0), .int (iz z), .int (iz y), .int (iz x)] (zk g F L im c) (fun r h => ((F 1 2 < 6 ∧ 0 ≤ z ∧ z < F 1 1 ∧ 1 ≤ y ∧ y ≤ 40 ∧ 0 ≤ x ∧ x ≤ 100000) ∧ r = some (.int (iz (F 1 2))) ∧ h = zk g (va_up (va_up (va_up (va_up F 3 (vf_upd (F 3) (F 1 2).toNat z)) 4 (vf_upd (F 4) (F 1 2).toNat y)) 5 (vf_upd (F 5) (F 1 2).toNat x)) 1 (vf_upd (F 1) 2 (F 1 2 + 1))) L im c) ∨ (¬ (F 1 2 < 6 ∧ 0 ≤ z ∧ z < F 1 1 ∧ 1 ≤ y ∧ y ≤ 40 ∧ 0 ≤ x ∧ x ≤ 100000) ∧ r = some (.int (iz (-1))) ∧ h = zk g F L im c)) := by
  refine zM_of 0 (by decide) rfl ?_
  show zJ l g RX4 cX4_offer 4 (some .int) "offer" (zRm 1 0 0) 0 0 _ 0 0 0 [some (.ref (g.2.1 + 0)), some (.int (iz z)), some (.int (iz y)), some (.int (iz x))] [] _
  have b2 := bi_kinds B
  have b3 := bi_offers B
  have no : ¬ (F 1 2 < 6 ∧ 0 ≤ z ∧ z < F 1 1 ∧ 1 ≤ y ∧ y ≤ 40 ∧ 0 ≤ x ∧ x ≤ 100000) → zJ l g RX4 cX4_offer 4 (some .int) "offer" (zRm 1 0 0) 0 0 (fun r h => ((F 1 2 < 6 ∧ 0 ≤ z ∧ z < F 1 1 ∧ 1 ≤ y ∧ y ≤ 40 ∧ 0 ≤ x ∧ x ≤ 100000) ∧ r = some (.int (iz (F 1 2))) ∧ h = zk g (va_up (va_up (va_up (va_up F 3 (vf_upd (F 3) (F 1 2).toNat z)) 4 (vf_upd (F 4) (F 1 2).toNat y)) 5 (vf_upd (F 5) (F 1 2).toNat x)) 1 (vf_upd (F 1) 2 (F 1 2 + 1))) L im c) ∨ (¬ (F 1 2 < 6 ∧ 0 ≤ z ∧ z < F 1 1 ∧ 1 ≤ y ∧ y ≤ 40 ∧ 0 ≤ x ∧ x ≤ 100000) ∧ r = some (.int (iz (-1))) ∧ h = zk g F L im c)) 0 0 23 [some (.ref (g.2.1 + 0)), some (.int (iz z)), some (.int (iz y)), some (.int (iz x))] [] (zk g F L im c) := by
    intro hno
    refine z_iconst (pc := 23) dX4_offer_23 ?_
    exact z_reti (pc := 24) rfl (by decide) (by decide) dX4_offer_24 (Or.inr ⟨hno, rfl, rfl⟩)
  have no2 : ¬ (F 1 2 < 6 ∧ 0 ≤ z ∧ z < F 1 1 ∧ 1 ≤ y ∧ y ≤ 40 ∧ 0 ≤ x ∧ x ≤ 100000) → zJ l g RX4 cX4_offer 4 (some .int) "offer" (zRm 1 0 0) 0 0 (fun r h => ((F 1 2 < 6 ∧ 0 ≤ z ∧ z < F 1 1 ∧ 1 ≤ y ∧ y ≤ 40 ∧ 0 ≤ x ∧ x ≤ 100000) ∧ r = some (.int (iz (F 1 2))) ∧ h = zk g (va_up (va_up (va_up (va_up F 3 (vf_upd (F 3) (F 1 2).toNat z)) 4 (vf_upd (F 4) (F 1 2).toNat y)) 5 (vf_upd (F 5) (F 1 2).toNat x)) 1 (vf_upd (F 1) 2 (F 1 2 + 1))) L im c) ∨ (¬ (F 1 2 < 6 ∧ 0 ≤ z ∧ z < F 1 1 ∧ 1 ≤ y ∧ y ≤ 40 ∧ 0 ≤ x ∧ x ≤ 100000) ∧ r = some (.int (iz (-1))) ∧ h = zk g F L im c)) 0 0 43 [some (.ref (g.2.1 + 0)), some (.int (iz z)), some (.int (iz y)), some (.int (iz x))] [] (zk g F L im c) := by
    intro hno
    refine z_iconst (pc := 43) dX4_offer_43 ?_
    exact z_reti (pc := 44) rfl (by decide) (by decide) dX4_offer_44 (Or.inr ⟨hno, rfl, rfl⟩)
  refine z_aload_n (pc := 0) rfl dX4_offer_0 ?_
  refine zf_X4_10 (pc := 1) rfl rfl dX4_offer_1 ?_
  refine zf_X4_53 (pc := 4) rfl rfl dX4_offer_4 ?_
  refine z_bipush (pc := 7) (by decide) dX4_offer_7 ?_
  refine z_icmp_ge (pc := 9) ⟨by omega, by omega⟩ ⟨by omega, by omega⟩ 23 (by decide) dX4_offer_9 (fun hq => ?_) (fun hq => ?_)
  · exact no (by omega)
  refine z_aload_n (pc := 12) rfl dX4_offer_12 ?_
  refine zf_X4_10 (pc := 13) rfl rfl dX4_offer_13 ?_
  refine z_iload_n (pc := 16) rfl dX4_offer_16 ?_
  refine z_V1 (pc := 17) (c_hasKind B hz) lk_X4_56 iv_X1_hasKind rfl rfl ⟨by decide, by decide⟩ (Nat.le_of_ble_eq_true rfl) ⟨by decide, by decide⟩ dX4_offer_17 (fun r h9 hq => ?_)
  obtain ⟨rfl, e9⟩ := hq
  rw [e9]
  clear e9 h9
  refine z_r1 ?_
  by_cases hc1 : 0 ≤ z ∧ z < F 1 1
  rotate_left
  · rw [if_neg hc1]
    refine z_if_ne (pc := 20) ⟨by omega, by omega⟩ 25 (by decide) dX4_offer_20 (fun hq => ?_) (fun hq => ?_)
    · omega
    exact no (by omega)
  rw [if_pos hc1]
  refine z_if_ne (pc := 20) ⟨by omega, by omega⟩ 25 (by decide) dX4_offer_20 (fun hq => ?_) (fun hq => ?_)
  rotate_left
  · omega
  refine z_iload_n (pc := 25) rfl dX4_offer_25 ?_
  refine z_iconst (pc := 26) dX4_offer_26 ?_
  refine z_icmp_lt (pc := 27) hy ⟨by omega, by omega⟩ 43 (by decide) dX4_offer_27 (fun hq => ?_) (fun hq => ?_)
  · exact no2 (by omega)
  refine z_iload_n (pc := 30) rfl dX4_offer_30 ?_
  refine z_bipush (pc := 31) (by decide) dX4_offer_31 ?_
  refine z_icmp_gt (pc := 33) hy ⟨by omega, by omega⟩ 43 (by decide) dX4_offer_33 (fun hq => ?_) (fun hq => ?_)
  · exact no2 (by omega)
  refine z_iload_n (pc := 36) rfl dX4_offer_36 ?_
  refine z_S1 (pc := 37) (c_isCost hx) lk_X4_60 st_X4_isCost ⟨by decide, by decide⟩ (Nat.le_of_ble_eq_true rfl) ⟨by decide, by decide⟩ dX4_offer_37 (fun r h9 hq => ?_)
  obtain ⟨rfl, e9⟩ := hq
  rw [e9]
  clear e9 h9
  refine z_r1 ?_
  by_cases hc2 : 0 ≤ x ∧ x ≤ 100000
  rotate_left
  · rw [if_neg hc2]
    refine z_if_ne (pc := 40) ⟨by omega, by omega⟩ 45 (by decide) dX4_offer_40 (fun hq => ?_) (fun hq => ?_)
    · omega
    exact no2 (by omega)
  rw [if_pos hc2]
  refine z_if_ne (pc := 40) ⟨by omega, by omega⟩ 45 (by decide) dX4_offer_40 (fun hq => ?_) (fun hq => ?_)
  rotate_left
  · omega
  refine z_aload_n (pc := 45) rfl dX4_offer_45 ?_
  refine zf_X4_10 (pc := 46) rfl rfl dX4_offer_46 ?_
  refine z_iload_n (pc := 49) rfl dX4_offer_49 ?_
  refine z_iload_n (pc := 50) rfl dX4_offer_50 ?_
  refine z_iload_n (pc := 51) rfl dX4_offer_51 ?_
  refine z_V3 (pc := 52) (c_addOffer B (by omega) (u := z) (v := y) (x := x)) lk_X4_63 iv_X1_addOffer rfl rfl ⟨by decide, by decide⟩ (Nat.le_of_ble_eq_true rfl) ⟨by decide, by decide⟩ dX4_offer_52 (fun r h9 hq => ?_)
  obtain ⟨rfl, e9⟩ := hq
  rw [e9]
  clear e9 h9
  refine z_r1 ?_
  exact z_reti (pc := 55) rfl (by decide) (by decide) dX4_offer_55 (Or.inl ⟨by omega, rfl, rfl⟩)
theorem c_reprice (B : bi F 1) {z y : Int} (hz : ir z) (hy : ir y) : zM l g yX4_reprice cX4_reprice 3 (some .boolean) 1 0 0 [.ref (g.2.1 + 0), .int (iz z), .int (iz y)] (zk g F L im c) (fun r h => ((0 ≤ z ∧ z < F 1 2 ∧ 0 ≤ y ∧ y ≤ 100000) ∧ r = some (.int (iz 1)) ∧ h = zk g (va_up F 5 (vf_upd (F 5) z.toNat y)) L im c) ∨ (¬ (0 ≤ z ∧ z < F 1 2 ∧ 0 ≤ y ∧ y ≤ 100000) ∧ r = some (.int (iz 0)) ∧ h = zk g F L im c)) := by
  refine zM_of 0 (by decide) rfl ?_
  show zJ l g RX4 cX4_reprice 3 (some .boolean) "reprice" (zRm 1 0 0) 0 0 _ 0 0 0 [some (.ref (g.2.1 + 0)), some (.int (iz z)), some (.int (iz y))] [] _
  have b3 := bi_offers B
  have no : ¬ (0 ≤ z ∧ z < F 1 2 ∧ 0 ≤ y ∧ y ≤ 100000) → zJ l g RX4 cX4_reprice 3 (some .boolean) "reprice" (zRm 1 0 0) 0 0 (fun r h => ((0 ≤ z ∧ z < F 1 2 ∧ 0 ≤ y ∧ y ≤ 100000) ∧ r = some (.int (iz 1)) ∧ h = zk g (va_up F 5 (vf_upd (F 5) z.toNat y)) L im c) ∨ (¬ (0 ≤ z ∧ z < F 1 2 ∧ 0 ≤ y ∧ y ≤ 100000) ∧ r = some (.int (iz 0)) ∧ h = zk g F L im c)) 0 0 18 [some (.ref (g.2.1 + 0)), some (.int (iz z)), some (.int (iz y))] [] (zk g F L im c) := by
    intro hno
    refine z_iconst (pc := 18) dX4_reprice_18 ?_
    exact z_retz (pc := 19) rfl (Or.inl rfl) (by decide) (by decide) dX4_reprice_19 (Or.inr ⟨hno, rfl, rfl⟩)
  refine z_aload_n (pc := 0) rfl dX4_reprice_0 ?_
  refine zf_X4_10 (pc := 1) rfl rfl dX4_reprice_1 ?_
  refine z_iload_n (pc := 4) rfl dX4_reprice_4 ?_
  refine z_V1 (pc := 5) (c_hasOffer B hz) lk_X4_67 iv_X1_hasOffer rfl rfl ⟨by decide, by decide⟩ (Nat.le_of_ble_eq_true rfl) ⟨by decide, by decide⟩ dX4_reprice_5 (fun r h9 hq => ?_)
  obtain ⟨rfl, e9⟩ := hq
  rw [e9]
  clear e9 h9
  refine z_r1 ?_
  by_cases hc1 : 0 ≤ z ∧ z < F 1 2
  rotate_left
  · rw [if_neg hc1]
    refine z_if_eq (pc := 8) ⟨by omega, by omega⟩ 18 (by decide) dX4_reprice_8 (fun hq => ?_) (fun hq => ?_)
    · exact no (by omega)
    omega
  rw [if_pos hc1]
  refine z_if_eq (pc := 8) ⟨by omega, by omega⟩ 18 (by decide) dX4_reprice_8 (fun hq => ?_) (fun hq => ?_)
  · omega
  refine z_iload_n (pc := 11) rfl dX4_reprice_11 ?_
  refine z_S1 (pc := 12) (c_isCost hy) lk_X4_60 st_X4_isCost ⟨by decide, by decide⟩ (Nat.le_of_ble_eq_true rfl) ⟨by decide, by decide⟩ dX4_reprice_12 (fun r h9 hq => ?_)
  obtain ⟨rfl, e9⟩ := hq
  rw [e9]
  clear e9 h9
  refine z_r1 ?_
  by_cases hc2 : 0 ≤ y ∧ y ≤ 100000
  rotate_left
  · rw [if_neg hc2]
    refine z_if_ne (pc := 15) ⟨by omega, by omega⟩ 20 (by decide) dX4_reprice_15 (fun hq => ?_) (fun hq => ?_)
    · omega
    exact no (by omega)
  rw [if_pos hc2]
  refine z_if_ne (pc := 15) ⟨by omega, by omega⟩ 20 (by decide) dX4_reprice_15 (fun hq => ?_) (fun hq => ?_)
  rotate_left
  · omega
  refine z_aload_n (pc := 20) rfl dX4_reprice_20 ?_
  refine zf_X4_10 (pc := 21) rfl rfl dX4_reprice_21 ?_
  refine zf_X4_70 (pc := 24) rfl rfl dX4_reprice_24 ?_
  refine z_iload_n (pc := 27) rfl dX4_reprice_27 ?_
  refine z_iload_n (pc := 28) rfl dX4_reprice_28 ?_
  refine z_iast (pc := 29) rfl (by decide) (by omega) (by omega) dX4_reprice_29 ?_
  refine z_hp zs_5 ?_
  refine z_iconst (pc := 30) dX4_reprice_30 ?_
  exact z_retz (pc := 31) rfl (Or.inr rfl) (by decide) (by decide) dX4_reprice_31 (Or.inl ⟨by omega, rfl, rfl⟩)
theorem c_need (B : bi F 1) {o z y x : Int} (ho : ir o) (hz : ir z) (hy : ir y) (hx : ir x) : zM l g yX4_need cX4_need 5 (some .boolean) 1 0 0 [.ref (g.2.1 + 0), .int (iz o), .int (iz z), .int (iz y), .int (iz x)] (zk g F L im c) (fun r h => ((0 ≤ o ∧ o < 4 ∧ 0 ≤ z ∧ z < F 1 1 ∧ 0 ≤ y ∧ y < F 1 0 ∧ 0 ≤ x ∧ x ≤ 9) ∧ r = some (.int (iz 1)) ∧ h = zk g (va_up F 6 (vf_upd (F 6) ((z.toNat * 4 + o.toNat) * 40 + y.toNat) x)) L im c) ∨ (¬ (0 ≤ o ∧ o < 4 ∧ 0 ≤ z ∧ z < F 1 1 ∧ 0 ≤ y ∧ y < F 1 0 ∧ 0 ≤ x ∧ x ≤ 9) ∧ r = some (.int (iz 0)) ∧ h = zk g F L im c)) := by
  refine zM_of 0 (by decide) rfl ?_
  show zJ l g RX4 cX4_need 5 (some .boolean) "need" (zRm 1 0 0) 0 0 _ 0 0 0 [some (.ref (g.2.1 + 0)), some (.int (iz o)), some (.int (iz z)), some (.int (iz y)), some (.int (iz x))] [] _
  have b1 := bi_hours B
  have b2 := bi_kinds B
  have no : ¬ (0 ≤ o ∧ o < 4 ∧ 0 ≤ z ∧ z < F 1 1 ∧ 0 ≤ y ∧ y < F 1 0 ∧ 0 ≤ x ∧ x ≤ 9) → zJ l g RX4 cX4_need 5 (some .boolean) "need" (zRm 1 0 0) 0 0 (fun r h => ((0 ≤ o ∧ o < 4 ∧ 0 ≤ z ∧ z < F 1 1 ∧ 0 ≤ y ∧ y < F 1 0 ∧ 0 ≤ x ∧ x ≤ 9) ∧ r = some (.int (iz 1)) ∧ h = zk g (va_up F 6 (vf_upd (F 6) ((z.toNat * 4 + o.toNat) * 40 + y.toNat) x)) L im c) ∨ (¬ (0 ≤ o ∧ o < 4 ∧ 0 ≤ z ∧ z < F 1 1 ∧ 0 ≤ y ∧ y < F 1 0 ∧ 0 ≤ x ∧ x ≤ 9) ∧ r = some (.int (iz 0)) ∧ h = zk g F L im c)) 0 0 29 [some (.ref (g.2.1 + 0)), some (.int (iz o)), some (.int (iz z)), some (.int (iz y)), some (.int (iz x))] [] (zk g F L im c) := by
    intro hno
    refine z_iconst (pc := 29) dX4_need_29 ?_
    exact z_retz (pc := 30) rfl (Or.inl rfl) (by decide) (by decide) dX4_need_30 (Or.inr ⟨hno, rfl, rfl⟩)
  have no2 : ¬ (0 ≤ o ∧ o < 4 ∧ 0 ≤ z ∧ z < F 1 1 ∧ 0 ≤ y ∧ y < F 1 0 ∧ 0 ≤ x ∧ x ≤ 9) → zJ l g RX4 cX4_need 5 (some .boolean) "need" (zRm 1 0 0) 0 0 (fun r h => ((0 ≤ o ∧ o < 4 ∧ 0 ≤ z ∧ z < F 1 1 ∧ 0 ≤ y ∧ y < F 1 0 ∧ 0 ≤ x ∧ x ≤ 9) ∧ r = some (.int (iz 1)) ∧ h = zk g (va_up F 6 (vf_upd (F 6) ((z.toNat * 4 + o.toNat) * 40 + y.toNat) x)) L im c) ∨ (¬ (0 ≤ o ∧ o < 4 ∧ 0 ≤ z ∧ z < F 1 1 ∧ 0 ≤ y ∧ y < F 1 0 ∧ 0 ≤ x ∧ x ≤ 9) ∧ r = some (.int (iz 0)) ∧ h = zk g F L im c)) 0 0 43 [some (.ref (g.2.1 + 0)), some (.int (iz o)), some (.int (iz z)), some (.int (iz y)), some (.int (iz x))] [] (zk g F L im c) := by
    intro hno
    refine z_iconst (pc := 43) dX4_need_43 ?_
    exact z_retz (pc := 44) rfl (Or.inl rfl) (by decide) (by decide) dX4_need_44 (Or.inr ⟨hno, rfl, rfl⟩)
  refine z_iload_n (pc := 0) rfl dX4_need_0 ?_
  refine z_S1 (pc := 1) (c_isOwner ho) lk_X4_74 st_X4_isOwner ⟨by decide, by decide⟩ (Nat.le_of_ble_eq_true rfl) ⟨by decide, by decide⟩ dX4_need_1 (fun r h9 hq => ?_)
  obtain ⟨rfl, e9⟩ := hq
  rw [e9]
  clear e9 h9
  refine z_r1 ?_
  by_cases hc1 : 0 ≤ o ∧ o < 4
  rotate_left
  · rw [if_neg hc1]
    refine z_if_eq (pc := 4) ⟨by omega, by omega⟩ 29 (by decide) dX4_need_4 (fun hq => ?_) (fun hq => ?_)
    · exact no (by omega)
    omega
  rw [if_pos hc1]
  refine z_if_eq (pc := 4) ⟨by omega, by omega⟩ 29 (by decide) dX4_need_4 (fun hq => ?_) (fun hq => ?_)
  · omega
  refine z_aload_n (pc := 7) rfl dX4_need_7 ?_
  refine zf_X4_10 (pc := 8) rfl rfl dX4_need_8 ?_
  refine z_iload_n (pc := 11) rfl dX4_need_11 ?_
  refine z_V1 (pc := 12) (c_hasKind B hz) lk_X4_56 iv_X1_hasKind rfl rfl ⟨by decide, by decide⟩ (Nat.le_of_ble_eq_true rfl) ⟨by decide, by decide⟩ dX4_need_12 (fun r h9 hq => ?_)
  obtain ⟨rfl, e9⟩ := hq
  rw [e9]
  clear e9 h9
  refine z_r1 ?_
  by_cases hc2 : 0 ≤ z ∧ z < F 1 1
  rotate_left
  · rw [if_neg hc2]
    refine z_if_eq (pc := 15) ⟨by omega, by omega⟩ 29 (by decide) dX4_need_15 (fun hq => ?_) (fun hq => ?_)
    · exact no (by omega)
    omega
  rw [if_pos hc2]
  refine z_if_eq (pc := 15) ⟨by omega, by omega⟩ 29 (by decide) dX4_need_15 (fun hq => ?_) (fun hq => ?_)
  · omega
  refine z_aload_n (pc := 18) rfl dX4_need_18 ?_
  refine zf_X4_10 (pc := 19) rfl rfl dX4_need_19 ?_
  refine z_iload_n (pc := 22) rfl dX4_need_22 ?_
  refine z_V1 (pc := 23) (c_hasHour B hy) lk_X4_77 iv_X1_hasHour rfl rfl ⟨by decide, by decide⟩ (Nat.le_of_ble_eq_true rfl) ⟨by decide, by decide⟩ dX4_need_23 (fun r h9 hq => ?_)
  obtain ⟨rfl, e9⟩ := hq
  rw [e9]
  clear e9 h9
  refine z_r1 ?_
  by_cases hc3 : 0 ≤ y ∧ y < F 1 0
  rotate_left
  · rw [if_neg hc3]
    refine z_if_ne (pc := 26) ⟨by omega, by omega⟩ 31 (by decide) dX4_need_26 (fun hq => ?_) (fun hq => ?_)
    · omega
    exact no (by omega)
  rw [if_pos hc3]
  refine z_if_ne (pc := 26) ⟨by omega, by omega⟩ 31 (by decide) dX4_need_26 (fun hq => ?_) (fun hq => ?_)
  rotate_left
  · omega
  refine z_iload (pc := 31) rfl dX4_need_31 ?_
  refine z_if_lt (pc := 33) hx 43 (by decide) dX4_need_33 (fun hq => ?_) (fun hq => ?_)
  · exact no2 (by omega)
  refine z_iload (pc := 36) rfl dX4_need_36 ?_
  refine z_bipush (pc := 38) (by decide) dX4_need_38 ?_
  refine z_icmp_le (pc := 40) hx ⟨by omega, by omega⟩ 45 (by decide) dX4_need_40 (fun hq => ?_) (fun hq => ?_)
  rotate_left
  · exact no2 (by omega)
  obtain ⟨q, rfl⟩ := Int.eq_ofNat_of_zero_le hc1.1
  obtain ⟨k, rfl⟩ := Int.eq_ofNat_of_zero_le hc2.1
  obtain ⟨t, rfl⟩ := Int.eq_ofNat_of_zero_le hc3.1
  refine z_aload_n (pc := 45) rfl dX4_need_45 ?_
  refine zf_X4_10 (pc := 46) rfl rfl dX4_need_46 ?_
  refine z_iload_n (pc := 49) rfl dX4_need_49 ?_
  refine z_iload_n (pc := 50) rfl dX4_need_50 ?_
  refine z_iload_n (pc := 51) rfl dX4_need_51 ?_
  refine z_iload (pc := 52) rfl dX4_need_52 ?_
  refine z_V4 (pc := 54) (c_setNeed (o := q) (k := k) (t := t) (v := x) (by omega) (by omega) (by omega)) lk_X4_80 iv_X1_setNeed rfl rfl ⟨by decide, by decide⟩ (Nat.le_of_ble_eq_true rfl) ⟨by decide, by decide⟩ dX4_need_54 (fun r h9 hq => ?_)
  obtain ⟨rfl, e9⟩ := hq
  rw [e9]
  clear e9 h9
  refine z_r0 ?_
  refine z_iconst (pc := 57) dX4_need_57 ?_
  exact z_retz (pc := 58) rfl (Or.inr rfl) (by decide) (by decide) dX4_need_58 (Or.inl ⟨by omega, rfl, rfl⟩)
theorem c_halfByte {h : List va_E} {x : Int} {k : Nat} (hk : k < 8) : zM l g yX4_halfByte cX4_halfByte 2 (some .int) 0 0 0 [.int (iz x), .int (iz k)] (h) (fun r h2 => r = some (.int (iz (hb x k))) ∧ h2 = h) := by
  refine zM_of 0 (by decide) rfl ?_
  show zJ l g RX4 cX4_halfByte 2 (some .int) "halfByte" (zRm 0 0 0) 0 0 _ 0 0 0 [some (.int (iz x)), some (.int (iz k))] [] _
  refine z_iload_n (pc := 0) rfl dX4_halfByte_0 ?_
  refine z_bipush (pc := 1) (by decide) dX4_halfByte_1 ?_
  refine z_iconst (pc := 3) dX4_halfByte_3 ?_
  refine z_iload_n (pc := 4) rfl dX4_halfByte_4 ?_
  refine z_imul (pc := 5) dX4_halfByte_5 ?_
  refine z_isub (pc := 6) dX4_halfByte_6 ?_
  refine z_iushr (pc := 7) dX4_halfByte_7 ?_
  refine z_bipush (pc := 8) (by decide) dX4_halfByte_8 ?_
  refine z_iand (pc := 10) dX4_halfByte_10 ?_
  refine z_top ((hbu (iz x) hk).trans (hb_iz x k)) ?_
  exact z_reti (pc := 11) rfl (by decide) (by decide) dX4_halfByte_11 ⟨rfl, rfl⟩
theorem c_areNeeds {h : List va_E} {x : Int} : zM l g yX4_areNeeds cX4_areNeeds 2 (some .boolean) 1 0 0 [.int (iz x)] (h) (fun r h2 => ((A8 x ∧ r = some (.int (iz 1))) ∨ (¬ A8 x ∧ r = some (.int (iz 0)))) ∧ h2 = h) := by
  refine zM_of 1 (by decide) rfl ?_
  show zJ l g RX4 cX4_areNeeds 2 (some .boolean) "areNeeds" (zRm 1 0 0) 0 0 _ 0 0 0 [some (.int (iz x)), none] [] _
  have lp : ∀ (j k : Nat), k + j = 8 → (∀ q, q < k → hb x q < 10) → zJ l g RX4 cX4_areNeeds 2 (some .boolean) "areNeeds" (zRm 1 0 0) 0 0 (fun r h2 => ((A8 x ∧ r = some (.int (iz 1))) ∨ (¬ A8 x ∧ r = some (.int (iz 0)))) ∧ h2 = h) 0 0 2 [some (.int (iz x)), some (.int (iz k))] [] h := by
    intro j
    induction j with
    | zero =>
      intro k hk h8
      refine z_iload_n (pc := 2) rfl dX4_areNeeds_2 ?_
      refine z_bipush (pc := 3) (by decide) dX4_areNeeds_3 ?_
      refine z_icmp_ge (pc := 5) ⟨by omega, by omega⟩ ⟨by omega, by omega⟩ 26 (by decide) dX4_areNeeds_5 (fun hq => ?_) (fun hq => ?_)
      · refine z_iconst (pc := 26) dX4_areNeeds_26 ?_
        exact z_retz (pc := 27) rfl (Or.inr rfl) (by decide) (by decide) dX4_areNeeds_27 ⟨Or.inl ⟨fun q hq => h8 q (by omega), rfl⟩, rfl⟩
      omega
    | succ j ih =>
      intro k hk h8
      have e8 := hb_bd x k
      refine z_iload_n (pc := 2) rfl dX4_areNeeds_2 ?_
      refine z_bipush (pc := 3) (by decide) dX4_areNeeds_3 ?_
      refine z_icmp_ge (pc := 5) ⟨by omega, by omega⟩ ⟨by omega, by omega⟩ 26 (by decide) dX4_areNeeds_5 (fun hq => ?_) (fun hq => ?_)
      · omega
      refine z_iload_n (pc := 8) rfl dX4_areNeeds_8 ?_
      refine z_iload_n (pc := 9) rfl dX4_areNeeds_9 ?_
      refine z_S2 (pc := 10) (c_halfByte (x := x) (k := k) (by omega)) lk_X4_90 st_X4_halfByte ⟨by decide, by decide⟩ (Nat.le_of_ble_eq_true rfl) ⟨by decide, by decide⟩ dX4_areNeeds_10 (fun r h9 hq => ?_)
      obtain ⟨rfl, e9⟩ := hq
      rw [e9]
      clear e9 h9
      refine z_r1 ?_
      refine z_bipush (pc := 13) (by decide) dX4_areNeeds_13 ?_
      refine z_icmp_le (pc := 15) ⟨by omega, by omega⟩ ⟨by omega, by omega⟩ 20 (by decide) dX4_areNeeds_15 (fun hq => ?_) (fun hq => ?_)
      · refine z_ii1 (pc := 20) (by decide) rfl dX4_areNeeds_20 ?_
        refine z_goto (pc := 23) 2 (by decide) dX4_areNeeds_23 ?_
        refine ih (k + 1) (by omega) (fun q hq => ?_)
        by_cases e : q = k
        · subst e; omega
        · exact h8 q (by omega)
      refine z_iconst (pc := 18) dX4_areNeeds_18 ?_
      exact z_retz (pc := 19) rfl (Or.inl rfl) (by decide) (by decide) dX4_areNeeds_19 ⟨Or.inr ⟨fun h => by have := h k (by omega); omega, rfl⟩, rfl⟩
  refine z_iconst (pc := 0) dX4_areNeeds_0 ?_
  refine z_is1 (pc := 1) (by decide) rfl dX4_areNeeds_1 ?_
  exact lp 8 0 rfl (fun q hq => absurd hq (Nat.not_lt_zero q))
theorem c_needs (B : bi F 1) {o z y x : Int} (ho : ir o) (hz : ir z) (hy : ir y) (hx : ir x) : zM l g yX4_needs cX4_needs 6 (some .boolean) 2 0 0 [.ref (g.2.1 + 0), .int (iz o), .int (iz z), .int (iz y), .int (iz x)] (zk g F L im c) (fun r h => (((0 ≤ o ∧ o < 4 ∧ 0 ≤ z ∧ z < F 1 1 ∧ 0 ≤ y ∧ y ≤ F 1 0 - 8) ∧ A8 x) ∧ r = some (.int (iz 1)) ∧ h = zk g (va_up F 6 (put (F 6) ((z.toNat * 4 + o.toNat) * 40 + y.toNat) (hb x) 8)) L im c) ∨ (¬ ((0 ≤ o ∧ o < 4 ∧ 0 ≤ z ∧ z < F 1 1 ∧ 0 ≤ y ∧ y ≤ F 1 0 - 8) ∧ A8 x) ∧ r = some (.int (iz 0)) ∧ h = zk g F L im c)) := by
  refine zM_of 1 (by decide) rfl ?_
  show zJ l g RX4 cX4_needs 6 (some .boolean) "needs" (zRm 2 0 0) 0 0 _ 0 0 0 [some (.ref (g.2.1 + 0)), some (.int (iz o)), some (.int (iz z)), some (.int (iz y)), some (.int (iz x)), none] [] _
  have b1 := bi_hours B
  have b2 := bi_kinds B
  have no : ¬ ((0 ≤ o ∧ o < 4 ∧ 0 ≤ z ∧ z < F 1 1 ∧ 0 ≤ y ∧ y ≤ F 1 0 - 8) ∧ A8 x) → zJ l g RX4 cX4_needs 6 (some .boolean) "needs" (zRm 2 0 0) 0 0 (fun r h => (((0 ≤ o ∧ o < 4 ∧ 0 ≤ z ∧ z < F 1 1 ∧ 0 ≤ y ∧ y ≤ F 1 0 - 8) ∧ A8 x) ∧ r = some (.int (iz 1)) ∧ h = zk g (va_up F 6 (put (F 6) ((z.toNat * 4 + o.toNat) * 40 + y.toNat) (hb x) 8)) L im c) ∨ (¬ ((0 ≤ o ∧ o < 4 ∧ 0 ≤ z ∧ z < F 1 1 ∧ 0 ≤ y ∧ y ≤ F 1 0 - 8) ∧ A8 x) ∧ r = some (.int (iz 0)) ∧ h = zk g F L im c)) 0 0 18 [some (.ref (g.2.1 + 0)), some (.int (iz o)), some (.int (iz z)), some (.int (iz y)), some (.int (iz x)), none] [] (zk g F L im c) := by
    intro hno
    refine z_iconst (pc := 18) dX4_needs_18 ?_
    exact z_retz (pc := 19) rfl (Or.inl rfl) (by decide) (by decide) dX4_needs_19 (Or.inr ⟨hno, rfl, rfl⟩)
  have no2 : ¬ ((0 ≤ o ∧ o < 4 ∧ 0 ≤ z ∧ z < F 1 1 ∧ 0 ≤ y ∧ y ≤ F 1 0 - 8) ∧ A8 x) → zJ l g RX4 cX4_needs 6 (some .boolean) "needs" (zRm 2 0 0) 0 0 (fun r h => (((0 ≤ o ∧ o < 4 ∧ 0 ≤ z ∧ z < F 1 1 ∧ 0 ≤ y ∧ y ≤ F 1 0 - 8) ∧ A8 x) ∧ r = some (.int (iz 1)) ∧ h = zk g (va_up F 6 (put (F 6) ((z.toNat * 4 + o.toNat) * 40 + y.toNat) (hb x) 8)) L im c) ∨ (¬ ((0 ≤ o ∧ o < 4 ∧ 0 ≤ z ∧ z < F 1 1 ∧ 0 ≤ y ∧ y ≤ F 1 0 - 8) ∧ A8 x) ∧ r = some (.int (iz 0)) ∧ h = zk g F L im c)) 0 0 46 [some (.ref (g.2.1 + 0)), some (.int (iz o)), some (.int (iz z)), some (.int (iz y)), some (.int (iz x)), none] [] (zk g F L im c) := by
    intro hno
    refine z_iconst (pc := 46) dX4_needs_46 ?_
    exact z_retz (pc := 47) rfl (Or.inl rfl) (by decide) (by decide) dX4_needs_47 (Or.inr ⟨hno, rfl, rfl⟩)
  refine z_iload_n (pc := 0) rfl dX4_needs_0 ?_
  refine z_S1 (pc := 1) (c_isOwner ho) lk_X4_74 st_X4_isOwner ⟨by decide, by decide⟩ (Nat.le_of_ble_eq_true rfl) ⟨by decide, by decide⟩ dX4_needs_1 (fun r h9 hq => ?_)
  obtain ⟨rfl, e9⟩ := hq
  rw [e9]
  clear e9 h9
  refine z_r1 ?_
  by_cases hc1 : 0 ≤ o ∧ o < 4
  rotate_left
  · rw [if_neg hc1]
    refine z_if_eq (pc := 4) ⟨by omega, by omega⟩ 18 (by decide) dX4_needs_4 (fun hq => ?_) (fun hq => ?_)
    · exact no (fun h => hc1 ⟨h.1.1, h.1.2.1⟩)
    omega
  rw [if_pos hc1]
  refine z_if_eq (pc := 4) ⟨by omega, by omega⟩ 18 (by decide) dX4_needs_4 (fun hq => ?_) (fun hq => ?_)
  · omega
  refine z_aload_n (pc := 7) rfl dX4_needs_7 ?_
  refine zf_X4_10 (pc := 8) rfl rfl dX4_needs_8 ?_
  refine z_iload_n (pc := 11) rfl dX4_needs_11 ?_
  refine z_V1 (pc := 12) (c_hasKind B hz) lk_X4_56 iv_X1_hasKind rfl rfl ⟨by decide, by decide⟩ (Nat.le_of_ble_eq_true rfl) ⟨by decide, by decide⟩ dX4_needs_12 (fun r h9 hq => ?_)
  obtain ⟨rfl, e9⟩ := hq
  rw [e9]
  clear e9 h9
  refine z_r1 ?_
  by_cases hc2 : 0 ≤ z ∧ z < F 1 1
  rotate_left
  · rw [if_neg hc2]
    refine z_if_ne (pc := 15) ⟨by omega, by omega⟩ 20 (by decide) dX4_needs_15 (fun hq => ?_) (fun hq => ?_)
    · omega
    exact no (fun h => hc2 ⟨h.1.2.2.1, h.1.2.2.2.1⟩)
  rw [if_pos hc2]
  refine z_if_ne (pc := 15) ⟨by omega, by omega⟩ 20 (by decide) dX4_needs_15 (fun hq => ?_) (fun hq => ?_)
  rotate_left
  · omega
  refine z_iload_n (pc := 20) rfl dX4_needs_20 ?_
  refine z_if_lt (pc := 21) hy 46 (by decide) dX4_needs_21 (fun hq => ?_) (fun hq => ?_)
  · exact no2 (fun h => by have := h.1; omega)
  refine z_iload_n (pc := 24) rfl dX4_needs_24 ?_
  refine z_aload_n (pc := 25) rfl dX4_needs_25 ?_
  refine zf_X4_10 (pc := 26) rfl rfl dX4_needs_26 ?_
  refine zf_X4_84 (pc := 29) rfl rfl dX4_needs_29 ?_
  refine z_bipush (pc := 32) (by decide) dX4_needs_32 ?_
  refine z_isub (pc := 34) dX4_needs_34 ?_
  refine z_icmp_gt (pc := 35) hy ⟨by omega, by omega⟩ 46 (by decide) dX4_needs_35 (fun hq => ?_) (fun hq => ?_)
  · exact no2 (fun h => by have := h.1; omega)
  refine z_iload (pc := 38) rfl dX4_needs_38 ?_
  refine z_S1 (pc := 40) (c_areNeeds (x := x)) lk_X4_87 st_X4_areNeeds ⟨by decide, by decide⟩ (Nat.le_of_ble_eq_true rfl) ⟨by decide, by decide⟩ dX4_needs_40 (fun r h9 hq => ?_)
  obtain ⟨h8, e9⟩ := hq
  rw [e9]
  clear e9 h9
  rcases h8 with ⟨h8, rfl⟩ | ⟨h8, rfl⟩
  rotate_left
  · refine z_r1 ?_
    refine z_if_ne (pc := 43) ⟨by omega, by omega⟩ 48 (by decide) dX4_needs_43 (fun hq => ?_) (fun hq => ?_)
    · omega
    exact no2 (fun h => h8 h.2)
  refine z_r1 ?_
  refine z_if_ne (pc := 43) ⟨by omega, by omega⟩ 48 (by decide) dX4_needs_43 (fun hq => ?_) (fun hq => ?_)
  rotate_left
  · omega
  have p0 : 0 ≤ o ∧ o < 4 ∧ 0 ≤ z ∧ z < F 1 1 ∧ 0 ≤ y ∧ y ≤ F 1 0 - 8 := by omega
  clear no no2
  obtain ⟨q, rfl⟩ := Int.eq_ofNat_of_zero_le hc1.1
  obtain ⟨k, rfl⟩ := Int.eq_ofNat_of_zero_le hc2.1
  obtain ⟨t, rfl⟩ := Int.eq_ofNat_of_zero_le (show 0 ≤ y by omega)
  have lp : ∀ (j u : Nat), u + j = 8 → zJ l g RX4 cX4_needs 6 (some .boolean) "needs" (zRm 2 0 0) 0 0 (fun r h => r = some (.int (iz 1)) ∧ h = zk g (va_up F 6 (put (F 6) ((k * 4 + q) * 40 + t) (hb x) 8)) L im c) 0 0 51 [some (.ref (g.2.1 + 0)), some (.int (iz q)), some (.int (iz k)), some (.int (iz t)), some (.int (iz x)), some (.int (iz u))] [] (zk g (va_up F 6 (put (F 6) ((k * 4 + q) * 40 + t) (hb x) u)) L im c) := by
    intro j
    induction j with
    | zero =>
      intro u hu
      refine z_iload (pc := 51) rfl dX4_needs_51 ?_
      refine z_bipush (pc := 53) (by decide) dX4_needs_53 ?_
      refine z_icmp_ge (pc := 55) ⟨by omega, by omega⟩ ⟨by omega, by omega⟩ 84 (by decide) dX4_needs_55 (fun hq => ?_) (fun hq => ?_)
      · refine z_iconst (pc := 84) dX4_needs_84 ?_
        exact z_retz (pc := 85) rfl (Or.inr rfl) (by decide) (by decide) dX4_needs_85 ⟨rfl, by rw [show u = 8 by omega]⟩
      omega
    | succ j ih =>
      intro u hu
      refine z_iload (pc := 51) rfl dX4_needs_51 ?_
      refine z_bipush (pc := 53) (by decide) dX4_needs_53 ?_
      refine z_icmp_ge (pc := 55) ⟨by omega, by omega⟩ ⟨by omega, by omega⟩ 84 (by decide) dX4_needs_55 (fun hq => ?_) (fun hq => ?_)
      · omega
      refine z_aload_n (pc := 58) rfl dX4_needs_58 ?_
      refine zf_X4_10 (pc := 59) rfl rfl dX4_needs_59 ?_
      refine z_iload_n (pc := 62) rfl dX4_needs_62 ?_
      refine z_iload_n (pc := 63) rfl dX4_needs_63 ?_
      refine z_iload_n (pc := 64) rfl dX4_needs_64 ?_
      refine z_iload (pc := 65) rfl dX4_needs_65 ?_
      refine z_iadd (pc := 67) dX4_needs_67 ?_
      rw [show (t : Int) + u = ((t + u : Nat) : Int) by omega]
      refine z_iload (pc := 68) rfl dX4_needs_68 ?_
      refine z_iload (pc := 70) rfl dX4_needs_70 ?_
      refine z_S2 (pc := 72) (c_halfByte (x := x) (k := u) (by omega)) lk_X4_90 st_X4_halfByte ⟨by decide, by decide⟩ (Nat.le_of_ble_eq_true rfl) ⟨by decide, by decide⟩ dX4_needs_72 (fun r h9 hq => ?_)
      obtain ⟨rfl, e9⟩ := hq
      rw [e9]
      clear e9 h9
      refine z_r1 ?_
      refine z_V4 (pc := 75) (c_setNeed (F := va_up F 6 (put (F 6) ((k * 4 + q) * 40 + t) (hb x) u)) (o := q) (k := k) (t := t + u) (v := hb x u) (by omega) (by omega) (by omega)) lk_X4_80 iv_X1_setNeed rfl rfl ⟨by decide, by decide⟩ (Nat.le_of_ble_eq_true rfl) ⟨by decide, by decide⟩ dX4_needs_75 (fun r h9 hq => ?_)
      obtain ⟨rfl, e9⟩ := hq
      rw [e9]
      clear e9 h9
      refine z_r0 ?_
      rw [up_up, show (k * 4 + q) * 40 + (t + u) = (k * 4 + q) * 40 + t + u by omega, show va_up F 6 (put (F 6) ((k * 4 + q) * 40 + t) (hb x) u) 6 = put (F 6) ((k * 4 + q) * 40 + t) (hb x) u from rfl]
      refine z_hp (congrArg (fun f => zk g (va_up F 6 f) L im c) (put_s (F 6) ((k * 4 + q) * 40 + t) (hb x) u)) ?_
      refine z_ii5 (pc := 78) (by decide) rfl dX4_needs_78 ?_
      refine z_goto (pc := 81) 51 (by decide) dX4_needs_81 ?_
      exact ih (u + 1) (by omega)
  refine z_iconst (pc := 48) dX4_needs_48 ?_
  refine z_is5 (pc := 49) (by decide) rfl dX4_needs_49 ?_
  have := lp 8 0 rfl
  rw [put_0, up_id] at this
  exact z_weak this (fun r h hh => Or.inl ⟨⟨p0, h8⟩, hh⟩)
theorem c_buy (B : bi F 1) {z y x : Int} (hz : ir z) (hy : ir y) (hx : ir x) : zM l g yX4_buy cX4_buy 4 (some .boolean) 1 0 0 [.ref (g.2.1 + 0), .int (iz z), .int (iz y), .int (iz x)] (zk g F L im c) (fun r h => ((0 ≤ z ∧ z < F 1 2 ∧ 0 ≤ y ∧ y < F 1 0 ∧ 0 ≤ x ∧ x ≤ 60) ∧ r = some (.int (iz 1)) ∧ h = zk g (va_up F 7 (vf_upd (F 7) (z.toNat * 40 + y.toNat) x)) L im c) ∨ (¬ (0 ≤ z ∧ z < F 1 2 ∧ 0 ≤ y ∧ y < F 1 0 ∧ 0 ≤ x ∧ x ≤ 60) ∧ r = some (.int (iz 0)) ∧ h = zk g F L im c)) := by
  refine zM_of 0 (by decide) rfl ?_
  show zJ l g RX4 cX4_buy 4 (some .boolean) "buy" (zRm 1 0 0) 0 0 _ 0 0 0 [some (.ref (g.2.1 + 0)), some (.int (iz z)), some (.int (iz y)), some (.int (iz x))] [] _
  have b1 := bi_hours B
  have b3 := bi_offers B
  have no : ¬ (0 ≤ z ∧ z < F 1 2 ∧ 0 ≤ y ∧ y < F 1 0 ∧ 0 ≤ x ∧ x ≤ 60) → zJ l g RX4 cX4_buy 4 (some .boolean) "buy" (zRm 1 0 0) 0 0 (fun r h => ((0 ≤ z ∧ z < F 1 2 ∧ 0 ≤ y ∧ y < F 1 0 ∧ 0 ≤ x ∧ x ≤ 60) ∧ r = some (.int (iz 1)) ∧ h = zk g (va_up F 7 (vf_upd (F 7) (z.toNat * 40 + y.toNat) x)) L im c) ∨ (¬ (0 ≤ z ∧ z < F 1 2 ∧ 0 ≤ y ∧ y < F 1 0 ∧ 0 ≤ x ∧ x ≤ 60) ∧ r = some (.int (iz 0)) ∧ h = zk g F L im c)) 0 0 32 [some (.ref (g.2.1 + 0)), some (.int (iz z)), some (.int (iz y)), some (.int (iz x))] [] (zk g F L im c) := by
    intro hno
    refine z_iconst (pc := 32) dX4_buy_32 ?_
    exact z_retz (pc := 33) rfl (Or.inl rfl) (by decide) (by decide) dX4_buy_33 (Or.inr ⟨hno, rfl, rfl⟩)
  refine z_aload_n (pc := 0) rfl dX4_buy_0 ?_
  refine zf_X4_10 (pc := 1) rfl rfl dX4_buy_1 ?_
  refine z_iload_n (pc := 4) rfl dX4_buy_4 ?_
  refine z_V1 (pc := 5) (c_hasOffer B hz) lk_X4_67 iv_X1_hasOffer rfl rfl ⟨by decide, by decide⟩ (Nat.le_of_ble_eq_true rfl) ⟨by decide, by decide⟩ dX4_buy_5 (fun r h9 hq => ?_)
  obtain ⟨rfl, e9⟩ := hq
  rw [e9]
  clear e9 h9
  refine z_r1 ?_
  by_cases hc1 : 0 ≤ z ∧ z < F 1 2
  rotate_left
  · rw [if_neg hc1]
    refine z_if_eq (pc := 8) ⟨by omega, by omega⟩ 32 (by decide) dX4_buy_8 (fun hq => ?_) (fun hq => ?_)
    · exact no (by omega)
    omega
  rw [if_pos hc1]
  refine z_if_eq (pc := 8) ⟨by omega, by omega⟩ 32 (by decide) dX4_buy_8 (fun hq => ?_) (fun hq => ?_)
  · omega
  refine z_aload_n (pc := 11) rfl dX4_buy_11 ?_
  refine zf_X4_10 (pc := 12) rfl rfl dX4_buy_12 ?_
  refine z_iload_n (pc := 15) rfl dX4_buy_15 ?_
  refine z_V1 (pc := 16) (c_hasHour B hy) lk_X4_77 iv_X1_hasHour rfl rfl ⟨by decide, by decide⟩ (Nat.le_of_ble_eq_true rfl) ⟨by decide, by decide⟩ dX4_buy_16 (fun r h9 hq => ?_)
  obtain ⟨rfl, e9⟩ := hq
  rw [e9]
  clear e9 h9
  refine z_r1 ?_
  by_cases hc2 : 0 ≤ y ∧ y < F 1 0
  rotate_left
  · rw [if_neg hc2]
    refine z_if_eq (pc := 19) ⟨by omega, by omega⟩ 32 (by decide) dX4_buy_19 (fun hq => ?_) (fun hq => ?_)
    · exact no (by omega)
    omega
  rw [if_pos hc2]
  refine z_if_eq (pc := 19) ⟨by omega, by omega⟩ 32 (by decide) dX4_buy_19 (fun hq => ?_) (fun hq => ?_)
  · omega
  refine z_iload_n (pc := 22) rfl dX4_buy_22 ?_
  refine z_if_lt (pc := 23) hx 32 (by decide) dX4_buy_23 (fun hq => ?_) (fun hq => ?_)
  · exact no (by omega)
  refine z_iload_n (pc := 26) rfl dX4_buy_26 ?_
  refine z_bipush (pc := 27) (by decide) dX4_buy_27 ?_
  refine z_icmp_le (pc := 29) hx ⟨by omega, by omega⟩ 34 (by decide) dX4_buy_29 (fun hq => ?_) (fun hq => ?_)
  rotate_left
  · exact no (by omega)
  obtain ⟨q, rfl⟩ := Int.eq_ofNat_of_zero_le hc1.1
  obtain ⟨t, rfl⟩ := Int.eq_ofNat_of_zero_le hc2.1
  refine z_aload_n (pc := 34) rfl dX4_buy_34 ?_
  refine zf_X4_10 (pc := 35) rfl rfl dX4_buy_35 ?_
  refine z_iload_n (pc := 38) rfl dX4_buy_38 ?_
  refine z_iload_n (pc := 39) rfl dX4_buy_39 ?_
  refine z_iload_n (pc := 40) rfl dX4_buy_40 ?_
  refine z_V3 (pc := 41) (c_setBought (o := q) (t := t) (v := x) (by omega) (by omega)) lk_X4_94 iv_X1_setBought rfl rfl ⟨by decide, by decide⟩ (Nat.le_of_ble_eq_true rfl) ⟨by decide, by decide⟩ dX4_buy_41 (fun r h9 hq => ?_)
  obtain ⟨rfl, e9⟩ := hq
  rw [e9]
  clear e9 h9
  refine z_r0 ?_
  refine z_iconst (pc := 44) dX4_buy_44 ?_
  exact z_retz (pc := 45) rfl (Or.inr rfl) (by decide) (by decide) dX4_buy_45 (Or.inl ⟨by omega, rfl, rfl⟩)
theorem c_clear (B : bi F 1) {z : Int} (hz : ir z) : zM l g yX4_clear cX4_clear 2 (some .boolean) 3 0 0 [.ref (g.2.1 + 0), .int (iz z)] (zk g F L im c) (fun r h => ((0 ≤ z ∧ z < F 1 1) ∧ r = some (.int (iz 1)) ∧ h = zk g (va_up F 7 (noby F z.toNat (F 1 2).toNat)) L im c) ∨ (¬ (0 ≤ z ∧ z < F 1 1) ∧ r = some (.int (iz 0)) ∧ h = zk g F L im c)) := by
  refine zM_of 0 (by decide) rfl ?_
  show zJ l g RX4 cX4_clear 2 (some .boolean) "clear" (zRm 3 0 0) 0 0 _ 0 0 0 [some (.ref (g.2.1 + 0)), some (.int (iz z))] [] _
  have b2 := bi_kinds B
  have no : ¬ (0 ≤ z ∧ z < F 1 1) → zJ l g RX4 cX4_clear 2 (some .boolean) "clear" (zRm 3 0 0) 0 0 (fun r h => ((0 ≤ z ∧ z < F 1 1) ∧ r = some (.int (iz 1)) ∧ h = zk g (va_up F 7 (noby F z.toNat (F 1 2).toNat)) L im c) ∨ (¬ (0 ≤ z ∧ z < F 1 1) ∧ r = some (.int (iz 0)) ∧ h = zk g F L im c)) 0 0 11 [some (.ref (g.2.1 + 0)), some (.int (iz z))] [] (zk g F L im c) := by
    intro hno
    refine z_iconst (pc := 11) dX4_clear_11 ?_
    exact z_retz (pc := 12) rfl (Or.inl rfl) (by decide) (by decide) dX4_clear_12 (Or.inr ⟨hno, rfl, rfl⟩)
  refine z_aload_n (pc := 0) rfl dX4_clear_0 ?_
  refine zf_X4_10 (pc := 1) rfl rfl dX4_clear_1 ?_
  refine z_iload_n (pc := 4) rfl dX4_clear_4 ?_
  refine z_V1 (pc := 5) (c_hasKind B hz) lk_X4_56 iv_X1_hasKind rfl rfl ⟨by decide, by decide⟩ (Nat.le_of_ble_eq_true rfl) ⟨by decide, by decide⟩ dX4_clear_5 (fun r h9 hq => ?_)
  obtain ⟨rfl, e9⟩ := hq
  rw [e9]
  clear e9 h9
  refine z_r1 ?_
  by_cases hc1 : 0 ≤ z ∧ z < F 1 1
  rotate_left
  · rw [if_neg hc1]
    refine z_if_ne (pc := 8) ⟨by omega, by omega⟩ 13 (by decide) dX4_clear_8 (fun hq => ?_) (fun hq => ?_)
    · omega
    exact no (by omega)
  rw [if_pos hc1]
  refine z_if_ne (pc := 8) ⟨by omega, by omega⟩ 13 (by decide) dX4_clear_8 (fun hq => ?_) (fun hq => ?_)
  rotate_left
  · omega
  obtain ⟨k, rfl⟩ := Int.eq_ofNat_of_zero_le hc1.1
  refine z_aload_n (pc := 13) rfl dX4_clear_13 ?_
  refine zf_X4_10 (pc := 14) rfl rfl dX4_clear_14 ?_
  refine z_iload_n (pc := 17) rfl dX4_clear_17 ?_
  refine z_V1 (pc := 18) (c_buyNothing B (k := k) (by omega)) lk_X4_98 iv_X1_buyNothing rfl rfl ⟨by decide, by decide⟩ (Nat.le_of_ble_eq_true rfl) ⟨by decide, by decide⟩ dX4_clear_18 (fun r h9 hq => ?_)
  obtain ⟨rfl, e9⟩ := hq
  rw [e9]
  clear e9 h9
  refine z_r0 ?_
  refine z_iconst (pc := 21) dX4_clear_21 ?_
  exact z_retz (pc := 22) rfl (Or.inr rfl) (by decide) (by decide) dX4_clear_22 (Or.inl ⟨hc1, rfl, rfl⟩)
theorem c_tellOfOne (B : bi F 1) {k t : Nat} {x : Int} (hk : k < 3) (ht : t < 40) (hx : ir x) : zM l g yX4_tellOfOne cX4_tellOfOne 4 (some .int) 2 0 0 [.ref (g.2.1 + 0), .int (iz k), .int (iz t), .int (iz x)] (zk g F L im c) (fun r h => r = some (.int (iz (if 10 ≤ x ∧ x ≤ 13 then fnd F k t (x - 10).toNat else if 20 ≤ x ∧ x < 20 + F 1 2 ∧ F 3 (x - 20).toNat = k then bt F (x - 20).toNat t else -1))) ∧ h = zk g F L im c) := by
  refine zM_of 0 (by decide) rfl ?_
  show zJ l g RX4 cX4_tellOfOne 4 (some .int) "tellOfOne" (zRm 2 0 0) 0 0 _ 0 0 0 [some (.ref (g.2.1 + 0)), some (.int (iz k)), some (.int (iz t)), some (.int (iz x))] [] _
  have b3 := bi_offers B
  have n2 : ¬ (10 ≤ x ∧ x ≤ 13) → ¬ (20 ≤ x ∧ x < 20 + F 1 2 ∧ F 3 (x - 20).toNat = k) → zJ l g RX4 cX4_tellOfOne 4 (some .int) "tellOfOne" (zRm 2 0 0) 0 0 (fun r h => r = some (.int (iz (if 10 ≤ x ∧ x ≤ 13 then fnd F k t (x - 10).toNat else if 20 ≤ x ∧ x < 20 + F 1 2 ∧ F 3 (x - 20).toNat = k then bt F (x - 20).toNat t else -1))) ∧ h = zk g F L im c) 0 0 66 [some (.ref (g.2.1 + 0)), some (.int (iz k)), some (.int (iz t)), some (.int (iz x))] [] (zk g F L im c) := by
    intro h1 h2
    rw [if_neg h1, if_neg h2]
    refine z_iconst (pc := 66) dX4_tellOfOne_66 ?_
    exact z_reti (pc := 67) rfl (by decide) (by decide) dX4_tellOfOne_67 ⟨rfl, rfl⟩
  have p2 : ¬ (10 ≤ x ∧ x ≤ 13) → zJ l g RX4 cX4_tellOfOne 4 (some .int) "tellOfOne" (zRm 2 0 0) 0 0 (fun r h => r = some (.int (iz (if 10 ≤ x ∧ x ≤ 13 then fnd F k t (x - 10).toNat else if 20 ≤ x ∧ x < 20 + F 1 2 ∧ F 3 (x - 20).toNat = k then bt F (x - 20).toNat t else -1))) ∧ h = zk g F L im c) 0 0 26 [some (.ref (g.2.1 + 0)), some (.int (iz k)), some (.int (iz t)), some (.int (iz x))] [] (zk g F L im c) := by
    intro h1
    refine z_iload_n (pc := 26) rfl dX4_tellOfOne_26 ?_
    refine z_bipush (pc := 27) (by decide) dX4_tellOfOne_27 ?_
    refine z_icmp_lt (pc := 29) hx ⟨by omega, by omega⟩ 66 (by decide) dX4_tellOfOne_29 (fun hq => ?_) (fun hq => ?_)
    · exact n2 h1 (by omega)
    refine z_iload_n (pc := 32) rfl dX4_tellOfOne_32 ?_
    refine z_bipush (pc := 33) (by decide) dX4_tellOfOne_33 ?_
    refine z_icmp_ge (pc := 35) hx ⟨by omega, by omega⟩ 66 (by decide) dX4_tellOfOne_35 (fun hq => ?_) (fun hq => ?_)
    · exact n2 h1 (by omega)
    refine z_aload_n (pc := 38) rfl dX4_tellOfOne_38 ?_
    refine zf_X4_10 (pc := 39) rfl rfl dX4_tellOfOne_39 ?_
    refine z_iload_n (pc := 42) rfl dX4_tellOfOne_42 ?_
    refine z_bipush (pc := 43) (by decide) dX4_tellOfOne_43 ?_
    refine z_isub (pc := 45) dX4_tellOfOne_45 ?_
    refine z_iload_n (pc := 46) rfl dX4_tellOfOne_46 ?_
    refine z_V2 (pc := 47) (c_isOfferOf B (z := x - 20) ⟨by omega, by omega⟩ hk) lk_X4_160 iv_X1_isOfferOf rfl rfl ⟨by decide, by decide⟩ (Nat.le_of_ble_eq_true rfl) ⟨by decide, by decide⟩ dX4_tellOfOne_47 (fun r h9 hq => ?_)
    obtain ⟨rfl, e9⟩ := hq
    rw [e9]
    clear e9 h9
    refine z_r1 ?_
    by_cases h2 : 0 ≤ x - 20 ∧ x - 20 < F 1 2 ∧ F 3 (x - 20).toNat = k
    rotate_left
    · rw [if_neg h2]
      refine z_if_eq (pc := 50) ⟨by omega, by omega⟩ 66 (by decide) dX4_tellOfOne_50 (fun hq => ?_) (fun hq => ?_)
      · exact n2 h1 (fun h => h2 ⟨by omega, by omega, h.2.2⟩)
      omega
    rw [if_pos h2]
    refine z_if_eq (pc := 50) ⟨by omega, by omega⟩ 66 (by decide) dX4_tellOfOne_50 (fun hq => ?_) (fun hq => ?_)
    · omega
    rw [if_neg h1, if_pos ⟨by omega, by omega, h2.2.2⟩]
    obtain ⟨q, hq3⟩ := Int.eq_ofNat_of_zero_le h2.1
    refine z_aload_n (pc := 53) rfl dX4_tellOfOne_53 ?_
    refine zf_X4_10 (pc := 54) rfl rfl dX4_tellOfOne_54 ?_
    refine z_iload_n (pc := 57) rfl dX4_tellOfOne_57 ?_
    refine z_bipush (pc := 58) (by decide) dX4_tellOfOne_58 ?_
    refine z_isub (pc := 60) dX4_tellOfOne_60 ?_
    rw [hq3]
    refine z_iload_n (pc := 61) rfl dX4_tellOfOne_61 ?_
    refine z_V2 (pc := 62) (c_boughtAt (o := q) (t := t) (by omega) ht) lk_X4_164 iv_X1_boughtAt rfl rfl ⟨by decide, by decide⟩ (Nat.le_of_ble_eq_true rfl) ⟨by decide, by decide⟩ dX4_tellOfOne_62 (fun r h9 hq => ?_)
    obtain ⟨rfl, e9⟩ := hq
    rw [e9]
    clear e9 h9
    refine z_r1 ?_
    exact z_reti (pc := 65) rfl (by decide) (by decide) dX4_tellOfOne_65 ⟨rfl, rfl⟩
  refine z_iload_n (pc := 0) rfl dX4_tellOfOne_0 ?_
  refine z_bipush (pc := 1) (by decide) dX4_tellOfOne_1 ?_
  refine z_icmp_lt (pc := 3) hx ⟨by omega, by omega⟩ 26 (by decide) dX4_tellOfOne_3 (fun hq => ?_) (fun hq => ?_)
  · exact p2 (by omega)
  refine z_iload_n (pc := 6) rfl dX4_tellOfOne_6 ?_
  refine z_bipush (pc := 7) (by decide) dX4_tellOfOne_7 ?_
  refine z_icmp_ge (pc := 9) hx ⟨by omega, by omega⟩ 26 (by decide) dX4_tellOfOne_9 (fun hq => ?_) (fun hq => ?_)
  · exact p2 (by omega)
  rw [if_pos (by omega)]
  obtain ⟨q, hq3⟩ := Int.eq_ofNat_of_zero_le (show 0 ≤ x - 10 by omega)
  refine z_aload_n (pc := 12) rfl dX4_tellOfOne_12 ?_
  refine zf_X4_10 (pc := 13) rfl rfl dX4_tellOfOne_13 ?_
  refine z_iload_n (pc := 16) rfl dX4_tellOfOne_16 ?_
  refine z_bipush (pc := 17) (by decide) dX4_tellOfOne_17 ?_
  refine z_isub (pc := 19) dX4_tellOfOne_19 ?_
  rw [hq3]
  refine z_iload_n (pc := 20) rfl dX4_tellOfOne_20 ?_
  refine z_iload_n (pc := 21) rfl dX4_tellOfOne_21 ?_
  refine z_V3 (pc := 22) (c_needOf (o := q) (k := k) (t := t) (by omega) hk ht) lk_X4_157 iv_X1_needOf rfl rfl ⟨by decide, by decide⟩ (Nat.le_of_ble_eq_true rfl) ⟨by decide, by decide⟩ dX4_tellOfOne_22 (fun r h9 hq => ?_)
  obtain ⟨rfl, e9⟩ := hq
  rw [e9]
  clear e9 h9
  refine z_r1 ?_
  exact z_reti (pc := 25) rfl (by decide) (by decide) dX4_tellOfOne_25 ⟨rfl, rfl⟩
theorem c_tell (B : bi F 1) {z y x : Int} (hz : ir z) (hy : ir y) (hx : ir x) : zM l g yX4_tell cX4_tell 4 (some .int) 4 0 0 [.ref (g.2.1 + 0), .int (iz z), .int (iz y), .int (iz x)] (zk g F L im c) (fun r h => r = some (.int (iz (tlv F z y x))) ∧ h = zk g F L im c) := by
  refine zM_of 0 (by decide) rfl ?_
  show zJ l g RX4 cX4_tell 4 (some .int) "tell" (zRm 4 0 0) 0 0 _ 0 0 0 [some (.ref (g.2.1 + 0)), some (.int (iz z)), some (.int (iz y)), some (.int (iz x))] [] _
  have b1 := bi_hours B
  have b2 := bi_kinds B
  have b3 := bi_offers B
  have no : ¬ (0 ≤ z ∧ z < F 1 1 ∧ 0 ≤ y ∧ y < F 1 0) → zJ l g RX4 cX4_tell 4 (some .int) "tell" (zRm 4 0 0) 0 0 (fun r h => r = some (.int (iz (tlv F z y x))) ∧ h = zk g F L im c) 0 0 22 [some (.ref (g.2.1 + 0)), some (.int (iz z)), some (.int (iz y)), some (.int (iz x))] [] (zk g F L im c) := by
    intro hno
    refine z_iconst (pc := 22) dX4_tell_22 ?_
    exact z_reti (pc := 23) rfl (by decide) (by decide) dX4_tell_23 ⟨by unfold tlv; rw [if_neg hno], rfl⟩
  refine z_aload_n (pc := 0) rfl dX4_tell_0 ?_
  refine zf_X4_10 (pc := 1) rfl rfl dX4_tell_1 ?_
  refine z_iload_n (pc := 4) rfl dX4_tell_4 ?_
  refine z_V1 (pc := 5) (c_hasKind B hz) lk_X4_56 iv_X1_hasKind rfl rfl ⟨by decide, by decide⟩ (Nat.le_of_ble_eq_true rfl) ⟨by decide, by decide⟩ dX4_tell_5 (fun r h9 hq => ?_)
  obtain ⟨rfl, e9⟩ := hq
  rw [e9]
  clear e9 h9
  refine z_r1 ?_
  by_cases hc1 : 0 ≤ z ∧ z < F 1 1
  rotate_left
  · rw [if_neg hc1]
    refine z_if_eq (pc := 8) ⟨by omega, by omega⟩ 22 (by decide) dX4_tell_8 (fun hq => ?_) (fun hq => ?_)
    · exact no (by omega)
    omega
  rw [if_pos hc1]
  refine z_if_eq (pc := 8) ⟨by omega, by omega⟩ 22 (by decide) dX4_tell_8 (fun hq => ?_) (fun hq => ?_)
  · omega
  refine z_aload_n (pc := 11) rfl dX4_tell_11 ?_
  refine zf_X4_10 (pc := 12) rfl rfl dX4_tell_12 ?_
  refine z_iload_n (pc := 15) rfl dX4_tell_15 ?_
  refine z_V1 (pc := 16) (c_hasHour B hy) lk_X4_77 iv_X1_hasHour rfl rfl ⟨by decide, by decide⟩ (Nat.le_of_ble_eq_true rfl) ⟨by decide, by decide⟩ dX4_tell_16 (fun r h9 hq => ?_)
  obtain ⟨rfl, e9⟩ := hq
  rw [e9]
  clear e9 h9
  refine z_r1 ?_
  by_cases hc2 : 0 ≤ y ∧ y < F 1 0
  rotate_left
  · rw [if_neg hc2]
    refine z_if_ne (pc := 19) ⟨by omega, by omega⟩ 24 (by decide) dX4_tell_19 (fun hq => ?_) (fun hq => ?_)
    · omega
    exact no (by omega)
  rw [if_pos hc2]
  refine z_if_ne (pc := 19) ⟨by omega, by omega⟩ 24 (by decide) dX4_tell_19 (fun hq => ?_) (fun hq => ?_)
  rotate_left
  · omega
  obtain ⟨k, rfl⟩ := Int.eq_ofNat_of_zero_le hc1.1
  obtain ⟨t, rfl⟩ := Int.eq_ofNat_of_zero_le hc2.1
  have hk : k < 3 := by omega
  have ht : t < 40 := by omega
  have q1 := nda_bd B k t
  have q2 := ahd_bd B ht k
  clear no
  unfold tlv
  rw [if_pos (show 0 ≤ (k : Int) ∧ (k : Int) < F 1 1 ∧ 0 ≤ (t : Int) ∧ (t : Int) < F 1 0 by omega), Int.toNat_natCast, Int.toNat_natCast]
  refine z_iload_n (pc := 24) rfl dX4_tell_24 ?_
  by_cases x0 : x = 0
  · subst x0
    rw [if_pos rfl]
    refine z_tsIn (pc := 25) (off := 31) 56 hx (by omega) (by omega) (by decide) (by decide) dX4_tell_25 ?_
    refine z_aload_n (pc := 56) rfl dX4_tell_56 ?_
    refine zf_X4_10 (pc := 57) rfl rfl dX4_tell_57 ?_
    refine z_iload_n (pc := 60) rfl dX4_tell_60 ?_
    refine z_iload_n (pc := 61) rfl dX4_tell_61 ?_
    refine z_V2 (pc := 62) (c_needOfAll hk ht) lk_X4_101 iv_X1_needOfAll rfl rfl ⟨by decide, by decide⟩ (Nat.le_of_ble_eq_true rfl) ⟨by decide, by decide⟩ dX4_tell_62 (fun r h9 hq => ?_)
    obtain ⟨rfl, e9⟩ := hq
    rw [e9]
    clear e9 h9
    refine z_r1 ?_
    exact z_reti (pc := 65) rfl (by decide) (by decide) dX4_tell_65 ⟨rfl, rfl⟩
  rw [if_neg x0]
  by_cases x1 : x = 1
  · subst x1
    rw [if_pos rfl]
    refine z_tsIn (pc := 25) (off := 41) 66 hx (by omega) (by omega) (by decide) (by decide) dX4_tell_25 ?_
    refine z_aload_n (pc := 66) rfl dX4_tell_66 ?_
    refine zf_X4_10 (pc := 67) rfl rfl dX4_tell_67 ?_
    refine z_iload_n (pc := 70) rfl dX4_tell_70 ?_
    refine z_iload_n (pc := 71) rfl dX4_tell_71 ?_
    refine z_V2 (pc := 72) (c_ahead B hk ht) lk_X4_104 iv_X1_ahead rfl rfl ⟨by decide, by decide⟩ (Nat.le_of_ble_eq_true rfl) ⟨by decide, by decide⟩ dX4_tell_72 (fun r h9 hq => ?_)
    obtain ⟨rfl, e9⟩ := hq
    rw [e9]
    clear e9 h9
    refine z_r1 ?_
    exact z_reti (pc := 75) rfl (by decide) (by decide) dX4_tell_75 ⟨rfl, rfl⟩
  rw [if_neg x1]
  by_cases x2 : x = 2
  · subst x2
    rw [if_pos rfl]
    refine z_tsIn (pc := 25) (off := 51) 76 hx (by omega) (by omega) (by decide) (by decide) dX4_tell_25 ?_
    refine z_aload_n (pc := 76) rfl dX4_tell_76 ?_
    refine zf_X4_10 (pc := 77) rfl rfl dX4_tell_77 ?_
    refine z_iload_n (pc := 80) rfl dX4_tell_80 ?_
    refine z_iload_n (pc := 81) rfl dX4_tell_81 ?_
    refine z_V2 (pc := 82) (c_notAhead B hk ht) lk_X4_107 iv_X1_notAhead rfl rfl ⟨by decide, by decide⟩ (Nat.le_of_ble_eq_true rfl) ⟨by decide, by decide⟩ dX4_tell_82 (fun r h9 hq => ?_)
    obtain ⟨rfl, e9⟩ := hq
    rw [e9]
    clear e9 h9
    refine z_r1 ?_
    exact z_reti (pc := 85) rfl (by decide) (by decide) dX4_tell_85 ⟨rfl, rfl⟩
  rw [if_neg x2]
  by_cases x3 : x = 3
  · subst x3
    rw [if_pos rfl]
    refine z_tsIn (pc := 25) (off := 61) 86 hx (by omega) (by omega) (by decide) (by decide) dX4_tell_25 ?_
    refine z_iconst (pc := 86) dX4_tell_86 ?_
    refine z_aload_n (pc := 87) rfl dX4_tell_87 ?_
    refine zf_X4_10 (pc := 88) rfl rfl dX4_tell_88 ?_
    refine z_iload_n (pc := 91) rfl dX4_tell_91 ?_
    refine z_iload_n (pc := 92) rfl dX4_tell_92 ?_
    refine z_V2 (pc := 93) (c_ahead B hk ht) lk_X4_104 iv_X1_ahead rfl rfl ⟨by decide, by decide⟩ (Nat.le_of_ble_eq_true rfl) ⟨by decide, by decide⟩ dX4_tell_93 (fun r h9 hq => ?_)
    obtain ⟨rfl, e9⟩ := hq
    rw [e9]
    clear e9 h9
    refine z_r1 ?_
    refine z_aload_n (pc := 96) rfl dX4_tell_96 ?_
    refine zf_X4_10 (pc := 97) rfl rfl dX4_tell_97 ?_
    refine z_iload_n (pc := 100) rfl dX4_tell_100 ?_
    refine z_iload_n (pc := 101) rfl dX4_tell_101 ?_
    refine z_V2 (pc := 102) (c_needOfAll hk ht) lk_X4_101 iv_X1_needOfAll rfl rfl ⟨by decide, by decide⟩ (Nat.le_of_ble_eq_true rfl) ⟨by decide, by decide⟩ dX4_tell_102 (fun r h9 hq => ?_)
    obtain ⟨rfl, e9⟩ := hq
    rw [e9]
    clear e9 h9
    refine z_r1 ?_
    refine z_isub (pc := 105) dX4_tell_105 ?_
    refine z_mmax (pc := 106) lk_X4_110 ⟨by omega, by omega⟩ ⟨by omega, by omega⟩ ⟨by decide, by decide⟩ (Nat.le_of_ble_eq_true rfl) ⟨by decide, by decide⟩ dX4_tell_106 ?_
    exact z_reti (pc := 109) rfl (by decide) (by decide) dX4_tell_109 ⟨rfl, rfl⟩
  rw [if_neg x3]
  refine z_tsOut (pc := 25) 110 hx (by omega) (by decide) dX4_tell_25 ?_
  refine z_aload_n (pc := 110) rfl dX4_tell_110 ?_
  refine z_iload_n (pc := 111) rfl dX4_tell_111 ?_
  refine z_iload_n (pc := 112) rfl dX4_tell_112 ?_
  refine z_iload_n (pc := 113) rfl dX4_tell_113 ?_
  refine z_V3 (pc := 114) (c_tellOfOne B hk ht hx) lk_X4_115 iv_X4_tellOfOne rfl rfl ⟨by decide, by decide⟩ (Nat.le_of_ble_eq_true rfl) ⟨by decide, by decide⟩ dX4_tell_114 (fun r h9 hq => ?_)
  obtain ⟨rfl, e9⟩ := hq
  rw [e9]
  clear e9 h9
  refine z_r1 ?_
  exact z_reti (pc := 117) rfl (by decide) (by decide) dX4_tell_117 ⟨rfl, rfl⟩
theorem c_cost (B : bi F 1) {z : Int} (hz : ir z) : zM l g yX4_cost cX4_cost 2 (some .long) 5 0 0 [.ref (g.2.1 + 0), .int (iz z)] (zk g F L im c) (fun r h => r = some (.long (lz (if 0 ≤ z ∧ z < F 1 1 then plc F z.toNat else -1))) ∧ h = zk g F L im c) := by
  refine zM_of 0 (by decide) rfl ?_
  show zJ l g RX4 cX4_cost 2 (some .long) "cost" (zRm 5 0 0) 0 0 _ 0 0 0 [some (.ref (g.2.1 + 0)), some (.int (iz z))] [] _
  have b2 := bi_kinds B
  refine z_aload_n (pc := 0) rfl dX4_cost_0 ?_
  refine zf_X4_10 (pc := 1) rfl rfl dX4_cost_1 ?_
  refine z_iload_n (pc := 4) rfl dX4_cost_4 ?_
  refine z_V1 (pc := 5) (c_hasKind B hz) lk_X4_56 iv_X1_hasKind rfl rfl ⟨by decide, by decide⟩ (Nat.le_of_ble_eq_true rfl) ⟨by decide, by decide⟩ dX4_cost_5 (fun r h9 hq => ?_)
  obtain ⟨rfl, e9⟩ := hq
  rw [e9]
  clear e9 h9
  refine z_r1 ?_
  by_cases hc : 0 ≤ z ∧ z < F 1 1
  · rw [if_pos hc, if_pos hc]
    obtain ⟨k, rfl⟩ := Int.eq_ofNat_of_zero_le hc.1
    refine z_if_eq (pc := 8) ⟨by omega, by omega⟩ 22 (by decide) dX4_cost_8 (fun hq => ?_) (fun hq => ?_)
    · omega
    refine z_aload_n (pc := 11) rfl dX4_cost_11 ?_
    refine zf_X4_10 (pc := 12) rfl rfl dX4_cost_12 ?_
    refine z_iload_n (pc := 15) rfl dX4_cost_15 ?_
    refine z_V1 (pc := 16) (c_planCost B (k := k) (by omega)) lk_X4_118 iv_X1_planCost rfl rfl ⟨by decide, by decide⟩ (Nat.le_of_ble_eq_true rfl) ⟨by decide, by decide⟩ dX4_cost_16 (fun r h9 hq => ?_)
    obtain ⟨rfl, e9⟩ := hq
    rw [e9]
    clear e9 h9
    refine z_r1 ?_
    refine z_goto (pc := 19) 25 (by decide) dX4_cost_19 ?_
    exact z_retl (pc := 25) rfl (by decide) (by decide) dX4_cost_25 ⟨rfl, rfl⟩
  · rw [if_neg hc, if_neg hc]
    refine z_if_eq (pc := 8) ⟨by omega, by omega⟩ 22 (by decide) dX4_cost_8 (fun hq => ?_) (fun hq => ?_)
    · refine z_ldc2 (pc := 22) kl_X4_122 dX4_cost_22 ?_
      exact z_retl (pc := 25) rfl (by decide) (by decide) dX4_cost_25 ⟨rfl, rfl⟩
    omega
theorem c_best (B : bi F 1) (h0 : fr0 F) {z : Int} (hz : ir z) : zM l g yX4_best cX4_best 2 (some .long) 6 0 0 [.ref (g.2.1 + 0), .int (iz z)] (zk g F L im c) (fun r h => ∃ (V : Int) (F' : Nat → Nat → Int), r = some (.long (lz V)) ∧ h = zk g F' L im c ∧ sameC F F' ∧ fr0 F' ∧ ((0 ≤ z ∧ z < F 1 1 ∧ optV (wPF F z.toNat) (nda F z.toNat) (F 1 0).toNat V) ∨ (¬ (0 ≤ z ∧ z < F 1 1) ∧ V = -1))) := by
  refine zM_of 0 (by decide) rfl ?_
  show zJ l g RX4 cX4_best 2 (some .long) "best" (zRm 6 0 0) 0 0 _ 0 0 0 [some (.ref (g.2.1 + 0)), some (.int (iz z))] [] _
  have b2 := bi_kinds B
  refine z_aload_n (pc := 0) rfl dX4_best_0 ?_
  refine zf_X4_10 (pc := 1) rfl rfl dX4_best_1 ?_
  refine z_iload_n (pc := 4) rfl dX4_best_4 ?_
  refine z_V1 (pc := 5) (c_hasKind B hz) lk_X4_56 iv_X1_hasKind rfl rfl ⟨by decide, by decide⟩ (Nat.le_of_ble_eq_true rfl) ⟨by decide, by decide⟩ dX4_best_5 (fun r h9 hq => ?_)
  obtain ⟨rfl, e9⟩ := hq
  rw [e9]
  clear e9 h9
  refine z_r1 ?_
  by_cases hc : 0 ≤ z ∧ z < F 1 1
  · rw [if_pos hc]
    obtain ⟨k, rfl⟩ := Int.eq_ofNat_of_zero_le hc.1
    refine z_if_eq (pc := 8) ⟨by omega, by omega⟩ 26 (by decide) dX4_best_8 (fun hq => ?_) (fun hq => ?_)
    · omega
    refine z_aload_n (pc := 11) rfl dX4_best_11 ?_
    refine zf_X4_23 (pc := 12) rfl rfl dX4_best_12 ?_
    refine z_aload_n (pc := 15) rfl dX4_best_15 ?_
    refine zf_X4_10 (pc := 16) rfl rfl dX4_best_16 ?_
    refine z_iload_n (pc := 19) rfl dX4_best_19 ?_
    refine z_V2 (pc := 20) (c_least B h0 (k := k) (by omega) hc.2) lk_X4_124 iv_X2_least rfl rfl ⟨by decide, by decide⟩ (Nat.le_of_ble_eq_true rfl) ⟨by decide, by decide⟩ dX4_best_20 (fun r h9 hq => ?_)
    obtain ⟨F1, rfl, e8, hL, hP, hX⟩ := hq
    rw [e8]
    clear e8 h9
    refine z_r1 ?_
    refine z_goto (pc := 23) 29 (by decide) dX4_best_23 ?_
    exact z_retl (pc := 29) rfl (by decide) (by decide) dX4_best_29 ⟨_, F1, rfl, rfl, hL.1, fr_fr0 hL.2.1, Or.inl ⟨hc.1, hc.2, class_opt B hc.2 hL⟩⟩
  · rw [if_neg hc]
    refine z_if_eq (pc := 8) ⟨by omega, by omega⟩ 26 (by decide) dX4_best_8 (fun hq => ?_) (fun hq => ?_)
    · refine z_ldc2 (pc := 26) kl_X4_122 dX4_best_26 ?_
      exact z_retl (pc := 29) rfl (by decide) (by decide) dX4_best_29 ⟨-1, F, rfl, rfl, fun _ _ => rfl, h0, Or.inr ⟨hc, rfl⟩⟩
    omega
theorem c_price (B : bi F 1) (h0 : fr0 F) {z y : Int} (hz : ir z) (hy : ir y) : zM l g yX4_price cX4_price 3 (some .int) 6 0 0 [.ref (g.2.1 + 0), .int (iz z), .int (iz y)] (zk g F L im c) (fun r h => ∃ (v : Int) (F' : Nat → Nat → Int), r = some (.int (iz v)) ∧ h = zk g F' L im c ∧ sameC F F' ∧ fr0 F' ∧ ((0 ≤ z ∧ z < F 1 1 ∧ 0 ≤ y ∧ y < F 1 0 ∧ ∃ (V : Int) (p : Nat → Int), optV (wPF F z.toNat) (nda F z.toNat) (F 1 0).toNat V ∧ topP (wPF F z.toNat) (nda F z.toNat) (F 1 0).toNat V p ∧ v = p y.toNat - p (y.toNat + 1)) ∨ (¬ (0 ≤ z ∧ z < F 1 1 ∧ 0 ≤ y ∧ y < F 1 0) ∧ v = -1))) := by
  refine zM_of 0 (by decide) rfl ?_
  show zJ l g RX4 cX4_price 3 (some .int) "price" (zRm 6 0 0) 0 0 _ 0 0 0 [some (.ref (g.2.1 + 0)), some (.int (iz z)), some (.int (iz y))] [] _
  have b1 := bi_hours B
  have b2 := bi_kinds B
  have no : ¬ (0 ≤ z ∧ z < F 1 1 ∧ 0 ≤ y ∧ y < F 1 0) → zJ l g RX4 cX4_price 3 (some .int) "price" (zRm 6 0 0) 0 0 (fun r h => ∃ (v : Int) (F' : Nat → Nat → Int), r = some (.int (iz v)) ∧ h = zk g F' L im c ∧ sameC F F' ∧ fr0 F' ∧ ((0 ≤ z ∧ z < F 1 1 ∧ 0 ≤ y ∧ y < F 1 0 ∧ ∃ (V : Int) (p : Nat → Int), optV (wPF F z.toNat) (nda F z.toNat) (F 1 0).toNat V ∧ topP (wPF F z.toNat) (nda F z.toNat) (F 1 0).toNat V p ∧ v = p y.toNat - p (y.toNat + 1)) ∨ (¬ (0 ≤ z ∧ z < F 1 1 ∧ 0 ≤ y ∧ y < F 1 0) ∧ v = -1))) 0 0 22 [some (.ref (g.2.1 + 0)), some (.int (iz z)), some (.int (iz y))] [] (zk g F L im c) := by
    intro hno
    refine z_iconst (pc := 22) dX4_price_22 ?_
    exact z_reti (pc := 23) rfl (by decide) (by decide) dX4_price_23 ⟨-1, F, rfl, rfl, fun _ _ => rfl, h0, Or.inr ⟨hno, rfl⟩⟩
  refine z_aload_n (pc := 0) rfl dX4_price_0 ?_
  refine zf_X4_10 (pc := 1) rfl rfl dX4_price_1 ?_
  refine z_iload_n (pc := 4) rfl dX4_price_4 ?_
  refine z_V1 (pc := 5) (c_hasKind B hz) lk_X4_56 iv_X1_hasKind rfl rfl ⟨by decide, by decide⟩ (Nat.le_of_ble_eq_true rfl) ⟨by decide, by decide⟩ dX4_price_5 (fun r h9 hq => ?_)
  obtain ⟨rfl, e9⟩ := hq
  rw [e9]
  clear e9 h9
  refine z_r1 ?_
  by_cases hc1 : 0 ≤ z ∧ z < F 1 1
  rotate_left
  · rw [if_neg hc1]
    refine z_if_eq (pc := 8) ⟨by omega, by omega⟩ 22 (by decide) dX4_price_8 (fun hq => ?_) (fun hq => ?_)
    · exact no (by omega)
    omega
  rw [if_pos hc1]
  refine z_if_eq (pc := 8) ⟨by omega, by omega⟩ 22 (by decide) dX4_price_8 (fun hq => ?_) (fun hq => ?_)
  · omega
  refine z_aload_n (pc := 11) rfl dX4_price_11 ?_
  refine zf_X4_10 (pc := 12) rfl rfl dX4_price_12 ?_
  refine z_iload_n (pc := 15) rfl dX4_price_15 ?_
  refine z_V1 (pc := 16) (c_hasHour B hy) lk_X4_77 iv_X1_hasHour rfl rfl ⟨by decide, by decide⟩ (Nat.le_of_ble_eq_true rfl) ⟨by decide, by decide⟩ dX4_price_16 (fun r h9 hq => ?_)
  obtain ⟨rfl, e9⟩ := hq
  rw [e9]
  clear e9 h9
  refine z_r1 ?_
  by_cases hc2 : 0 ≤ y ∧ y < F 1 0
  rotate_left
  · rw [if_neg hc2]
    refine z_if_ne (pc := 19) ⟨by omega, by omega⟩ 24 (by decide) dX4_price_19 (fun hq => ?_) (fun hq => ?_)
    · omega
    exact no (by omega)
  rw [if_pos hc2]
  refine z_if_ne (pc := 19) ⟨by omega, by omega⟩ 24 (by decide) dX4_price_19 (fun hq => ?_) (fun hq => ?_)
  rotate_left
  · omega
  clear no
  obtain ⟨k, rfl⟩ := Int.eq_ofNat_of_zero_le hc1.1
  obtain ⟨t, rfl⟩ := Int.eq_ofNat_of_zero_le hc2.1
  refine z_aload_n (pc := 24) rfl dX4_price_24 ?_
  refine zf_X4_23 (pc := 25) rfl rfl dX4_price_25 ?_
  refine z_aload_n (pc := 28) rfl dX4_price_28 ?_
  refine zf_X4_10 (pc := 29) rfl rfl dX4_price_29 ?_
  refine z_iload_n (pc := 32) rfl dX4_price_32 ?_
  refine z_V2 (pc := 33) (c_least B h0 (k := k) (by omega) hc1.2) lk_X4_124 iv_X2_least rfl rfl ⟨by decide, by decide⟩ (Nat.le_of_ble_eq_true rfl) ⟨by decide, by decide⟩ dX4_price_33 (fun r h9 hq => ?_)
  obtain ⟨F1, rfl, e8, hL, hP, hX⟩ := hq
  rw [e8]
  clear e8 h9
  refine z_r1 ?_
  have hN := lsS_nb B hc1.2 hL
  refine z_pop2 (pc := 36) rfl dX4_price_36 ?_
  refine z_aload_n (pc := 37) rfl dX4_price_37 ?_
  refine zf_X4_23 (pc := 38) rfl rfl dX4_price_38 ?_
  refine z_iload_n (pc := 41) rfl dX4_price_41 ?_
  refine z_V1 (pc := 42) (c_priceOf hL.2.1 hL.2.2.1 hN.1 (a := t) (by omega) (fun u => by have := hP u; omega)) lk_X4_128 iv_X2_priceOf rfl rfl ⟨by decide, by decide⟩ (Nat.le_of_ble_eq_true rfl) ⟨by decide, by decide⟩ dX4_price_42 (fun r h9 hq => ?_)
  obtain ⟨F2, tt, rfl, e8, hR⟩ := hq
  rw [e8]
  clear e8 h9
  refine z_r1 ?_
  refine z_reti (pc := 45) rfl (by decide) (by decide) dX4_price_45 ⟨_, F2, rfl, rfl, fun q hq => (hR.1 q (by omega) (by omega) (by omega) (by omega)).trans (hL.1 q hq), fr_fr0 hR.2.1, Or.inl ⟨hc1.1, hc1.2, hc2.1, hc2.2, _, _, class_opt B hc1.2 hL, class_top B hc1.2 hL hR, ?_⟩⟩
  rw [Int.toNat_natCast]
  show F2 13 t - F2 13 (t + 1) = F2 13 t - F2 13 (F 1 0).toNat - (F2 13 (t + 1) - F2 13 (F 1 0).toNat)
  omega
theorem c_more (B : bi F 1) (h0 : fr0 F) {z y x : Int} (hz : ir z) (hy : ir y) (hx : ir x) : zM l g yX4_more cX4_more 5 (some .int) 6 0 0 [.ref (g.2.1 + 0), .int (iz z), .int (iz y), .int (iz x)] (zk g F L im c) (fun r h => ∃ (v : Int) (F' : Nat → Nat → Int), r = some (.int (iz v)) ∧ h = zk g F' L im c ∧ sameC F F' ∧ fr0 F' ∧ ((0 ≤ z ∧ z < F 1 1 ∧ 0 ≤ y ∧ y < F 1 0 ∧ -60 ≤ x ∧ x ≤ 60 ∧ ∃ V V2 : Int, optV (wPF F z.toNat) (nda F z.toNat) (F 1 0).toNat V ∧ optV (wPF F z.toNat) (nd2 F z.toNat y x) (F 1 0).toNat V2 ∧ v = V2 - V) ∨ (¬ (0 ≤ z ∧ z < F 1 1 ∧ 0 ≤ y ∧ y < F 1 0 ∧ -60 ≤ x ∧ x ≤ 60) ∧ v = -1000000000))) := by
  refine zM_of 1 (by decide) rfl ?_
  show zJ l g RX4 cX4_more 5 (some .int) "more" (zRm 6 0 0) 0 0 _ 0 0 0 [some (.ref (g.2.1 + 0)), some (.int (iz z)), some (.int (iz y)), some (.int (iz x)), none] [] _
  have b1 := bi_hours B
  have b2 := bi_kinds B
  have no : ¬ (0 ≤ z ∧ z < F 1 1 ∧ 0 ≤ y ∧ y < F 1 0 ∧ -60 ≤ x ∧ x ≤ 60) → zJ l g RX4 cX4_more 5 (some .int) "more" (zRm 6 0 0) 0 0 (fun r h => ∃ (v : Int) (F' : Nat → Nat → Int), r = some (.int (iz v)) ∧ h = zk g F' L im c ∧ sameC F F' ∧ fr0 F' ∧ ((0 ≤ z ∧ z < F 1 1 ∧ 0 ≤ y ∧ y < F 1 0 ∧ -60 ≤ x ∧ x ≤ 60 ∧ ∃ V V2 : Int, optV (wPF F z.toNat) (nda F z.toNat) (F 1 0).toNat V ∧ optV (wPF F z.toNat) (nd2 F z.toNat y x) (F 1 0).toNat V2 ∧ v = V2 - V) ∨ (¬ (0 ≤ z ∧ z < F 1 1 ∧ 0 ≤ y ∧ y < F 1 0 ∧ -60 ≤ x ∧ x ≤ 60) ∧ v = -1000000000))) 0 0 34 [some (.ref (g.2.1 + 0)), some (.int (iz z)), some (.int (iz y)), some (.int (iz x)), none] [] (zk g F L im c) := by
    intro hno
    refine z_ldc (pc := 34) kc_X4_131 dX4_more_34 ?_
    exact z_reti (pc := 36) rfl (by decide) (by decide) dX4_more_36 ⟨-1000000000, F, rfl, rfl, fun _ _ => rfl, h0, Or.inr ⟨hno, rfl⟩⟩
  refine z_aload_n (pc := 0) rfl dX4_more_0 ?_
  refine zf_X4_10 (pc := 1) rfl rfl dX4_more_1 ?_
  refine z_iload_n (pc := 4) rfl dX4_more_4 ?_
  refine z_V1 (pc := 5) (c_hasKind B hz) lk_X4_56 iv_X1_hasKind rfl rfl ⟨by decide, by decide⟩ (Nat.le_of_ble_eq_true rfl) ⟨by decide, by decide⟩ dX4_more_5 (fun r h9 hq => ?_)
  obtain ⟨rfl, e9⟩ := hq
  rw [e9]
  clear e9 h9
  refine z_r1 ?_
  by_cases hc1 : 0 ≤ z ∧ z < F 1 1
  rotate_left
  · rw [if_neg hc1]
    refine z_if_eq (pc := 8) ⟨by omega, by omega⟩ 34 (by decide) dX4_more_8 (fun hq => ?_) (fun hq => ?_)
    · exact no (by omega)
    omega
  rw [if_pos hc1]
  refine z_if_eq (pc := 8) ⟨by omega, by omega⟩ 34 (by decide) dX4_more_8 (fun hq => ?_) (fun hq => ?_)
  · omega
  refine z_aload_n (pc := 11) rfl dX4_more_11 ?_
  refine zf_X4_10 (pc := 12) rfl rfl dX4_more_12 ?_
  refine z_iload_n (pc := 15) rfl dX4_more_15 ?_
  refine z_V1 (pc := 16) (c_hasHour B hy) lk_X4_77 iv_X1_hasHour rfl rfl ⟨by decide, by decide⟩ (Nat.le_of_ble_eq_true rfl) ⟨by decide, by decide⟩ dX4_more_16 (fun r h9 hq => ?_)
  obtain ⟨rfl, e9⟩ := hq
  rw [e9]
  clear e9 h9
  refine z_r1 ?_
  by_cases hc2 : 0 ≤ y ∧ y < F 1 0
  rotate_left
  · rw [if_neg hc2]
    refine z_if_eq (pc := 19) ⟨by omega, by omega⟩ 34 (by decide) dX4_more_19 (fun hq => ?_) (fun hq => ?_)
    · exact no (by omega)
    omega
  rw [if_pos hc2]
  refine z_if_eq (pc := 19) ⟨by omega, by omega⟩ 34 (by decide) dX4_more_19 (fun hq => ?_) (fun hq => ?_)
  · omega
  refine z_iload_n (pc := 22) rfl dX4_more_22 ?_
  refine z_bipush (pc := 23) (by decide) dX4_more_23 ?_
  refine z_icmp_lt (pc := 25) hx ⟨by omega, by omega⟩ 34 (by decide) dX4_more_25 (fun hq => ?_) (fun hq => ?_)
  · exact no (by omega)
  refine z_iload_n (pc := 28) rfl dX4_more_28 ?_
  refine z_bipush (pc := 29) (by decide) dX4_more_29 ?_
  refine z_icmp_le (pc := 31) hx ⟨by omega, by omega⟩ 37 (by decide) dX4_more_31 (fun hq => ?_) (fun hq => ?_)
  rotate_left
  · exact no (by omega)
  clear no
  obtain ⟨k, rfl⟩ := Int.eq_ofNat_of_zero_le hc1.1
  obtain ⟨t, rfl⟩ := Int.eq_ofNat_of_zero_le hc2.1
  have nb9 := nda_bd B k t
  refine z_aload_n (pc := 37) rfl dX4_more_37 ?_
  refine zf_X4_23 (pc := 38) rfl rfl dX4_more_38 ?_
  refine z_aload_n (pc := 41) rfl dX4_more_41 ?_
  refine zf_X4_10 (pc := 42) rfl rfl dX4_more_42 ?_
  refine z_iload_n (pc := 45) rfl dX4_more_45 ?_
  refine z_V2 (pc := 46) (c_least B h0 (k := k) (by omega) hc1.2) lk_X4_124 iv_X2_least rfl rfl ⟨by decide, by decide⟩ (Nat.le_of_ble_eq_true rfl) ⟨by decide, by decide⟩ dX4_more_46 (fun r h9 hq => ?_)
  obtain ⟨F1, rfl, e8, hL, hP, hX⟩ := hq
  rw [e8]
  clear e8 h9
  refine z_r1 ?_
  have hN := lsS_nb B hc1.2 hL
  refine z_pop2 (pc := 49) rfl dX4_more_49 ?_
  refine z_aload_n (pc := 50) rfl dX4_more_50 ?_
  refine zf_X4_10 (pc := 51) rfl rfl dX4_more_51 ?_
  refine z_iload_n (pc := 54) rfl dX4_more_54 ?_
  refine z_iload_n (pc := 55) rfl dX4_more_55 ?_
  refine z_V2 (pc := 56) (c_needOfAll (F := F1) (k := k) (t := t) (by omega) (by omega)) lk_X4_101 iv_X1_needOfAll rfl rfl ⟨by decide, by decide⟩ (Nat.le_of_ble_eq_true rfl) ⟨by decide, by decide⟩ dX4_more_56 (fun r h9 hq => ?_)
  obtain ⟨rfl, e9⟩ := hq
  rw [e9]
  clear e9 h9
  refine z_r1 ?_
  rw [nda_cong (hL.1 6 (by omega)) k t]
  refine z_is4 (pc := 59) (by decide) rfl dX4_more_59 ?_
  refine z_aload_n (pc := 61) rfl dX4_more_61 ?_
  refine zf_X4_23 (pc := 62) rfl rfl dX4_more_62 ?_
  refine z_iload_n (pc := 65) rfl dX4_more_65 ?_
  refine z_iload_n (pc := 66) rfl dX4_more_66 ?_
  refine z_iload (pc := 67) rfl dX4_more_67 ?_
  refine z_ineg (pc := 69) dX4_more_69 ?_
  refine z_mmax (pc := 70) lk_X4_110 ⟨by omega, by omega⟩ ⟨by omega, by omega⟩ ⟨by decide, by decide⟩ (Nat.le_of_ble_eq_true rfl) ⟨by decide, by decide⟩ dX4_more_70 ?_
  refine z_V2 (pc := 73) (c_change (F := F1) hL.2.1 hL.2.2.1 hN.1 (a := t) (un := max x (-nda F k t)) (by omega) (by omega) (by omega) (fun u => by have := hP u; omega) (fun u => by have := hX u; omega)) lk_X4_132 iv_X2_change rfl rfl ⟨by decide, by decide⟩ (Nat.le_of_ble_eq_true rfl) ⟨by decide, by decide⟩ dX4_more_73 (fun r h9 hq => ?_)
  obtain ⟨F2, rfl, e8, C⟩ := hq
  rw [e8]
  clear e8 h9
  refine z_r1 ?_
  refine z_l2i (pc := 76) dX4_more_76 ?_
  obtain ⟨k1, k2, k3, k4, -, -⟩ := C
  have e10 : F2 10 = F1 10 := k1 10 (by omega)
  have hL2 : lsS F F2 k (nd2 F k t x) := by
    obtain ⟨l1, l2, l3, ⟨Fw, w1, w2, w3, w4⟩, l5⟩ := hL
    refine ⟨fun q hq => (k1 q (by omega)).trans (l1 q hq), k2, k3, ⟨Fw, w1, (k1 9 (by omega)).trans w2, e10.trans w3, (k1 11 (by omega)).trans w4⟩, fun w => ?_⟩
    rw [e10, k4 w, l5 w, dv_nd2 B k x w (show t < (F 1 0).toNat by omega)]
  refine z_reti (pc := 77) rfl (by decide) (by decide) dX4_more_77 ⟨_, F2, rfl, rfl, hL2.1, fr_fr0 k2, Or.inl ⟨hc1.1, hc1.2, hc2.1, hc2.2, by omega, by omega, _, _, class_opt B hc1.2 hL, class_opt B hc1.2 hL2, ?_⟩⟩
  rw [e10]
theorem c_blind_no (B : bi F 1) {z : Int} (hz : ir z) (hno : ¬ (0 ≤ z ∧ z < F 1 2)) : zM l g yX4_blind cX4_blind 3 (some .long) 5 0 0 [.ref (g.2.1 + 0), .int (iz z)] (zk g F L im c) (fun r h => r = some (.long (lz (-1))) ∧ h = zk g F L im c) := by
  refine zM_of 1 (by decide) rfl ?_
  show zJ l g RX4 cX4_blind 3 (some .long) "blind" (zRm 5 0 0) 0 0 _ 0 0 0 [some (.ref (g.2.1 + 0)), some (.int (iz z)), none] [] _
  have b3 := bi_offers B
  refine z_aload_n (pc := 0) rfl dX4_blind_0 ?_
  refine zf_X4_10 (pc := 1) rfl rfl dX4_blind_1 ?_
  refine z_iload_n (pc := 4) rfl dX4_blind_4 ?_
  refine z_V1 (pc := 5) (c_hasOffer B hz) lk_X4_67 iv_X1_hasOffer rfl rfl ⟨by decide, by decide⟩ (Nat.le_of_ble_eq_true rfl) ⟨by decide, by decide⟩ dX4_blind_5 (fun r h9 hq => ?_)
  obtain ⟨rfl, e9⟩ := hq
  rw [e9]
  clear e9 h9
  refine z_r1 ?_
  rw [if_neg hno]
  refine z_if_ne (pc := 8) ⟨by omega, by omega⟩ 15 (by decide) dX4_blind_8 (fun hq => ?_) (fun hq => ?_)
  · omega
  refine z_ldc2 (pc := 11) kl_X4_122 dX4_blind_11 ?_
  exact z_retl (pc := 14) rfl (by decide) (by decide) dX4_blind_14 ⟨rfl, rfl⟩
theorem bi_blind {F : Nat → Nat → Int} (B : bi F 1) {o k : Nat} (ho : (o : Int) < F 1 2) : bi (Cs F (put (noby F k (F 1 2).toNat) (o * 40) (bln (nda F k) (F 4 o) (F 5 o) (F 2 k) (F 1 0)) (F 1 0).toNat) (cnb (nda F k) (F 4 o) (F 5 o) (F 2 k) (F 1 0) (F 1 0).toNat)) 1 := by
  have b1 := bi_hours B
  have b3 := bi_offers B
  obtain ⟨h1, h2, h3, h4, h5, h6, h7, h8, h9, h10, h11, h12, h13⟩ := B
  refine ⟨h1, h2, h3, h4, h5, h6, h7, h8, h9, h10, h11, fun j => ?_, fun o2 t ho2 ht hh => ?_⟩
  · show 0 ≤ put (noby F k (F 1 2).toNat) (o * 40) (bln (nda F k) (F 4 o) (F 5 o) (F 2 k) (F 1 0)) (F 1 0).toNat j ∧ put (noby F k (F 1 2).toNat) (o * 40) (bln (nda F k) (F 4 o) (F 5 o) (F 2 k) (F 1 0)) (F 1 0).toNat j ≤ 60
    unfold put noby
    by_cases h : o * 40 ≤ j ∧ j < o * 40 + (F 1 0).toNat
    · rw [if_pos h]; exact bln_bd (nda F k) (F 4 o) (F 5 o) (F 2 k) (F 1 0) (j - o * 40)
    · rw [if_neg h]
      split
      · omega
      · exact h12 j
  · have hh2 : F 1 0 ≤ t := hh
    show put (noby F k (F 1 2).toNat) (o * 40) (bln (nda F k) (F 4 o) (F 5 o) (F 2 k) (F 1 0)) (F 1 0).toNat (o2 * 40 + t) = 0
    unfold put noby
    rw [if_neg (by omega)]
    split
    · rfl
    · exact h13 o2 t ho2 ht hh
theorem c_blind (B : bi F 1) {o k : Nat} (ho : (o : Int) < F 1 2) (hko : F 3 o = k) : zM l g yX4_blind cX4_blind 3 (some .long) 5 0 0 [.ref (g.2.1 + 0), .int (iz o)] (zk g F L im c) (fun r h => r = some (.long (lz (plc (Cs F (put (noby F k (F 1 2).toNat) (o * 40) (bln (nda F k) (F 4 o) (F 5 o) (F 2 k) (F 1 0)) (F 1 0).toNat) (cnb (nda F k) (F 4 o) (F 5 o) (F 2 k) (F 1 0) (F 1 0).toNat)) k))) ∧ h = zk g (Cs F (put (noby F k (F 1 2).toNat) (o * 40) (bln (nda F k) (F 4 o) (F 5 o) (F 2 k) (F 1 0)) (F 1 0).toNat) (cnb (nda F k) (F 4 o) (F 5 o) (F 2 k) (F 1 0) (F 1 0).toNat)) L im c) := by
  refine zM_of 1 (by decide) rfl ?_
  show zJ l g RX4 cX4_blind 3 (some .long) "blind" (zRm 5 0 0) 0 0 _ 0 0 0 [some (.ref (g.2.1 + 0)), some (.int (iz o)), none] [] _
  have b3 := bi_offers B
  have hk : k < 3 := by have := bi_kindOf B o; omega
  have hb := bq_bi B ho hko
  refine z_aload_n (pc := 0) rfl dX4_blind_0 ?_
  refine zf_X4_10 (pc := 1) rfl rfl dX4_blind_1 ?_
  refine z_iload_n (pc := 4) rfl dX4_blind_4 ?_
  refine z_V1 (pc := 5) (c_hasOffer B (z := o) ⟨by omega, by omega⟩) lk_X4_67 iv_X1_hasOffer rfl rfl ⟨by decide, by decide⟩ (Nat.le_of_ble_eq_true rfl) ⟨by decide, by decide⟩ dX4_blind_5 (fun r h9 hq => ?_)
  obtain ⟨rfl, e9⟩ := hq
  rw [e9]
  clear e9 h9
  refine z_r1 ?_
  rw [if_pos (by omega)]
  refine z_if_ne (pc := 8) ⟨by omega, by omega⟩ 15 (by decide) dX4_blind_8 (fun hq => ?_) (fun hq => ?_)
  rotate_left
  · omega
  refine z_aload_n (pc := 15) rfl dX4_blind_15 ?_
  refine zf_X4_10 (pc := 16) rfl rfl dX4_blind_16 ?_
  refine zf_X4_136 (pc := 19) rfl rfl dX4_blind_19 ?_
  refine z_iload_n (pc := 22) rfl dX4_blind_22 ?_
  refine z_iald (pc := 23) rfl (by decide) (by omega) (by omega) dX4_blind_23 ?_
  rw [Int.toNat_natCast, hko]
  refine z_is2 (pc := 24) (by decide) rfl dX4_blind_24 ?_
  refine z_aload_n (pc := 25) rfl dX4_blind_25 ?_
  refine zf_X4_10 (pc := 26) rfl rfl dX4_blind_26 ?_
  refine z_iload_n (pc := 29) rfl dX4_blind_29 ?_
  refine z_V1 (pc := 30) (c_buyNothing B (k := k) hk) lk_X4_98 iv_X1_buyNothing rfl rfl ⟨by decide, by decide⟩ (Nat.le_of_ble_eq_true rfl) ⟨by decide, by decide⟩ dX4_blind_30 (fun r h9 hq => ?_)
  obtain ⟨rfl, e9⟩ := hq
  rw [e9]
  clear e9 h9
  refine z_r0 ?_
  refine z_aload_n (pc := 33) rfl dX4_blind_33 ?_
  refine zf_X4_30 (pc := 34) rfl rfl dX4_blind_34 ?_
  refine z_aload_n (pc := 37) rfl dX4_blind_37 ?_
  refine zf_X4_10 (pc := 38) rfl rfl dX4_blind_38 ?_
  refine z_iload_n (pc := 41) rfl dX4_blind_41 ?_
  refine z_V2 (pc := 42) (c_buyBlindly (F := va_up F 7 (noby F k (F 1 2).toNat)) (o := o) (k := k) hb) lk_X4_139 iv_X0_buyBlindly rfl rfl ⟨by decide, by decide⟩ (Nat.le_of_ble_eq_true rfl) ⟨by decide, by decide⟩ dX4_blind_42 (fun r h9 hq => ?_)
  obtain ⟨rfl, e9⟩ := hq
  rw [e9]
  clear e9 h9
  refine z_r0 ?_
  refine z_hp (show _ = zk g (Cs F (put (noby F k (F 1 2).toNat) (o * 40) (bln (nda F k) (F 4 o) (F 5 o) (F 2 k) (F 1 0)) (F 1 0).toNat) (cnb (nda F k) (F 4 o) (F 5 o) (F 2 k) (F 1 0) (F 1 0).toNat)) L im c from congrArg (fun f => zk g (va_up f 18 (cnb (nda F k) (F 4 o) (F 5 o) (F 2 k) (F 1 0) (F 1 0).toNat)) L im c) (up_up F 7 _ _)) ?_
  refine z_aload_n (pc := 45) rfl dX4_blind_45 ?_
  refine zf_X4_10 (pc := 46) rfl rfl dX4_blind_46 ?_
  refine z_iload_n (pc := 49) rfl dX4_blind_49 ?_
  refine z_V1 (pc := 50) (c_planCost (F := Cs F (put (noby F k (F 1 2).toNat) (o * 40) (bln (nda F k) (F 4 o) (F 5 o) (F 2 k) (F 1 0)) (F 1 0).toNat) (cnb (nda F k) (F 4 o) (F 5 o) (F 2 k) (F 1 0) (F 1 0).toNat)) (k := k) (bi_blind B ho) hk) lk_X4_118 iv_X1_planCost rfl rfl ⟨by decide, by decide⟩ (Nat.le_of_ble_eq_true rfl) ⟨by decide, by decide⟩ dX4_blind_50 (fun r h9 hq => ?_)
  obtain ⟨rfl, e9⟩ := hq
  rw [e9]
  clear e9 h9
  refine z_r1 ?_
  exact z_retl (pc := 53) rfl (by decide) (by decide) dX4_blind_53 ⟨rfl, rfl⟩
theorem c_pays (B : bi F 1) {o z : Int} (ho : ir o) (hz : ir z) : zM l g yX4_pays cX4_pays 3 (some .long) 5 0 0 [.ref (g.2.1 + 0), .int (iz o), .int (iz z)] (zk g F L im c) (fun r h => r = some (.long (lz (if 0 ≤ o ∧ o ≤ 3 ∧ 0 ≤ z ∧ z < F 1 1 then pyv F z.toNat o.toNat else -1))) ∧ ∃ (a b e : Nat → Int), h = zk g (Ss F a b e) L im c) := by
  refine zM_of 0 (by decide) rfl ?_
  show zJ l g RX4 cX4_pays 3 (some .long) "pays" (zRm 5 0 0) 0 0 _ 0 0 0 [some (.ref (g.2.1 + 0)), some (.int (iz o)), some (.int (iz z))] [] _
  have b2 := bi_kinds B
  have no : ¬ (0 ≤ o ∧ o ≤ 3 ∧ 0 ≤ z ∧ z < F 1 1) → zJ l g RX4 cX4_pays 3 (some .long) "pays" (zRm 5 0 0) 0 0 (fun r h => r = some (.long (lz (if 0 ≤ o ∧ o ≤ 3 ∧ 0 ≤ z ∧ z < F 1 1 then pyv F z.toNat o.toNat else -1))) ∧ ∃ (a b e : Nat → Int), h = zk g (Ss F a b e) L im c) 0 0 18 [some (.ref (g.2.1 + 0)), some (.int (iz o)), some (.int (iz z))] [] (zk g F L im c) := by
    intro hno
    rw [if_neg hno]
    refine z_ldc2 (pc := 18) kl_X4_122 dX4_pays_18 ?_
    exact z_retl (pc := 21) rfl (by decide) (by decide) dX4_pays_21 ⟨rfl, F 20, F 21, F 22, by rw [Ss_id]⟩
  refine z_iload_n (pc := 0) rfl dX4_pays_0 ?_
  refine z_S1 (pc := 1) (c_isOwner ho) lk_X4_74 st_X4_isOwner ⟨by decide, by decide⟩ (Nat.le_of_ble_eq_true rfl) ⟨by decide, by decide⟩ dX4_pays_1 (fun r h9 hq => ?_)
  obtain ⟨rfl, e9⟩ := hq
  rw [e9]
  clear e9 h9
  refine z_r1 ?_
  by_cases hc1 : 0 ≤ o ∧ o < 4
  rotate_left
  · rw [if_neg hc1]
    refine z_if_eq (pc := 4) ⟨by omega, by omega⟩ 18 (by decide) dX4_pays_4 (fun hq => ?_) (fun hq => ?_)
    · exact no (by omega)
    omega
  rw [if_pos hc1]
  refine z_if_eq (pc := 4) ⟨by omega, by omega⟩ 18 (by decide) dX4_pays_4 (fun hq => ?_) (fun hq => ?_)
  · omega
  refine z_aload_n (pc := 7) rfl dX4_pays_7 ?_
  refine zf_X4_10 (pc := 8) rfl rfl dX4_pays_8 ?_
  refine z_iload_n (pc := 11) rfl dX4_pays_11 ?_
  refine z_V1 (pc := 12) (c_hasKind B hz) lk_X4_56 iv_X1_hasKind rfl rfl ⟨by decide, by decide⟩ (Nat.le_of_ble_eq_true rfl) ⟨by decide, by decide⟩ dX4_pays_12 (fun r h9 hq => ?_)
  obtain ⟨rfl, e9⟩ := hq
  rw [e9]
  clear e9 h9
  refine z_r1 ?_
  by_cases hc2 : 0 ≤ z ∧ z < F 1 1
  rotate_left
  · rw [if_neg hc2]
    refine z_if_ne (pc := 15) ⟨by omega, by omega⟩ 22 (by decide) dX4_pays_15 (fun hq => ?_) (fun hq => ?_)
    · omega
    exact no (by omega)
  rw [if_pos hc2]
  refine z_if_ne (pc := 15) ⟨by omega, by omega⟩ 22 (by decide) dX4_pays_15 (fun hq => ?_) (fun hq => ?_)
  rotate_left
  · omega
  clear no
  rw [if_pos (show 0 ≤ o ∧ o ≤ 3 ∧ 0 ≤ z ∧ z < F 1 1 by omega)]
  obtain ⟨q, rfl⟩ := Int.eq_ofNat_of_zero_le hc1.1
  obtain ⟨k, rfl⟩ := Int.eq_ofNat_of_zero_le hc2.1
  refine z_aload_n (pc := 22) rfl dX4_pays_22 ?_
  refine zf_X4_37 (pc := 23) rfl rfl dX4_pays_23 ?_
  refine z_aload_n (pc := 26) rfl dX4_pays_26 ?_
  refine zf_X4_10 (pc := 27) rfl rfl dX4_pays_27 ?_
  refine z_iload_n (pc := 30) rfl dX4_pays_30 ?_
  refine z_iload_n (pc := 31) rfl dX4_pays_31 ?_
  refine z_V3 (pc := 32) (c_shareOf B (k := k) (o := q) (by omega) (by omega)) lk_X4_143 iv_X3_shareOf rfl rfl ⟨by decide, by decide⟩ (Nat.le_of_ble_eq_true rfl) ⟨by decide, by decide⟩ dX4_pays_32 (fun r h9 hq => ?_)
  obtain ⟨rfl, a, b, e, e8⟩ := hq
  rw [e8]
  clear e8 h9
  refine z_r1 ?_
  exact z_retl (pc := 35) rfl (by decide) (by decide) dX4_pays_35 ⟨rfl, a, b, e, rfl⟩
theorem c_aboutKind (B : bi F 1) {k : Nat} {x : Int} (hk : k < 3) (hx : ir x) : zM l g yX4_aboutKind cX4_aboutKind 3 (some .int) 3 0 0 [.ref (g.2.1 + 0), .int (iz k), .int (iz x)] (zk g F L im c) (fun r h => r = some (.int (iz (if x = 10 then F 2 k else if x = 11 then sm (fun o => if F 3 o = (k : Int) then 1 else 0) (F 1 2).toNat else if x = 12 then sm (nda F k) (F 1 0).toNat else if x = 13 then mxs (nda F k) (F 1 0).toNat else -1))) ∧ h = zk g F L im c) := by
  refine zM_of 0 (by decide) rfl ?_
  show zJ l g RX4 cX4_aboutKind 3 (some .int) "aboutKind" (zRm 3 0 0) 0 0 _ 0 0 0 [some (.ref (g.2.1 + 0)), some (.int (iz k)), some (.int (iz x))] [] _
  refine z_iload_n (pc := 0) rfl dX4_aboutKind_0 ?_
  by_cases x0 : x = 10
  · subst x0
    rw [if_pos rfl]
    refine z_tsIn (pc := 1) (off := 31) 32 hx (by omega) (by omega) (by decide) (by decide) dX4_aboutKind_1 ?_
    refine z_aload_n (pc := 32) rfl dX4_aboutKind_32 ?_
    refine zf_X4_10 (pc := 33) rfl rfl dX4_aboutKind_33 ?_
    refine zf_X4_173 (pc := 36) rfl rfl dX4_aboutKind_36 ?_
    refine z_iload_n (pc := 39) rfl dX4_aboutKind_39 ?_
    refine z_iald (pc := 40) rfl (by decide) (by omega) (by omega) dX4_aboutKind_40 ?_
    rw [Int.toNat_natCast]
    exact z_reti (pc := 41) rfl (by decide) (by decide) dX4_aboutKind_41 ⟨rfl, rfl⟩
  rw [if_neg x0]
  by_cases x1 : x = 11
  · subst x1
    rw [if_pos rfl]
    refine z_tsIn (pc := 1) (off := 41) 42 hx (by omega) (by omega) (by decide) (by decide) dX4_aboutKind_1 ?_
    refine z_aload_n (pc := 42) rfl dX4_aboutKind_42 ?_
    refine zf_X4_10 (pc := 43) rfl rfl dX4_aboutKind_43 ?_
    refine z_iload_n (pc := 46) rfl dX4_aboutKind_46 ?_
    refine z_V1 (pc := 47) (c_offersOf B hk) lk_X4_176 iv_X1_offersOf rfl rfl ⟨by decide, by decide⟩ (Nat.le_of_ble_eq_true rfl) ⟨by decide, by decide⟩ dX4_aboutKind_47 (fun r h9 hq => ?_)
    obtain ⟨rfl, e9⟩ := hq
    rw [e9]
    clear e9 h9
    refine z_r1 ?_
    exact z_reti (pc := 50) rfl (by decide) (by decide) dX4_aboutKind_50 ⟨rfl, rfl⟩
  rw [if_neg x1]
  by_cases x2 : x = 12
  · subst x2
    rw [if_pos rfl]
    refine z_tsIn (pc := 1) (off := 50) 51 hx (by omega) (by omega) (by decide) (by decide) dX4_aboutKind_1 ?_
    refine z_aload_n (pc := 51) rfl dX4_aboutKind_51 ?_
    refine zf_X4_10 (pc := 52) rfl rfl dX4_aboutKind_52 ?_
    refine z_iload_n (pc := 55) rfl dX4_aboutKind_55 ?_
    refine z_V1 (pc := 56) (c_needInAll B hk) lk_X4_179 iv_X1_needInAll rfl rfl ⟨by decide, by decide⟩ (Nat.le_of_ble_eq_true rfl) ⟨by decide, by decide⟩ dX4_aboutKind_56 (fun r h9 hq => ?_)
    obtain ⟨rfl, e9⟩ := hq
    rw [e9]
    clear e9 h9
    refine z_r1 ?_
    exact z_reti (pc := 59) rfl (by decide) (by decide) dX4_aboutKind_59 ⟨rfl, rfl⟩
  rw [if_neg x2]
  by_cases x3 : x = 13
  · subst x3
    rw [if_pos rfl]
    refine z_tsIn (pc := 1) (off := 59) 60 hx (by omega) (by omega) (by decide) (by decide) dX4_aboutKind_1 ?_
    refine z_aload_n (pc := 60) rfl dX4_aboutKind_60 ?_
    refine zf_X4_10 (pc := 61) rfl rfl dX4_aboutKind_61 ?_
    refine z_iload_n (pc := 64) rfl dX4_aboutKind_64 ?_
    refine z_V1 (pc := 65) (c_mostNeed B hk) lk_X4_182 iv_X1_mostNeed rfl rfl ⟨by decide, by decide⟩ (Nat.le_of_ble_eq_true rfl) ⟨by decide, by decide⟩ dX4_aboutKind_65 (fun r h9 hq => ?_)
    obtain ⟨rfl, e9⟩ := hq
    rw [e9]
    clear e9 h9
    refine z_r1 ?_
    exact z_reti (pc := 68) rfl (by decide) (by decide) dX4_aboutKind_68 ⟨rfl, rfl⟩
  rw [if_neg x3]
  refine z_tsOut (pc := 1) 69 hx (by omega) (by decide) dX4_aboutKind_1 ?_
  refine z_iconst (pc := 69) dX4_aboutKind_69 ?_
  exact z_reti (pc := 70) rfl (by decide) (by decide) dX4_aboutKind_70 ⟨rfl, rfl⟩
theorem c_aboutOffer (B : bi F 1) {k : Nat} {x : Int} (hk : k < 6) (hx : ir x) : zM l g yX4_aboutOffer cX4_aboutOffer 3 (some .int) 3 0 0 [.ref (g.2.1 + 0), .int (iz k), .int (iz x)] (zk g F L im c) (fun r h => r = some (.int (iz (if x = 0 then F 3 k else if x = 1 then F 4 k else if x = 2 then F 5 k else if x = 3 then sm (bt F k) (F 1 0).toNat else -1))) ∧ h = zk g F L im c) := by
  refine zM_of 0 (by decide) rfl ?_
  show zJ l g RX4 cX4_aboutOffer 3 (some .int) "aboutOffer" (zRm 3 0 0) 0 0 _ 0 0 0 [some (.ref (g.2.1 + 0)), some (.int (iz k)), some (.int (iz x))] [] _
  refine z_iload_n (pc := 0) rfl dX4_aboutOffer_0 ?_
  by_cases x0 : x = 0
  · subst x0
    rw [if_pos rfl]
    refine z_tsIn (pc := 1) (off := 31) 32 hx (by omega) (by omega) (by decide) (by decide) dX4_aboutOffer_1 ?_
    refine z_aload_n (pc := 32) rfl dX4_aboutOffer_32 ?_
    refine zf_X4_10 (pc := 33) rfl rfl dX4_aboutOffer_33 ?_
    refine zf_X4_136 (pc := 36) rfl rfl dX4_aboutOffer_36 ?_
    refine z_iload_n (pc := 39) rfl dX4_aboutOffer_39 ?_
    refine z_iald (pc := 40) rfl (by decide) (by omega) (by omega) dX4_aboutOffer_40 ?_
    rw [Int.toNat_natCast]
    exact z_reti (pc := 41) rfl (by decide) (by decide) dX4_aboutOffer_41 ⟨rfl, rfl⟩
  rw [if_neg x0]
  by_cases x1 : x = 1
  · subst x1
    rw [if_pos rfl]
    refine z_tsIn (pc := 1) (off := 41) 42 hx (by omega) (by omega) (by decide) (by decide) dX4_aboutOffer_1 ?_
    refine z_aload_n (pc := 42) rfl dX4_aboutOffer_42 ?_
    refine zf_X4_10 (pc := 43) rfl rfl dX4_aboutOffer_43 ?_
    refine zf_X4_167 (pc := 46) rfl rfl dX4_aboutOffer_46 ?_
    refine z_iload_n (pc := 49) rfl dX4_aboutOffer_49 ?_
    refine z_iald (pc := 50) rfl (by decide) (by omega) (by omega) dX4_aboutOffer_50 ?_
    rw [Int.toNat_natCast]
    exact z_reti (pc := 51) rfl (by decide) (by decide) dX4_aboutOffer_51 ⟨rfl, rfl⟩
  rw [if_neg x1]
  by_cases x2 : x = 2
  · subst x2
    rw [if_pos rfl]
    refine z_tsIn (pc := 1) (off := 51) 52 hx (by omega) (by omega) (by decide) (by decide) dX4_aboutOffer_1 ?_
    refine z_aload_n (pc := 52) rfl dX4_aboutOffer_52 ?_
    refine zf_X4_10 (pc := 53) rfl rfl dX4_aboutOffer_53 ?_
    refine zf_X4_70 (pc := 56) rfl rfl dX4_aboutOffer_56 ?_
    refine z_iload_n (pc := 59) rfl dX4_aboutOffer_59 ?_
    refine z_iald (pc := 60) rfl (by decide) (by omega) (by omega) dX4_aboutOffer_60 ?_
    rw [Int.toNat_natCast]
    exact z_reti (pc := 61) rfl (by decide) (by decide) dX4_aboutOffer_61 ⟨rfl, rfl⟩
  rw [if_neg x2]
  by_cases x3 : x = 3
  · subst x3
    rw [if_pos rfl]
    refine z_tsIn (pc := 1) (off := 61) 62 hx (by omega) (by omega) (by decide) (by decide) dX4_aboutOffer_1 ?_
    refine z_aload_n (pc := 62) rfl dX4_aboutOffer_62 ?_
    refine zf_X4_10 (pc := 63) rfl rfl dX4_aboutOffer_63 ?_
    refine z_iload_n (pc := 66) rfl dX4_aboutOffer_66 ?_
    refine z_V1 (pc := 67) (c_boughtInAll B hk) lk_X4_170 iv_X1_boughtInAll rfl rfl ⟨by decide, by decide⟩ (Nat.le_of_ble_eq_true rfl) ⟨by decide, by decide⟩ dX4_aboutOffer_67 (fun r h9 hq => ?_)
    obtain ⟨rfl, e9⟩ := hq
    rw [e9]
    clear e9 h9
    refine z_r1 ?_
    exact z_reti (pc := 70) rfl (by decide) (by decide) dX4_aboutOffer_70 ⟨rfl, rfl⟩
  rw [if_neg x3]
  refine z_tsOut (pc := 1) 71 hx (by omega) (by decide) dX4_aboutOffer_1 ?_
  refine z_iconst (pc := 71) dX4_aboutOffer_71 ?_
  exact z_reti (pc := 72) rfl (by decide) (by decide) dX4_aboutOffer_72 ⟨rfl, rfl⟩
theorem c_about (B : bi F 1) {z x : Int} (hz : ir z) (hx : ir x) : zM l g yX4_about cX4_about 3 (some .int) 4 0 0 [.ref (g.2.1 + 0), .int (iz z), .int (iz x)] (zk g F L im c) (fun r h => r = some (.int (iz (abv F z x))) ∧ h = zk g F L im c) := by
  refine zM_of 0 (by decide) rfl ?_
  show zJ l g RX4 cX4_about 3 (some .int) "about" (zRm 4 0 0) 0 0 _ 0 0 0 [some (.ref (g.2.1 + 0)), some (.int (iz z)), some (.int (iz x))] [] _
  have b2 := bi_kinds B
  have b3 := bi_offers B
  unfold abv
  refine z_iload_n (pc := 0) rfl dX4_about_0 ?_
  refine z_bipush (pc := 1) (by decide) dX4_about_1 ?_
  refine z_icmp_lt (pc := 3) hx ⟨by omega, by omega⟩ 28 (by decide) dX4_about_3 (fun hq => ?_) (fun hq => ?_)
  · rw [if_neg (by omega)]
    refine z_aload_n (pc := 28) rfl dX4_about_28 ?_
    refine zf_X4_10 (pc := 29) rfl rfl dX4_about_29 ?_
    refine z_iload_n (pc := 32) rfl dX4_about_32 ?_
    refine z_V1 (pc := 33) (c_hasOffer B hz) lk_X4_67 iv_X1_hasOffer rfl rfl ⟨by decide, by decide⟩ (Nat.le_of_ble_eq_true rfl) ⟨by decide, by decide⟩ dX4_about_33 (fun r h9 hq => ?_)
    obtain ⟨rfl, e9⟩ := hq
    rw [e9]
    clear e9 h9
    refine z_r1 ?_
    by_cases hc : 0 ≤ z ∧ z < F 1 2
    · rw [if_pos hc, if_pos hc]
      obtain ⟨k, rfl⟩ := Int.eq_ofNat_of_zero_le hc.1
      refine z_if_eq (pc := 36) ⟨by omega, by omega⟩ 48 (by decide) dX4_about_36 (fun hq => ?_) (fun hq => ?_)
      · omega
      refine z_aload_n (pc := 39) rfl dX4_about_39 ?_
      refine z_iload_n (pc := 40) rfl dX4_about_40 ?_
      refine z_iload_n (pc := 41) rfl dX4_about_41 ?_
      refine z_V2 (pc := 42) (c_aboutOffer B (k := k) (by omega) hx) lk_X4_150 iv_X4_aboutOffer rfl rfl ⟨by decide, by decide⟩ (Nat.le_of_ble_eq_true rfl) ⟨by decide, by decide⟩ dX4_about_42 (fun r h9 hq => ?_)
      obtain ⟨rfl, e9⟩ := hq
      rw [e9]
      clear e9 h9
      refine z_r1 ?_
      refine z_goto (pc := 45) 49 (by decide) dX4_about_45 ?_
      exact z_reti (pc := 49) rfl (by decide) (by decide) dX4_about_49 ⟨rfl, rfl⟩
    · rw [if_neg hc, if_neg hc]
      refine z_if_eq (pc := 36) ⟨by omega, by omega⟩ 48 (by decide) dX4_about_36 (fun hq => ?_) (fun hq => ?_)
      · refine z_iconst (pc := 48) dX4_about_48 ?_
        exact z_reti (pc := 49) rfl (by decide) (by decide) dX4_about_49 ⟨rfl, rfl⟩
      omega
  · rw [if_pos (by omega)]
    refine z_aload_n (pc := 6) rfl dX4_about_6 ?_
    refine zf_X4_10 (pc := 7) rfl rfl dX4_about_7 ?_
    refine z_iload_n (pc := 10) rfl dX4_about_10 ?_
    refine z_V1 (pc := 11) (c_hasKind B hz) lk_X4_56 iv_X1_hasKind rfl rfl ⟨by decide, by decide⟩ (Nat.le_of_ble_eq_true rfl) ⟨by decide, by decide⟩ dX4_about_11 (fun r h9 hq => ?_)
    obtain ⟨rfl, e9⟩ := hq
    rw [e9]
    clear e9 h9
    refine z_r1 ?_
    by_cases hc : 0 ≤ z ∧ z < F 1 1
    · rw [if_pos hc, if_pos hc]
      obtain ⟨k, rfl⟩ := Int.eq_ofNat_of_zero_le hc.1
      refine z_if_eq (pc := 14) ⟨by omega, by omega⟩ 26 (by decide) dX4_about_14 (fun hq => ?_) (fun hq => ?_)
      · omega
      refine z_aload_n (pc := 17) rfl dX4_about_17 ?_
      refine z_iload_n (pc := 18) rfl dX4_about_18 ?_
      refine z_iload_n (pc := 19) rfl dX4_about_19 ?_
      refine z_V2 (pc := 20) (c_aboutKind B (k := k) (by omega) hx) lk_X4_147 iv_X4_aboutKind rfl rfl ⟨by decide, by decide⟩ (Nat.le_of_ble_eq_true rfl) ⟨by decide, by decide⟩ dX4_about_20 (fun r h9 hq => ?_)
      obtain ⟨rfl, e9⟩ := hq
      rw [e9]
      clear e9 h9
      refine z_r1 ?_
      refine z_goto (pc := 23) 27 (by decide) dX4_about_23 ?_
      exact z_reti (pc := 27) rfl (by decide) (by decide) dX4_about_27 ⟨rfl, rfl⟩
    · rw [if_neg hc, if_neg hc]
      refine z_if_eq (pc := 14) ⟨by omega, by omega⟩ 26 (by decide) dX4_about_14 (fun hq => ?_) (fun hq => ?_)
      · refine z_iconst (pc := 26) dX4_about_26 ?_
        exact z_reti (pc := 27) rfl (by decide) (by decide) dX4_about_27 ⟨rfl, rfl⟩
      omega
theorem c_count {z : Int} (hz : ir z) : zM l g yX4_count cX4_count 2 (some .int) 0 0 0 [.ref (g.2.1 + 0), .int (iz z)] (zk g F L im c) (fun r h => r = some (.int (iz (cnv F z))) ∧ h = zk g F L im c) := by
  refine zM_of 0 (by decide) rfl ?_
  show zJ l g RX4 cX4_count 2 (some .int) "count" (zRm 0 0 0) 0 0 _ 0 0 0 [some (.ref (g.2.1 + 0)), some (.int (iz z))] [] _
  unfold cnv
  refine z_iload_n (pc := 0) rfl dX4_count_0 ?_
  by_cases x0 : z = 0
  · subst x0
    rw [if_pos rfl]
    refine z_tsIn (pc := 1) (off := 27) 28 hz (by omega) (by omega) (by decide) (by decide) dX4_count_1 ?_
    refine z_aload_n (pc := 28) rfl dX4_count_28 ?_
    refine zf_X4_10 (pc := 29) rfl rfl dX4_count_29 ?_
    refine zf_X4_84 (pc := 32) rfl rfl dX4_count_32 ?_
    exact z_reti (pc := 35) rfl (by decide) (by decide) dX4_count_35 ⟨rfl, rfl⟩
  rw [if_neg x0]
  by_cases x1 : z = 1
  · subst x1
    rw [if_pos rfl]
    refine z_tsIn (pc := 1) (off := 35) 36 hz (by omega) (by omega) (by decide) (by decide) dX4_count_1 ?_
    refine z_aload_n (pc := 36) rfl dX4_count_36 ?_
    refine zf_X4_10 (pc := 37) rfl rfl dX4_count_37 ?_
    refine zf_X4_45 (pc := 40) rfl rfl dX4_count_40 ?_
    exact z_reti (pc := 43) rfl (by decide) (by decide) dX4_count_43 ⟨rfl, rfl⟩
  rw [if_neg x1]
  by_cases x2 : z = 2
  · subst x2
    rw [if_pos rfl]
    refine z_tsIn (pc := 1) (off := 43) 44 hz (by omega) (by omega) (by decide) (by decide) dX4_count_1 ?_
    refine z_aload_n (pc := 44) rfl dX4_count_44 ?_
    refine zf_X4_10 (pc := 45) rfl rfl dX4_count_45 ?_
    refine zf_X4_53 (pc := 48) rfl rfl dX4_count_48 ?_
    exact z_reti (pc := 51) rfl (by decide) (by decide) dX4_count_51 ⟨rfl, rfl⟩
  rw [if_neg x2]
  refine z_tsOut (pc := 1) 52 hz (by omega) (by decide) dX4_count_1 ?_
  refine z_iconst (pc := 52) dX4_count_52 ?_
  exact z_reti (pc := 53) rfl (by decide) (by decide) dX4_count_53 ⟨rfl, rfl⟩
end CLS
