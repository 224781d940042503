/-! ===== Book: the plan and its cost; what changes a Book ===== -/
section BOOK2
variable {l : Launch} {g : zG} {F : Nat → Nat → Int} {L : Nat → Int} {im : Nat → Option Nat} {c : Nat}
theorem ahs_bwi {F : Nat → Nat → Int} {t o a : Nat} (h1 : 1 ≤ F 4 o) (ha : (a : Int) = max 0 ((t : Int) - F 4 o + 1)) : bwi F o a (t + 1) = ahs F t o := by
  refine sm_cong (fun j hj => ?_)
  by_cases h : a ≤ j
  · rw [if_pos h, if_pos (by omega)]
  · rw [if_neg h, if_neg (by omega)]
theorem c_ahead (B : bi F 1) {k t : Nat} (hk : k < 3) (ht : t < 40) : zM l g yX1_ahead cX1_ahead 5 (some .int) 2 0 0 [.ref (g.2.1 + 1), .int (iz k), .int (iz t)] (zk g F L im c) (fun r h => r = some (.int (iz (ahd F k t))) ∧ h = zk g F L im c) := by
  refine zM_of 2 (by decide) rfl ?_
  show zJ l g RX1 cX1_ahead 5 (some .int) "ahead" (zRm 2 0 0) 0 0 _ 0 0 0 [some (.ref (g.2.1 + 1)), some (.int (iz k)), some (.int (iz t)), none, none] [] _
  have h3 := bi_offers B
  have loop : ∀ (j i : Nat), i + j = (F 1 2).toNat → zJ l g RX1 cX1_ahead 5 (some .int) "ahead" (zRm 2 0 0) 0 0 (fun r h => r = some (.int (iz (ahd F k t))) ∧ h = zk g F L im c) 0 0 5 [some (.ref (g.2.1 + 1)), some (.int (iz k)), some (.int (iz t)), some (.int (iz (sm (fun o => if F 3 o = k then ahs F t o else 0) i))), some (.int (iz i))] [] (zk g F L im c) := by
    intro j
    induction j with
    | zero =>
      intro i hi
      refine z_iload (pc := 5) rfl dX1_ahead_5 ?_
      refine z_aload_n (pc := 7) rfl dX1_ahead_7 ?_
      refine zf_X1_37 (pc := 8) rfl rfl dX1_ahead_8 ?_
      refine z_icmp_ge (pc := 11) ⟨by omega, by omega⟩ ⟨by omega, by omega⟩ 56 (by decide) dX1_ahead_11 (fun hq => ?_) (fun hq => ?_)
      · refine z_iload_n (pc := 56) rfl dX1_ahead_56 ?_
        exact z_reti (pc := 57) rfl (by decide) (by decide) dX1_ahead_57 ⟨by rw [show i = (F 1 2).toNat by omega]; rfl, rfl⟩
      omega
    | succ j ih =>
      intro i hi
      have h5 := bi_kindOf B i
      have h6 := bi_terms B i
      have h7 := bi_term1 B i (by omega)
      have e : sm (fun o => if F 3 o = k then ahs F t o else 0) (i + 1) = sm (fun o => if F 3 o = k then ahs F t o else 0) i + (if F 3 i = k then ahs F t i else 0) := rfl
      refine z_iload (pc := 5) rfl dX1_ahead_5 ?_
      refine z_aload_n (pc := 7) rfl dX1_ahead_7 ?_
      refine zf_X1_37 (pc := 8) rfl rfl dX1_ahead_8 ?_
      refine z_icmp_ge (pc := 11) ⟨by omega, by omega⟩ ⟨by omega, by omega⟩ 56 (by decide) dX1_ahead_11 (fun hq => ?_) (fun hq => ?_)
      · omega
      refine z_aload_n (pc := 14) rfl dX1_ahead_14 ?_
      refine zf_X1_19 (pc := 15) rfl rfl dX1_ahead_15 ?_
      refine z_iload (pc := 18) rfl dX1_ahead_18 ?_
      refine z_iald (pc := 20) rfl (by decide) (by omega) (by omega) dX1_ahead_20 ?_
      rw [Int.toNat_natCast]
      refine z_iload_n (pc := 21) rfl dX1_ahead_21 ?_
      refine z_icmp_ne (pc := 22) ⟨by omega, by omega⟩ ⟨by omega, by omega⟩ 50 (by decide) dX1_ahead_22 (fun hq => ?_) (fun hq => ?_)
      · rw [if_neg hq, Int.add_zero] at e
        rw [← e]
        refine z_ii4 (pc := 50) (by decide) rfl dX1_ahead_50 ?_
        refine z_goto (pc := 53) 5 (by decide) dX1_ahead_53 ?_
        exact ih (i + 1) (by omega)
      rw [if_pos hq] at e
      refine z_iload_n (pc := 25) rfl dX1_ahead_25 ?_
      refine z_aload_n (pc := 26) rfl dX1_ahead_26 ?_
      refine z_iload (pc := 27) rfl dX1_ahead_27 ?_
      refine z_iconst (pc := 29) dX1_ahead_29 ?_
      refine z_iload_n (pc := 30) rfl dX1_ahead_30 ?_
      refine z_aload_n (pc := 31) rfl dX1_ahead_31 ?_
      refine zf_X1_22 (pc := 32) rfl rfl dX1_ahead_32 ?_
      refine z_iload (pc := 35) rfl dX1_ahead_35 ?_
      refine z_iald (pc := 37) rfl (by decide) (by omega) (by omega) dX1_ahead_37 ?_
      rw [Int.toNat_natCast]
      refine z_isub (pc := 38) dX1_ahead_38 ?_
      refine z_iconst (pc := 39) dX1_ahead_39 ?_
      refine z_iadd (pc := 40) dX1_ahead_40 ?_
      refine z_mmax (pc := 41) lk_X1_68 ⟨by omega, by omega⟩ ⟨by omega, by omega⟩ ⟨by decide, by decide⟩ (Nat.le_of_ble_eq_true rfl) ⟨by decide, by decide⟩ dX1_ahead_41 ?_
      obtain ⟨a, ha⟩ := Int.eq_ofNat_of_zero_le (show 0 ≤ max 0 ((t : Int) - F 4 i + 1) by omega)
      rw [ha]
      refine z_iload_n (pc := 44) rfl dX1_ahead_44 ?_
      refine z_V3 (pc := 45) (c_boughtWithin (o := i) (a := a) (b := t + 1) (by omega) (by omega) (by omega) (by omega)) lk_X1_73 iv_X1_boughtWithin rfl rfl ⟨by decide, by decide⟩ (Nat.le_of_ble_eq_true rfl) ⟨by decide, by decide⟩ dX1_ahead_45 (fun r h9 hq => ?_)
      obtain ⟨rfl, e9⟩ := hq
      rw [e9]
      clear e9 h9
      refine z_r1 ?_
      rw [ahs_bwi h7 ha.symm]
      refine z_iadd (pc := 48) dX1_ahead_48 ?_
      rw [← e]
      refine z_is3 (pc := 49) (by decide) rfl dX1_ahead_49 ?_
      refine z_ii4 (pc := 50) (by decide) rfl dX1_ahead_50 ?_
      refine z_goto (pc := 53) 5 (by decide) dX1_ahead_53 ?_
      exact ih (i + 1) (by omega)
  refine z_iconst (pc := 0) dX1_ahead_0 ?_
  refine z_is3 (pc := 1) (by decide) rfl dX1_ahead_1 ?_
  refine z_iconst (pc := 2) dX1_ahead_2 ?_
  refine z_is4 (pc := 3) (by decide) rfl dX1_ahead_3 ?_
  exact loop (F 1 2).toNat 0 (by omega)
theorem c_notAhead (B : bi F 1) {k t : Nat} (hk : k < 3) (ht : t < 40) : zM l g yX1_notAhead cX1_notAhead 3 (some .int) 3 0 0 [.ref (g.2.1 + 1), .int (iz k), .int (iz t)] (zk g F L im c) (fun r h => r = some (.int (iz (nah F k t))) ∧ h = zk g F L im c) := by
  refine zM_of 0 (by decide) rfl ?_
  show zJ l g RX1 cX1_notAhead 3 (some .int) "notAhead" (zRm 3 0 0) 0 0 _ 0 0 0 [some (.ref (g.2.1 + 1)), some (.int (iz k)), some (.int (iz t))] [] _
  have h1 := nda_bd B k t
  have h2 := ahd_bd B ht k
  refine z_iconst (pc := 0) dX1_notAhead_0 ?_
  refine z_aload_n (pc := 1) rfl dX1_notAhead_1 ?_
  refine z_iload_n (pc := 2) rfl dX1_notAhead_2 ?_
  refine z_iload_n (pc := 3) rfl dX1_notAhead_3 ?_
  refine z_V2 (pc := 4) (c_needOfAll hk ht) lk_X1_64 iv_X1_needOfAll rfl rfl ⟨by decide, by decide⟩ (Nat.le_of_ble_eq_true rfl) ⟨by decide, by decide⟩ dX1_notAhead_4 (fun r h9 hq => ?_)
  obtain ⟨rfl, e9⟩ := hq
  rw [e9]
  clear e9 h9
  refine z_r1 ?_
  refine z_aload_n (pc := 7) rfl dX1_notAhead_7 ?_
  refine z_iload_n (pc := 8) rfl dX1_notAhead_8 ?_
  refine z_iload_n (pc := 9) rfl dX1_notAhead_9 ?_
  refine z_V2 (pc := 10) (c_ahead B hk ht) lk_X1_76 iv_X1_ahead rfl rfl ⟨by decide, by decide⟩ (Nat.le_of_ble_eq_true rfl) ⟨by decide, by decide⟩ dX1_notAhead_10 (fun r h9 hq => ?_)
  obtain ⟨rfl, e9⟩ := hq
  rw [e9]
  clear e9 h9
  refine z_r1 ?_
  refine z_isub (pc := 13) dX1_notAhead_13 ?_
  refine z_mmax (pc := 14) lk_X1_68 ⟨by omega, by omega⟩ ⟨by omega, by omega⟩ ⟨by decide, by decide⟩ (Nat.le_of_ble_eq_true rfl) ⟨by decide, by decide⟩ dX1_notAhead_14 ?_
  exact z_reti (pc := 17) rfl (by decide) (by decide) dX1_notAhead_17 ⟨rfl, rfl⟩
theorem c_offersCost (B : bi F 1) {k : Nat} (hk : k < 3) : zM l g yX1_offersCost cX1_offersCost 5 (some .long) 3 0 0 [.ref (g.2.1 + 1), .int (iz k)] (zk g F L im c) (fun r h => r = some (.long (lz (ofc F k))) ∧ h = zk g F L im c) := by
  refine zM_of 3 (by decide) rfl ?_
  show zJ l g RX1 cX1_offersCost 5 (some .long) "offersCost" (zRm 3 0 0) 0 0 _ 0 0 0 [some (.ref (g.2.1 + 1)), some (.int (iz k)), none, none, none] [] _
  have h1 := bi_hours B
  have h3 := bi_offers B
  have loop : ∀ (j i : Nat), i + j = (F 1 2).toNat → zJ l g RX1 cX1_offersCost 5 (some .long) "offersCost" (zRm 3 0 0) 0 0 (fun r h => r = some (.long (lz (ofc F k))) ∧ h = zk g F L im c) 0 0 5 [some (.ref (g.2.1 + 1)), some (.int (iz k)), some (.long (lz (sm (fun o => if F 3 o = k then sm (bt F o) (F 1 0).toNat * F 5 o else 0) i))), none, some (.int (iz i))] [] (zk g F L im c) := by
    intro j
    induction j with
    | zero =>
      intro i hi
      refine z_iload (pc := 5) rfl dX1_offersCost_5 ?_
      refine z_aload_n (pc := 7) rfl dX1_offersCost_7 ?_
      refine zf_X1_37 (pc := 8) rfl rfl dX1_offersCost_8 ?_
      refine z_icmp_ge (pc := 11) ⟨by omega, by omega⟩ ⟨by omega, by omega⟩ 50 (by decide) dX1_offersCost_11 (fun hq => ?_) (fun hq => ?_)
      · refine z_lload_n (pc := 50) rfl dX1_offersCost_50 ?_
        exact z_retl (pc := 51) rfl (by decide) (by decide) dX1_offersCost_51 ⟨by rw [show i = (F 1 2).toNat by omega]; rfl, rfl⟩
      omega
    | succ j ih =>
      intro i hi
      have h5 := bi_kindOf B i
      have h6 := bts_bd B i
      have h7 := bi_costs B i
      have e : sm (fun o => if F 3 o = k then sm (bt F o) (F 1 0).toNat * F 5 o else 0) (i + 1) = sm (fun o => if F 3 o = k then sm (bt F o) (F 1 0).toNat * F 5 o else 0) i + (if F 3 i = k then sm (bt F i) (F 1 0).toNat * F 5 i else 0) := rfl
      refine z_iload (pc := 5) rfl dX1_offersCost_5 ?_
      refine z_aload_n (pc := 7) rfl dX1_offersCost_7 ?_
      refine zf_X1_37 (pc := 8) rfl rfl dX1_offersCost_8 ?_
      refine z_icmp_ge (pc := 11) ⟨by omega, by omega⟩ ⟨by omega, by omega⟩ 50 (by decide) dX1_offersCost_11 (fun hq => ?_) (fun hq => ?_)
      · omega
      refine z_aload_n (pc := 14) rfl dX1_offersCost_14 ?_
      refine zf_X1_19 (pc := 15) rfl rfl dX1_offersCost_15 ?_
      refine z_iload (pc := 18) rfl dX1_offersCost_18 ?_
      refine z_iald (pc := 20) rfl (by decide) (by omega) (by omega) dX1_offersCost_20 ?_
      rw [Int.toNat_natCast]
      refine z_iload_n (pc := 21) rfl dX1_offersCost_21 ?_
      refine z_icmp_ne (pc := 22) ⟨by omega, by omega⟩ ⟨by omega, by omega⟩ 44 (by decide) dX1_offersCost_22 (fun hq => ?_) (fun hq => ?_)
      · rw [if_neg hq, Int.add_zero] at e
        rw [← e]
        refine z_ii4 (pc := 44) (by decide) rfl dX1_offersCost_44 ?_
        refine z_goto (pc := 47) 5 (by decide) dX1_offersCost_47 ?_
        exact ih (i + 1) (by omega)
      rw [if_pos hq] at e
      refine z_lload_n (pc := 25) rfl dX1_offersCost_25 ?_
      refine z_aload_n (pc := 26) rfl dX1_offersCost_26 ?_
      refine z_iload (pc := 27) rfl dX1_offersCost_27 ?_
      refine z_V1 (pc := 29) (c_boughtInAll B (o := i) (by omega)) lk_X1_79 iv_X1_boughtInAll rfl rfl ⟨by decide, by decide⟩ (Nat.le_of_ble_eq_true rfl) ⟨by decide, by decide⟩ dX1_offersCost_29 (fun r h9 hq => ?_)
      obtain ⟨rfl, e9⟩ := hq
      rw [e9]
      clear e9 h9
      refine z_r1 ?_
      refine z_i2l (pc := 32) ⟨by omega, by omega⟩ dX1_offersCost_32 ?_
      refine z_aload_n (pc := 33) rfl dX1_offersCost_33 ?_
      refine zf_X1_25 (pc := 34) rfl rfl dX1_offersCost_34 ?_
      refine z_iload (pc := 37) rfl dX1_offersCost_37 ?_
      refine z_iald (pc := 39) rfl (by decide) (by omega) (by omega) dX1_offersCost_39 ?_
      rw [Int.toNat_natCast]
      refine z_i2l (pc := 40) ⟨by omega, by omega⟩ dX1_offersCost_40 ?_
      refine z_lmul (pc := 41) dX1_offersCost_41 ?_
      refine z_ladd (pc := 42) dX1_offersCost_42 ?_
      rw [← e]
      refine z_ls2 (pc := 43) (by decide) rfl dX1_offersCost_43 ?_
      refine z_ii4 (pc := 44) (by decide) rfl dX1_offersCost_44 ?_
      refine z_goto (pc := 47) 5 (by decide) dX1_offersCost_47 ?_
      exact ih (i + 1) (by omega)
  refine z_lconst (pc := 0) (v := 0) (by decide) dX1_offersCost_0 ?_
  refine z_ls2 (pc := 1) (by decide) rfl dX1_offersCost_1 ?_
  refine z_iconst (pc := 2) dX1_offersCost_2 ?_
  refine z_is4 (pc := 3) (by decide) rfl dX1_offersCost_3 ?_
  exact loop (F 1 2).toNat 0 (by omega)
theorem c_planCost (B : bi F 1) {k : Nat} (hk : k < 3) : zM l g yX1_planCost cX1_planCost 5 (some .long) 4 0 0 [.ref (g.2.1 + 1), .int (iz k)] (zk g F L im c) (fun r h => r = some (.long (lz (plc F k))) ∧ h = zk g F L im c) := by
  refine zM_of 3 (by decide) rfl ?_
  show zJ l g RX1 cX1_planCost 5 (some .long) "planCost" (zRm 4 0 0) 0 0 _ 0 0 0 [some (.ref (g.2.1 + 1)), some (.int (iz k)), none, none, none] [] _
  have h1 := bi_hours B
  have h2 := bi_rates B k
  have loop : ∀ (j i : Nat), i + j = (F 1 0).toNat → zJ l g RX1 cX1_planCost 5 (some .long) "planCost" (zRm 4 0 0) 0 0 (fun r h => r = some (.long (lz (plc F k))) ∧ h = zk g F L im c) 0 0 9 [some (.ref (g.2.1 + 1)), some (.int (iz k)), some (.long (lz (ofc F k + sm (fun t => nah F k t * F 2 k) i))), none, some (.int (iz i))] [] (zk g F L im c) := by
    intro j
    induction j with
    | zero =>
      intro i hi
      refine z_iload (pc := 9) rfl dX1_planCost_9 ?_
      refine z_aload_n (pc := 11) rfl dX1_planCost_11 ?_
      refine zf_X1_9 (pc := 12) rfl rfl dX1_planCost_12 ?_
      refine z_icmp_ge (pc := 15) ⟨by omega, by omega⟩ ⟨by omega, by omega⟩ 43 (by decide) dX1_planCost_15 (fun hq => ?_) (fun hq => ?_)
      · refine z_lload_n (pc := 43) rfl dX1_planCost_43 ?_
        exact z_retl (pc := 44) rfl (by decide) (by decide) dX1_planCost_44 ⟨by rw [show i = (F 1 0).toNat by omega]; rfl, rfl⟩
      omega
    | succ j ih =>
      intro i hi
      have h5 := nah_bd B (t := i) (by omega) k
      have e : ofc F k + sm (fun t => nah F k t * F 2 k) (i + 1) = ofc F k + sm (fun t => nah F k t * F 2 k) i + nah F k i * F 2 k := (Int.add_assoc _ _ _).symm
      refine z_iload (pc := 9) rfl dX1_planCost_9 ?_
      refine z_aload_n (pc := 11) rfl dX1_planCost_11 ?_
      refine zf_X1_9 (pc := 12) rfl rfl dX1_planCost_12 ?_
      refine z_icmp_ge (pc := 15) ⟨by omega, by omega⟩ ⟨by omega, by omega⟩ 43 (by decide) dX1_planCost_15 (fun hq => ?_) (fun hq => ?_)
      · omega
      refine z_lload_n (pc := 18) rfl dX1_planCost_18 ?_
      refine z_aload_n (pc := 19) rfl dX1_planCost_19 ?_
      refine z_iload_n (pc := 20) rfl dX1_planCost_20 ?_
      refine z_iload (pc := 21) rfl dX1_planCost_21 ?_
      refine z_V2 (pc := 23) (c_notAhead B (t := i) hk (by omega)) lk_X1_87 iv_X1_notAhead rfl rfl ⟨by decide, by decide⟩ (Nat.le_of_ble_eq_true rfl) ⟨by decide, by decide⟩ dX1_planCost_23 (fun r h9 hq => ?_)
      obtain ⟨rfl, e9⟩ := hq
      rw [e9]
      clear e9 h9
      refine z_r1 ?_
      refine z_i2l (pc := 26) ⟨by omega, by omega⟩ dX1_planCost_26 ?_
      refine z_aload_n (pc := 27) rfl dX1_planCost_27 ?_
      refine zf_X1_15 (pc := 28) rfl rfl dX1_planCost_28 ?_
      refine z_iload_n (pc := 31) rfl dX1_planCost_31 ?_
      refine z_iald (pc := 32) rfl (by decide) (by omega) (by omega) dX1_planCost_32 ?_
      rw [Int.toNat_natCast]
      refine z_i2l (pc := 33) ⟨by omega, by omega⟩ dX1_planCost_33 ?_
      refine z_lmul (pc := 34) dX1_planCost_34 ?_
      refine z_ladd (pc := 35) dX1_planCost_35 ?_
      rw [← e]
      refine z_ls2 (pc := 36) (by decide) rfl dX1_planCost_36 ?_
      refine z_ii4 (pc := 37) (by decide) rfl dX1_planCost_37 ?_
      refine z_goto (pc := 40) 9 (by decide) dX1_planCost_40 ?_
      exact ih (i + 1) (by omega)
  refine z_aload_n (pc := 0) rfl dX1_planCost_0 ?_
  refine z_iload_n (pc := 1) rfl dX1_planCost_1 ?_
  refine z_V1 (pc := 2) (c_offersCost B hk) lk_X1_83 iv_X1_offersCost rfl rfl ⟨by decide, by decide⟩ (Nat.le_of_ble_eq_true rfl) ⟨by decide, by decide⟩ dX1_planCost_2 (fun r h9 hq => ?_)
  obtain ⟨rfl, e9⟩ := hq
  rw [e9]
  clear e9 h9
  refine z_r1 ?_
  rw [show ofc F k = ofc F k + sm (fun t => nah F k t * F 2 k) 0 from (Int.add_zero _).symm]
  refine z_ls2 (pc := 5) (by decide) rfl dX1_planCost_5 ?_
  refine z_iconst (pc := 6) dX1_planCost_6 ?_
  refine z_is4 (pc := 7) (by decide) rfl dX1_planCost_7 ?_
  exact loop (F 1 0).toNat 0 (by omega)
theorem c_setNeed {o k t : Nat} {v : Int} (ho : o < 4) (hk : k < 3) (ht : t < 40) : zM l g yX1_setNeed cX1_setNeed 5 none 0 0 0 [.ref (g.2.1 + 1), .int (iz o), .int (iz k), .int (iz t), .int (iz v)] (zk g F L im c) (fun r h => r = none ∧ h = zk g (va_up F 6 (vf_upd (F 6) ((k * 4 + o) * 40 + t) v)) L im c) := by
  refine zM_of 0 (by decide) rfl ?_
  show zJ l g RX1 cX1_setNeed 5 none "setNeed" (zRm 0 0 0) 0 0 _ 0 0 0 [some (.ref (g.2.1 + 1)), some (.int (iz o)), some (.int (iz k)), some (.int (iz t)), some (.int (iz v))] [] _
  refine z_aload_n (pc := 0) rfl dX1_setNeed_0 ?_
  refine zf_X1_28 (pc := 1) rfl rfl dX1_setNeed_1 ?_
  refine z_iload_n (pc := 4) rfl dX1_setNeed_4 ?_
  refine z_iconst (pc := 5) dX1_setNeed_5 ?_
  refine z_imul (pc := 6) dX1_setNeed_6 ?_
  refine z_iload_n (pc := 7) rfl dX1_setNeed_7 ?_
  refine z_iadd (pc := 8) dX1_setNeed_8 ?_
  refine z_bipush (pc := 9) (by decide) dX1_setNeed_9 ?_
  refine z_imul (pc := 11) dX1_setNeed_11 ?_
  refine z_iload_n (pc := 12) rfl dX1_setNeed_12 ?_
  refine z_iadd (pc := 13) dX1_setNeed_13 ?_
  refine z_iload (pc := 14) rfl dX1_setNeed_14 ?_
  refine z_iast (pc := 16) rfl (by decide) (by omega) (by omega) dX1_setNeed_16 ?_
  refine z_hp zs_6 ?_
  exact z_retv (pc := 17) rfl (by decide) (by decide) dX1_setNeed_17 ⟨rfl, by rw [show (((k : Int) * 4 + o) * 40 + t).toNat = (k * 4 + o) * 40 + t by omega]⟩
theorem c_setBought {o t : Nat} {v : Int} (ho : o < 6) (ht : t < 40) : zM l g yX1_setBought cX1_setBought 4 none 0 0 0 [.ref (g.2.1 + 1), .int (iz o), .int (iz t), .int (iz v)] (zk g F L im c) (fun r h => r = none ∧ h = zk g (va_up F 7 (vf_upd (F 7) (o * 40 + t) v)) L im c) := by
  refine zM_of 0 (by decide) rfl ?_
  show zJ l g RX1 cX1_setBought 4 none "setBought" (zRm 0 0 0) 0 0 _ 0 0 0 [some (.ref (g.2.1 + 1)), some (.int (iz o)), some (.int (iz t)), some (.int (iz v))] [] _
  refine z_aload_n (pc := 0) rfl dX1_setBought_0 ?_
  refine zf_X1_31 (pc := 1) rfl rfl dX1_setBought_1 ?_
  refine z_iload_n (pc := 4) rfl dX1_setBought_4 ?_
  refine z_bipush (pc := 5) (by decide) dX1_setBought_5 ?_
  refine z_imul (pc := 7) dX1_setBought_7 ?_
  refine z_iload_n (pc := 8) rfl dX1_setBought_8 ?_
  refine z_iadd (pc := 9) dX1_setBought_9 ?_
  refine z_iload_n (pc := 10) rfl dX1_setBought_10 ?_
  refine z_iast (pc := 11) rfl (by decide) (by omega) (by omega) dX1_setBought_11 ?_
  refine z_hp zs_7 ?_
  exact z_retv (pc := 12) rfl (by decide) (by decide) dX1_setBought_12 ⟨rfl, by rw [show ((o : Int) * 40 + t).toNat = o * 40 + t by omega]⟩
theorem c_addKind (B : bi F 1) (h3 : F 1 1 < 3) {v : Int} : zM l g yX1_addKind cX1_addKind 2 (some .int) 0 0 0 [.ref (g.2.1 + 1), .int (iz v)] (zk g F L im c) (fun r h => r = some (.int (iz (F 1 1))) ∧ h = zk g (va_up (va_up F 2 (vf_upd (F 2) (F 1 1).toNat v)) 1 (vf_upd (F 1) 1 (F 1 1 + 1))) L im c) := by
  refine zM_of 0 (by decide) rfl ?_
  show zJ l g RX1 cX1_addKind 2 (some .int) "addKind" (zRm 0 0 0) 0 0 _ 0 0 0 [some (.ref (g.2.1 + 1)), some (.int (iz v))] [] _
  have h2 := bi_kinds B
  refine z_aload_n (pc := 0) rfl dX1_addKind_0 ?_
  refine zf_X1_15 (pc := 1) rfl rfl dX1_addKind_1 ?_
  refine z_aload_n (pc := 4) rfl dX1_addKind_4 ?_
  refine zf_X1_34 (pc := 5) rfl rfl dX1_addKind_5 ?_
  refine z_iload_n (pc := 8) rfl dX1_addKind_8 ?_
  refine z_iast (pc := 9) rfl (by decide) (by omega) (by omega) dX1_addKind_9 ?_
  refine z_hp zs_2 ?_
  refine z_aload_n (pc := 10) rfl dX1_addKind_10 ?_
  refine z_dup (pc := 11) rfl dX1_addKind_11 ?_
  refine zf_X1_34 (pc := 12) rfl rfl dX1_addKind_12 ?_
  refine z_iconst (pc := 15) dX1_addKind_15 ?_
  refine z_iadd (pc := 16) dX1_addKind_16 ?_
  refine zp_X1_34 (pc := 17) rfl (Nat.le_of_ble_eq_true rfl) dX1_addKind_17 ?_
  refine z_hp zs_1_1 ?_
  refine z_aload_n (pc := 20) rfl dX1_addKind_20 ?_
  refine zf_X1_34 (pc := 21) rfl rfl dX1_addKind_21 ?_
  refine z_iconst (pc := 24) dX1_addKind_24 ?_
  refine z_isub (pc := 25) dX1_addKind_25 ?_
  refine z_top (show _ = iz (F 1 1) from congrArg iz (show F 1 1 + 1 - 1 = F 1 1 by omega)) ?_
  exact z_reti (pc := 26) rfl (by decide) (by decide) dX1_addKind_26 ⟨rfl, rfl⟩
theorem c_addOffer (B : bi F 1) (h3 : F 1 2 < 6) {u v x : Int} : zM l g yX1_addOffer cX1_addOffer 4 (some .int) 0 0 0 [.ref (g.2.1 + 1), .int (iz u), .int (iz v), .int (iz x)] (zk g F L im c) (fun r h => r = some (.int (iz (F 1 2))) ∧ h = zk g (va_up (va_up (va_up (va_up F 3 (vf_upd (F 3) (F 1 2).toNat u)) 4 (vf_upd (F 4) (F 1 2).toNat v)) 5 (vf_upd (F 5) (F 1 2).toNat x)) 1 (vf_upd (F 1) 2 (F 1 2 + 1))) L im c) := by
  refine zM_of 0 (by decide) rfl ?_
  show zJ l g RX1 cX1_addOffer 4 (some .int) "addOffer" (zRm 0 0 0) 0 0 _ 0 0 0 [some (.ref (g.2.1 + 1)), some (.int (iz u)), some (.int (iz v)), some (.int (iz x))] [] _
  have h2 := bi_offers B
  have e1 : ∀ (f : Nat → Int), va_up F 3 f 1 2 = F 1 2 := fun _ => rfl
  refine z_aload_n (pc := 0) rfl dX1_addOffer_0 ?_
  refine zf_X1_19 (pc := 1) rfl rfl dX1_addOffer_1 ?_
  refine z_aload_n (pc := 4) rfl dX1_addOffer_4 ?_
  refine zf_X1_37 (pc := 5) rfl rfl dX1_addOffer_5 ?_
  refine z_iload_n (pc := 8) rfl dX1_addOffer_8 ?_
  refine z_iast (pc := 9) rfl (by decide) (by omega) (by omega) dX1_addOffer_9 ?_
  refine z_hp zs_3 ?_
  refine z_aload_n (pc := 10) rfl dX1_addOffer_10 ?_
  refine zf_X1_22 (pc := 11) rfl rfl dX1_addOffer_11 ?_
  refine z_aload_n (pc := 14) rfl dX1_addOffer_14 ?_
  refine zf_X1_37 (pc := 15) rfl rfl dX1_addOffer_15 ?_
  refine z_iload_n (pc := 18) rfl dX1_addOffer_18 ?_
  refine z_iast (pc := 19) rfl (by decide) (show 0 ≤ F 1 2 by omega) (show F 1 2 < 6 from h3) dX1_addOffer_19 ?_
  refine z_hp zs_4 ?_
  refine z_aload_n (pc := 20) rfl dX1_addOffer_20 ?_
  refine zf_X1_25 (pc := 21) rfl rfl dX1_addOffer_21 ?_
  refine z_aload_n (pc := 24) rfl dX1_addOffer_24 ?_
  refine zf_X1_37 (pc := 25) rfl rfl dX1_addOffer_25 ?_
  refine z_iload_n (pc := 28) rfl dX1_addOffer_28 ?_
  refine z_iast (pc := 29) rfl (by decide) (show 0 ≤ F 1 2 by omega) (show F 1 2 < 6 from h3) dX1_addOffer_29 ?_
  refine z_hp zs_5 ?_
  refine z_aload_n (pc := 30) rfl dX1_addOffer_30 ?_
  refine z_dup (pc := 31) rfl dX1_addOffer_31 ?_
  refine zf_X1_37 (pc := 32) rfl rfl dX1_addOffer_32 ?_
  refine z_iconst (pc := 35) dX1_addOffer_35 ?_
  refine z_iadd (pc := 36) dX1_addOffer_36 ?_
  refine zp_X1_37 (pc := 37) rfl (Nat.le_of_ble_eq_true rfl) dX1_addOffer_37 ?_
  refine z_hp zs_1_2 ?_
  refine z_aload_n (pc := 40) rfl dX1_addOffer_40 ?_
  refine zf_X1_37 (pc := 41) rfl rfl dX1_addOffer_41 ?_
  refine z_iconst (pc := 44) dX1_addOffer_44 ?_
  refine z_isub (pc := 45) dX1_addOffer_45 ?_
  refine z_top (show _ = iz (F 1 2) from congrArg iz (show F 1 2 + 1 - 1 = F 1 2 by omega)) ?_
  exact z_reti (pc := 46) rfl (by decide) (by decide) dX1_addOffer_46 ⟨rfl, rfl⟩
/-- from hour t on nothing, in every row of forty -/
def cut0 (f : Nat → Int) (t n : Nat) : Nat → Int := fun j => if j < n ∧ t ≤ j % 40 then 0 else f j
theorem cut0_0 (f : Nat → Int) (t : Nat) : cut0 f t 0 = f := by funext j; unfold cut0; rw [if_neg (by omega)]
theorem cut0_s (f : Nat → Int) {t r : Nat} (h : t ≤ 40) : fl (cut0 f t (40 * r)) (40 * r + t) (40 * r + 40) 0 = cut0 f t (40 * (r + 1)) := by
  funext j
  unfold fl cut0
  by_cases h1 : 40 * r + t ≤ j ∧ j < 40 * r + 40
  · rw [if_pos h1, if_pos (by omega)]
  · rw [if_neg h1]
    by_cases h2 : j < 40 * r ∧ t ≤ j % 40
    · rw [if_pos h2, if_pos (by omega)]
    · rw [if_neg h2, if_neg (by omega)]
theorem c_forgetFrom {h : List va_E} {q N t : Nat} {f : Nat → Int} (he : h[q]? = some (zA g (40 * N) f)) (hN : N ≤ 100) (ht : t ≤ 40) : zM l g yX1_forgetFrom cX1_forgetFrom 3 none 2 0 0 [.ref (g.2.1 + q), .int (iz t)] (h) (fun r h2 => r = none ∧ h2 = h.set q (zA g (40 * N) (cut0 f t (40 * N)))) := by
  refine zM_of 1 (by decide) rfl ?_
  show zJ l g RX1 cX1_forgetFrom 3 none "forgetFrom" (zRm 2 0 0) 0 0 _ 0 0 0 [some (.ref (g.2.1 + q)), some (.int (iz t)), none] [] _
  have loop : ∀ (j x : Nat) (z : Int), z = 40 * x → x + j = N → zJ l g RX1 cX1_forgetFrom 3 none "forgetFrom" (zRm 2 0 0) 0 0 (fun r h2 => r = none ∧ h2 = h.set q (zA g (40 * N) (cut0 f t (40 * N)))) 0 0 2 [some (.ref (g.2.1 + q)), some (.int (iz t)), some (.int (iz z))] [] (h.set q (zA g (40 * N) (cut0 f t (40 * x)))) := by
    intro j
    induction j with
    | zero =>
      intro x z hz hx
      refine z_iload_n (pc := 2) rfl dX1_forgetFrom_2 ?_
      refine z_aload_n (pc := 3) rfl dX1_forgetFrom_3 ?_
      refine z_alen (pc := 4) (set_at he) dX1_forgetFrom_4 ?_
      refine z_icmp_ge (pc := 5) ⟨by omega, by omega⟩ ⟨by omega, by omega⟩ 26 (by decide) dX1_forgetFrom_5 (fun hq => ?_) (fun hq => ?_)
      · rw [show x = N by omega]
        exact z_retv (pc := 26) rfl (by decide) (by decide) dX1_forgetFrom_26 ⟨rfl, rfl⟩
      omega
    | succ j ih =>
      intro x z hz hx
      refine z_iload_n (pc := 2) rfl dX1_forgetFrom_2 ?_
      refine z_aload_n (pc := 3) rfl dX1_forgetFrom_3 ?_
      refine z_alen (pc := 4) (set_at he) dX1_forgetFrom_4 ?_
      refine z_icmp_ge (pc := 5) ⟨by omega, by omega⟩ ⟨by omega, by omega⟩ 26 (by decide) dX1_forgetFrom_5 (fun hq => ?_) (fun hq => ?_)
      · omega
      refine z_aload_n (pc := 8) rfl dX1_forgetFrom_8 ?_
      refine z_iload_n (pc := 9) rfl dX1_forgetFrom_9 ?_
      refine z_iload_n (pc := 10) rfl dX1_forgetFrom_10 ?_
      refine z_iadd (pc := 11) dX1_forgetFrom_11 ?_
      rw [show z + (t : Int) = ((40 * x + t : Nat) : Int) by omega]
      refine z_iload_n (pc := 12) rfl dX1_forgetFrom_12 ?_
      refine z_bipush (pc := 13) (by decide) dX1_forgetFrom_13 ?_
      refine z_iadd (pc := 15) dX1_forgetFrom_15 ?_
      rw [show z + 40 = ((40 * x + 40 : Nat) : Int) by omega]
      refine z_iconst (pc := 16) dX1_forgetFrom_16 ?_
      refine z_S4 (pc := 17) (c_fill4 (q := q) (n := 40 * N) (a := 40 * x + t) (b := 40 * x + 40) (set_at he) (by omega) (by omega) (by omega)) lk_X1_54 st_J7_fill_fda19 ⟨by decide, by decide⟩ (Nat.le_of_ble_eq_true rfl) ⟨by decide, by decide⟩ dX1_forgetFrom_17 (fun r h9 hq => ?_)
      obtain ⟨rfl, e9⟩ := hq
      rw [e9, List.set_set, cut0_s f ht]
      clear e9 h9
      refine z_r0 ?_
      refine z_ii2 (pc := 20) (by decide) rfl dX1_forgetFrom_20 ?_
      refine z_goto (pc := 23) 2 (by decide) dX1_forgetFrom_23 ?_
      exact ih (x + 1) _ (by omega) (by omega)
  refine z_iconst (pc := 0) dX1_forgetFrom_0 ?_
  refine z_is2 (pc := 1) (by decide) rfl dX1_forgetFrom_1 ?_
  refine z_hp (show h = h.set q (zA g (40 * N) (cut0 f t (40 * 0))) by rw [Nat.mul_zero, cut0_0, set_id he]) ?_
  exact loop N 0 0 (by omega) (by omega)
theorem c_setHours {t : Nat} (ht : t ≤ 40) : zM l g yX1_setHours cX1_setHours 2 none 3 0 0 [.ref (g.2.1 + 1), .int (iz t)] (zk g F L im c) (fun r h => r = none ∧ h = zk g (va_up (va_up (va_up F 6 (cut0 (F 6) t 480)) 7 (cut0 (F 7) t 240)) 1 (vf_upd (F 1) 0 t)) L im c) := by
  refine zM_of 0 (by decide) rfl ?_
  show zJ l g RX1 cX1_setHours 2 none "setHours" (zRm 3 0 0) 0 0 _ 0 0 0 [some (.ref (g.2.1 + 1)), some (.int (iz t))] [] _
  refine z_aload_n (pc := 0) rfl dX1_setHours_0 ?_
  refine zf_X1_28 (pc := 1) rfl rfl dX1_setHours_1 ?_
  refine z_iload_n (pc := 4) rfl dX1_setHours_4 ?_
  refine z_S2 (pc := 5) (c_forgetFrom (q := 6) (N := 12) (f := F 6) rfl (by omega) ht) lk_X1_50 st_X1_forgetFrom ⟨by decide, by decide⟩ (Nat.le_of_ble_eq_true rfl) ⟨by decide, by decide⟩ dX1_setHours_5 (fun r h9 hq => ?_)
  obtain ⟨rfl, e9⟩ := hq
  rw [e9]
  clear e9 h9
  refine z_r0 ?_
  refine z_hp zs_6 ?_
  refine z_aload_n (pc := 8) rfl dX1_setHours_8 ?_
  refine zf_X1_31 (pc := 9) rfl rfl dX1_setHours_9 ?_
  refine z_iload_n (pc := 12) rfl dX1_setHours_12 ?_
  refine z_S2 (pc := 13) (c_forgetFrom (q := 7) (N := 6) (f := F 7) rfl (by omega) ht) lk_X1_50 st_X1_forgetFrom ⟨by decide, by decide⟩ (Nat.le_of_ble_eq_true rfl) ⟨by decide, by decide⟩ dX1_setHours_13 (fun r h9 hq => ?_)
  obtain ⟨rfl, e9⟩ := hq
  rw [e9]
  clear e9 h9
  refine z_r0 ?_
  refine z_hp zs_7 ?_
  refine z_aload_n (pc := 16) rfl dX1_setHours_16 ?_
  refine z_iload_n (pc := 17) rfl dX1_setHours_17 ?_
  refine zp_X1_9 (pc := 18) rfl (Nat.le_of_ble_eq_true rfl) dX1_setHours_18 ?_
  refine z_hp zs_1_0 ?_
  exact z_retv (pc := 21) rfl (by decide) (by decide) dX1_setHours_21 ⟨rfl, rfl⟩
/-- nothing is bought of the offers of kind k, of the first n offers -/
def noby (F : Nat → Nat → Int) (k n : Nat) : Nat → Int := fun j => if j / 40 < n ∧ F 3 (j / 40) = k then 0 else F 7 j
theorem noby_0 (F : Nat → Nat → Int) (k : Nat) : noby F k 0 = F 7 := by funext j; unfold noby; rw [if_neg (by omega)]
theorem noby_y (F : Nat → Nat → Int) {k n : Nat} (h : F 3 n = k) : fl (noby F k n) (n * 40) (n * 40 + 40) 0 = noby F k (n + 1) := by
  funext j
  unfold fl noby
  by_cases h1 : n * 40 ≤ j ∧ j < n * 40 + 40
  · rw [if_pos h1, if_pos ⟨by omega, by rw [show j / 40 = n by omega]; exact h⟩]
  · rw [if_neg h1]
    by_cases h2 : j / 40 < n ∧ F 3 (j / 40) = k
    · rw [if_pos h2, if_pos ⟨by omega, h2.2⟩]
    · rw [if_neg h2, if_neg (fun h3 => h2 ⟨by omega, h3.2⟩)]
theorem noby_n (F : Nat → Nat → Int) {k n : Nat} (h : ¬ F 3 n = k) : noby F k n = noby F k (n + 1) := by
  funext j
  unfold noby
  by_cases h2 : j / 40 < n ∧ F 3 (j / 40) = k
  · rw [if_pos h2, if_pos ⟨by omega, h2.2⟩]
  · rw [if_neg h2, if_neg (fun h3 => h2 ⟨by
      by_cases h4 : j / 40 = n
      · exact absurd (by rw [← h4]; exact h3.2) h
      · omega, h3.2⟩)]
theorem c_buyNothing (B : bi F 1) {k : Nat} (hk : k < 3) : zM l g yX1_buyNothing cX1_buyNothing 4 none 2 0 0 [.ref (g.2.1 + 1), .int (iz k)] (zk g F L im c) (fun r h => r = none ∧ h = zk g (va_up F 7 (noby F k (F 1 2).toNat)) L im c) := by
  refine zM_of 2 (by decide) rfl ?_
  show zJ l g RX1 cX1_buyNothing 4 none "buyNothing" (zRm 2 0 0) 0 0 _ 0 0 0 [some (.ref (g.2.1 + 1)), some (.int (iz k)), none, none] [] _
  have h3 := bi_offers B
  have loop : ∀ (j x : Nat) (y : Option Value), zk1 [some (.ref (g.2.1 + 1)), some (.int (iz k)), some (.int (iz x)), y] 3 = true → x + j = (F 1 2).toNat → zJ l g RX1 cX1_buyNothing 4 none "buyNothing" (zRm 2 0 0) 0 0 (fun r h => r = none ∧ h = zk g (va_up F 7 (noby F k (F 1 2).toNat)) L im c) 0 0 2 [some (.ref (g.2.1 + 1)), some (.int (iz k)), some (.int (iz x)), y] [] (zk g (va_up F 7 (noby F k x)) L im c) := by
    intro j
    induction j with
    | zero =>
      intro x y hy hx
      refine z_iload_n (pc := 2) rfl dX1_buyNothing_2 ?_
      refine z_aload_n (pc := 3) rfl dX1_buyNothing_3 ?_
      refine zf_X1_37 (pc := 4) rfl rfl dX1_buyNothing_4 ?_
      refine z_icmp_ge (pc := 7) ⟨by omega, by omega⟩ (show ir (F 1 2) from ⟨by omega, by omega⟩) 44 (by decide) dX1_buyNothing_7 (fun hq => ?_) (fun hq => ?_)
      · exact z_retv (pc := 44) rfl (by decide) (by decide) dX1_buyNothing_44 ⟨rfl, by rw [show x = (F 1 2).toNat by omega]⟩
      have hq2 : (x : Int) < F 1 2 := hq
      omega
    | succ j ih =>
      intro x y hy hx
      have h5 := bi_kindOf B x
      refine z_iload_n (pc := 2) rfl dX1_buyNothing_2 ?_
      refine z_aload_n (pc := 3) rfl dX1_buyNothing_3 ?_
      refine zf_X1_37 (pc := 4) rfl rfl dX1_buyNothing_4 ?_
      refine z_icmp_ge (pc := 7) ⟨by omega, by omega⟩ (show ir (F 1 2) from ⟨by omega, by omega⟩) 44 (by decide) dX1_buyNothing_7 (fun hq => ?_) (fun hq => ?_)
      · have hq2 : F 1 2 ≤ (x : Int) := hq
        omega
      refine z_aload_n (pc := 10) rfl dX1_buyNothing_10 ?_
      refine zf_X1_19 (pc := 11) rfl rfl dX1_buyNothing_11 ?_
      refine z_iload_n (pc := 14) rfl dX1_buyNothing_14 ?_
      refine z_iald (pc := 15) rfl (by decide) (by omega) (by omega) dX1_buyNothing_15 ?_
      rw [Int.toNat_natCast]
      refine z_iload_n (pc := 16) rfl dX1_buyNothing_16 ?_
      refine z_icmp_ne (pc := 17) (show ir (F 3 x) from ⟨by omega, by omega⟩) ⟨by omega, by omega⟩ 38 (by decide) dX1_buyNothing_17 (fun hq => ?_) (fun hq => ?_)
      · have hq2 : ¬ F 3 x = k := hq
        rw [noby_n F hq2]
        refine z_ii2 (pc := 38) (by decide) rfl dX1_buyNothing_38 ?_
        refine z_goto (pc := 41) 2 (by decide) dX1_buyNothing_41 ?_
        exact ih (x + 1) y rfl (by omega)
      have hq2 : F 3 x = k := hq
      refine z_iload_n (pc := 20) rfl dX1_buyNothing_20 ?_
      refine z_bipush (pc := 21) (by decide) dX1_buyNothing_21 ?_
      refine z_imul (pc := 23) dX1_buyNothing_23 ?_
      refine z_is3 (pc := 24) (by decide) rfl dX1_buyNothing_24 ?_
      refine z_aload_n (pc := 25) rfl dX1_buyNothing_25 ?_
      refine zf_X1_31 (pc := 26) rfl rfl dX1_buyNothing_26 ?_
      refine z_iload_n (pc := 29) rfl dX1_buyNothing_29 ?_
      refine z_iload_n (pc := 30) rfl dX1_buyNothing_30 ?_
      rw [show (x : Int) * 40 = ((x * 40 : Nat) : Int) by omega]
      refine z_bipush (pc := 31) (by decide) dX1_buyNothing_31 ?_
      refine z_iadd (pc := 33) dX1_buyNothing_33 ?_
      rw [show ((x * 40 : Nat) : Int) + 40 = ((x * 40 + 40 : Nat) : Int) by omega]
      refine z_iconst (pc := 34) dX1_buyNothing_34 ?_
      refine z_S4 (pc := 35) (c_fill4 (q := 7) (n := 240) (f := noby F k x) (a := x * 40) (b := x * 40 + 40) rfl (by omega) (by omega) (by omega)) lk_X1_54 st_J7_fill_fda19 ⟨by decide, by decide⟩ (Nat.le_of_ble_eq_true rfl) ⟨by decide, by decide⟩ dX1_buyNothing_35 (fun r h9 hq => ?_)
      obtain ⟨rfl, e9⟩ := hq
      rw [e9, noby_y F hq2]
      clear e9 h9
      refine z_r0 ?_
      refine z_hp zs_7 ?_
      rw [show va_up (va_up F 7 (noby F k x)) 7 (noby F k (x + 1)) = va_up F 7 (noby F k (x + 1)) from bx_uu _ _ _ _]
      refine z_ii2 (pc := 38) (by decide) rfl dX1_buyNothing_38 ?_
      refine z_goto (pc := 41) 2 (by decide) dX1_buyNothing_41 ?_
      exact ih (x + 1) _ rfl (by omega)
  refine z_iconst (pc := 0) dX1_buyNothing_0 ?_
  refine z_is2 (pc := 1) (by decide) rfl dX1_buyNothing_1 ?_
  refine z_hp (show _ = zk g (va_up F 7 (noby F k 0)) L im c by rw [noby_0]; rw [show va_up F 7 (F 7) = F by funext j; unfold va_up; split <;> simp_all]) ?_
  exact loop (F 1 2).toNat 0 _ rfl (by omega)
end BOOK2
