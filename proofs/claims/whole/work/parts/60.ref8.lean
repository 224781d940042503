/-! ===== the reference: questions ===== -/
theorem up23 {F : Nat → Nat → Int} (h : F 23 0 = 0) : va_up F 23 (vf_upd (F 23) 0 0) = F := by
  funext q
  unfold va_up
  by_cases e : q = 23
  · rw [if_pos e, e]
    funext j
    unfold vf_upd
    by_cases e2 : j = 0
    · rw [if_pos e2, e2, h]
    · rw [if_neg e2]
  · rw [if_neg e]
theorem iz_wrap (z : Int) : iz z = iz (z + 4294967296) := by
  rw [← iz_add, show iz 4294967296 = 0 from by decide]
  exact (Int32.add_zero _).symm
def tlv (F : Nat → Nat → Int) (zk zt zw : Int) : Int := if 0 ≤ zk ∧ zk < F 1 1 ∧ 0 ≤ zt ∧ zt < F 1 0 then (if zw = 0 then nda F zk.toNat zt.toNat else if zw = 1 then ahd F zk.toNat zt.toNat else if zw = 2 then nah F zk.toNat zt.toNat else if zw = 3 then max 0 (ahd F zk.toNat zt.toNat - nda F zk.toNat zt.toNat) else if 10 ≤ zw ∧ zw ≤ 13 then fnd F zk.toNat zt.toNat (zw - 10).toNat else if 20 ≤ zw ∧ zw < 20 + F 1 2 ∧ F 3 (zw - 20).toNat = zk then bt F (zw - 20).toNat zt.toNat else -1) else -1
section REF8
variable {l : Launch} {g : zG} {F : Nat → Nat → Int} {L : Nat → Int} {im : Nat → Option Nat} {c : Nat}
theorem m_aheadOf (B : bi F 1) (hr : rl F 1 0) {k t : Nat} (hk : k < 3) (ht : t < 40) : zM l g yX5_aheadOf cX5_aheadOf 6 (some .int) 0 0 0 [.ref (g.2.1 + 23), .int (iz k), .int (iz t)] (zk g F L im c) (fun r h => r = some (.int (iz (ahd F k t))) ∧ h = zk g F L im c) := by
  refine zM_of 3 (by decide) rfl ?_
  show zJ l g RX5 cX5_aheadOf 6 (some .int) "aheadOf" (zRm 0 0 0) 0 0 _ 0 0 0 [some (.ref (g.2.1 + 23)), some (.int (iz k)), some (.int (iz t)), none, none, none] [] _
  have b3 := bi_offers B
  have h270 : F 27 0 = F 1 2 := hr.2.2.1
  have lpO : ∀ (j o : Nat) (y : Option Value), o + j = (F 1 2).toNat → zJ l g RX5 cX5_aheadOf 6 (some .int) "aheadOf" (zRm 0 0 0) 0 0 (fun r h => r = some (.int (iz (ahd F k t))) ∧ h = zk g F L im c) 0 0 5 [some (.ref (g.2.1 + 23)), some (.int (iz k)), some (.int (iz t)), some (.int (iz (sm (fun o => if F 3 o = k then ahs F t o else 0) o))), some (.int (iz o)), y] [] (zk g F L im c) := by
    intro j
    induction j with
    | zero =>
      intro o y ho
      refine z_iload (pc := 5) rfl dX5_aheadOf_5 ?_
      refine z_aload_n (pc := 7) rfl dX5_aheadOf_7 ?_
      refine zf_X5_19 (pc := 8) rfl rfl dX5_aheadOf_8 ?_
      refine z_iconst (pc := 11) dX5_aheadOf_11 ?_
      refine z_iald (pc := 12) rfl (by decide) (by omega) (by omega) dX5_aheadOf_12 ?_
      rw [show F 27 (0 : Int).toNat = F 1 2 from h270]
      refine z_icmp_ge (pc := 13) ⟨by omega, by omega⟩ ⟨by omega, by omega⟩ 82 (by decide) dX5_aheadOf_13 (fun hq => ?_) (fun hq => ?_)
      · refine z_iload_n (pc := 82) rfl dX5_aheadOf_82 ?_
        exact z_reti (pc := 83) rfl (by decide) (by decide) dX5_aheadOf_83 ⟨by rw [show o = (F 1 2).toNat by omega]; rfl, rfl⟩
      omega
    | succ j ih =>
      intro o y ho
      have ro := rl_off hr (j := o) (by omega)
      have c3 := bi_kindOf B o
      have c4 := bi_terms B o
      have eo : sm (fun o => if F 3 o = k then ahs F t o else 0) (o + 1) = sm (fun o => if F 3 o = k then ahs F t o else 0) o + (if F 3 o = k then ahs F t o else 0) := rfl
      have out : ∀ (z : Int) (y : Option Value), z = sm (fun o => if F 3 o = k then ahs F t o else 0) (o + 1) → zJ l g RX5 cX5_aheadOf 6 (some .int) "aheadOf" (zRm 0 0 0) 0 0 (fun r h => r = some (.int (iz (ahd F k t))) ∧ h = zk g F L im c) 0 0 76 [some (.ref (g.2.1 + 23)), some (.int (iz k)), some (.int (iz t)), some (.int (iz z)), some (.int (iz o)), y] [] (zk g F L im c) := by
        intro z y hz
        subst hz
        refine z_ii4 (pc := 76) (by decide) rfl dX5_aheadOf_76 ?_
        refine z_goto (pc := 79) 5 (by decide) dX5_aheadOf_79 ?_
        exact ih (o + 1) _ (by omega)
      have inn : F 3 o = k → ∀ (j2 q : Nat), q + j2 = t + 1 → zJ l g RX5 cX5_aheadOf 6 (some .int) "aheadOf" (zRm 0 0 0) 0 0 (fun r h => r = some (.int (iz (ahd F k t))) ∧ h = zk g F L im c) 0 0 19 [some (.ref (g.2.1 + 23)), some (.int (iz k)), some (.int (iz t)), some (.int (iz (sm (fun o => if F 3 o = k then ahs F t o else 0) o + sm (fun j => if (t : Int) < j + F 4 o then bt F o j else 0) q))), some (.int (iz o)), some (.int (iz q))] [] (zk g F L im c) := by
        intro hko j2
        induction j2 with
        | zero =>
          intro q hq0
          refine z_iload (pc := 19) rfl dX5_aheadOf_19 ?_
          refine z_iload_n (pc := 21) rfl dX5_aheadOf_21 ?_
          refine z_icmp_gt (pc := 22) ⟨by omega, by omega⟩ ⟨by omega, by omega⟩ 76 (by decide) dX5_aheadOf_22 (fun hq => ?_) (fun hq => ?_)
          · exact out _ _ (by rw [eo, if_pos hko, show q = t + 1 by omega]; rfl)
          omega
        | succ j2 ih2 =>
          intro q hq0
          have cb := bi_bought B (o * 40 + q)
          have ei : sm (fun o => if F 3 o = k then ahs F t o else 0) o + sm (fun j => if (t : Int) < j + F 4 o then bt F o j else 0) (q + 1) = sm (fun o => if F 3 o = k then ahs F t o else 0) o + sm (fun j => if (t : Int) < j + F 4 o then bt F o j else 0) q + (if (t : Int) < q + F 4 o then bt F o q else 0) := (Int.add_assoc _ _ _).symm
          refine z_iload (pc := 19) rfl dX5_aheadOf_19 ?_
          refine z_iload_n (pc := 21) rfl dX5_aheadOf_21 ?_
          refine z_icmp_gt (pc := 22) ⟨by omega, by omega⟩ ⟨by omega, by omega⟩ 76 (by decide) dX5_aheadOf_22 (fun hq => ?_) (fun hq => ?_)
          · omega
          refine z_aload_n (pc := 25) rfl dX5_aheadOf_25 ?_
          refine zf_X5_22 (pc := 26) rfl rfl dX5_aheadOf_26 ?_
          refine z_iload (pc := 29) rfl dX5_aheadOf_29 ?_
          refine z_iald (pc := 31) rfl (by decide) (by omega) (by omega) dX5_aheadOf_31 ?_
          rw [Int.toNat_natCast, ro.1]
          refine z_iload_n (pc := 32) rfl dX5_aheadOf_32 ?_
          refine z_icmp_ne (pc := 33) ⟨by omega, by omega⟩ ⟨by omega, by omega⟩ 76 (by decide) dX5_aheadOf_33 (fun hq => ?_) (fun hq => ?_)
          · omega
          refine z_iload_n (pc := 36) rfl dX5_aheadOf_36 ?_
          refine z_iload (pc := 37) rfl dX5_aheadOf_37 ?_
          refine z_aload_n (pc := 39) rfl dX5_aheadOf_39 ?_
          refine zf_X5_25 (pc := 40) rfl rfl dX5_aheadOf_40 ?_
          refine z_iload (pc := 43) rfl dX5_aheadOf_43 ?_
          refine z_iald (pc := 45) rfl (by decide) (by omega) (by omega) dX5_aheadOf_45 ?_
          rw [Int.toNat_natCast, ro.2.1]
          refine z_iadd (pc := 46) dX5_aheadOf_46 ?_
          refine z_iload_n (pc := 47) rfl dX5_aheadOf_47 ?_
          refine z_icmp_le (pc := 48) ⟨by omega, by omega⟩ ⟨by omega, by omega⟩ 67 (by decide) dX5_aheadOf_48 (fun hq => ?_) (fun hq => ?_)
          · rw [if_neg (by omega)] at ei
            refine z_iconst (pc := 67) dX5_aheadOf_67 ?_
            refine z_iadd (pc := 68) dX5_aheadOf_68 ?_
            rw [← ei]
            refine z_is3 (pc := 69) (by decide) rfl dX5_aheadOf_69 ?_
            refine z_ii5 (pc := 70) (by decide) rfl dX5_aheadOf_70 ?_
            refine z_goto (pc := 73) 19 (by decide) dX5_aheadOf_73 ?_
            exact ih2 (q + 1) (by omega)
          rw [if_pos (by omega)] at ei
          refine z_aload_n (pc := 51) rfl dX5_aheadOf_51 ?_
          refine zf_X5_34 (pc := 52) rfl rfl dX5_aheadOf_52 ?_
          refine z_bipush (pc := 55) (by decide) dX5_aheadOf_55 ?_
          refine z_iload (pc := 57) rfl dX5_aheadOf_57 ?_
          refine z_imul (pc := 59) dX5_aheadOf_59 ?_
          refine z_iload (pc := 60) rfl dX5_aheadOf_60 ?_
          refine z_iadd (pc := 62) dX5_aheadOf_62 ?_
          refine z_iald (pc := 63) rfl (by decide) (by omega) (by omega) dX5_aheadOf_63 ?_
          rw [show (40 * (o : Int) + q).toNat = 40 * o + q by omega, rl_bt hr (by omega) (by omega)]
          refine z_goto (pc := 64) 68 (by decide) dX5_aheadOf_64 ?_
          refine z_iadd (pc := 68) dX5_aheadOf_68 ?_
          rw [← ei]
          refine z_is3 (pc := 69) (by decide) rfl dX5_aheadOf_69 ?_
          refine z_ii5 (pc := 70) (by decide) rfl dX5_aheadOf_70 ?_
          refine z_goto (pc := 73) 19 (by decide) dX5_aheadOf_73 ?_
          exact ih2 (q + 1) (by omega)
      refine z_iload (pc := 5) rfl dX5_aheadOf_5 ?_
      refine z_aload_n (pc := 7) rfl dX5_aheadOf_7 ?_
      refine zf_X5_19 (pc := 8) rfl rfl dX5_aheadOf_8 ?_
      refine z_iconst (pc := 11) dX5_aheadOf_11 ?_
      refine z_iald (pc := 12) rfl (by decide) (by omega) (by omega) dX5_aheadOf_12 ?_
      rw [show F 27 (0 : Int).toNat = F 1 2 from h270]
      refine z_icmp_ge (pc := 13) ⟨by omega, by omega⟩ ⟨by omega, by omega⟩ 82 (by decide) dX5_aheadOf_13 (fun hq => ?_) (fun hq => ?_)
      · omega
      by_cases hko : F 3 o = k
      · refine z_iconst (pc := 16) dX5_aheadOf_16 ?_
        refine z_is5 (pc := 17) (by decide) rfl dX5_aheadOf_17 ?_
        have := inn hko (t + 1) 0 (by omega)
        rw [show sm (fun o => if F 3 o = k then ahs F t o else 0) o + sm (fun j => if (t : Int) < j + F 4 o then bt F o j else 0) 0 = sm (fun o => if F 3 o = k then ahs F t o else 0) o from Int.add_zero _] at this
        exact this
      · rw [if_neg hko, Int.add_zero] at eo
        refine z_iconst (pc := 16) dX5_aheadOf_16 ?_
        refine z_is5 (pc := 17) (by decide) rfl dX5_aheadOf_17 ?_
        refine z_iload (pc := 19) rfl dX5_aheadOf_19 ?_
        refine z_iload_n (pc := 21) rfl dX5_aheadOf_21 ?_
        refine z_icmp_gt (pc := 22) ⟨by omega, by omega⟩ ⟨by omega, by omega⟩ 76 (by decide) dX5_aheadOf_22 (fun hq => ?_) (fun hq => ?_)
        · omega
        refine z_aload_n (pc := 25) rfl dX5_aheadOf_25 ?_
        refine zf_X5_22 (pc := 26) rfl rfl dX5_aheadOf_26 ?_
        refine z_iload (pc := 29) rfl dX5_aheadOf_29 ?_
        refine z_iald (pc := 31) rfl (by decide) (by omega) (by omega) dX5_aheadOf_31 ?_
        rw [Int.toNat_natCast, ro.1]
        refine z_iload_n (pc := 32) rfl dX5_aheadOf_32 ?_
        refine z_icmp_ne (pc := 33) ⟨by omega, by omega⟩ ⟨by omega, by omega⟩ 76 (by decide) dX5_aheadOf_33 (fun hq => ?_) (fun hq => ?_)
        · exact out _ _ eo.symm
        exact absurd (by assumption) hko
  refine z_iconst (pc := 0) dX5_aheadOf_0 ?_
  refine z_is3 (pc := 1) (by decide) rfl dX5_aheadOf_1 ?_
  refine z_iconst (pc := 2) dX5_aheadOf_2 ?_
  refine z_is4 (pc := 3) (by decide) rfl dX5_aheadOf_3 ?_
  exact lpO (F 1 2).toNat 0 _ (by omega)
theorem m_besideOf (B : bi F 1) (hr : rl F 1 0) {k t : Nat} (hk : k < 3) (ht : t < 40) : zM l g yX5_besideOf cX5_besideOf 4 (some .int) 2 0 0 [.ref (g.2.1 + 23), .int (iz k), .int (iz t)] (zk g F L im c) (fun r h => r = some (.int (iz (nah F k t))) ∧ h = zk g F L im c) := by
  refine zM_of 1 (by decide) rfl ?_
  show zJ l g RX5 cX5_besideOf 4 (some .int) "besideOf" (zRm 2 0 0) 0 0 _ 0 0 0 [some (.ref (g.2.1 + 23)), some (.int (iz k)), some (.int (iz t)), none] [] _
  have h1 := nda_bd B k t
  have h2 := ahd_bd B ht k
  refine z_aload_n (pc := 0) rfl dX5_besideOf_0 ?_
  refine z_iload_n (pc := 1) rfl dX5_besideOf_1 ?_
  refine z_iload_n (pc := 2) rfl dX5_besideOf_2 ?_
  refine z_V2 (pc := 3) (m_needOf hr hk ht) lk_X5_103 iv_X5_needOf rfl rfl ⟨by decide, by decide⟩ (Nat.le_of_ble_eq_true rfl) ⟨by decide, by decide⟩ dX5_besideOf_3 (fun r h9 hq => ?_)
  obtain ⟨rfl, e9⟩ := hq
  rw [e9]
  clear e9 h9
  refine z_r1 ?_
  refine z_aload_n (pc := 6) rfl dX5_besideOf_6 ?_
  refine z_iload_n (pc := 7) rfl dX5_besideOf_7 ?_
  refine z_iload_n (pc := 8) rfl dX5_besideOf_8 ?_
  refine z_V2 (pc := 9) (m_aheadOf B hr hk ht) lk_X5_107 iv_X5_aheadOf rfl rfl ⟨by decide, by decide⟩ (Nat.le_of_ble_eq_true rfl) ⟨by decide, by decide⟩ dX5_besideOf_9 (fun r h9 hq => ?_)
  obtain ⟨rfl, e9⟩ := hq
  rw [e9]
  clear e9 h9
  refine z_r1 ?_
  refine z_isub (pc := 12) dX5_besideOf_12 ?_
  refine z_is3 (pc := 13) (by decide) rfl dX5_besideOf_13 ?_
  refine z_iload_n (pc := 14) rfl dX5_besideOf_14 ?_
  refine z_if_ge (pc := 15) ⟨by omega, by omega⟩ 22 (by decide) dX5_besideOf_15 (fun hq => ?_) (fun hq => ?_)
  · refine z_iload_n (pc := 22) rfl dX5_besideOf_22 ?_
    exact z_reti (pc := 23) rfl (by decide) (by decide) dX5_besideOf_23 ⟨by rw [show nah F k t = nda F k t - ahd F k t by unfold nah; omega], rfl⟩
  refine z_iconst (pc := 18) dX5_besideOf_18 ?_
  refine z_goto (pc := 19) 23 (by decide) dX5_besideOf_19 ?_
  exact z_reti (pc := 23) rfl (by decide) (by decide) dX5_besideOf_23 ⟨by rw [show nah F k t = 0 by unfold nah; omega], rfl⟩
theorem m_offersCost (B : bi F 1) (hr : rl F 1 0) {k : Nat} (hk : k < 3) : zM l g yX5_offersCost cX5_offersCost 6 (some .long) 0 0 0 [.ref (g.2.1 + 23), .int (iz k)] (zk g F L im c) (fun r h => r = some (.long (lz (ofc F k))) ∧ h = zk g F L im c) := by
  refine zM_of 4 (by decide) rfl ?_
  show zJ l g RX5 cX5_offersCost 6 (some .long) "offersCost" (zRm 0 0 0) 0 0 _ 0 0 0 [some (.ref (g.2.1 + 23)), some (.int (iz k)), none, none, none, none] [] _
  have b1 := bi_hours B
  have b3 := bi_offers B
  have h270 : F 27 0 = F 1 2 := hr.2.2.1
  have h240 : F 24 0 = F 1 0 := hr.1
  have lpO : ∀ (j o : Nat) (y : Option Value), o + j = (F 1 2).toNat → zJ l g RX5 cX5_offersCost 6 (some .long) "offersCost" (zRm 0 0 0) 0 0 (fun r h => r = some (.long (lz (ofc F k))) ∧ h = zk g F L im c) 0 0 5 [some (.ref (g.2.1 + 23)), some (.int (iz k)), some (.long (lz (sm (fun o => if F 3 o = k then sm (bt F o) (F 1 0).toNat * F 5 o else 0) o))), none, some (.int (iz o)), y] [] (zk g F L im c) := by
    intro j
    induction j with
    | zero =>
      intro o y ho
      refine z_iload (pc := 5) rfl dX5_offersCost_5 ?_
      refine z_aload_n (pc := 7) rfl dX5_offersCost_7 ?_
      refine zf_X5_19 (pc := 8) rfl rfl dX5_offersCost_8 ?_
      refine z_iconst (pc := 11) dX5_offersCost_11 ?_
      refine z_iald (pc := 12) rfl (by decide) (by omega) (by omega) dX5_offersCost_12 ?_
      rw [show F 27 (0 : Int).toNat = F 1 2 from h270]
      refine z_icmp_ge (pc := 13) ⟨by omega, by omega⟩ ⟨by omega, by omega⟩ 79 (by decide) dX5_offersCost_13 (fun hq => ?_) (fun hq => ?_)
      · refine z_lload_n (pc := 79) rfl dX5_offersCost_79 ?_
        exact z_retl (pc := 80) rfl (by decide) (by decide) dX5_offersCost_80 ⟨by rw [show o = (F 1 2).toNat by omega]; rfl, rfl⟩
      omega
    | succ j ih =>
      intro o y ho
      have ro := rl_off hr (j := o) (by omega)
      have c3 := bi_kindOf B o
      have c5 := bi_costs B o
      have eo : sm (fun o => if F 3 o = k then sm (bt F o) (F 1 0).toNat * F 5 o else 0) (o + 1) = sm (fun o => if F 3 o = k then sm (bt F o) (F 1 0).toNat * F 5 o else 0) o + (if F 3 o = k then sm (bt F o) (F 1 0).toNat * F 5 o else 0) := rfl
      have out : ∀ (z : Int) (y : Option Value), z = sm (fun o => if F 3 o = k then sm (bt F o) (F 1 0).toNat * F 5 o else 0) (o + 1) → zJ l g RX5 cX5_offersCost 6 (some .long) "offersCost" (zRm 0 0 0) 0 0 (fun r h => r = some (.long (lz (ofc F k))) ∧ h = zk g F L im c) 0 0 73 [some (.ref (g.2.1 + 23)), some (.int (iz k)), some (.long (lz z)), none, some (.int (iz o)), y] [] (zk g F L im c) := by
        intro z y hz
        subst hz
        refine z_ii4 (pc := 73) (by decide) rfl dX5_offersCost_73 ?_
        refine z_goto (pc := 76) 5 (by decide) dX5_offersCost_76 ?_
        exact ih (o + 1) _ (by omega)
      have inn : F 3 o = k → ∀ (j2 q : Nat), q + j2 = (F 1 0).toNat → zJ l g RX5 cX5_offersCost 6 (some .long) "offersCost" (zRm 0 0 0) 0 0 (fun r h => r = some (.long (lz (ofc F k))) ∧ h = zk g F L im c) 0 0 19 [some (.ref (g.2.1 + 23)), some (.int (iz k)), some (.long (lz (sm (fun o => if F 3 o = k then sm (bt F o) (F 1 0).toNat * F 5 o else 0) o + sm (fun j => bt F o j * F 5 o) q))), none, some (.int (iz o)), some (.int (iz q))] [] (zk g F L im c) := by
        intro hko j2
        induction j2 with
        | zero =>
          intro q hq0
          refine z_iload (pc := 19) rfl dX5_offersCost_19 ?_
          refine z_aload_n (pc := 21) rfl dX5_offersCost_21 ?_
          refine zf_X5_7 (pc := 22) rfl rfl dX5_offersCost_22 ?_
          refine z_iconst (pc := 25) dX5_offersCost_25 ?_
          refine z_iald (pc := 26) rfl (by decide) (by omega) (by omega) dX5_offersCost_26 ?_
          rw [show F 24 (0 : Int).toNat = F 1 0 from h240]
          refine z_icmp_ge (pc := 27) ⟨by omega, by omega⟩ ⟨by omega, by omega⟩ 73 (by decide) dX5_offersCost_27 (fun hq => ?_) (fun hq => ?_)
          · exact out _ _ (by rw [eo, if_pos hko, show q = (F 1 0).toNat by omega, sm_mulr])
          omega
        | succ j2 ih2 =>
          intro q hq0
          have cb := bi_bought B (o * 40 + q)
          have cb2 : 0 ≤ bt F o q ∧ bt F o q ≤ 60 := cb
          have ei : sm (fun o => if F 3 o = k then sm (bt F o) (F 1 0).toNat * F 5 o else 0) o + sm (fun j => bt F o j * F 5 o) (q + 1) = sm (fun o => if F 3 o = k then sm (bt F o) (F 1 0).toNat * F 5 o else 0) o + sm (fun j => bt F o j * F 5 o) q + F 5 o * bt F o q := by rw [Int.mul_comm (F 5 o)]; exact (Int.add_assoc _ _ _).symm
          refine z_iload (pc := 19) rfl dX5_offersCost_19 ?_
          refine z_aload_n (pc := 21) rfl dX5_offersCost_21 ?_
          refine zf_X5_7 (pc := 22) rfl rfl dX5_offersCost_22 ?_
          refine z_iconst (pc := 25) dX5_offersCost_25 ?_
          refine z_iald (pc := 26) rfl (by decide) (by omega) (by omega) dX5_offersCost_26 ?_
          rw [show F 24 (0 : Int).toNat = F 1 0 from h240]
          refine z_icmp_ge (pc := 27) ⟨by omega, by omega⟩ ⟨by omega, by omega⟩ 73 (by decide) dX5_offersCost_27 (fun hq => ?_) (fun hq => ?_)
          · omega
          refine z_aload_n (pc := 30) rfl dX5_offersCost_30 ?_
          refine zf_X5_22 (pc := 31) rfl rfl dX5_offersCost_31 ?_
          refine z_iload (pc := 34) rfl dX5_offersCost_34 ?_
          refine z_iald (pc := 36) rfl (by decide) (by omega) (by omega) dX5_offersCost_36 ?_
          rw [Int.toNat_natCast, ro.1]
          refine z_iload_n (pc := 37) rfl dX5_offersCost_37 ?_
          refine z_icmp_ne (pc := 38) ⟨by omega, by omega⟩ ⟨by omega, by omega⟩ 73 (by decide) dX5_offersCost_38 (fun hq => ?_) (fun hq => ?_)
          · omega
          refine z_lload_n (pc := 41) rfl dX5_offersCost_41 ?_
          refine z_aload_n (pc := 42) rfl dX5_offersCost_42 ?_
          refine zf_X5_28 (pc := 43) rfl rfl dX5_offersCost_43 ?_
          refine z_iload (pc := 46) rfl dX5_offersCost_46 ?_
          refine z_iald (pc := 48) rfl (by decide) (by omega) (by omega) dX5_offersCost_48 ?_
          rw [Int.toNat_natCast, ro.2.2]
          refine z_i2l (pc := 49) ⟨by omega, by omega⟩ dX5_offersCost_49 ?_
          refine z_aload_n (pc := 50) rfl dX5_offersCost_50 ?_
          refine zf_X5_34 (pc := 51) rfl rfl dX5_offersCost_51 ?_
          refine z_bipush (pc := 54) (by decide) dX5_offersCost_54 ?_
          refine z_iload (pc := 56) rfl dX5_offersCost_56 ?_
          refine z_imul (pc := 58) dX5_offersCost_58 ?_
          refine z_iload (pc := 59) rfl dX5_offersCost_59 ?_
          refine z_iadd (pc := 61) dX5_offersCost_61 ?_
          refine z_iald (pc := 62) rfl (by decide) (by omega) (by omega) dX5_offersCost_62 ?_
          rw [show (40 * (o : Int) + q).toNat = 40 * o + q by omega, rl_bt hr (by omega) (by omega)]
          refine z_i2l (pc := 63) ⟨by omega, by omega⟩ dX5_offersCost_63 ?_
          refine z_lmul (pc := 64) dX5_offersCost_64 ?_
          refine z_ladd (pc := 65) dX5_offersCost_65 ?_
          rw [← ei]
          refine z_ls2 (pc := 66) (by decide) rfl dX5_offersCost_66 ?_
          refine z_ii5 (pc := 67) (by decide) rfl dX5_offersCost_67 ?_
          refine z_goto (pc := 70) 19 (by decide) dX5_offersCost_70 ?_
          exact ih2 (q + 1) (by omega)
      refine z_iload (pc := 5) rfl dX5_offersCost_5 ?_
      refine z_aload_n (pc := 7) rfl dX5_offersCost_7 ?_
      refine zf_X5_19 (pc := 8) rfl rfl dX5_offersCost_8 ?_
      refine z_iconst (pc := 11) dX5_offersCost_11 ?_
      refine z_iald (pc := 12) rfl (by decide) (by omega) (by omega) dX5_offersCost_12 ?_
      rw [show F 27 (0 : Int).toNat = F 1 2 from h270]
      refine z_icmp_ge (pc := 13) ⟨by omega, by omega⟩ ⟨by omega, by omega⟩ 79 (by decide) dX5_offersCost_13 (fun hq => ?_) (fun hq => ?_)
      · omega
      by_cases hko : F 3 o = k
      · refine z_iconst (pc := 16) dX5_offersCost_16 ?_
        refine z_is5 (pc := 17) (by decide) rfl dX5_offersCost_17 ?_
        have := inn hko (F 1 0).toNat 0 (by omega)
        rw [show sm (fun o => if F 3 o = k then sm (bt F o) (F 1 0).toNat * F 5 o else 0) o + sm (fun j => bt F o j * F 5 o) 0 = sm (fun o => if F 3 o = k then sm (bt F o) (F 1 0).toNat * F 5 o else 0) o from Int.add_zero _] at this
        exact this
      · rw [if_neg hko, Int.add_zero] at eo
        refine z_iconst (pc := 16) dX5_offersCost_16 ?_
        refine z_is5 (pc := 17) (by decide) rfl dX5_offersCost_17 ?_
        refine z_iload (pc := 19) rfl dX5_offersCost_19 ?_
        refine z_aload_n (pc := 21) rfl dX5_offersCost_21 ?_
        refine zf_X5_7 (pc := 22) rfl rfl dX5_offersCost_22 ?_
        refine z_iconst (pc := 25) dX5_offersCost_25 ?_
        refine z_iald (pc := 26) rfl (by decide) (by omega) (by omega) dX5_offersCost_26 ?_
        rw [show F 24 (0 : Int).toNat = F 1 0 from h240]
        refine z_icmp_ge (pc := 27) ⟨by omega, by omega⟩ ⟨by omega, by omega⟩ 73 (by decide) dX5_offersCost_27 (fun hq => ?_) (fun hq => ?_)
        · omega
        refine z_aload_n (pc := 30) rfl dX5_offersCost_30 ?_
        refine zf_X5_22 (pc := 31) rfl rfl dX5_offersCost_31 ?_
        refine z_iload (pc := 34) rfl dX5_offersCost_34 ?_
        refine z_iald (pc := 36) rfl (by decide) (by omega) (by omega) dX5_offersCost_36 ?_
        rw [Int.toNat_natCast, ro.1]
        refine z_iload_n (pc := 37) rfl dX5_offersCost_37 ?_
        refine z_icmp_ne (pc := 38) ⟨by omega, by omega⟩ ⟨by omega, by omega⟩ 73 (by decide) dX5_offersCost_38 (fun hq => ?_) (fun hq => ?_)
        · exact out _ _ eo.symm
        exact absurd (by assumption) hko
  refine z_lconst (pc := 0) (v := 0) (by decide) dX5_offersCost_0 ?_
  refine z_ls2 (pc := 1) (by decide) rfl dX5_offersCost_1 ?_
  refine z_iconst (pc := 2) dX5_offersCost_2 ?_
  refine z_is4 (pc := 3) (by decide) rfl dX5_offersCost_3 ?_
  exact lpO (F 1 2).toNat 0 _ (by omega)
theorem m_planCost (B : bi F 1) (hr : rl F 1 0) {k : Nat} (hk : k < 3) : zM l g yX5_planCost cX5_planCost 5 (some .long) 3 0 0 [.ref (g.2.1 + 23), .int (iz k)] (zk g F L im c) (fun r h => r = some (.long (lz (plc F k))) ∧ h = zk g F L im c) := by
  refine zM_of 3 (by decide) rfl ?_
  show zJ l g RX5 cX5_planCost 5 (some .long) "planCost" (zRm 3 0 0) 0 0 _ 0 0 0 [some (.ref (g.2.1 + 23)), some (.int (iz k)), none, none, none] [] _
  have b1 := bi_hours B
  have b2 := bi_rates B k
  have h240 : F 24 0 = F 1 0 := hr.1
  have loop : ∀ (j t : Nat), t + j = (F 1 0).toNat → zJ l g RX5 cX5_planCost 5 (some .long) "planCost" (zRm 3 0 0) 0 0 (fun r h => r = some (.long (lz (plc F k))) ∧ h = zk g F L im c) 0 0 9 [some (.ref (g.2.1 + 23)), some (.int (iz k)), some (.long (lz (ofc F k + sm (fun t => nah F k t * F 2 k) t))), none, some (.int (iz t))] [] (zk g F L im c) := by
    intro j
    induction j with
    | zero =>
      intro t ht
      refine z_iload (pc := 9) rfl dX5_planCost_9 ?_
      refine z_aload_n (pc := 11) rfl dX5_planCost_11 ?_
      refine zf_X5_7 (pc := 12) rfl rfl dX5_planCost_12 ?_
      refine z_iconst (pc := 15) dX5_planCost_15 ?_
      refine z_iald (pc := 16) rfl (by decide) (by omega) (by omega) dX5_planCost_16 ?_
      rw [show F 24 (0 : Int).toNat = F 1 0 from h240]
      refine z_icmp_ge (pc := 17) ⟨by omega, by omega⟩ ⟨by omega, by omega⟩ 45 (by decide) dX5_planCost_17 (fun hq => ?_) (fun hq => ?_)
      · refine z_lload_n (pc := 45) rfl dX5_planCost_45 ?_
        exact z_retl (pc := 46) rfl (by decide) (by decide) dX5_planCost_46 ⟨by rw [show t = (F 1 0).toNat by omega]; rfl, rfl⟩
      omega
    | succ j ih =>
      intro t ht
      have h5 := nah_bd B (t := t) (by omega) k
      have e : ofc F k + sm (fun t => nah F k t * F 2 k) (t + 1) = ofc F k + sm (fun t => nah F k t * F 2 k) t + F 2 k * nah F k t := by rw [Int.mul_comm (F 2 k)]; exact (Int.add_assoc _ _ _).symm
      refine z_iload (pc := 9) rfl dX5_planCost_9 ?_
      refine z_aload_n (pc := 11) rfl dX5_planCost_11 ?_
      refine zf_X5_7 (pc := 12) rfl rfl dX5_planCost_12 ?_
      refine z_iconst (pc := 15) dX5_planCost_15 ?_
      refine z_iald (pc := 16) rfl (by decide) (by omega) (by omega) dX5_planCost_16 ?_
      rw [show F 24 (0 : Int).toNat = F 1 0 from h240]
      refine z_icmp_ge (pc := 17) ⟨by omega, by omega⟩ ⟨by omega, by omega⟩ 45 (by decide) dX5_planCost_17 (fun hq => ?_) (fun hq => ?_)
      · omega
      refine z_lload_n (pc := 20) rfl dX5_planCost_20 ?_
      refine z_aload_n (pc := 21) rfl dX5_planCost_21 ?_
      refine zf_X5_16 (pc := 22) rfl rfl dX5_planCost_22 ?_
      refine z_iload_n (pc := 25) rfl dX5_planCost_25 ?_
      refine z_iald (pc := 26) rfl (by decide) (by omega) (by omega) dX5_planCost_26 ?_
      rw [Int.toNat_natCast, rl_rate hr hk]
      refine z_i2l (pc := 27) ⟨by omega, by omega⟩ dX5_planCost_27 ?_
      refine z_aload_n (pc := 28) rfl dX5_planCost_28 ?_
      refine z_iload_n (pc := 29) rfl dX5_planCost_29 ?_
      refine z_iload (pc := 30) rfl dX5_planCost_30 ?_
      refine z_V2 (pc := 32) (m_besideOf B hr hk (t := t) (by omega)) lk_X5_110 iv_X5_besideOf rfl rfl ⟨by decide, by decide⟩ (Nat.le_of_ble_eq_true rfl) ⟨by decide, by decide⟩ dX5_planCost_32 (fun r h9 hq => ?_)
      obtain ⟨rfl, e9⟩ := hq
      rw [e9]
      clear e9 h9
      refine z_r1 ?_
      refine z_i2l (pc := 35) ⟨by omega, by omega⟩ dX5_planCost_35 ?_
      refine z_lmul (pc := 36) dX5_planCost_36 ?_
      refine z_ladd (pc := 37) dX5_planCost_37 ?_
      rw [← e]
      refine z_ls2 (pc := 38) (by decide) rfl dX5_planCost_38 ?_
      refine z_ii4 (pc := 39) (by decide) rfl dX5_planCost_39 ?_
      refine z_goto (pc := 42) 9 (by decide) dX5_planCost_42 ?_
      exact ih (t + 1) (by omega)
  refine z_aload_n (pc := 0) rfl dX5_planCost_0 ?_
  refine z_iload_n (pc := 1) rfl dX5_planCost_1 ?_
  refine z_V1 (pc := 2) (m_offersCost B hr hk) lk_X5_113 iv_X5_offersCost rfl rfl ⟨by decide, by decide⟩ (Nat.le_of_ble_eq_true rfl) ⟨by decide, by decide⟩ dX5_planCost_2 (fun r h9 hq => ?_)
  obtain ⟨rfl, e9⟩ := hq
  rw [e9]
  clear e9 h9
  refine z_r1 ?_
  rw [show ofc F k = ofc F k + sm (fun t => nah F k t * F 2 k) 0 from (Int.add_zero _).symm]
  refine z_ls2 (pc := 5) (by decide) rfl dX5_planCost_5 ?_
  refine z_iconst (pc := 6) dX5_planCost_6 ?_
  refine z_is4 (pc := 7) (by decide) rfl dX5_planCost_7 ?_
  exact loop (F 1 0).toNat 0 (by omega)
theorem m_cost (B : bi F 1) (hr : rl F 1 0) (h23 : F 23 0 = 0) {z : Int} (hz : ir z) : zM l g yX5_cost cX5_cost 2 (some .long) 4 0 0 [.ref (g.2.1 + 23), .int (iz z)] (zk g F L im c) (fun r h => r = some (.long (lz (if 0 ≤ z ∧ z < F 1 1 then plc F z.toNat else -1))) ∧ h = zk g F L im c) := by
  refine zM_of 0 (by decide) rfl ?_
  show zJ l g RX5 cX5_cost 2 (some .long) "cost" (zRm 4 0 0) 0 0 _ 0 0 0 [some (.ref (g.2.1 + 23)), some (.int (iz z))] [] _
  have b2 := bi_kinds B
  refine z_aload_n (pc := 0) rfl dX5_cost_0 ?_
  refine z_iconst (pc := 1) dX5_cost_1 ?_
  refine zp_X5_72 (pc := 2) rfl (Nat.le_of_ble_eq_true rfl) dX5_cost_2 ?_
  refine z_hp (show _ = zk g F L im c from zs_23_0.trans (congrArg (fun f => zk g f L im c) (up23 h23))) ?_
  refine z_aload_n (pc := 5) rfl dX5_cost_5 ?_
  refine z_iload_n (pc := 6) rfl dX5_cost_6 ?_
  refine z_V1 (pc := 7) (m_isKind B hr hz) lk_X5_84 iv_X5_isKind rfl rfl ⟨by decide, by decide⟩ (Nat.le_of_ble_eq_true rfl) ⟨by decide, by decide⟩ dX5_cost_7 (fun r h9 hq => ?_)
  obtain ⟨rfl, e9⟩ := hq
  rw [e9]
  clear e9 h9
  refine z_r1 ?_
  by_cases hc : 0 ≤ z ∧ z < F 1 1
  · rw [if_pos hc, if_pos hc]
    obtain ⟨k, rfl⟩ := Int.eq_ofNat_of_zero_le hc.1
    refine z_if_eq (pc := 10) ⟨by omega, by omega⟩ 21 (by decide) dX5_cost_10 (fun hq => ?_) (fun hq => ?_)
    · omega
    refine z_aload_n (pc := 13) rfl dX5_cost_13 ?_
    refine z_iload_n (pc := 14) rfl dX5_cost_14 ?_
    refine z_V1 (pc := 15) (m_planCost B hr (k := k) (by omega)) lk_X5_117 iv_X5_planCost rfl rfl ⟨by decide, by decide⟩ (Nat.le_of_ble_eq_true rfl) ⟨by decide, by decide⟩ dX5_cost_15 (fun r h9 hq => ?_)
    obtain ⟨rfl, e9⟩ := hq
    rw [e9]
    clear e9 h9
    refine z_r1 ?_
    refine z_goto (pc := 18) 24 (by decide) dX5_cost_18 ?_
    exact z_retl (pc := 24) rfl (by decide) (by decide) dX5_cost_24 ⟨rfl, rfl⟩
  · rw [if_neg hc, if_neg hc]
    refine z_if_eq (pc := 10) ⟨by omega, by omega⟩ 21 (by decide) dX5_cost_10 (fun hq => ?_) (fun hq => ?_)
    · refine z_ldc2 (pc := 21) kl_X5_120 dX5_cost_21 ?_
      exact z_retl (pc := 24) rfl (by decide) (by decide) dX5_cost_24 ⟨rfl, rfl⟩
    omega
def cnv (F : Nat → Nat → Int) (z : Int) : Int := if z = 0 then F 1 0 else if z = 1 then F 1 1 else if z = 2 then F 1 2 else -1
theorem m_count (hr : rl F 1 0) (h23 : F 23 0 = 0) {z : Int} (hz : ir z) : zM l g yX5_count cX5_count 2 (some .int) 0 0 0 [.ref (g.2.1 + 23), .int (iz z)] (zk g F L im c) (fun r h => r = some (.int (iz (cnv F z))) ∧ h = zk g F L im c) := by
  refine zM_of 0 (by decide) rfl ?_
  show zJ l g RX5 cX5_count 2 (some .int) "count" (zRm 0 0 0) 0 0 _ 0 0 0 [some (.ref (g.2.1 + 23)), some (.int (iz z))] [] _
  have h240 : F 24 0 = F 1 0 := hr.1
  have h250 : F 25 0 = F 1 1 := hr.2.1
  have h270 : F 27 0 = F 1 2 := hr.2.2.1
  unfold cnv
  refine z_aload_n (pc := 0) rfl dX5_count_0 ?_
  refine z_iconst (pc := 1) dX5_count_1 ?_
  refine zp_X5_72 (pc := 2) rfl (Nat.le_of_ble_eq_true rfl) dX5_count_2 ?_
  refine z_hp (show _ = zk g F L im c from zs_23_0.trans (congrArg (fun f => zk g f L im c) (up23 h23))) ?_
  refine z_iload_n (pc := 5) rfl dX5_count_5 ?_
  refine z_if_ne (pc := 6) hz 18 (by decide) dX5_count_6 (fun hq => ?_) (fun hq => ?_)
  rotate_left
  · refine z_aload_n (pc := 9) rfl dX5_count_9 ?_
    refine zf_X5_7 (pc := 10) rfl rfl dX5_count_10 ?_
    refine z_iconst (pc := 13) dX5_count_13 ?_
    refine z_iald (pc := 14) rfl (by decide) (by omega) (by omega) dX5_count_14 ?_
    rw [show F 24 (0 : Int).toNat = F 1 0 from h240]
    refine z_goto (pc := 15) 47 (by decide) dX5_count_15 ?_
    exact z_reti (pc := 47) rfl (by decide) (by decide) dX5_count_47 ⟨by rw [if_pos (by assumption)], rfl⟩
  rw [if_neg (by assumption)]
  refine z_iload_n (pc := 18) rfl dX5_count_18 ?_
  refine z_iconst (pc := 19) dX5_count_19 ?_
  refine z_icmp_ne (pc := 20) hz ⟨by omega, by omega⟩ 32 (by decide) dX5_count_20 (fun hq => ?_) (fun hq => ?_)
  rotate_left
  · refine z_aload_n (pc := 23) rfl dX5_count_23 ?_
    refine zf_X5_13 (pc := 24) rfl rfl dX5_count_24 ?_
    refine z_iconst (pc := 27) dX5_count_27 ?_
    refine z_iald (pc := 28) rfl (by decide) (by omega) (by omega) dX5_count_28 ?_
    rw [show F 25 (0 : Int).toNat = F 1 1 from h250]
    refine z_goto (pc := 29) 47 (by decide) dX5_count_29 ?_
    exact z_reti (pc := 47) rfl (by decide) (by decide) dX5_count_47 ⟨by rw [if_pos (by assumption)], rfl⟩
  rw [if_neg (by assumption)]
  refine z_iload_n (pc := 32) rfl dX5_count_32 ?_
  refine z_iconst (pc := 33) dX5_count_33 ?_
  refine z_icmp_ne (pc := 34) hz ⟨by omega, by omega⟩ 46 (by decide) dX5_count_34 (fun hq => ?_) (fun hq => ?_)
  rotate_left
  · refine z_aload_n (pc := 37) rfl dX5_count_37 ?_
    refine zf_X5_19 (pc := 38) rfl rfl dX5_count_38 ?_
    refine z_iconst (pc := 41) dX5_count_41 ?_
    refine z_iald (pc := 42) rfl (by decide) (by omega) (by omega) dX5_count_42 ?_
    rw [show F 27 (0 : Int).toNat = F 1 2 from h270]
    refine z_goto (pc := 43) 47 (by decide) dX5_count_43 ?_
    exact z_reti (pc := 47) rfl (by decide) (by decide) dX5_count_47 ⟨by rw [if_pos (by assumption)], rfl⟩
  rw [if_neg (by assumption)]
  refine z_iconst (pc := 46) dX5_count_46 ?_
  exact z_reti (pc := 47) rfl (by decide) (by decide) dX5_count_47 ⟨rfl, rfl⟩
end REF8
