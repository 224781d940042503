/-! ===== the reference: small methods; ways ===== -/
/-- the Book at place p is the reference's slot s -/
def rl (F : Nat → Nat → Int) (p s : Nat) : Prop := F 24 s = F p 0 ∧ F 25 s = F p 1 ∧ F 27 s = F p 2 ∧ (∀ j, j < 3 → F 26 (3 * s + j) = F (p + 1) j) ∧ (∀ j, j < 6 → F 28 (6 * s + j) = F (p + 2) j ∧ F 29 (6 * s + j) = F (p + 3) j ∧ F 30 (6 * s + j) = F (p + 4) j) ∧ (∀ o k t, o < 4 → k < 3 → t < 40 → F 31 (480 * s + (40 * (3 * o + k) + t)) = F (p + 5) ((k * 4 + o) * 40 + t)) ∧ ∀ o t, o < 6 → t < 40 → F 32 (240 * s + (40 * o + t)) = F (p + 6) (o * 40 + t)
theorem rl_rate {F : Nat → Nat → Int} (h : rl F 1 0) {j : Nat} (hj : j < 3) : F 26 j = F 2 j := by have := h.2.2.2.1 j hj; rw [Nat.mul_zero, Nat.zero_add] at this; exact this
theorem rl_off {F : Nat → Nat → Int} (h : rl F 1 0) {j : Nat} (hj : j < 6) : F 28 j = F 3 j ∧ F 29 j = F 4 j ∧ F 30 j = F 5 j := by have := h.2.2.2.2.1 j hj; rw [Nat.mul_zero, Nat.zero_add] at this; exact this
theorem rl_need {F : Nat → Nat → Int} (h : rl F 1 0) {o k t : Nat} (ho : o < 4) (hk : k < 3) (ht : t < 40) : F 31 (40 * (3 * o + k) + t) = fnd F k t o := by have := h.2.2.2.2.2.1 o k t ho hk ht; rw [Nat.mul_zero, Nat.zero_add] at this; exact this
theorem rl_bt {F : Nat → Nat → Int} (h : rl F 1 0) {o t : Nat} (ho : o < 6) (ht : t < 40) : F 32 (40 * o + t) = bt F o t := by have := h.2.2.2.2.2.2 o t ho ht; rw [Nat.mul_zero, Nat.zero_add] at this; exact this
section REF1
variable {l : Launch} {g : zG} {F : Nat → Nat → Int} {L : Nat → Int} {im : Nat → Option Nat} {c : Nat}
theorem m_in {h : List va_E} {a b e : Int} (ha : ir a) (hb : ir b) (he : ir e) : zM l g yX5_in cX5_in 3 (some .boolean) 0 0 0 [.int (iz a), .int (iz b), .int (iz e)] (h) (fun r h2 => r = some (.int (iz (if b ≤ a ∧ a ≤ e then 1 else 0))) ∧ h2 = h) := by
  refine zM_of 0 (by decide) rfl ?_
  show zJ l g RX5 cX5_in 3 (some .boolean) "in" (zRm 0 0 0) 0 0 _ 0 0 0 [some (.int (iz a)), some (.int (iz b)), some (.int (iz e))] [] _
  refine z_iload_n (pc := 0) rfl dX5_in_0 ?_
  refine z_iload_n (pc := 1) rfl dX5_in_1 ?_
  refine z_icmp_lt (pc := 2) ha hb 14 (by decide) dX5_in_2 (fun hq => ?_) (fun hq => ?_)
  · rw [if_neg (by omega)]
    refine z_iconst (pc := 14) dX5_in_14 ?_
    exact z_retz (pc := 15) rfl (Or.inl rfl) (by decide) (by decide) dX5_in_15 ⟨rfl, rfl⟩
  refine z_iload_n (pc := 5) rfl dX5_in_5 ?_
  refine z_iload_n (pc := 6) rfl dX5_in_6 ?_
  refine z_icmp_gt (pc := 7) ha he 14 (by decide) dX5_in_7 (fun hq => ?_) (fun hq => ?_)
  · rw [if_neg (by omega)]
    refine z_iconst (pc := 14) dX5_in_14 ?_
    exact z_retz (pc := 15) rfl (Or.inl rfl) (by decide) (by decide) dX5_in_15 ⟨rfl, rfl⟩
  rw [if_pos (by omega)]
  refine z_iconst (pc := 10) dX5_in_10 ?_
  refine z_goto (pc := 11) 15 (by decide) dX5_in_11 ?_
  exact z_retz (pc := 15) rfl (Or.inr rfl) (by decide) (by decide) dX5_in_15 ⟨rfl, rfl⟩
theorem m_cell {h : List va_E} {a b e : Int} : zM l g yX5_cell cX5_cell 3 (some .int) 0 0 0 [.int (iz a), .int (iz b), .int (iz e)] (h) (fun r h2 => r = some (.int (iz (40 * (3 * a + b) + e))) ∧ h2 = h) := by
  refine zM_of 0 (by decide) rfl ?_
  show zJ l g RX5 cX5_cell 3 (some .int) "cell" (zRm 0 0 0) 0 0 _ 0 0 0 [some (.int (iz a)), some (.int (iz b)), some (.int (iz e))] [] _
  refine z_bipush (pc := 0) (by decide) dX5_cell_0 ?_
  refine z_iconst (pc := 2) dX5_cell_2 ?_
  refine z_iload_n (pc := 3) rfl dX5_cell_3 ?_
  refine z_imul (pc := 4) dX5_cell_4 ?_
  refine z_iload_n (pc := 5) rfl dX5_cell_5 ?_
  refine z_iadd (pc := 6) dX5_cell_6 ?_
  refine z_imul (pc := 7) dX5_cell_7 ?_
  refine z_iload_n (pc := 8) rfl dX5_cell_8 ?_
  refine z_iadd (pc := 9) dX5_cell_9 ?_
  exact z_reti (pc := 10) rfl (by decide) (by decide) dX5_cell_10 ⟨rfl, rfl⟩
theorem m_isKind (B : bi F 1) (hr : rl F 1 0) {z : Int} (hz : ir z) : zM l g yX5_isKind cX5_isKind 2 (some .boolean) 1 0 0 [.ref (g.2.1 + 23), .int (iz z)] (zk g F L im c) (fun r h => r = some (.int (iz (if 0 ≤ z ∧ z < F 1 1 then 1 else 0))) ∧ h = zk g F L im c) := by
  refine zM_of 0 (by decide) rfl ?_
  show zJ l g RX5 cX5_isKind 2 (some .boolean) "isKind" (zRm 1 0 0) 0 0 _ 0 0 0 [some (.ref (g.2.1 + 23)), some (.int (iz z))] [] _
  have h1 := bi_hours B
  have h2 := bi_kinds B
  have h3 := bi_offers B
  have e : F 25 0 = F 1 1 := hr.2.1
  refine z_iload_n (pc := 0) rfl dX5_isKind_0 ?_
  refine z_iconst (pc := 1) dX5_isKind_1 ?_
  refine z_aload_n (pc := 2) rfl dX5_isKind_2 ?_
  refine zf_X5_13 (pc := 3) rfl rfl dX5_isKind_3 ?_
  refine z_iconst (pc := 6) dX5_isKind_6 ?_
  refine z_iald (pc := 7) rfl (by decide) (by omega) (by omega) dX5_isKind_7 ?_
  rw [show F 25 (0 : Int).toNat = F 1 1 from e]
  refine z_iconst (pc := 8) dX5_isKind_8 ?_
  refine z_isub (pc := 9) dX5_isKind_9 ?_
  refine z_S3 (pc := 10) (m_in (a := z) (b := 0) (e := F 1 1 - 1) hz ⟨by omega, by omega⟩ ⟨by omega, by omega⟩) lk_X5_80 st_X5_in ⟨by decide, by decide⟩ (Nat.le_of_ble_eq_true rfl) ⟨by decide, by decide⟩ dX5_isKind_10 (fun r h9 hq => ?_)
  obtain ⟨rfl, e9⟩ := hq
  rw [e9]
  clear e9 h9
  refine z_r1 ?_
  have e2 : (if 0 ≤ z ∧ z ≤ F 1 1 - 1 then (1 : Int) else 0) = if 0 ≤ z ∧ z < F 1 1 then 1 else 0 := by
    by_cases hc : 0 ≤ z ∧ z < F 1 1
    · rw [if_pos hc, if_pos (by omega)]
    · rw [if_neg hc, if_neg (by omega)]
  rw [e2]
  exact z_retz (pc := 13) rfl (by split <;> simp) (by decide) (by decide) dX5_isKind_13 ⟨rfl, rfl⟩
theorem m_isHour (B : bi F 1) (hr : rl F 1 0) {z : Int} (hz : ir z) : zM l g yX5_isHour cX5_isHour 2 (some .boolean) 1 0 0 [.ref (g.2.1 + 23), .int (iz z)] (zk g F L im c) (fun r h => r = some (.int (iz (if 0 ≤ z ∧ z < F 1 0 then 1 else 0))) ∧ h = zk g F L im c) := by
  refine zM_of 0 (by decide) rfl ?_
  show zJ l g RX5 cX5_isHour 2 (some .boolean) "isHour" (zRm 1 0 0) 0 0 _ 0 0 0 [some (.ref (g.2.1 + 23)), some (.int (iz z))] [] _
  have h1 := bi_hours B
  have h2 := bi_kinds B
  have h3 := bi_offers B
  have e : F 24 0 = F 1 0 := hr.1
  refine z_iload_n (pc := 0) rfl dX5_isHour_0 ?_
  refine z_iconst (pc := 1) dX5_isHour_1 ?_
  refine z_aload_n (pc := 2) rfl dX5_isHour_2 ?_
  refine zf_X5_7 (pc := 3) rfl rfl dX5_isHour_3 ?_
  refine z_iconst (pc := 6) dX5_isHour_6 ?_
  refine z_iald (pc := 7) rfl (by decide) (by omega) (by omega) dX5_isHour_7 ?_
  rw [show F 24 (0 : Int).toNat = F 1 0 from e]
  refine z_iconst (pc := 8) dX5_isHour_8 ?_
  refine z_isub (pc := 9) dX5_isHour_9 ?_
  refine z_S3 (pc := 10) (m_in (a := z) (b := 0) (e := F 1 0 - 1) hz ⟨by omega, by omega⟩ ⟨by omega, by omega⟩) lk_X5_80 st_X5_in ⟨by decide, by decide⟩ (Nat.le_of_ble_eq_true rfl) ⟨by decide, by decide⟩ dX5_isHour_10 (fun r h9 hq => ?_)
  obtain ⟨rfl, e9⟩ := hq
  rw [e9]
  clear e9 h9
  refine z_r1 ?_
  have e2 : (if 0 ≤ z ∧ z ≤ F 1 0 - 1 then (1 : Int) else 0) = if 0 ≤ z ∧ z < F 1 0 then 1 else 0 := by
    by_cases hc : 0 ≤ z ∧ z < F 1 0
    · rw [if_pos hc, if_pos (by omega)]
    · rw [if_neg hc, if_neg (by omega)]
  rw [e2]
  exact z_retz (pc := 13) rfl (by split <;> simp) (by decide) (by decide) dX5_isHour_13 ⟨rfl, rfl⟩
theorem m_isOffer (B : bi F 1) (hr : rl F 1 0) {z : Int} (hz : ir z) : zM l g yX5_isOffer cX5_isOffer 2 (some .boolean) 1 0 0 [.ref (g.2.1 + 23), .int (iz z)] (zk g F L im c) (fun r h => r = some (.int (iz (if 0 ≤ z ∧ z < F 1 2 then 1 else 0))) ∧ h = zk g F L im c) := by
  refine zM_of 0 (by decide) rfl ?_
  show zJ l g RX5 cX5_isOffer 2 (some .boolean) "isOffer" (zRm 1 0 0) 0 0 _ 0 0 0 [some (.ref (g.2.1 + 23)), some (.int (iz z))] [] _
  have h1 := bi_hours B
  have h2 := bi_kinds B
  have h3 := bi_offers B
  have e : F 27 0 = F 1 2 := hr.2.2.1
  refine z_iload_n (pc := 0) rfl dX5_isOffer_0 ?_
  refine z_iconst (pc := 1) dX5_isOffer_1 ?_
  refine z_aload_n (pc := 2) rfl dX5_isOffer_2 ?_
  refine zf_X5_19 (pc := 3) rfl rfl dX5_isOffer_3 ?_
  refine z_iconst (pc := 6) dX5_isOffer_6 ?_
  refine z_iald (pc := 7) rfl (by decide) (by omega) (by omega) dX5_isOffer_7 ?_
  rw [show F 27 (0 : Int).toNat = F 1 2 from e]
  refine z_iconst (pc := 8) dX5_isOffer_8 ?_
  refine z_isub (pc := 9) dX5_isOffer_9 ?_
  refine z_S3 (pc := 10) (m_in (a := z) (b := 0) (e := F 1 2 - 1) hz ⟨by omega, by omega⟩ ⟨by omega, by omega⟩) lk_X5_80 st_X5_in ⟨by decide, by decide⟩ (Nat.le_of_ble_eq_true rfl) ⟨by decide, by decide⟩ dX5_isOffer_10 (fun r h9 hq => ?_)
  obtain ⟨rfl, e9⟩ := hq
  rw [e9]
  clear e9 h9
  refine z_r1 ?_
  have e2 : (if 0 ≤ z ∧ z ≤ F 1 2 - 1 then (1 : Int) else 0) = if 0 ≤ z ∧ z < F 1 2 then 1 else 0 := by
    by_cases hc : 0 ≤ z ∧ z < F 1 2
    · rw [if_pos hc, if_pos (by omega)]
    · rw [if_neg hc, if_neg (by omega)]
  rw [e2]
  exact z_retz (pc := 13) rfl (by split <;> simp) (by decide) (by decide) dX5_isOffer_13 ⟨rfl, rfl⟩
theorem m_needOf (hr : rl F 1 0) {k t : Nat} (hk : k < 3) (ht : t < 40) : zM l g yX5_needOf cX5_needOf 5 (some .int) 1 0 0 [.ref (g.2.1 + 23), .int (iz k), .int (iz t)] (zk g F L im c) (fun r h => r = some (.int (iz (nda F k t))) ∧ h = zk g F L im c) := by
  refine zM_of 2 (by decide) rfl ?_
  show zJ l g RX5 cX5_needOf 5 (some .int) "needOf" (zRm 1 0 0) 0 0 _ 0 0 0 [some (.ref (g.2.1 + 23)), some (.int (iz k)), some (.int (iz t)), none, none] [] _
  have loop : ∀ (j o : Nat), o + j = 4 → zJ l g RX5 cX5_needOf 5 (some .int) "needOf" (zRm 1 0 0) 0 0 (fun r h => r = some (.int (iz (nda F k t))) ∧ h = zk g F L im c) 0 0 5 [some (.ref (g.2.1 + 23)), some (.int (iz k)), some (.int (iz t)), some (.int (iz (sm (fnd F k t) o))), some (.int (iz o))] [] (zk g F L im c) := by
    intro j
    induction j with
    | zero =>
      intro o ho
      refine z_iload (pc := 5) rfl dX5_needOf_5 ?_
      refine z_iconst (pc := 7) dX5_needOf_7 ?_
      refine z_icmp_ge (pc := 8) ⟨by omega, by omega⟩ ⟨by omega, by omega⟩ 32 (by decide) dX5_needOf_8 (fun hq => ?_) (fun hq => ?_)
      · refine z_iload_n (pc := 32) rfl dX5_needOf_32 ?_
        exact z_reti (pc := 33) rfl (by decide) (by decide) dX5_needOf_33 ⟨by rw [show o = 4 by omega]; rfl, rfl⟩
      omega
    | succ j ih =>
      intro o ho
      refine z_iload (pc := 5) rfl dX5_needOf_5 ?_
      refine z_iconst (pc := 7) dX5_needOf_7 ?_
      refine z_icmp_ge (pc := 8) ⟨by omega, by omega⟩ ⟨by omega, by omega⟩ 32 (by decide) dX5_needOf_8 (fun hq => ?_) (fun hq => ?_)
      · omega
      refine z_iload_n (pc := 11) rfl dX5_needOf_11 ?_
      refine z_aload_n (pc := 12) rfl dX5_needOf_12 ?_
      refine zf_X5_31 (pc := 13) rfl rfl dX5_needOf_13 ?_
      refine z_iload (pc := 16) rfl dX5_needOf_16 ?_
      refine z_iload_n (pc := 18) rfl dX5_needOf_18 ?_
      refine z_iload_n (pc := 19) rfl dX5_needOf_19 ?_
      refine z_S3 (pc := 20) (m_cell (a := o) (b := k) (e := t)) lk_X5_95 st_X5_cell ⟨by decide, by decide⟩ (Nat.le_of_ble_eq_true rfl) ⟨by decide, by decide⟩ dX5_needOf_20 (fun r h9 hq => ?_)
      obtain ⟨rfl, e9⟩ := hq
      rw [e9]
      clear e9 h9
      refine z_r1 ?_
      refine z_iald (pc := 23) rfl (by decide) (by omega) (by omega) dX5_needOf_23 ?_
      rw [show (40 * (3 * (o : Int) + k) + t).toNat = 40 * (3 * o + k) + t by omega, rl_need hr (by omega) hk ht]
      refine z_iadd (pc := 24) dX5_needOf_24 ?_
      refine z_is3 (pc := 25) (by decide) rfl dX5_needOf_25 ?_
      refine z_ii4 (pc := 26) (by decide) rfl dX5_needOf_26 ?_
      refine z_goto (pc := 29) 5 (by decide) dX5_needOf_29 ?_
      exact ih (o + 1) (by omega)
  refine z_iconst (pc := 0) dX5_needOf_0 ?_
  refine z_is3 (pc := 1) (by decide) rfl dX5_needOf_1 ?_
  refine z_iconst (pc := 2) dX5_needOf_2 ?_
  refine z_is4 (pc := 3) (by decide) rfl dX5_needOf_3 ?_
  exact loop 4 0 rfl
theorem m_shorter {a b : Nat} {v : Int} (ha : a ≤ 40) (hb : b ≤ 40) (hv : ir v) (hw : ir (F 33 (41 * a + b))) : zM l g yX5_shorter cX5_shorter 4 none 0 0 0 [.ref (g.2.1 + 23), .int (iz a), .int (iz b), .int (iz v)] (zk g F L im c) (fun r h => r = none ∧ h = zk g (va_up F 33 (vf_upd (F 33) (41 * a + b) (min v (F 33 (41 * a + b))))) L im c) := by
  refine zM_of 0 (by decide) rfl ?_
  show zJ l g RX5 cX5_shorter 4 none "shorter" (zRm 0 0 0) 0 0 _ 0 0 0 [some (.ref (g.2.1 + 23)), some (.int (iz a)), some (.int (iz b)), some (.int (iz v))] [] _
  have e : (41 * (a : Int) + b).toNat = 41 * a + b := by omega
  refine z_aload_n (pc := 0) rfl dX5_shorter_0 ?_
  refine zf_X5_37 (pc := 1) rfl rfl dX5_shorter_1 ?_
  refine z_bipush (pc := 4) (by decide) dX5_shorter_4 ?_
  refine z_iload_n (pc := 6) rfl dX5_shorter_6 ?_
  refine z_imul (pc := 7) dX5_shorter_7 ?_
  refine z_iload_n (pc := 8) rfl dX5_shorter_8 ?_
  refine z_iadd (pc := 9) dX5_shorter_9 ?_
  refine z_iload_n (pc := 10) rfl dX5_shorter_10 ?_
  refine z_aload_n (pc := 11) rfl dX5_shorter_11 ?_
  refine zf_X5_37 (pc := 12) rfl rfl dX5_shorter_12 ?_
  refine z_bipush (pc := 15) (by decide) dX5_shorter_15 ?_
  refine z_iload_n (pc := 17) rfl dX5_shorter_17 ?_
  refine z_imul (pc := 18) dX5_shorter_18 ?_
  refine z_iload_n (pc := 19) rfl dX5_shorter_19 ?_
  refine z_iadd (pc := 20) dX5_shorter_20 ?_
  refine z_iald (pc := 21) rfl (by decide) (by omega) (by omega) dX5_shorter_21 ?_
  rw [e]
  refine z_icmp_ge (pc := 22) hv hw 29 (by decide) dX5_shorter_22 (fun hq => ?_) (fun hq => ?_)
  · refine z_aload_n (pc := 29) rfl dX5_shorter_29 ?_
    refine zf_X5_37 (pc := 30) rfl rfl dX5_shorter_30 ?_
    refine z_bipush (pc := 33) (by decide) dX5_shorter_33 ?_
    refine z_iload_n (pc := 35) rfl dX5_shorter_35 ?_
    refine z_imul (pc := 36) dX5_shorter_36 ?_
    refine z_iload_n (pc := 37) rfl dX5_shorter_37 ?_
    refine z_iadd (pc := 38) dX5_shorter_38 ?_
    refine z_iald (pc := 39) rfl (by decide) (by omega) (by omega) dX5_shorter_39 ?_
    rw [e]
    refine z_iast (pc := 40) rfl (by decide) (by omega) (by omega) dX5_shorter_40 ?_
    refine z_hp zs_33 ?_
    rw [e]
    exact z_retv (pc := 41) rfl (by decide) (by decide) dX5_shorter_41 ⟨rfl, by rw [show min v (F 33 (41 * a + b)) = F 33 (41 * a + b) by omega]⟩
  refine z_iload_n (pc := 25) rfl dX5_shorter_25 ?_
  refine z_goto (pc := 26) 40 (by decide) dX5_shorter_26 ?_
  refine z_iast (pc := 40) rfl (by decide) (by omega) (by omega) dX5_shorter_40 ?_
  refine z_hp zs_33 ?_
  rw [e]
  exact z_retv (pc := 41) rfl (by decide) (by decide) dX5_shorter_41 ⟨rfl, by rw [show min v (F 33 (41 * a + b)) = v by omega]⟩
end REF1
