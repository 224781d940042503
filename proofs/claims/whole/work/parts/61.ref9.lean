/-! ===== the reference: best, price, more, tell, about ===== -/
theorem nd2_0 {F : Nat → Nat → Int} (B : bi F 1) (k t : Nat) : nd2 F k (-1) 0 t = nda F k t := by
  have := nda_bd B k t
  unfold nd2
  split <;> omega
theorem nd2_d {F : Nat → Nat → Int} (B : bi F 1) (k : Nat) (w : Nat → Int) (n : Nat) : dv (nd2 F k (-1) 0) w n = dv (nda F k) w n := sm_cong (fun t _ => by rw [nd2_0 B k t])
theorem optV_d {P : (Nat → Int) → Prop} {d d2 : Nat → Int} {n : Nat} {V : Int} (h : ∀ w, dv d w n = dv d2 w n) (hO : optV P d n V) : optV P d2 n V := ⟨by obtain ⟨w, a, b⟩ := hO.1; exact ⟨w, a, by rw [← h]; exact b⟩, fun w hw => by rw [← h]; exact hO.2 w hw⟩
theorem topP_d {P : (Nat → Int) → Prop} {d d2 : Nat → Int} {n : Nat} {V : Int} {p : Nat → Int} (h : ∀ w, dv d w n = dv d2 w n) (hO : topP P d n V p) : topP P d2 n V p := ⟨hO.1, hO.2.1, by rw [← h]; exact hO.2.2.1, fun w a b e => hO.2.2.2 w a b (by rw [h]; exact e)⟩
/-- the rows that a search may leave changed -/
def sameM (F F' : Nat → Nat → Int) : Prop := ∀ q, q < 33 ∨ 38 < q → F' q = F q
theorem sameM_Gs (F : Nat → Nat → Int) (u s lf f far fr : Nat → Int) : sameM F (Gs F u s lf f far fr) := fun q hq => by unfold Gs; rw [if_neg (by omega), if_neg (by omega), if_neg (by omega), if_neg (by omega), if_neg (by omega), if_neg (by omega)]
section REF9
variable {l : Launch} {g : zG} {F : Nat → Nat → Int} {L : Nat → Int} {im : Nat → Option Nat} {c : Nat}
theorem m_best (B : bi F 1) (hr : rl F 1 0) (h23 : F 23 0 = 0) {z : Int} (hz : ir z) : zM l g yX5_best cX5_best 2 (some .long) 4 0 0 [.ref (g.2.1 + 23), .int (iz z)] (zk g F L im c) (fun r h => ∃ (V : Int) (F' : Nat → Nat → Int), r = some (.long (lz V)) ∧ h = zk g F' L im c ∧ sameM F F' ∧ ((0 ≤ z ∧ z < F 1 1 ∧ optV (wPF F z.toNat) (nda F z.toNat) (F 1 0).toNat V) ∨ (¬ (0 ≤ z ∧ z < F 1 1) ∧ V = -1))) := by
  refine zM_of 0 (by decide) rfl ?_
  show zJ l g RX5 cX5_best 2 (some .long) "best" (zRm 4 0 0) 0 0 _ 0 0 0 [some (.ref (g.2.1 + 23)), some (.int (iz z))] [] _
  have b2 := bi_kinds B
  refine z_aload_n (pc := 0) rfl dX5_best_0 ?_
  refine z_iconst (pc := 1) dX5_best_1 ?_
  refine zp_X5_72 (pc := 2) rfl (Nat.le_of_ble_eq_true rfl) dX5_best_2 ?_
  refine z_hp (show _ = zk g F L im c from zs_23_0.trans (congrArg (fun f => zk g f L im c) (up23 h23))) ?_
  refine z_aload_n (pc := 5) rfl dX5_best_5 ?_
  refine z_iload_n (pc := 6) rfl dX5_best_6 ?_
  refine z_V1 (pc := 7) (m_isKind B hr hz) lk_X5_84 iv_X5_isKind rfl rfl ⟨by decide, by decide⟩ (Nat.le_of_ble_eq_true rfl) ⟨by decide, by decide⟩ dX5_best_7 (fun r h9 hq => ?_)
  obtain ⟨rfl, e9⟩ := hq
  rw [e9]
  clear e9 h9
  refine z_r1 ?_
  by_cases hc : 0 ≤ z ∧ z < F 1 1
  · rw [if_pos hc]
    obtain ⟨k, rfl⟩ := Int.eq_ofNat_of_zero_le hc.1
    refine z_if_eq (pc := 10) ⟨by omega, by omega⟩ 23 (by decide) dX5_best_10 (fun hq => ?_) (fun hq => ?_)
    · omega
    refine z_aload_n (pc := 13) rfl dX5_best_13 ?_
    refine z_iload_n (pc := 14) rfl dX5_best_14 ?_
    refine z_iconst (pc := 15) dX5_best_15 ?_
    refine z_iconst (pc := 16) dX5_best_16 ?_
    refine z_V3 (pc := 17) (m_bestOf B hr (k := k) (by omega) hc.2 (hour := -1) (more := 0) ⟨by omega, by omega⟩ (by omega)) lk_X5_140 iv_X5_bestOf rfl rfl ⟨by decide, by decide⟩ (Nat.le_of_ble_eq_true rfl) ⟨by decide, by decide⟩ dX5_best_17 (fun r h9 hq => ?_)
    obtain ⟨u, s, lf, f, far, fr, φ, rfl, e8, hO⟩ := hq
    rw [e8]
    clear e8 h9
    refine z_r1 ?_
    refine z_goto (pc := 20) 26 (by decide) dX5_best_20 ?_
    exact z_retl (pc := 26) rfl (by decide) (by decide) dX5_best_26 ⟨_, _, rfl, rfl, sameM_Gs F u s lf f far fr, Or.inl ⟨hc.1, hc.2, optV_d (nd2_d B k · _) (ref_opt B hO)⟩⟩
  · rw [if_neg hc]
    refine z_if_eq (pc := 10) ⟨by omega, by omega⟩ 23 (by decide) dX5_best_10 (fun hq => ?_) (fun hq => ?_)
    · refine z_ldc2 (pc := 23) kl_X5_120 dX5_best_23 ?_
      exact z_retl (pc := 26) rfl (by decide) (by decide) dX5_best_26 ⟨-1, F, rfl, rfl, fun _ _ => rfl, Or.inr ⟨hc, rfl⟩⟩
    omega
theorem m_price (B : bi F 1) (hr : rl F 1 0) (h23 : F 23 0 = 0) {z y : Int} (hz : ir z) (hy : ir y) : zM l g yX5_price cX5_price 5 (some .int) 4 0 0 [.ref (g.2.1 + 23), .int (iz z), .int (iz y)] (zk g F L im c) (fun r h => ∃ (v : Int) (F' : Nat → Nat → Int), r = some (.int (iz v)) ∧ h = zk g F' L im c ∧ sameM F F' ∧ ((0 ≤ z ∧ z < F 1 1 ∧ 0 ≤ y ∧ y < F 1 0 ∧ ∃ (V : Int) (p : Nat → Int), optV (wPF F z.toNat) (nda F z.toNat) (F 1 0).toNat V ∧ topP (wPF F z.toNat) (nda F z.toNat) (F 1 0).toNat V p ∧ v = p y.toNat - p (y.toNat + 1)) ∨ (¬ (0 ≤ z ∧ z < F 1 1 ∧ 0 ≤ y ∧ y < F 1 0) ∧ v = -1))) := by
  refine zM_of 2 (by decide) rfl ?_
  show zJ l g RX5 cX5_price 5 (some .int) "price" (zRm 4 0 0) 0 0 _ 0 0 0 [some (.ref (g.2.1 + 23)), some (.int (iz z)), some (.int (iz y)), none, none] [] _
  have b1 := bi_hours B
  have b2 := bi_kinds B
  have no : ¬ (0 ≤ z ∧ z < F 1 1 ∧ 0 ≤ y ∧ y < F 1 0) → zJ l g RX5 cX5_price 5 (some .int) "price" (zRm 4 0 0) 0 0 (fun r h => ∃ (v : Int) (F' : Nat → Nat → Int), r = some (.int (iz v)) ∧ h = zk g F' L im c ∧ sameM F F' ∧ ((0 ≤ z ∧ z < F 1 1 ∧ 0 ≤ y ∧ y < F 1 0 ∧ ∃ (V : Int) (p : Nat → Int), optV (wPF F z.toNat) (nda F z.toNat) (F 1 0).toNat V ∧ topP (wPF F z.toNat) (nda F z.toNat) (F 1 0).toNat V p ∧ v = p y.toNat - p (y.toNat + 1)) ∨ (¬ (0 ≤ z ∧ z < F 1 1 ∧ 0 ≤ y ∧ y < F 1 0) ∧ v = -1))) 0 0 21 [some (.ref (g.2.1 + 23)), some (.int (iz z)), some (.int (iz y)), none, none] [] (zk g F L im c) := by
    intro hno
    refine z_iconst (pc := 21) dX5_price_21 ?_
    exact z_reti (pc := 22) rfl (by decide) (by decide) dX5_price_22 ⟨-1, F, rfl, rfl, fun _ _ => rfl, Or.inr ⟨hno, rfl⟩⟩
  refine z_aload_n (pc := 0) rfl dX5_price_0 ?_
  refine z_iconst (pc := 1) dX5_price_1 ?_
  refine zp_X5_72 (pc := 2) rfl (Nat.le_of_ble_eq_true rfl) dX5_price_2 ?_
  refine z_hp (show _ = zk g F L im c from zs_23_0.trans (congrArg (fun f => zk g f L im c) (up23 h23))) ?_
  refine z_aload_n (pc := 5) rfl dX5_price_5 ?_
  refine z_iload_n (pc := 6) rfl dX5_price_6 ?_
  refine z_V1 (pc := 7) (m_isKind B hr hz) lk_X5_84 iv_X5_isKind rfl rfl ⟨by decide, by decide⟩ (Nat.le_of_ble_eq_true rfl) ⟨by decide, by decide⟩ dX5_price_7 (fun r h9 hq => ?_)
  obtain ⟨rfl, e9⟩ := hq
  rw [e9]
  clear e9 h9
  refine z_r1 ?_
  by_cases hc : 0 ≤ z ∧ z < F 1 1
  rotate_left
  · rw [if_neg hc]
    refine z_if_eq (pc := 10) ⟨by omega, by omega⟩ 21 (by decide) dX5_price_10 (fun hq => ?_) (fun hq => ?_)
    · exact no (by omega)
    omega
  rw [if_pos hc]
  refine z_if_eq (pc := 10) ⟨by omega, by omega⟩ 21 (by decide) dX5_price_10 (fun hq => ?_) (fun hq => ?_)
  · omega
  refine z_aload_n (pc := 13) rfl dX5_price_13 ?_
  refine z_iload_n (pc := 14) rfl dX5_price_14 ?_
  refine z_V1 (pc := 15) (m_isHour B hr hy) lk_X5_92 iv_X5_isHour rfl rfl ⟨by decide, by decide⟩ (Nat.le_of_ble_eq_true rfl) ⟨by decide, by decide⟩ dX5_price_15 (fun r h9 hq => ?_)
  obtain ⟨rfl, e9⟩ := hq
  rw [e9]
  clear e9 h9
  refine z_r1 ?_
  by_cases hc2 : 0 ≤ y ∧ y < F 1 0
  rotate_left
  · rw [if_neg hc2]
    refine z_if_ne (pc := 18) ⟨by omega, by omega⟩ 23 (by decide) dX5_price_18 (fun hq => ?_) (fun hq => ?_)
    · omega
    exact no (by omega)
  rw [if_pos hc2]
  refine z_if_ne (pc := 18) ⟨by omega, by omega⟩ 23 (by decide) dX5_price_18 (fun hq => ?_) (fun hq => ?_)
  rotate_left
  · omega
  obtain ⟨k, rfl⟩ := Int.eq_ofNat_of_zero_le hc.1
  obtain ⟨t, rfl⟩ := Int.eq_ofNat_of_zero_le hc2.1
  refine z_aload_n (pc := 23) rfl dX5_price_23 ?_
  refine z_iload_n (pc := 24) rfl dX5_price_24 ?_
  refine z_iconst (pc := 25) dX5_price_25 ?_
  refine z_iconst (pc := 26) dX5_price_26 ?_
  refine z_V3 (pc := 27) (m_bestOf B hr (k := k) (by omega) hc.2 (hour := -1) (more := 0) ⟨by omega, by omega⟩ (by omega)) lk_X5_140 iv_X5_bestOf rfl rfl ⟨by decide, by decide⟩ (Nat.le_of_ble_eq_true rfl) ⟨by decide, by decide⟩ dX5_price_27 (fun r h9 hq => ?_)
  obtain ⟨u, s, lf, f, far, fr, φ, rfl, e8, hO⟩ := hq
  rw [e8]
  clear e8 h9
  refine z_r1 ?_
  have Bg : bi (Gs F u s lf f far fr) 1 := bi_cong (fun q hq => sameM_Gs F u s lf f far fr q (by omega)) B
  refine z_ls3 (pc := 30) (by decide) rfl dX5_price_30 ?_
  refine z_aload_n (pc := 31) rfl dX5_price_31 ?_
  refine z_V0 (pc := 32) (m_findPrices (F := Gs F u s lf f far fr) Bg hr (k := k) (d := nd2 F k (-1) 0) (s := s) (φ := φ) hO) lk_X5_144 iv_X5_findPrices rfl rfl ⟨by decide, by decide⟩ (Nat.le_of_ble_eq_true rfl) ⟨by decide, by decide⟩ dX5_price_32 (fun r h9 hq => ?_)
  obtain ⟨rfl, far2, e8, hT⟩ := hq
  rw [e8]
  clear e8 h9
  refine z_r0 ?_
  refine z_aload_n (pc := 35) rfl dX5_price_35 ?_
  refine zf_X5_49 (pc := 36) rfl rfl dX5_price_36 ?_
  refine z_iload_n (pc := 39) rfl dX5_price_39 ?_
  refine z_iald (pc := 40) rfl (by decide) (by omega) (by omega) dX5_price_40 ?_
  refine z_aload_n (pc := 41) rfl dX5_price_41 ?_
  refine zf_X5_49 (pc := 42) rfl rfl dX5_price_42 ?_
  refine z_iload_n (pc := 45) rfl dX5_price_45 ?_
  refine z_iconst (pc := 46) dX5_price_46 ?_
  refine z_iadd (pc := 47) dX5_price_47 ?_
  refine z_iald (pc := 48) rfl (by decide) (by omega) (by omega) dX5_price_48 ?_
  refine z_isub (pc := 49) dX5_price_49 ?_
  rw [Int.toNat_natCast, show ((t : Int) + 1).toNat = t + 1 by omega]
  refine z_reti (pc := 50) rfl (by decide) (by decide) dX5_price_50 ⟨_, _, rfl, rfl, fun q hq => ?_, Or.inl ⟨hc.1, hc.2, hc2.1, hc2.2, sm (fun j => f j * u j) 1681, far2, optV_d (nd2_d B k · _) (ref_opt B hO), topP_d (nd2_d B k · _) hT, rfl⟩⟩
  unfold va_up
  rw [if_neg (by omega)]
  exact sameM_Gs F u s lf f far fr q hq
theorem m_more (B : bi F 1) (hr : rl F 1 0) (h23 : F 23 0 = 0) {z y x : Int} (hz : ir z) (hy : ir y) (hx : ir x) : zM l g yX5_more cX5_more 6 (some .int) 4 0 0 [.ref (g.2.1 + 23), .int (iz z), .int (iz y), .int (iz x)] (zk g F L im c) (fun r h => ∃ (v : Int) (F' : Nat → Nat → Int), r = some (.int (iz v)) ∧ h = zk g F' L im c ∧ sameM F F' ∧ ((0 ≤ z ∧ z < F 1 1 ∧ 0 ≤ y ∧ y < F 1 0 ∧ -60 ≤ x ∧ x ≤ 60 ∧ ∃ V V2 : Int, optV (wPF F z.toNat) (nda F z.toNat) (F 1 0).toNat V ∧ optV (wPF F z.toNat) (nd2 F z.toNat y x) (F 1 0).toNat V2 ∧ v = V2 - V) ∨ (¬ (0 ≤ z ∧ z < F 1 1 ∧ 0 ≤ y ∧ y < F 1 0 ∧ -60 ≤ x ∧ x ≤ 60) ∧ v = -1000000000))) := by
  refine zM_of 2 (by decide) rfl ?_
  show zJ l g RX5 cX5_more 6 (some .int) "more" (zRm 4 0 0) 0 0 _ 0 0 0 [some (.ref (g.2.1 + 23)), some (.int (iz z)), some (.int (iz y)), some (.int (iz x)), none, none] [] _
  have b1 := bi_hours B
  have b2 := bi_kinds B
  have no : ¬ (0 ≤ z ∧ z < F 1 1 ∧ 0 ≤ y ∧ y < F 1 0 ∧ -60 ≤ x ∧ x ≤ 60) → zJ l g RX5 cX5_more 6 (some .int) "more" (zRm 4 0 0) 0 0 (fun r h => ∃ (v : Int) (F' : Nat → Nat → Int), r = some (.int (iz v)) ∧ h = zk g F' L im c ∧ sameM F F' ∧ ((0 ≤ z ∧ z < F 1 1 ∧ 0 ≤ y ∧ y < F 1 0 ∧ -60 ≤ x ∧ x ≤ 60 ∧ ∃ V V2 : Int, optV (wPF F z.toNat) (nda F z.toNat) (F 1 0).toNat V ∧ optV (wPF F z.toNat) (nd2 F z.toNat y x) (F 1 0).toNat V2 ∧ v = V2 - V) ∨ (¬ (0 ≤ z ∧ z < F 1 1 ∧ 0 ≤ y ∧ y < F 1 0 ∧ -60 ≤ x ∧ x ≤ 60) ∧ v = -1000000000))) 0 0 32 [some (.ref (g.2.1 + 23)), some (.int (iz z)), some (.int (iz y)), some (.int (iz x)), none, none] [] (zk g F L im c) := by
    intro hno
    refine z_ldc (pc := 32) kc_X5_147 dX5_more_32 ?_
    exact z_reti (pc := 34) rfl (by decide) (by decide) dX5_more_34 ⟨-1000000000, F, rfl, rfl, fun _ _ => rfl, Or.inr ⟨hno, rfl⟩⟩
  refine z_aload_n (pc := 0) rfl dX5_more_0 ?_
  refine z_iconst (pc := 1) dX5_more_1 ?_
  refine zp_X5_72 (pc := 2) rfl (Nat.le_of_ble_eq_true rfl) dX5_more_2 ?_
  refine z_hp (show _ = zk g F L im c from zs_23_0.trans (congrArg (fun f => zk g f L im c) (up23 h23))) ?_
  refine z_aload_n (pc := 5) rfl dX5_more_5 ?_
  refine z_iload_n (pc := 6) rfl dX5_more_6 ?_
  refine z_V1 (pc := 7) (m_isKind B hr hz) lk_X5_84 iv_X5_isKind rfl rfl ⟨by decide, by decide⟩ (Nat.le_of_ble_eq_true rfl) ⟨by decide, by decide⟩ dX5_more_7 (fun r h9 hq => ?_)
  obtain ⟨rfl, e9⟩ := hq
  rw [e9]
  clear e9 h9
  refine z_r1 ?_
  by_cases hc : 0 ≤ z ∧ z < F 1 1
  rotate_left
  · rw [if_neg hc]
    refine z_if_eq (pc := 10) ⟨by omega, by omega⟩ 32 (by decide) dX5_more_10 (fun hq => ?_) (fun hq => ?_)
    · exact no (by omega)
    omega
  rw [if_pos hc]
  refine z_if_eq (pc := 10) ⟨by omega, by omega⟩ 32 (by decide) dX5_more_10 (fun hq => ?_) (fun hq => ?_)
  · omega
  refine z_aload_n (pc := 13) rfl dX5_more_13 ?_
  refine z_iload_n (pc := 14) rfl dX5_more_14 ?_
  refine z_V1 (pc := 15) (m_isHour B hr hy) lk_X5_92 iv_X5_isHour rfl rfl ⟨by decide, by decide⟩ (Nat.le_of_ble_eq_true rfl) ⟨by decide, by decide⟩ dX5_more_15 (fun r h9 hq => ?_)
  obtain ⟨rfl, e9⟩ := hq
  rw [e9]
  clear e9 h9
  refine z_r1 ?_
  by_cases hc2 : 0 ≤ y ∧ y < F 1 0
  rotate_left
  · rw [if_neg hc2]
    refine z_if_eq (pc := 18) ⟨by omega, by omega⟩ 32 (by decide) dX5_more_18 (fun hq => ?_) (fun hq => ?_)
    · exact no (by omega)
    omega
  rw [if_pos hc2]
  refine z_if_eq (pc := 18) ⟨by omega, by omega⟩ 32 (by decide) dX5_more_18 (fun hq => ?_) (fun hq => ?_)
  · omega
  refine z_iload_n (pc := 21) rfl dX5_more_21 ?_
  refine z_bipush (pc := 22) (by decide) dX5_more_22 ?_
  refine z_bipush (pc := 24) (by decide) dX5_more_24 ?_
  refine z_S3 (pc := 26) (m_in (a := x) (b := -60) (e := 60) hx ⟨by omega, by omega⟩ ⟨by omega, by omega⟩) lk_X5_80 st_X5_in ⟨by decide, by decide⟩ (Nat.le_of_ble_eq_true rfl) ⟨by decide, by decide⟩ dX5_more_26 (fun r h9 hq => ?_)
  obtain ⟨rfl, e9⟩ := hq
  rw [e9]
  clear e9 h9
  refine z_r1 ?_
  by_cases hc3 : -60 ≤ x ∧ x ≤ 60
  rotate_left
  · rw [if_neg hc3]
    refine z_if_ne (pc := 29) ⟨by omega, by omega⟩ 35 (by decide) dX5_more_29 (fun hq => ?_) (fun hq => ?_)
    · omega
    exact no (by omega)
  rw [if_pos hc3]
  refine z_if_ne (pc := 29) ⟨by omega, by omega⟩ 35 (by decide) dX5_more_29 (fun hq => ?_) (fun hq => ?_)
  rotate_left
  · omega
  obtain ⟨k, rfl⟩ := Int.eq_ofNat_of_zero_le hc.1
  refine z_aload_n (pc := 35) rfl dX5_more_35 ?_
  refine z_iload_n (pc := 36) rfl dX5_more_36 ?_
  refine z_iconst (pc := 37) dX5_more_37 ?_
  refine z_iconst (pc := 38) dX5_more_38 ?_
  refine z_V3 (pc := 39) (m_bestOf B hr (k := k) (by omega) hc.2 (hour := -1) (more := 0) ⟨by omega, by omega⟩ (by omega)) lk_X5_140 iv_X5_bestOf rfl rfl ⟨by decide, by decide⟩ (Nat.le_of_ble_eq_true rfl) ⟨by decide, by decide⟩ dX5_more_39 (fun r h9 hq => ?_)
  obtain ⟨u, s, lf, f, far, fr, φ, rfl, e8, hO⟩ := hq
  rw [e8]
  clear e8 h9
  refine z_r1 ?_
  have Bg : bi (Gs F u s lf f far fr) 1 := bi_cong (fun q hq => sameM_Gs F u s lf f far fr q (by omega)) B
  refine z_ls4 (pc := 42) (by decide) rfl dX5_more_42 ?_
  refine z_aload_n (pc := 44) rfl dX5_more_44 ?_
  refine z_iload_n (pc := 45) rfl dX5_more_45 ?_
  refine z_iload_n (pc := 46) rfl dX5_more_46 ?_
  refine z_iload_n (pc := 47) rfl dX5_more_47 ?_
  refine z_V3 (pc := 48) (m_bestOf (F := Gs F u s lf f far fr) Bg hr (k := k) (by omega) hc.2 (hour := y) (more := x) hy hc3) lk_X5_140 iv_X5_bestOf rfl rfl ⟨by decide, by decide⟩ (Nat.le_of_ble_eq_true rfl) ⟨by decide, by decide⟩ dX5_more_48 (fun r h9 hq => ?_)
  obtain ⟨u2, s2, lf2, f2, far2, fr2, φ2, rfl, e8, hO2⟩ := hq
  rw [e8]
  clear e8 h9
  refine z_r1 ?_
  refine z_lload (pc := 51) rfl dX5_more_51 ?_
  refine z_lsub (pc := 53) dX5_more_53 ?_
  refine z_l2i (pc := 54) dX5_more_54 ?_
  refine z_reti (pc := 55) rfl (by decide) (by decide) dX5_more_55 ⟨_, _, rfl, rfl, fun q hq => (sameM_Gs _ u2 s2 lf2 f2 far2 fr2 q hq).trans (sameM_Gs F u s lf f far fr q hq), Or.inl ⟨hc.1, hc.2, hc2.1, hc2.2, hc3.1, hc3.2, _, _, optV_d (nd2_d B k · _) (ref_opt B hO), ref_opt Bg hO2, rfl⟩⟩
theorem m_tell (B : bi F 1) (hr : rl F 1 0) (h23 : F 23 0 = 0) {z y x : Int} (hz : ir z) (hy : ir y) (hx : ir x) : zM l g yX5_tell cX5_tell 4 (some .int) 3 0 0 [.ref (g.2.1 + 23), .int (iz z), .int (iz y), .int (iz x)] (zk g F L im c) (fun r h => r = some (.int (iz (tlv F z y x))) ∧ h = zk g F L im c) := by
  refine zM_of 0 (by decide) rfl ?_
  show zJ l g RX5 cX5_tell 4 (some .int) "tell" (zRm 3 0 0) 0 0 _ 0 0 0 [some (.ref (g.2.1 + 23)), some (.int (iz z)), some (.int (iz y)), some (.int (iz x))] [] _
  have b1 := bi_hours B
  have b2 := bi_kinds B
  have b3 := bi_offers B
  unfold tlv
  refine z_aload_n (pc := 0) rfl dX5_tell_0 ?_
  refine z_iconst (pc := 1) dX5_tell_1 ?_
  refine zp_X5_72 (pc := 2) rfl (Nat.le_of_ble_eq_true rfl) dX5_tell_2 ?_
  refine z_hp (show _ = zk g F L im c from zs_23_0.trans (congrArg (fun f => zk g f L im c) (up23 h23))) ?_
  refine z_aload_n (pc := 5) rfl dX5_tell_5 ?_
  refine z_iload_n (pc := 6) rfl dX5_tell_6 ?_
  refine z_V1 (pc := 7) (m_isKind B hr hz) lk_X5_84 iv_X5_isKind rfl rfl ⟨by decide, by decide⟩ (Nat.le_of_ble_eq_true rfl) ⟨by decide, by decide⟩ dX5_tell_7 (fun r h9 hq => ?_)
  obtain ⟨rfl, e9⟩ := hq
  rw [e9]
  clear e9 h9
  refine z_r1 ?_
  by_cases hc : 0 ≤ z ∧ z < F 1 1
  rotate_left
  · rw [if_neg hc, if_neg (by omega)]
    refine z_if_eq (pc := 10) ⟨by omega, by omega⟩ 21 (by decide) dX5_tell_10 (fun hq => ?_) (fun hq => ?_)
    · refine z_iconst (pc := 21) dX5_tell_21 ?_
      exact z_reti (pc := 22) rfl (by decide) (by decide) dX5_tell_22 ⟨rfl, rfl⟩
    omega
  rw [if_pos hc]
  refine z_if_eq (pc := 10) ⟨by omega, by omega⟩ 21 (by decide) dX5_tell_10 (fun hq => ?_) (fun hq => ?_)
  · omega
  refine z_aload_n (pc := 13) rfl dX5_tell_13 ?_
  refine z_iload_n (pc := 14) rfl dX5_tell_14 ?_
  refine z_V1 (pc := 15) (m_isHour B hr hy) lk_X5_92 iv_X5_isHour rfl rfl ⟨by decide, by decide⟩ (Nat.le_of_ble_eq_true rfl) ⟨by decide, by decide⟩ dX5_tell_15 (fun r h9 hq => ?_)
  obtain ⟨rfl, e9⟩ := hq
  rw [e9]
  clear e9 h9
  refine z_r1 ?_
  by_cases hc2 : 0 ≤ y ∧ y < F 1 0
  rotate_left
  · rw [if_neg hc2, if_neg (by omega)]
    refine z_if_ne (pc := 18) ⟨by omega, by omega⟩ 23 (by decide) dX5_tell_18 (fun hq => ?_) (fun hq => ?_)
    · omega
    refine z_iconst (pc := 21) dX5_tell_21 ?_
    exact z_reti (pc := 22) rfl (by decide) (by decide) dX5_tell_22 ⟨rfl, rfl⟩
  rw [if_pos hc2, if_pos (by omega)]
  refine z_if_ne (pc := 18) ⟨by omega, by omega⟩ 23 (by decide) dX5_tell_18 (fun hq => ?_) (fun hq => ?_)
  rotate_left
  · omega
  obtain ⟨k, rfl⟩ := Int.eq_ofNat_of_zero_le hc.1
  obtain ⟨t, rfl⟩ := Int.eq_ofNat_of_zero_le hc2.1
  have hk : k < 3 := by omega
  have ht : t < 40 := by omega
  have q1 := nda_bd B k t
  have q2 := ahd_bd B ht k
  refine z_iload_n (pc := 23) rfl dX5_tell_23 ?_
  rw [Int.toNat_natCast, Int.toNat_natCast]
  by_cases x0 : x = 0
  · subst x0
    refine z_tsIn (pc := 24) (off := 32) 56 hx (by omega) (by omega) (by decide) (by decide) dX5_tell_24 ?_
    refine z_aload_n (pc := 56) rfl dX5_tell_56 ?_
    refine z_iload_n (pc := 57) rfl dX5_tell_57 ?_
    refine z_iload_n (pc := 58) rfl dX5_tell_58 ?_
    refine z_V2 (pc := 59) (m_needOf hr hk ht) lk_X5_103 iv_X5_needOf rfl rfl ⟨by decide, by decide⟩ (Nat.le_of_ble_eq_true rfl) ⟨by decide, by decide⟩ dX5_tell_59 (fun r h9 hq => ?_)
    obtain ⟨rfl, e9⟩ := hq
    rw [e9]
    clear e9 h9
    refine z_r1 ?_
    exact z_reti (pc := 62) rfl (by decide) (by decide) dX5_tell_62 ⟨rfl, rfl⟩
  rw [if_neg x0]
  by_cases x1 : x = 1
  · subst x1
    refine z_tsIn (pc := 24) (off := 39) 63 hx (by omega) (by omega) (by decide) (by decide) dX5_tell_24 ?_
    refine z_aload_n (pc := 63) rfl dX5_tell_63 ?_
    refine z_iload_n (pc := 64) rfl dX5_tell_64 ?_
    refine z_iload_n (pc := 65) rfl dX5_tell_65 ?_
    refine z_V2 (pc := 66) (m_aheadOf B hr hk ht) lk_X5_107 iv_X5_aheadOf rfl rfl ⟨by decide, by decide⟩ (Nat.le_of_ble_eq_true rfl) ⟨by decide, by decide⟩ dX5_tell_66 (fun r h9 hq => ?_)
    obtain ⟨rfl, e9⟩ := hq
    rw [e9]
    clear e9 h9
    refine z_r1 ?_
    exact z_reti (pc := 69) rfl (by decide) (by decide) dX5_tell_69 ⟨rfl, rfl⟩
  rw [if_neg x1]
  by_cases x2 : x = 2
  · subst x2
    refine z_tsIn (pc := 24) (off := 46) 70 hx (by omega) (by omega) (by decide) (by decide) dX5_tell_24 ?_
    refine z_aload_n (pc := 70) rfl dX5_tell_70 ?_
    refine z_iload_n (pc := 71) rfl dX5_tell_71 ?_
    refine z_iload_n (pc := 72) rfl dX5_tell_72 ?_
    refine z_V2 (pc := 73) (m_besideOf B hr hk ht) lk_X5_110 iv_X5_besideOf rfl rfl ⟨by decide, by decide⟩ (Nat.le_of_ble_eq_true rfl) ⟨by decide, by decide⟩ dX5_tell_73 (fun r h9 hq => ?_)
    obtain ⟨rfl, e9⟩ := hq
    rw [e9]
    clear e9 h9
    refine z_r1 ?_
    exact z_reti (pc := 76) rfl (by decide) (by decide) dX5_tell_76 ⟨rfl, rfl⟩
  rw [if_neg x2]
  by_cases x3 : x = 3
  · subst x3
    refine z_tsIn (pc := 24) (off := 53) 77 hx (by omega) (by omega) (by decide) (by decide) dX5_tell_24 ?_
    refine z_aload_n (pc := 77) rfl dX5_tell_77 ?_
    refine z_iload_n (pc := 78) rfl dX5_tell_78 ?_
    refine z_iload_n (pc := 79) rfl dX5_tell_79 ?_
    refine z_V2 (pc := 80) (m_besideOf B hr hk ht) lk_X5_110 iv_X5_besideOf rfl rfl ⟨by decide, by decide⟩ (Nat.le_of_ble_eq_true rfl) ⟨by decide, by decide⟩ dX5_tell_80 (fun r h9 hq => ?_)
    obtain ⟨rfl, e9⟩ := hq
    rw [e9]
    clear e9 h9
    refine z_r1 ?_
    refine z_aload_n (pc := 83) rfl dX5_tell_83 ?_
    refine z_iload_n (pc := 84) rfl dX5_tell_84 ?_
    refine z_iload_n (pc := 85) rfl dX5_tell_85 ?_
    refine z_V2 (pc := 86) (m_aheadOf B hr hk ht) lk_X5_107 iv_X5_aheadOf rfl rfl ⟨by decide, by decide⟩ (Nat.le_of_ble_eq_true rfl) ⟨by decide, by decide⟩ dX5_tell_86 (fun r h9 hq => ?_)
    obtain ⟨rfl, e9⟩ := hq
    rw [e9]
    clear e9 h9
    refine z_r1 ?_
    refine z_iadd (pc := 89) dX5_tell_89 ?_
    refine z_aload_n (pc := 90) rfl dX5_tell_90 ?_
    refine z_iload_n (pc := 91) rfl dX5_tell_91 ?_
    refine z_iload_n (pc := 92) rfl dX5_tell_92 ?_
    refine z_V2 (pc := 93) (m_needOf hr hk ht) lk_X5_103 iv_X5_needOf rfl rfl ⟨by decide, by decide⟩ (Nat.le_of_ble_eq_true rfl) ⟨by decide, by decide⟩ dX5_tell_93 (fun r h9 hq => ?_)
    obtain ⟨rfl, e9⟩ := hq
    rw [e9]
    clear e9 h9
    refine z_r1 ?_
    refine z_isub (pc := 96) dX5_tell_96 ?_
    exact z_reti (pc := 97) rfl (by decide) (by decide) dX5_tell_97 ⟨by rw [if_pos rfl, show max 0 (ahd F k t - nda F k t) = nah F k t + ahd F k t - nda F k t by unfold nah; omega], rfl⟩
  rw [if_neg x3]
  refine z_tsOut (pc := 24) 98 hx (by omega) (by decide) dX5_tell_24 ?_
  refine z_iload_n (pc := 98) rfl dX5_tell_98 ?_
  refine z_bipush (pc := 99) (by decide) dX5_tell_99 ?_
  refine z_bipush (pc := 101) (by decide) dX5_tell_101 ?_
  refine z_S3 (pc := 103) (m_in (a := x) (b := 10) (e := 13) hx ⟨by omega, by omega⟩ ⟨by omega, by omega⟩) lk_X5_80 st_X5_in ⟨by decide, by decide⟩ (Nat.le_of_ble_eq_true rfl) ⟨by decide, by decide⟩ dX5_tell_103 (fun r h9 hq => ?_)
  obtain ⟨rfl, e9⟩ := hq
  rw [e9]
  clear e9 h9
  refine z_r1 ?_
  by_cases c4 : 10 ≤ x ∧ x ≤ 13
  · rw [if_pos c4, if_pos c4]
    refine z_if_eq (pc := 106) ⟨by omega, by omega⟩ 124 (by decide) dX5_tell_106 (fun hq => ?_) (fun hq => ?_)
    · omega
    refine z_aload_n (pc := 109) rfl dX5_tell_109 ?_
    refine zf_X5_31 (pc := 110) rfl rfl dX5_tell_110 ?_
    refine z_iload_n (pc := 113) rfl dX5_tell_113 ?_
    refine z_bipush (pc := 114) (by decide) dX5_tell_114 ?_
    refine z_isub (pc := 116) dX5_tell_116 ?_
    refine z_iload_n (pc := 117) rfl dX5_tell_117 ?_
    refine z_iload_n (pc := 118) rfl dX5_tell_118 ?_
    refine z_S3 (pc := 119) (m_cell (a := x - 10) (b := k) (e := t)) lk_X5_95 st_X5_cell ⟨by decide, by decide⟩ (Nat.le_of_ble_eq_true rfl) ⟨by decide, by decide⟩ dX5_tell_119 (fun r h9 hq => ?_)
    obtain ⟨rfl, e9⟩ := hq
    rw [e9]
    clear e9 h9
    refine z_r1 ?_
    refine z_iald (pc := 122) rfl (by decide) (by omega) (by omega) dX5_tell_122 ?_
    rw [show (40 * (3 * (x - 10) + (k : Int)) + t).toNat = 40 * (3 * (x - 10).toNat + k) + t by omega, rl_need hr (by omega) hk ht]
    exact z_reti (pc := 123) rfl (by decide) (by decide) dX5_tell_123 ⟨rfl, rfl⟩
  rw [if_neg c4, if_neg c4]
  refine z_if_eq (pc := 106) ⟨by omega, by omega⟩ 124 (by decide) dX5_tell_106 (fun hq => ?_) (fun hq => ?_)
  rotate_left
  · omega
  refine z_aload_n (pc := 124) rfl dX5_tell_124 ?_
  refine z_iload_n (pc := 125) rfl dX5_tell_125 ?_
  refine z_bipush (pc := 126) (by decide) dX5_tell_126 ?_
  refine z_isub (pc := 128) dX5_tell_128 ?_
  -- x - 20 as Java has it
  have hw : ∃ v : Int, iz (x - 20) = iz v ∧ ir v ∧ ((0 ≤ v ∧ v < F 1 2) ↔ (20 ≤ x ∧ x < 20 + F 1 2)) ∧ (0 ≤ v → v < F 1 2 → v = x - 20) := by
    by_cases hlow : -2147483648 ≤ x - 20
    · exact ⟨x - 20, rfl, ⟨by omega, by omega⟩, by omega, fun _ _ => rfl⟩
    · exact ⟨x - 20 + 4294967296, iz_wrap _, ⟨by omega, by omega⟩, by omega, fun _ _ => by omega⟩
  obtain ⟨v, v1, v2, v3, v4⟩ := hw
  refine z_top v1 ?_
  refine z_V1 (pc := 129) (m_isOffer B hr (z := v) v2) lk_X5_89 iv_X5_isOffer rfl rfl ⟨by decide, by decide⟩ (Nat.le_of_ble_eq_true rfl) ⟨by decide, by decide⟩ dX5_tell_129 (fun r h9 hq => ?_)
  obtain ⟨rfl, e9⟩ := hq
  rw [e9]
  clear e9 h9
  refine z_r1 ?_
  by_cases c5 : 0 ≤ v ∧ v < F 1 2
  rotate_left
  · rw [if_neg c5]
    refine z_if_eq (pc := 132) ⟨by omega, by omega⟩ 165 (by decide) dX5_tell_132 (fun hq => ?_) (fun hq => ?_)
    · rw [if_neg (fun h => c5 (v3.mpr ⟨h.1, h.2.1⟩))]
      refine z_iconst (pc := 165) dX5_tell_165 ?_
      exact z_reti (pc := 166) rfl (by decide) (by decide) dX5_tell_166 ⟨rfl, rfl⟩
    omega
  rw [if_pos c5]
  have c6 := v3.mp c5
  have ro := rl_off hr (j := (x - 20).toNat) (by omega)
  have c3 := bi_kindOf B (x - 20).toNat
  refine z_if_eq (pc := 132) ⟨by omega, by omega⟩ 165 (by decide) dX5_tell_132 (fun hq => ?_) (fun hq => ?_)
  · omega
  refine z_aload_n (pc := 135) rfl dX5_tell_135 ?_
  refine zf_X5_22 (pc := 136) rfl rfl dX5_tell_136 ?_
  refine z_iload_n (pc := 139) rfl dX5_tell_139 ?_
  refine z_bipush (pc := 140) (by decide) dX5_tell_140 ?_
  refine z_isub (pc := 142) dX5_tell_142 ?_
  refine z_iald (pc := 143) rfl (by decide) (by omega) (by omega) dX5_tell_143 ?_
  rw [ro.1]
  refine z_iload_n (pc := 144) rfl dX5_tell_144 ?_
  refine z_icmp_ne (pc := 145) ⟨by omega, by omega⟩ ⟨by omega, by omega⟩ 165 (by decide) dX5_tell_145 (fun hq => ?_) (fun hq => ?_)
  · rw [if_neg (fun h => by omega)]
    refine z_iconst (pc := 165) dX5_tell_165 ?_
    exact z_reti (pc := 166) rfl (by decide) (by decide) dX5_tell_166 ⟨rfl, rfl⟩
  rw [if_pos (by omega)]
  refine z_aload_n (pc := 148) rfl dX5_tell_148 ?_
  refine zf_X5_34 (pc := 149) rfl rfl dX5_tell_149 ?_
  refine z_bipush (pc := 152) (by decide) dX5_tell_152 ?_
  refine z_iload_n (pc := 154) rfl dX5_tell_154 ?_
  refine z_bipush (pc := 155) (by decide) dX5_tell_155 ?_
  refine z_isub (pc := 157) dX5_tell_157 ?_
  refine z_imul (pc := 158) dX5_tell_158 ?_
  refine z_iload_n (pc := 159) rfl dX5_tell_159 ?_
  refine z_iadd (pc := 160) dX5_tell_160 ?_
  refine z_iald (pc := 161) rfl (by decide) (by omega) (by omega) dX5_tell_161 ?_
  rw [show (40 * (x - 20) + (t : Int)).toNat = 40 * (x - 20).toNat + t by omega, rl_bt hr (by omega) ht]
  refine z_goto (pc := 162) 166 (by decide) dX5_tell_162 ?_
  exact z_reti (pc := 166) rfl (by decide) (by decide) dX5_tell_166 ⟨rfl, rfl⟩
end REF9
