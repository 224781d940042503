/-! ===== the class: shares ===== -/
abbrev Ss (F : Nat → Nat → Int) (a b e : Nat → Int) : Nat → Nat → Int := va_up (va_up (va_up F 20 a) 21 b) 22 e
theorem Ss20 (F : Nat → Nat → Int) (a b e f : Nat → Int) : va_up (Ss F a b e) 20 f = Ss F f b e := by
  funext q
  unfold Ss va_up
  by_cases h : q = 20
  · subst h; rfl
  · rw [if_neg h]
    by_cases h2 : q = 22
    · rw [if_pos h2, if_pos h2]
    · rw [if_neg h2, if_neg h2]
      by_cases h3 : q = 21
      · rw [if_pos h3, if_pos h3]
      · rw [if_neg h3, if_neg h3, if_neg h, if_neg h]
theorem Ss21 (F : Nat → Nat → Int) (a b e f : Nat → Int) : va_up (Ss F a b e) 21 f = Ss F a f e := by
  funext q
  unfold Ss va_up
  by_cases h : q = 21
  · subst h; rfl
  · rw [if_neg h]
    by_cases h2 : q = 22
    · rw [if_pos h2, if_pos h2]
    · rw [if_neg h2, if_neg h2, if_neg h, if_neg h]
theorem Ss_id (F : Nat → Nat → Int) : Ss F (F 20) (F 21) (F 22) = F := by
  show va_up (va_up (va_up F 20 (F 20)) 21 (F 21)) 22 (F 22) = F
  rw [up_id, up_id, up_id]
def ctw (H : Nat → Int) (C : Int) (x : Nat) : Int := if 0 < sm H 4 then C * H x / sm H 4 else 0
section SHARES
variable {l : Launch} {g : zG} {F : Nat → Nat → Int} {L : Nat → Int} {im : Nat → Option Nat} {c : Nat}
theorem c_firstWithMost {h : List va_E} {q : Nat} {f : Nat → Int} (he : h[q]? = some (zA g 4 f)) (hf : ∀ j, j < 4 → ir (f j)) : zM l g yX3_firstWithMost cX3_firstWithMost 3 (some .int) 0 0 0 [.ref (g.2.1 + q)] (h) (fun r h2 => r = some (.int (iz ((fw f 4 : Nat) : Int))) ∧ h2 = h) := by
  refine zM_of 2 (by decide) rfl ?_
  show zJ l g RX3 cX3_firstWithMost 3 (some .int) "firstWithMost" (zRm 0 0 0) 0 0 _ 0 0 0 [some (.ref (g.2.1 + q)), none, none] [] _
  have lp : ∀ (j x : Nat), x + j = 4 → 0 < x → zJ l g RX3 cX3_firstWithMost 3 (some .int) "firstWithMost" (zRm 0 0 0) 0 0 (fun r h2 => r = some (.int (iz ((fw f 4 : Nat) : Int))) ∧ h2 = h) 0 0 4 [some (.ref (g.2.1 + q)), some (.int (iz ((fw f x : Nat) : Int))), some (.int (iz x))] [] h := by
    intro j
    induction j with
    | zero =>
      intro x hx h0
      refine z_iload_n (pc := 4) rfl dX3_firstWithMost_4 ?_
      refine z_iconst (pc := 5) dX3_firstWithMost_5 ?_
      refine z_icmp_ge (pc := 6) ⟨by omega, by omega⟩ ⟨by omega, by omega⟩ 26 (by decide) dX3_firstWithMost_6 (fun hq => ?_) (fun hq => ?_)
      · refine z_iload_n (pc := 26) rfl dX3_firstWithMost_26 ?_
        exact z_reti (pc := 27) rfl (by decide) (by decide) dX3_firstWithMost_27 ⟨by rw [show x = 4 by omega], rfl⟩
      omega
    | succ j ih =>
      intro x hx h0
      have fl4 := fw_4 f (x := x) (by omega)
      refine z_iload_n (pc := 4) rfl dX3_firstWithMost_4 ?_
      refine z_iconst (pc := 5) dX3_firstWithMost_5 ?_
      refine z_icmp_ge (pc := 6) ⟨by omega, by omega⟩ ⟨by omega, by omega⟩ 26 (by decide) dX3_firstWithMost_6 (fun hq => ?_) (fun hq => ?_)
      · omega
      refine z_aload_n (pc := 9) rfl dX3_firstWithMost_9 ?_
      refine z_iload_n (pc := 10) rfl dX3_firstWithMost_10 ?_
      refine z_iald (pc := 11) he (by decide) (by omega) (by omega) dX3_firstWithMost_11 ?_
      refine z_aload_n (pc := 12) rfl dX3_firstWithMost_12 ?_
      refine z_iload_n (pc := 13) rfl dX3_firstWithMost_13 ?_
      refine z_iald (pc := 14) he (by decide) (by omega) (by omega) dX3_firstWithMost_14 ?_
      rw [Int.toNat_natCast, Int.toNat_natCast]
      refine z_icmp_le (pc := 15) (hf x (by omega)) (hf _ fl4) 20 (by decide) dX3_firstWithMost_15 (fun hq => ?_) (fun hq => ?_)
      · rw [← fw_lo f (n := x) (by omega)]
        refine z_ii2 (pc := 20) (by decide) rfl dX3_firstWithMost_20 ?_
        refine z_goto (pc := 23) 4 (by decide) dX3_firstWithMost_23 ?_
        exact ih (x + 1) (by omega) (by omega)
      · refine z_iload_n (pc := 18) rfl dX3_firstWithMost_18 ?_
        refine z_top (congrArg iz (show (x : Int) = ((fw f (x + 1) : Nat) : Int) by rw [fw_hi f (by omega)])) ?_
        refine z_is1 (pc := 19) (by decide) rfl dX3_firstWithMost_19 ?_
        refine z_ii2 (pc := 20) (by decide) rfl dX3_firstWithMost_20 ?_
        refine z_goto (pc := 23) 4 (by decide) dX3_firstWithMost_23 ?_
        exact ih (x + 1) (by omega) (by omega)
  refine z_iconst (pc := 0) dX3_firstWithMost_0 ?_
  refine z_is1 (pc := 1) (by decide) rfl dX3_firstWithMost_1 ?_
  refine z_iconst (pc := 2) dX3_firstWithMost_2 ?_
  refine z_is2 (pc := 3) (by decide) rfl dX3_firstWithMost_3 ?_
  have := lp 3 1 rfl (by decide)
  rw [show fw f 1 = 0 by unfold fw fw; split <;> rfl] at this
  exact this
theorem c_cut {h : List va_E} {C p T : Int} (h1 : 0 ≤ C ∧ C ≤ 1440000000) (h2 : 0 ≤ p ∧ p ≤ 1440) (h3 : 0 ≤ T ∧ T ≤ 100000) : zM l g yX3_cut cX3_cut 5 (some .long) 0 0 0 [.long (lz C), .int (iz p), .long (lz T)] (h) (fun r h2 => r = some (.long (lz (if 0 < T then C * p / T else 0))) ∧ h2 = h) := by
  refine zM_of 0 (by decide) rfl ?_
  show zJ l g RX3 cX3_cut 5 (some .long) "cut" (zRm 0 0 0) 0 0 _ 0 0 0 [some (.long (lz C)), none, some (.int (iz p)), some (.long (lz T)), none] [] _
  have h4 := mul_rg h1.1 h1.2 h2.1 h2.2
  refine z_lload_n (pc := 0) rfl dX3_cut_0 ?_
  refine z_lconst (pc := 1) (v := 0) (by decide) dX3_cut_1 ?_
  refine z_lcmp (pc := 2) ⟨by omega, by omega⟩ ⟨by omega, by omega⟩ dX3_cut_2 ?_
  by_cases hT : 0 < T
  · rw [if_pos hT, if_pos hT]
    refine z_if_le (pc := 3) ⟨by omega, by omega⟩ 15 (by decide) dX3_cut_3 (fun hq => ?_) (fun hq => ?_)
    · omega
    refine z_lload_n (pc := 6) rfl dX3_cut_6 ?_
    refine z_iload_n (pc := 7) rfl dX3_cut_7 ?_
    refine z_i2l (pc := 8) ⟨by omega, by omega⟩ dX3_cut_8 ?_
    refine z_lmul (pc := 9) dX3_cut_9 ?_
    refine z_lload_n (pc := 10) rfl dX3_cut_10 ?_
    refine z_ldiv (pc := 11) ⟨by omega, by omega⟩ h4.1 ⟨by omega, by omega⟩ hT dX3_cut_11 ?_
    refine z_goto (pc := 12) 16 (by decide) dX3_cut_12 ?_
    exact z_retl (pc := 16) rfl (by decide) (by decide) dX3_cut_16 ⟨rfl, rfl⟩
  · rw [if_neg hT, if_neg hT, if_pos (by omega)]
    refine z_if_le (pc := 3) ⟨by omega, by omega⟩ 15 (by decide) dX3_cut_3 (fun hq => ?_) (fun hq => ?_)
    rotate_left
    · omega
    refine z_lconst (pc := 15) (v := 0) (by decide) dX3_cut_15 ?_
    exact z_retl (pc := 16) rfl (by decide) (by decide) dX3_cut_16 ⟨rfl, rfl⟩
theorem c_partOf {o : Nat} {C : Int} (ho : o < 4) (hC : 0 ≤ C ∧ C ≤ 1440000000) (hH : ∀ x, x < 4 → 0 ≤ F 21 x ∧ F 21 x ≤ 360) : zM l g yX3_partOf cX3_partOf 9 (some .long) 1 0 0 [.ref (g.2.1 + 19), .long (lz C), .int (iz o)] (zk g F L im c) (fun r h => r = some (.long (lz (ctw (F 21) C o + (if o = fw (F 21) 4 then C - sm (ctw (F 21) C) 4 else 0)))) ∧ h = zk g F L im c) := by
  refine zM_of 5 (by decide) rfl ?_
  show zJ l g RX3 cX3_partOf 9 (some .long) "partOf" (zRm 1 0 0) 0 0 _ 0 0 0 [some (.ref (g.2.1 + 19)), some (.long (lz C)), none, some (.int (iz o)), none, none, none, none, none] [] _
  have sb := sm_bd (f := (F 21)) (a := 0) (b := 360) (n := 4) hH
  have h0 := hH o ho
  have lp2 : ∀ (j x : Nat), x + j = 4 → zJ l g RX3 cX3_partOf 9 (some .long) "partOf" (zRm 1 0 0) 0 0 (fun r h => r = some (.long (lz (ctw (F 21) C o + (if o = fw (F 21) 4 then C - sm (ctw (F 21) C) 4 else 0)))) ∧ h = zk g F L im c) 0 0 37 [some (.ref (g.2.1 + 19)), some (.long (lz C)), none, some (.int (iz o)), some (.long (lz (sm (F 21) 4))), none, some (.long (lz (C - sm (ctw (F 21) C) x))), none, some (.int (iz x))] [] (zk g F L im c) := by
    intro j
    induction j with
    | zero =>
      intro x hx
      have fl4 := fw_4 (F 21) (x := 4) (by omega)
      refine z_iload (pc := 37) rfl dX3_partOf_37 ?_
      refine z_iconst (pc := 39) dX3_partOf_39 ?_
      refine z_icmp_ge (pc := 40) ⟨by omega, by omega⟩ ⟨by omega, by omega⟩ 67 (by decide) dX3_partOf_40 (fun hq => ?_) (fun hq => ?_)
      rotate_left
      · omega
      rw [show x = 4 by omega]
      refine z_lload_n (pc := 67) rfl dX3_partOf_67 ?_
      refine z_aload_n (pc := 68) rfl dX3_partOf_68 ?_
      refine zf_X3_15 (pc := 69) rfl rfl dX3_partOf_69 ?_
      refine z_iload_n (pc := 72) rfl dX3_partOf_72 ?_
      refine z_iald (pc := 73) rfl (by decide) (by omega) (by omega) dX3_partOf_73 ?_
      rw [Int.toNat_natCast]
      refine z_lload (pc := 74) rfl dX3_partOf_74 ?_
      refine z_S3 (pc := 76) (c_cut (C := C) (p := F 21 o) (T := sm (F 21) 4) hC (by omega) (by omega)) lk_X3_68 st_X3_cut ⟨by decide, by decide⟩ (Nat.le_of_ble_eq_true rfl) ⟨by decide, by decide⟩ dX3_partOf_76 (fun r h9 hq => ?_)
      obtain ⟨rfl, e9⟩ := hq
      rw [e9]
      clear e9 h9
      refine z_r1 ?_
      refine z_iload_n (pc := 79) rfl dX3_partOf_79 ?_
      refine z_aload_n (pc := 80) rfl dX3_partOf_80 ?_
      refine zf_X3_15 (pc := 81) rfl rfl dX3_partOf_81 ?_
      refine z_S1 (pc := 84) (c_firstWithMost (q := 21) (f := F 21) rfl (fun j hj => by have := hH j hj; exact ⟨by omega, by omega⟩)) lk_X3_64 st_X3_firstWithMost ⟨by decide, by decide⟩ (Nat.le_of_ble_eq_true rfl) ⟨by decide, by decide⟩ dX3_partOf_84 (fun r h9 hq => ?_)
      obtain ⟨rfl, e9⟩ := hq
      rw [e9]
      clear e9 h9
      refine z_r1 ?_
      refine z_icmp_ne (pc := 87) ⟨by omega, by omega⟩ ⟨by omega, by omega⟩ 95 (by decide) dX3_partOf_87 (fun hq => ?_) (fun hq => ?_)
      · refine z_lconst (pc := 95) (v := 0) (by decide) dX3_partOf_95 ?_
        refine z_ladd (pc := 96) dX3_partOf_96 ?_
        exact z_retl (pc := 97) rfl (by decide) (by decide) dX3_partOf_97 ⟨by rw [if_neg (show ¬ o = fw (F 21) 4 by omega)]; rfl, rfl⟩
      · refine z_lload (pc := 90) rfl dX3_partOf_90 ?_
        refine z_goto (pc := 92) 96 (by decide) dX3_partOf_92 ?_
        refine z_ladd (pc := 96) dX3_partOf_96 ?_
        exact z_retl (pc := 97) rfl (by decide) (by decide) dX3_partOf_97 ⟨by rw [if_pos (show o = fw (F 21) 4 by omega)]; rfl, rfl⟩
    | succ j ih =>
      intro x hx
      have hx4 := hH x (by omega)
      refine z_iload (pc := 37) rfl dX3_partOf_37 ?_
      refine z_iconst (pc := 39) dX3_partOf_39 ?_
      refine z_icmp_ge (pc := 40) ⟨by omega, by omega⟩ ⟨by omega, by omega⟩ 67 (by decide) dX3_partOf_40 (fun hq => ?_) (fun hq => ?_)
      · omega
      refine z_lload (pc := 43) rfl dX3_partOf_43 ?_
      refine z_lload_n (pc := 45) rfl dX3_partOf_45 ?_
      refine z_aload_n (pc := 46) rfl dX3_partOf_46 ?_
      refine zf_X3_15 (pc := 47) rfl rfl dX3_partOf_47 ?_
      refine z_iload (pc := 50) rfl dX3_partOf_50 ?_
      refine z_iald (pc := 52) rfl (by decide) (by omega) (by omega) dX3_partOf_52 ?_
      rw [Int.toNat_natCast]
      refine z_lload (pc := 53) rfl dX3_partOf_53 ?_
      refine z_S3 (pc := 55) (c_cut (C := C) (p := F 21 x) (T := sm (F 21) 4) hC (by omega) (by omega)) lk_X3_68 st_X3_cut ⟨by decide, by decide⟩ (Nat.le_of_ble_eq_true rfl) ⟨by decide, by decide⟩ dX3_partOf_55 (fun r h9 hq => ?_)
      obtain ⟨rfl, e9⟩ := hq
      rw [e9]
      clear e9 h9
      refine z_r1 ?_
      refine z_lsub (pc := 58) dX3_partOf_58 ?_
      refine z_topL (congrArg lz (show _ = C - sm (ctw (F 21) C) (x + 1) from (show C - sm (ctw (F 21) C) x - ctw (F 21) C x = C - (sm (ctw (F 21) C) x + ctw (F 21) C x) by omega))) ?_
      refine z_ls6 (pc := 59) (by decide) rfl dX3_partOf_59 ?_
      refine z_ii8 (pc := 61) (by decide) rfl dX3_partOf_61 ?_
      refine z_goto (pc := 64) 37 (by decide) dX3_partOf_64 ?_
      exact ih (x + 1) (by omega)
  have lp1 : ∀ (j x : Nat), x + j = 4 → zJ l g RX3 cX3_partOf 9 (some .long) "partOf" (zRm 1 0 0) 0 0 (fun r h => r = some (.long (lz (ctw (F 21) C o + (if o = fw (F 21) 4 then C - sm (ctw (F 21) C) 4 else 0)))) ∧ h = zk g F L im c) 0 0 6 [some (.ref (g.2.1 + 19)), some (.long (lz C)), none, some (.int (iz o)), some (.long (lz (sm (F 21) x))), none, some (.int (iz x)), none, none] [] (zk g F L im c) := by
    intro j
    induction j with
    | zero =>
      intro x hx
      refine z_iload (pc := 6) rfl dX3_partOf_6 ?_
      refine z_iconst (pc := 8) dX3_partOf_8 ?_
      refine z_icmp_ge (pc := 9) ⟨by omega, by omega⟩ ⟨by omega, by omega⟩ 31 (by decide) dX3_partOf_9 (fun hq => ?_) (fun hq => ?_)
      rotate_left
      · omega
      rw [show x = 4 by omega]
      refine z_lload_n (pc := 31) rfl dX3_partOf_31 ?_
      refine z_topL (congrArg lz (show C = C - sm (ctw (F 21) C) 0 from (Int.sub_zero C).symm)) ?_
      refine z_ls6 (pc := 32) (by decide) rfl dX3_partOf_32 ?_
      refine z_iconst (pc := 34) dX3_partOf_34 ?_
      refine z_is8 (pc := 35) (by decide) rfl dX3_partOf_35 ?_
      exact lp2 4 0 rfl
    | succ j ih =>
      intro x hx
      have hx4 := hH x (by omega)
      refine z_iload (pc := 6) rfl dX3_partOf_6 ?_
      refine z_iconst (pc := 8) dX3_partOf_8 ?_
      refine z_icmp_ge (pc := 9) ⟨by omega, by omega⟩ ⟨by omega, by omega⟩ 31 (by decide) dX3_partOf_9 (fun hq => ?_) (fun hq => ?_)
      · omega
      refine z_lload (pc := 12) rfl dX3_partOf_12 ?_
      refine z_aload_n (pc := 14) rfl dX3_partOf_14 ?_
      refine zf_X3_15 (pc := 15) rfl rfl dX3_partOf_15 ?_
      refine z_iload (pc := 18) rfl dX3_partOf_18 ?_
      refine z_iald (pc := 20) rfl (by decide) (by omega) (by omega) dX3_partOf_20 ?_
      rw [Int.toNat_natCast]
      refine z_i2l (pc := 21) ⟨by omega, by omega⟩ dX3_partOf_21 ?_
      refine z_ladd (pc := 22) dX3_partOf_22 ?_
      refine z_ls4 (pc := 23) (by decide) rfl dX3_partOf_23 ?_
      refine z_ii6 (pc := 25) (by decide) rfl dX3_partOf_25 ?_
      refine z_goto (pc := 28) 6 (by decide) dX3_partOf_28 ?_
      exact ih (x + 1) (by omega)
  refine z_lconst (pc := 0) (v := 0) (by decide) dX3_partOf_0 ?_
  refine z_ls4 (pc := 1) (by decide) rfl dX3_partOf_1 ?_
  refine z_iconst (pc := 3) dX3_partOf_3 ?_
  refine z_is6 (pc := 4) (by decide) rfl dX3_partOf_4 ?_
  exact lp1 4 0 rfl
theorem c_handOut (B : bi F 1) {k t : Nat} (hk : k < 3) (ht : t < 40) (h21 : ∀ x, x < 4 → 0 ≤ F 21 x ∧ F 21 x ≤ 100000) : zM l g yX3_handOut cX3_handOut 7 none 3 0 0 [.ref (g.2.1 + 19), .ref (g.2.1 + 1), .int (iz k), .int (iz t)] (zk g F L im c) (fun r h => r = none ∧ ∃ (a b e : Nat → Int), h = zk g (Ss F a b e) L im c ∧ ∀ x, x < 4 → b x = F 21 x + (fnd F k t x - yh F k t x) ∧ e x = F 22 x + yh F k t x) := by
  refine zM_of 3 (by decide) rfl ?_
  show zJ l g RX3 cX3_handOut 7 none "handOut" (zRm 3 0 0) 0 0 _ 0 0 0 [some (.ref (g.2.1 + 19)), some (.ref (g.2.1 + 1)), some (.int (iz k)), some (.int (iz t)), none, none, none] [] _
  have en := nh_le B ht k
  have ba := ahd_bd B ht k
  have bn := nda_bd B k t
  have ns : nda F k t = sm (fnd F k t) 4 := rfl
  have f0 : ∀ j, j < 4 → 0 ≤ fnd F k t j := fun j _ => (fnd_bd B k t j).1
  have lp3 : ∀ (j x : Nat) (a b e : Nat → Int) (z : Int) (y6 : Option Value), x + j = 4 → (∀ q, q < 4 → a q = yh F k t q ∧ b q = F 21 q + (fnd F k t q - yh F k t q)) → (∀ q, q < x → e q = F 22 q + yh F k t q) → (∀ q, x ≤ q → e q = F 22 q) → zJ l g RX3 cX3_handOut 7 none "handOut" (zRm 3 0 0) 0 0 (fun r h => r = none ∧ ∃ (a b e : Nat → Int), h = zk g (Ss F a b e) L im c ∧ ∀ x, x < 4 → b x = F 21 x + (fnd F k t x - yh F k t x) ∧ e x = F 22 x + yh F k t x) 0 0 97 [some (.ref (g.2.1 + 19)), some (.ref (g.2.1 + 1)), some (.int (iz k)), some (.int (iz t)), some (.int (iz z)), some (.int (iz x)), y6] [] (zk g (Ss F a b e) L im c) := by
    intro j
    induction j with
    | zero =>
      intro x a b e z y6 hx h1 h2 h3
      refine z_iload (pc := 97) rfl dX3_handOut_97 ?_
      refine z_iconst (pc := 99) dX3_handOut_99 ?_
      refine z_icmp_ge (pc := 100) ⟨by omega, by omega⟩ ⟨by omega, by omega⟩ 126 (by decide) dX3_handOut_100 (fun hq => ?_) (fun hq => ?_)
      · exact z_retv (pc := 126) rfl (by decide) (by decide) dX3_handOut_126 ⟨rfl, a, b, e, rfl, fun q hq => ⟨(h1 q hq).2, h2 q (by omega)⟩⟩
      omega
    | succ j ih =>
      intro x a b e z y6 hx h1 h2 h3
      refine z_iload (pc := 97) rfl dX3_handOut_97 ?_
      refine z_iconst (pc := 99) dX3_handOut_99 ?_
      refine z_icmp_ge (pc := 100) ⟨by omega, by omega⟩ ⟨by omega, by omega⟩ 126 (by decide) dX3_handOut_100 (fun hq => ?_) (fun hq => ?_)
      · omega
      refine z_aload_n (pc := 103) rfl dX3_handOut_103 ?_
      refine zf_X3_18 (pc := 104) rfl rfl dX3_handOut_104 ?_
      refine z_iload (pc := 107) rfl dX3_handOut_107 ?_
      refine z_dup2 (pc := 109) rfl rfl dX3_handOut_109 ?_
      refine z_iald (pc := 110) rfl (by decide) (by omega) (by omega) dX3_handOut_110 ?_
      refine z_aload_n (pc := 111) rfl dX3_handOut_111 ?_
      refine zf_X3_9 (pc := 112) rfl rfl dX3_handOut_112 ?_
      refine z_iload (pc := 115) rfl dX3_handOut_115 ?_
      refine z_iald (pc := 117) rfl (by decide) (by omega) (by omega) dX3_handOut_117 ?_
      rw [Int.toNat_natCast, show Ss F a b e 22 x = e x from rfl, show Ss F a b e 20 x = a x from rfl]
      refine z_iadd (pc := 118) dX3_handOut_118 ?_
      refine z_iast (pc := 119) rfl (by decide) (by omega) (by omega) dX3_handOut_119 ?_
      refine z_hp zs_22 ?_
      rw [up_up, Int.toNat_natCast]
      refine z_ii5 (pc := 120) (by decide) rfl dX3_handOut_120 ?_
      refine z_goto (pc := 123) 97 (by decide) dX3_handOut_123 ?_
      refine ih (x + 1) a b _ z _ (by omega) h1 (fun q hq => ?_) (fun q hq => ?_)
      · show vf_upd e x (e x + a x) q = _
        unfold vf_upd
        by_cases eq : q = x
        · subst eq
          rw [if_pos rfl, (h1 q (by omega)).1, h3 q (Nat.le_refl q)]
        · rw [if_neg eq]; exact h2 q (by omega)
      · show vf_upd e x (e x + a x) q = _
        unfold vf_upd
        rw [if_neg (by omega)]
        exact h3 q (by omega)
  have lp2 : ∀ (j x : Nat) (a b : Nat → Int) (y6 : Option Value), x + j = nh F k t → (∀ q, q < 4 → a q = yt (fnd F k t) x q ∧ b q = F 21 q + (fnd F k t q - yt (fnd F k t) x q)) → zJ l g RX3 cX3_handOut 7 none "handOut" (zRm 3 0 0) 0 0 (fun r h => r = none ∧ ∃ (a b e : Nat → Int), h = zk g (Ss F a b e) L im c ∧ ∀ x, x < 4 → b x = F 21 x + (fnd F k t x - yh F k t x) ∧ e x = F 22 x + yh F k t x) 0 0 50 [some (.ref (g.2.1 + 19)), some (.ref (g.2.1 + 1)), some (.int (iz k)), some (.int (iz t)), some (.int (iz ((nh F k t : Nat) : Int))), some (.int (iz x)), y6] [] (zk g (Ss F a b (F 22)) L im c) := by
    intro j
    induction j with
    | zero =>
      intro x a b y6 hx h1
      refine z_iload (pc := 50) rfl dX3_handOut_50 ?_
      refine z_iload (pc := 52) rfl dX3_handOut_52 ?_
      refine z_icmp_ge (pc := 54) ⟨by omega, by omega⟩ ⟨by omega, by omega⟩ 94 (by decide) dX3_handOut_54 (fun hq => ?_) (fun hq => ?_)
      · refine z_iconst (pc := 94) dX3_handOut_94 ?_
        refine z_is5 (pc := 95) (by decide) rfl dX3_handOut_95 ?_
        refine lp3 4 0 a b (F 22) _ _ rfl (fun q hq => ?_) (fun q hq => absurd hq (Nat.not_lt_zero q)) (fun q _ => rfl)
        unfold yh
        rw [← show x = nh F k t by omega]
        exact h1 q hq
      omega
    | succ j ih =>
      intro x a b y6 hx h1
      have hxs : (x : Int) < sm (fnd F k t) 4 := by omega
      have fa : fw a 4 = fw (yt (fnd F k t) x) 4 := fw_cong 4 (fun j hj => (h1 j hj).1)
      have l4 := fw_lt (yt (fnd F k t) x) 4 (by decide)
      have ab := fun q hq => yt_bd f0 x (by omega) q hq
      refine z_iload (pc := 50) rfl dX3_handOut_50 ?_
      refine z_iload (pc := 52) rfl dX3_handOut_52 ?_
      refine z_icmp_ge (pc := 54) ⟨by omega, by omega⟩ ⟨by omega, by omega⟩ 94 (by decide) dX3_handOut_54 (fun hq => ?_) (fun hq => ?_)
      · omega
      refine z_aload_n (pc := 57) rfl dX3_handOut_57 ?_
      refine zf_X3_9 (pc := 58) rfl rfl dX3_handOut_58 ?_
      refine z_S1 (pc := 61) (c_firstWithMost (q := 20) (f := a) rfl (fun j hj => by have h2 := h1 j hj; have h3 := ab j hj; have h4 := fnd_bd B k t j; exact ⟨by omega, by omega⟩)) lk_X3_64 st_X3_firstWithMost ⟨by decide, by decide⟩ (Nat.le_of_ble_eq_true rfl) ⟨by decide, by decide⟩ dX3_handOut_61 (fun r h9 hq => ?_)
      obtain ⟨rfl, e9⟩ := hq
      rw [e9]
      clear e9 h9
      refine z_r1 ?_
      rw [fa]
      have f1 := h1 _ l4
      refine z_is6 (pc := 64) (by decide) rfl dX3_handOut_64 ?_
      refine z_aload_n (pc := 66) rfl dX3_handOut_66 ?_
      refine zf_X3_9 (pc := 67) rfl rfl dX3_handOut_67 ?_
      refine z_iload (pc := 70) rfl dX3_handOut_70 ?_
      refine z_dup2 (pc := 72) rfl rfl dX3_handOut_72 ?_
      refine z_iald (pc := 73) rfl (by decide) (by omega) (by omega) dX3_handOut_73 ?_
      rw [Int.toNat_natCast, show ∀ q, Ss F a b (F 22) 20 q = a q from fun _ => rfl]
      refine z_iconst (pc := 74) dX3_handOut_74 ?_
      refine z_isub (pc := 75) dX3_handOut_75 ?_
      refine z_iast (pc := 76) rfl (by decide) (by omega) (by omega) dX3_handOut_76 ?_
      refine z_hp zs_20 ?_
      rw [Int.toNat_natCast]
      refine z_hp (congrArg (fun f => zk g f L im c) (Ss20 F a b (F 22) _)) ?_
      generalize ea : vf_upd (Ss F a b (F 22) 20) (fw (yt (fnd F k t) x) 4) (a (fw (yt (fnd F k t) x) 4) - 1) = a2
      refine z_aload_n (pc := 77) rfl dX3_handOut_77 ?_
      refine zf_X3_15 (pc := 78) rfl rfl dX3_handOut_78 ?_
      refine z_iload (pc := 81) rfl dX3_handOut_81 ?_
      refine z_dup2 (pc := 83) rfl rfl dX3_handOut_83 ?_
      refine z_iald (pc := 84) rfl (by decide) (by omega) (by omega) dX3_handOut_84 ?_
      rw [Int.toNat_natCast, show ∀ q, Ss F a2 b (F 22) 21 q = b q from fun _ => rfl]
      refine z_iconst (pc := 85) dX3_handOut_85 ?_
      refine z_iadd (pc := 86) dX3_handOut_86 ?_
      refine z_iast (pc := 87) rfl (by decide) (by omega) (by omega) dX3_handOut_87 ?_
      refine z_hp zs_21 ?_
      rw [Int.toNat_natCast]
      refine z_hp (congrArg (fun f => zk g f L im c) (Ss21 F a2 b (F 22) _)) ?_
      refine z_ii5 (pc := 88) (by decide) rfl dX3_handOut_88 ?_
      refine z_goto (pc := 91) 50 (by decide) dX3_handOut_91 ?_
      refine ih (x + 1) a2 _ _ (by omega) (fun q hq => ?_)
      have e1 := h1 q hq
      rw [← ea]
      show vf_upd a (fw (yt (fnd F k t) x) 4) (a (fw (yt (fnd F k t) x) 4) - 1) q = vf_upd (yt (fnd F k t) x) (fw (yt (fnd F k t) x) 4) (yt (fnd F k t) x (fw (yt (fnd F k t) x) 4) - 1) q ∧ vf_upd b (fw (yt (fnd F k t) x) 4) (b (fw (yt (fnd F k t) x) 4) + 1) q = F 21 q + (fnd F k t q - vf_upd (yt (fnd F k t) x) (fw (yt (fnd F k t) x) 4) (yt (fnd F k t) x (fw (yt (fnd F k t) x) 4) - 1) q)
      unfold vf_upd
      by_cases eq : q = fw (yt (fnd F k t) x) 4
      · rw [if_pos eq, if_pos eq, if_pos eq, f1.1, f1.2, ← eq]
        exact ⟨rfl, by omega⟩
      · rw [if_neg eq, if_neg eq, if_neg eq]; exact e1
  have lp1 : ∀ (j x : Nat) (a : Nat → Int), x + j = 4 → (∀ q, q < x → a q = fnd F k t q) → zJ l g RX3 cX3_handOut 7 none "handOut" (zRm 3 0 0) 0 0 (fun r h => r = none ∧ ∃ (a b e : Nat → Int), h = zk g (Ss F a b e) L im c ∧ ∀ x, x < 4 → b x = F 21 x + (fnd F k t x - yh F k t x) ∧ e x = F 22 x + yh F k t x) 0 0 3 [some (.ref (g.2.1 + 19)), some (.ref (g.2.1 + 1)), some (.int (iz k)), some (.int (iz t)), some (.int (iz x)), none, none] [] (zk g (Ss F a (F 21) (F 22)) L im c) := by
    intro j
    induction j with
    | zero =>
      intro x a hx h1
      refine z_iload (pc := 3) rfl dX3_handOut_3 ?_
      refine z_iconst (pc := 5) dX3_handOut_5 ?_
      refine z_icmp_ge (pc := 6) ⟨by omega, by omega⟩ ⟨by omega, by omega⟩ 30 (by decide) dX3_handOut_6 (fun hq => ?_) (fun hq => ?_)
      rotate_left
      · omega
      refine z_aload_n (pc := 30) rfl dX3_handOut_30 ?_
      refine z_iload_n (pc := 31) rfl dX3_handOut_31 ?_
      refine z_iload_n (pc := 32) rfl dX3_handOut_32 ?_
      refine z_V2 (pc := 33) (c_ahead (F := Ss F a (F 21) (F 22)) (k := k) (t := t) B hk ht) lk_X3_52 iv_X1_ahead rfl rfl ⟨by decide, by decide⟩ (Nat.le_of_ble_eq_true rfl) ⟨by decide, by decide⟩ dX3_handOut_33 (fun r h9 hq => ?_)
      obtain ⟨rfl, e9⟩ := hq
      rw [e9]
      clear e9 h9
      refine z_r1 ?_
      refine z_aload_n (pc := 36) rfl dX3_handOut_36 ?_
      refine z_iload_n (pc := 37) rfl dX3_handOut_37 ?_
      refine z_iload_n (pc := 38) rfl dX3_handOut_38 ?_
      refine z_V2 (pc := 39) (c_needOfAll (F := Ss F a (F 21) (F 22)) (k := k) (t := t) hk ht) lk_X3_56 iv_X1_needOfAll rfl rfl ⟨by decide, by decide⟩ (Nat.le_of_ble_eq_true rfl) ⟨by decide, by decide⟩ dX3_handOut_39 (fun r h9 hq => ?_)
      obtain ⟨rfl, e9⟩ := hq
      rw [e9]
      clear e9 h9
      refine z_r1 ?_
      refine z_top (congrArg iz (show _ = nda F k t from rfl)) ?_
      rw [show ahd (Ss F a (F 21) (F 22)) k t = ahd F k t from rfl]
      refine z_mmin (pc := 42) lk_X3_59 ⟨by omega, by omega⟩ ⟨by omega, by omega⟩ ⟨by decide, by decide⟩ (Nat.le_of_ble_eq_true rfl) ⟨by decide, by decide⟩ dX3_handOut_42 ?_
      rw [← en]
      refine z_is4 (pc := 45) (by decide) rfl dX3_handOut_45 ?_
      refine z_iconst (pc := 47) dX3_handOut_47 ?_
      refine z_is5 (pc := 48) (by decide) rfl dX3_handOut_48 ?_
      refine lp2 (nh F k t) 0 a (F 21) _ (by omega) (fun q hq => ⟨h1 q (by omega), ?_⟩)
      show F 21 q = F 21 q + (fnd F k t q - fnd F k t q)
      omega
    | succ j ih =>
      intro x a hx h1
      refine z_iload (pc := 3) rfl dX3_handOut_3 ?_
      refine z_iconst (pc := 5) dX3_handOut_5 ?_
      refine z_icmp_ge (pc := 6) ⟨by omega, by omega⟩ ⟨by omega, by omega⟩ 30 (by decide) dX3_handOut_6 (fun hq => ?_) (fun hq => ?_)
      · omega
      refine z_aload_n (pc := 9) rfl dX3_handOut_9 ?_
      refine zf_X3_9 (pc := 10) rfl rfl dX3_handOut_10 ?_
      refine z_iload (pc := 13) rfl dX3_handOut_13 ?_
      refine z_aload_n (pc := 15) rfl dX3_handOut_15 ?_
      refine z_iload (pc := 16) rfl dX3_handOut_16 ?_
      refine z_iload_n (pc := 18) rfl dX3_handOut_18 ?_
      refine z_iload_n (pc := 19) rfl dX3_handOut_19 ?_
      refine z_V3 (pc := 20) (c_needOf (F := Ss F a (F 21) (F 22)) (o := x) (k := k) (t := t) (by omega) hk ht) lk_X3_48 iv_X1_needOf rfl rfl ⟨by decide, by decide⟩ (Nat.le_of_ble_eq_true rfl) ⟨by decide, by decide⟩ dX3_handOut_20 (fun r h9 hq => ?_)
      obtain ⟨rfl, e9⟩ := hq
      rw [e9]
      clear e9 h9
      refine z_r1 ?_
      refine z_iast (pc := 23) rfl (by decide) (by omega) (by omega) dX3_handOut_23 ?_
      refine z_hp zs_20 ?_
      rw [Int.toNat_natCast]
      refine z_hp (congrArg (fun f => zk g f L im c) (Ss20 F a (F 21) (F 22) _)) ?_
      refine z_ii4 (pc := 24) (by decide) rfl dX3_handOut_24 ?_
      refine z_goto (pc := 27) 3 (by decide) dX3_handOut_27 ?_
      refine ih (x + 1) _ (by omega) (fun q hq => ?_)
      show vf_upd a x (fnd F k t x) q = _
      unfold vf_upd
      by_cases eq : q = x
      · rw [if_pos eq, eq]
      · rw [if_neg eq]; exact h1 q (by omega)
  refine z_iconst (pc := 0) dX3_handOut_0 ?_
  refine z_is4 (pc := 1) (by decide) rfl dX3_handOut_1 ?_
  have := lp1 4 0 (F 20) rfl (fun q hq => absurd hq (Nat.not_lt_zero q))
  rw [Ss_id] at this
  exact this
theorem c_shareOf (B : bi F 1) {k o : Nat} (hk : k < 3) (ho : o < 4) : zM l g yX3_shareOf cX3_shareOf 5 (some .long) 4 0 0 [.ref (g.2.1 + 19), .ref (g.2.1 + 1), .int (iz k), .int (iz o)] (zk g F L im c) (fun r h => r = some (.long (lz (pyv F k o))) ∧ ∃ (a b e : Nat → Int), h = zk g (Ss F a b e) L im c) := by
  refine zM_of 1 (by decide) rfl ?_
  show zJ l g RX3 cX3_shareOf 5 (some .long) "shareOf" (zRm 4 0 0) 0 0 _ 0 0 0 [some (.ref (g.2.1 + 19)), some (.ref (g.2.1 + 1)), some (.int (iz k)), some (.int (iz o)), none] [] _
  have b1 := bi_hours B
  have bR := bi_rates B k
  have ob := ofc_bd B k
  have lp : ∀ (j t : Nat) (a b e : Nat → Int), t + j = (F 1 0).toNat → (∀ x, x < 4 → b x = hd F k t x ∧ e x = bs F k t x) → zJ l g RX3 cX3_shareOf 5 (some .long) "shareOf" (zRm 4 0 0) 0 0 (fun r h => r = some (.long (lz (pyv F k o))) ∧ ∃ (a b e : Nat → Int), h = zk g (Ss F a b e) L im c) 0 0 19 [some (.ref (g.2.1 + 19)), some (.ref (g.2.1 + 1)), some (.int (iz k)), some (.int (iz o)), some (.int (iz t))] [] (zk g (Ss F a b e) L im c) := by
    intro j
    induction j with
    | zero =>
      intro t a b e ht h1
      have et : t = (F 1 0).toNat := by omega
      have ho1 := h1 o ho
      have bo := bs_bd B (t := t) (by omega) k ho
      have eh : fw b 4 = fw (hd F k t) 4 := fw_cong 4 (fun j hj => (h1 j hj).1)
      have es : sm b 4 = sm (hd F k t) 4 := sm_cong (fun j hj => (h1 j hj).1)
      have ec : ∀ x, x < 4 → ctw b (ofc F k) x = ctv F k x := fun x hx => by unfold ctw ctv; rw [es, (h1 x hx).1, et]
      have ecs : sm (ctw b (ofc F k)) 4 = sm (ctv F k) 4 := sm_cong ec
      refine z_iload (pc := 19) rfl dX3_shareOf_19 ?_
      refine z_aload_n (pc := 21) rfl dX3_shareOf_21 ?_
      refine zf_X3_27 (pc := 22) rfl rfl dX3_shareOf_22 ?_
      rw [show Ss F a b e 1 0 = F 1 0 from rfl]
      refine z_icmp_ge (pc := 25) ⟨by omega, by omega⟩ ⟨by omega, by omega⟩ 42 (by decide) dX3_shareOf_25 (fun hq => ?_) (fun hq => ?_)
      rotate_left
      · omega
      refine z_aload_n (pc := 42) rfl dX3_shareOf_42 ?_
      refine zf_X3_18 (pc := 43) rfl rfl dX3_shareOf_43 ?_
      refine z_iload_n (pc := 46) rfl dX3_shareOf_46 ?_
      refine z_iald (pc := 47) rfl (by decide) (by omega) (by omega) dX3_shareOf_47 ?_
      rw [Int.toNat_natCast, show Ss F a b e 22 o = bs F k t o from ho1.2]
      refine z_i2l (pc := 48) ⟨by omega, by omega⟩ dX3_shareOf_48 ?_
      refine z_aload_n (pc := 49) rfl dX3_shareOf_49 ?_
      refine zf_X3_37 (pc := 50) rfl rfl dX3_shareOf_50 ?_
      refine z_iload_n (pc := 53) rfl dX3_shareOf_53 ?_
      refine z_iald (pc := 54) rfl (by decide) (by omega) (by omega) dX3_shareOf_54 ?_
      rw [Int.toNat_natCast, show Ss F a b e 2 k = F 2 k from rfl]
      refine z_i2l (pc := 55) ⟨by omega, by omega⟩ dX3_shareOf_55 ?_
      refine z_lmul (pc := 56) dX3_shareOf_56 ?_
      refine z_aload_n (pc := 57) rfl dX3_shareOf_57 ?_
      refine z_aload_n (pc := 58) rfl dX3_shareOf_58 ?_
      refine z_iload_n (pc := 59) rfl dX3_shareOf_59 ?_
      refine z_V1 (pc := 60) (c_offersCost (F := Ss F a b e) (k := k) B hk) lk_X3_40 iv_X1_offersCost rfl rfl ⟨by decide, by decide⟩ (Nat.le_of_ble_eq_true rfl) ⟨by decide, by decide⟩ dX3_shareOf_60 (fun r h9 hq => ?_)
      obtain ⟨rfl, e9⟩ := hq
      rw [e9]
      clear e9 h9
      refine z_r1 ?_
      refine z_topL (congrArg lz (show _ = ofc F k from rfl)) ?_
      refine z_iload_n (pc := 63) rfl dX3_shareOf_63 ?_
      refine z_V2 (pc := 64) (c_partOf (F := Ss F a b e) (o := o) (C := ofc F k) ho ob (fun x hx => by have h2 := h1 x hx; have h3 := hd_bd B (t := t) (by omega) k hx; show 0 ≤ b x ∧ b x ≤ 360; omega)) lk_X3_44 iv_X3_partOf rfl rfl ⟨by decide, by decide⟩ (Nat.le_of_ble_eq_true rfl) ⟨by decide, by decide⟩ dX3_shareOf_64 (fun r h9 hq => ?_)
      obtain ⟨rfl, e9⟩ := hq
      rw [e9]
      clear e9 h9
      refine z_r1 ?_
      refine z_ladd (pc := 67) dX3_shareOf_67 ?_
      refine z_retl (pc := 68) rfl (by decide) (by decide) dX3_shareOf_68 ⟨congrArg (fun v => some (Value.long (lz v))) ?_, a, b, e, rfl⟩
      show bs F k t o * F 2 k + (ctw b (ofc F k) o + (if o = fw b 4 then ofc F k - sm (ctw b (ofc F k)) 4 else 0)) = _
      unfold pyv
      rw [ec o ho, ecs, eh, ← et]
    | succ j ih =>
      intro t a b e ht h1
      refine z_iload (pc := 19) rfl dX3_shareOf_19 ?_
      refine z_aload_n (pc := 21) rfl dX3_shareOf_21 ?_
      refine zf_X3_27 (pc := 22) rfl rfl dX3_shareOf_22 ?_
      rw [show Ss F a b e 1 0 = F 1 0 from rfl]
      refine z_icmp_ge (pc := 25) ⟨by omega, by omega⟩ ⟨by omega, by omega⟩ 42 (by decide) dX3_shareOf_25 (fun hq => ?_) (fun hq => ?_)
      · omega
      refine z_aload_n (pc := 28) rfl dX3_shareOf_28 ?_
      refine z_aload_n (pc := 29) rfl dX3_shareOf_29 ?_
      refine z_iload_n (pc := 30) rfl dX3_shareOf_30 ?_
      refine z_iload (pc := 31) rfl dX3_shareOf_31 ?_
      refine z_V3 (pc := 33) (c_handOut (F := Ss F a b e) (k := k) (t := t) B hk (by omega) (fun x hx => by have h2 := h1 x hx; have h3 := hd_bd B (t := t) (by omega) k hx; show 0 ≤ b x ∧ b x ≤ 100000; omega)) lk_X3_33 iv_X3_handOut rfl rfl ⟨by decide, by decide⟩ (Nat.le_of_ble_eq_true rfl) ⟨by decide, by decide⟩ dX3_shareOf_33 (fun r h9 hq => ?_)
      obtain ⟨rfl, a2, b2, e2, e8, h2⟩ := hq
      rw [e8]
      clear e8 h9
      refine z_r0 ?_
      have ex : Ss (Ss F a b e) a2 b2 e2 = Ss F a2 b2 e2 := by
        rw [show Ss (Ss F a b e) a2 b2 e2 = va_up (va_up (va_up (Ss F a b e) 20 a2) 21 b2) 22 e2 from rfl, Ss20, Ss21, up_up]
      rw [ex]
      refine z_ii4 (pc := 36) (by decide) rfl dX3_shareOf_36 ?_
      refine z_goto (pc := 39) 19 (by decide) dX3_shareOf_39 ?_
      refine ih (t + 1) a2 b2 e2 (by omega) (fun x hx => ?_)
      have h3 := h2 x hx
      have h4 := h1 x hx
      rw [h3.1, h3.2]
      show b x + (fnd F k t x - yh F k t x) = hd F k t x + (fnd F k t x - yh F k t x) ∧ e x + yh F k t x = bs F k t x + yh F k t x
      rw [h4.1, h4.2]
      exact ⟨rfl, rfl⟩
  refine z_aload_n (pc := 0) rfl dX3_shareOf_0 ?_
  refine zf_X3_15 (pc := 1) rfl rfl dX3_shareOf_1 ?_
  refine z_iconst (pc := 4) dX3_shareOf_4 ?_
  refine z_S2 (pc := 5) (c_fill2 (q := 21) (n := 4) (f := F 21) (v := 0) rfl (by omega)) lk_X3_21 st_J7_fill_53178 ⟨by decide, by decide⟩ (Nat.le_of_ble_eq_true rfl) ⟨by decide, by decide⟩ dX3_shareOf_5 (fun r h9 hq => ?_)
  obtain ⟨rfl, e8⟩ := hq
  rw [e8]
  clear e8 h9
  refine z_r0 ?_
  refine z_hp zs_21 ?_
  refine z_aload_n (pc := 8) rfl dX3_shareOf_8 ?_
  refine zf_X3_18 (pc := 9) rfl rfl dX3_shareOf_9 ?_
  refine z_iconst (pc := 12) dX3_shareOf_12 ?_
  refine z_S2 (pc := 13) (c_fill2 (q := 22) (n := 4) (f := F 22) (v := 0) rfl (by omega)) lk_X3_21 st_J7_fill_53178 ⟨by decide, by decide⟩ (Nat.le_of_ble_eq_true rfl) ⟨by decide, by decide⟩ dX3_shareOf_13 (fun r h9 hq => ?_)
  obtain ⟨rfl, e8⟩ := hq
  rw [e8]
  clear e8 h9
  refine z_r0 ?_
  refine z_hp zs_22 ?_
  refine z_iconst (pc := 16) dX3_shareOf_16 ?_
  refine z_is4 (pc := 17) (by decide) rfl dX3_shareOf_17 ?_
  have := lp (F 1 0).toNat 0 (F 20) (fl (F 21) 0 4 0) (fl (F 22) 0 4 0) (by omega) (fun x hx => by unfold fl; rw [if_pos (by omega), if_pos (by omega)]; exact ⟨rfl, rfl⟩)
  rw [show Ss F (F 20) (fl (F 21) 0 4 0) (fl (F 22) 0 4 0) = va_up (va_up F 21 (fl (F 21) 0 4 0)) 22 (fl (F 22) 0 4 0) by show va_up (va_up (va_up F 20 (F 20)) 21 _) 22 _ = _; rw [up_id]] at this
  exact this
end SHARES
