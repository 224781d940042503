/-! ===== the class: the rule that sees no hour ahead ===== -/
def bq (F : Nat → Nat → Int) (o k : Nat) : Prop := (1 ≤ F 1 0 ∧ F 1 0 ≤ 40) ∧ (∀ u, 0 ≤ nda F k u ∧ nda F k u ≤ 36) ∧ (1 ≤ F 4 o ∧ F 4 o ≤ 40) ∧ (0 ≤ F 5 o ∧ F 5 o ≤ 100000) ∧ (0 ≤ F 2 k ∧ F 2 k ≤ 1000) ∧ F 3 o = k ∧ k < 3 ∧ o < 6
theorem bq_bi {F : Nat → Nat → Int} (B : bi F 1) {o k : Nat} (ho : (o : Int) < F 1 2) (hk : F 3 o = k) : bq F o k := ⟨bi_hours B, nda_bd B k, ⟨bi_term1 B o ho, (bi_terms B o).2⟩, bi_costs B o, bi_rates B k, hk, by have := bi_kindOf B o; omega, by have := bi_offers B; omega⟩
theorem cwi_cwi (cnt : Nat → Int) (a b : Nat) (v : Int) : cwi (cwi cnt a b v) a b 1 = cwi cnt a b (v + 1) := by
  funext j
  unfold cwi
  by_cases h : a ≤ j ∧ j < b
  · rw [if_pos h, if_pos h, if_pos h]; omega
  · rw [if_neg h, if_neg h, if_neg h]
abbrev Cs (F : Nat → Nat → Int) (a b : Nat → Int) : Nat → Nat → Int := va_up (va_up F 7 a) 18 b
theorem Cs7 (F : Nat → Nat → Int) (a b a2 : Nat → Int) : va_up (Cs F a b) 7 a2 = Cs F a2 b := by
  funext q
  unfold Cs va_up
  by_cases h : q = 7
  · subst h; rfl
  · rw [if_neg h]
    by_cases h2 : q = 18
    · rw [if_pos h2, if_pos h2]
    · rw [if_neg h2, if_neg h2, if_neg h, if_neg h]
section BLIND
variable {l : Launch} {g : zG} {F : Nat → Nat → Int} {L : Nat → Int} {im : Nat → Option Nat} {c : Nat}
theorem c_firstOfLatest {o k t : Nat} (hb : bq F o k) (ht : t < 40) : zM l g yX0_firstOfLatest cX0_firstOfLatest 3 (some .int) 1 0 0 [.ref (g.2.1 + 1), .int (iz o), .int (iz t)] (zk g F L im c) (fun r h => r = some (.int (iz (wfs (F 4 o) t))) ∧ h = zk g F L im c) := by
  refine zM_of 0 (by decide) rfl ?_
  show zJ l g RX0 cX0_firstOfLatest 3 (some .int) "firstOfLatest" (zRm 1 0 0) 0 0 _ 0 0 0 [some (.ref (g.2.1 + 1)), some (.int (iz o)), some (.int (iz t))] [] _
  have q1 := hb.1
  have q2 := hb.2.1
  have q3 := hb.2.2.1
  have q4 := hb.2.2.2.1
  have q5 := hb.2.2.2.2.1
  have q6 := hb.2.2.2.2.2.1
  have hk := hb.2.2.2.2.2.2.1
  have ho := hb.2.2.2.2.2.2.2
  have eA : ((wfs (F 4 o) t) : Int) = max 0 ((t : Int) - F 4 o + 1) := by unfold wfs; omega
  have eE : ((wen (F 1 0) (F 4 o) t) : Int) = min (F 1 0) ((t : Int) + F 4 o) := by unfold wen; omega
  refine z_iconst (pc := 0) dX0_firstOfLatest_0 ?_
  refine z_iload_n (pc := 1) rfl dX0_firstOfLatest_1 ?_
  refine z_aload_n (pc := 2) rfl dX0_firstOfLatest_2 ?_
  refine zf_X0_59 (pc := 3) rfl rfl dX0_firstOfLatest_3 ?_
  refine z_iload_n (pc := 6) rfl dX0_firstOfLatest_6 ?_
  refine z_iald (pc := 7) rfl (by decide) (by omega) (by omega) dX0_firstOfLatest_7 ?_
  rw [Int.toNat_natCast]
  refine z_isub (pc := 8) dX0_firstOfLatest_8 ?_
  refine z_iconst (pc := 9) dX0_firstOfLatest_9 ?_
  refine z_iadd (pc := 10) dX0_firstOfLatest_10 ?_
  refine z_mmax (pc := 11) lk_X0_67 ⟨by omega, by omega⟩ ⟨by omega, by omega⟩ ⟨by decide, by decide⟩ (Nat.le_of_ble_eq_true rfl) ⟨by decide, by decide⟩ dX0_firstOfLatest_11 ?_
  rw [← eA]
  exact z_reti (pc := 14) rfl (by decide) (by decide) dX0_firstOfLatest_14 ⟨rfl, rfl⟩
theorem c_isSpent {o k t : Nat} (hb : bq F o k) (ht : t < 40) (hc : ∀ u, 0 ≤ F 18 u ∧ F 18 u ≤ 10000) : zM l g yX0_isSpent cX0_isSpent 7 (some .boolean) 2 0 0 [.ref (g.2.1 + 17), .ref (g.2.1 + 1), .int (iz o), .int (iz t)] (zk g F L im c) (fun r h => r = some (.int (iz (if spc (nda F k) (F 4 o) (F 5 o) (F 2 k) t (F 18) then 1 else 0))) ∧ h = zk g F L im c) := by
  refine zM_of 3 (by decide) rfl ?_
  show zJ l g RX0 cX0_isSpent 7 (some .boolean) "isSpent" (zRm 2 0 0) 0 0 _ 0 0 0 [some (.ref (g.2.1 + 17)), some (.ref (g.2.1 + 1)), some (.int (iz o)), some (.int (iz t)), none, none, none] [] _
  have q1 := hb.1
  have q2 := hb.2.1
  have q3 := hb.2.2.1
  have q4 := hb.2.2.2.1
  have q5 := hb.2.2.2.2.1
  have q6 := hb.2.2.2.2.2.1
  have hk := hb.2.2.2.2.2.2.1
  have ho := hb.2.2.2.2.2.2.2
  have eA : ((wfs (F 4 o) t) : Int) = max 0 ((t : Int) - F 4 o + 1) := by unfold wfs; omega
  have eE : ((wen (F 1 0) (F 4 o) t) : Int) = min (F 1 0) ((t : Int) + F 4 o) := by unfold wen; omega
  have lp : ∀ (j u : Nat), u + j = t + 1 → (wfs (F 4 o) t) ≤ u → zJ l g RX0 cX0_isSpent 7 (some .boolean) "isSpent" (zRm 2 0 0) 0 0 (fun r h => r = some (.int (iz (if spc (nda F k) (F 4 o) (F 5 o) (F 2 k) t (F 18) then 1 else 0))) ∧ h = zk g F L im c) 0 0 19 [some (.ref (g.2.1 + 17)), some (.ref (g.2.1 + 1)), some (.int (iz o)), some (.int (iz t)), some (.int (iz k)), some (.int (iz (sm (fun u => if (wfs (F 4 o) t) ≤ u ∧ F 18 u < nda F k u then 1 else 0) u))), some (.int (iz u))] [] (zk g F L im c) := by
    intro j
    induction j with
    | zero =>
      intro u hu hau
      have e9 : sm (fun u => if (wfs (F 4 o) t) ≤ u ∧ F 18 u < nda F k u then 1 else 0) u = spn (nda F k) (wfs (F 4 o) t) t (F 18) := by rw [show u = t + 1 by omega]; rfl
      have sb := spn_bd (nda F k) (wfs (F 4 o) t) t (F 18)
      have sr := mul_rg sb.1 (Int.le_trans sb.2 (show (t : Int) + 1 ≤ 41 by omega)) q5.1 q5.2
      rw [e9]
      refine z_iload (pc := 19) rfl dX0_isSpent_19 ?_
      refine z_iload_n (pc := 21) rfl dX0_isSpent_21 ?_
      refine z_icmp_gt (pc := 22) ⟨by omega, by omega⟩ ⟨by omega, by omega⟩ 59 (by decide) dX0_isSpent_22 (fun hq => ?_) (fun hq => ?_)
      rotate_left
      · omega
      refine z_aload_n (pc := 59) rfl dX0_isSpent_59 ?_
      refine zf_X0_53 (pc := 60) rfl rfl dX0_isSpent_60 ?_
      refine z_iload_n (pc := 63) rfl dX0_isSpent_63 ?_
      refine z_iald (pc := 64) rfl (by decide) (by omega) (by omega) dX0_isSpent_64 ?_
      rw [Int.toNat_natCast]
      refine z_if_le (pc := 65) ⟨by omega, by omega⟩ 91 (by decide) dX0_isSpent_65 (fun hq => ?_) (fun hq => ?_)
      · refine z_iconst (pc := 91) dX0_isSpent_91 ?_
        exact z_retz (pc := 92) rfl (Or.inl rfl) (by decide) (by decide) dX0_isSpent_92 ⟨by rw [if_neg (fun h => by have := h.1; omega)], rfl⟩
      refine z_iload (pc := 68) rfl dX0_isSpent_68 ?_
      refine z_aload_n (pc := 70) rfl dX0_isSpent_70 ?_
      refine zf_X0_56 (pc := 71) rfl rfl dX0_isSpent_71 ?_
      refine z_iload (pc := 74) rfl dX0_isSpent_74 ?_
      refine z_iald (pc := 76) rfl (by decide) (by omega) (by omega) dX0_isSpent_76 ?_
      rw [Int.toNat_natCast]
      refine z_imul (pc := 77) dX0_isSpent_77 ?_
      refine z_aload_n (pc := 78) rfl dX0_isSpent_78 ?_
      refine zf_X0_53 (pc := 79) rfl rfl dX0_isSpent_79 ?_
      refine z_iload_n (pc := 82) rfl dX0_isSpent_82 ?_
      refine z_iald (pc := 83) rfl (by decide) (by omega) (by omega) dX0_isSpent_83 ?_
      rw [Int.toNat_natCast]
      refine z_icmp_lt (pc := 84) ⟨by omega, by omega⟩ ⟨by omega, by omega⟩ 91 (by decide) dX0_isSpent_84 (fun hq => ?_) (fun hq => ?_)
      · refine z_iconst (pc := 91) dX0_isSpent_91 ?_
        exact z_retz (pc := 92) rfl (Or.inl rfl) (by decide) (by decide) dX0_isSpent_92 ⟨by rw [if_neg (fun h => by have := h.2; omega)], rfl⟩
      refine z_iconst (pc := 87) dX0_isSpent_87 ?_
      refine z_goto (pc := 88) 92 (by decide) dX0_isSpent_88 ?_
      exact z_retz (pc := 92) rfl (Or.inr rfl) (by decide) (by decide) dX0_isSpent_92 ⟨by rw [if_pos ⟨by assumption, by assumption⟩], rfl⟩
    | succ j ih =>
      intro u hu hau
      have c1 := hc u
      have c2 := q2 u
      refine z_iload (pc := 19) rfl dX0_isSpent_19 ?_
      refine z_iload_n (pc := 21) rfl dX0_isSpent_21 ?_
      refine z_icmp_gt (pc := 22) ⟨by omega, by omega⟩ ⟨by omega, by omega⟩ 59 (by decide) dX0_isSpent_22 (fun hq => ?_) (fun hq => ?_)
      · omega
      refine z_iload (pc := 25) rfl dX0_isSpent_25 ?_
      refine z_aload_n (pc := 27) rfl dX0_isSpent_27 ?_
      refine z_iload (pc := 28) rfl dX0_isSpent_28 ?_
      refine z_iload (pc := 30) rfl dX0_isSpent_30 ?_
      refine z_V2 (pc := 32) (c_needOfAll (k := k) (t := u) hk (by omega)) lk_X0_49 iv_X1_needOfAll rfl rfl ⟨by decide, by decide⟩ (Nat.le_of_ble_eq_true rfl) ⟨by decide, by decide⟩ dX0_isSpent_32 (fun r h9 hq => ?_)
      obtain ⟨rfl, e9⟩ := hq
      rw [e9]
      clear e9 h9
      refine z_r1 ?_
      refine z_aload_n (pc := 35) rfl dX0_isSpent_35 ?_
      refine zf_X0_9 (pc := 36) rfl rfl dX0_isSpent_36 ?_
      refine z_iload (pc := 39) rfl dX0_isSpent_39 ?_
      refine z_iald (pc := 41) rfl (by decide) (by omega) (by omega) dX0_isSpent_41 ?_
      rw [Int.toNat_natCast]
      refine z_icmp_le (pc := 42) ⟨by omega, by omega⟩ ⟨by omega, by omega⟩ 49 (by decide) dX0_isSpent_42 (fun hq => ?_) (fun hq => ?_)
      · refine z_iconst (pc := 49) dX0_isSpent_49 ?_
        refine z_iadd (pc := 50) dX0_isSpent_50 ?_
        have e : sm (fun u => if (wfs (F 4 o) t) ≤ u ∧ F 18 u < nda F k u then 1 else 0) u + 0 = sm (fun u => if (wfs (F 4 o) t) ≤ u ∧ F 18 u < nda F k u then 1 else 0) (u + 1) := by
          show _ = sm (fun u => if (wfs (F 4 o) t) ≤ u ∧ F 18 u < nda F k u then 1 else 0) u + (if (wfs (F 4 o) t) ≤ u ∧ F 18 u < nda F k u then 1 else 0)
          rw [if_neg (by omega)]
        rw [e]
        refine z_is5 (pc := 51) (by decide) rfl dX0_isSpent_51 ?_
        refine z_ii6 (pc := 53) (by decide) rfl dX0_isSpent_53 ?_
        refine z_goto (pc := 56) 19 (by decide) dX0_isSpent_56 ?_
        exact ih (u + 1) (by omega) (by omega)
      · refine z_iconst (pc := 45) dX0_isSpent_45 ?_
        refine z_goto (pc := 46) 50 (by decide) dX0_isSpent_46 ?_
        refine z_iadd (pc := 50) dX0_isSpent_50 ?_
        have e : sm (fun u => if (wfs (F 4 o) t) ≤ u ∧ F 18 u < nda F k u then 1 else 0) u + 1 = sm (fun u => if (wfs (F 4 o) t) ≤ u ∧ F 18 u < nda F k u then 1 else 0) (u + 1) := by
          show _ = sm (fun u => if (wfs (F 4 o) t) ≤ u ∧ F 18 u < nda F k u then 1 else 0) u + (if (wfs (F 4 o) t) ≤ u ∧ F 18 u < nda F k u then 1 else 0)
          rw [if_pos ⟨hau, by assumption⟩]
        rw [e]
        refine z_is5 (pc := 51) (by decide) rfl dX0_isSpent_51 ?_
        refine z_ii6 (pc := 53) (by decide) rfl dX0_isSpent_53 ?_
        refine z_goto (pc := 56) 19 (by decide) dX0_isSpent_56 ?_
        exact ih (u + 1) (by omega) (by omega)
  have e0 : sm (fun u => if (wfs (F 4 o) t) ≤ u ∧ F 18 u < nda F k u then 1 else 0) (wfs (F 4 o) t) = 0 := sm_zero (fun j hj => by show (if (wfs (F 4 o) t) ≤ j ∧ F 18 j < nda F k j then (1 : Int) else 0) = 0; rw [if_neg (by omega)])
  refine z_aload_n (pc := 0) rfl dX0_isSpent_0 ?_
  refine zf_X0_43 (pc := 1) rfl rfl dX0_isSpent_1 ?_
  refine z_iload_n (pc := 4) rfl dX0_isSpent_4 ?_
  refine z_iald (pc := 5) rfl (by decide) (by omega) (by omega) dX0_isSpent_5 ?_
  rw [Int.toNat_natCast, q6]
  refine z_is4 (pc := 6) (by decide) rfl dX0_isSpent_6 ?_
  refine z_iconst (pc := 8) dX0_isSpent_8 ?_
  refine z_top (congrArg iz e0.symm) ?_
  refine z_is5 (pc := 9) (by decide) rfl dX0_isSpent_9 ?_
  refine z_aload_n (pc := 11) rfl dX0_isSpent_11 ?_
  refine z_iload_n (pc := 12) rfl dX0_isSpent_12 ?_
  refine z_iload_n (pc := 13) rfl dX0_isSpent_13 ?_
  refine z_S3 (pc := 14) (c_firstOfLatest hb ht) lk_X0_46 st_X0_firstOfLatest ⟨by decide, by decide⟩ (Nat.le_of_ble_eq_true rfl) ⟨by decide, by decide⟩ dX0_isSpent_14 (fun r h9 hq => ?_)
  obtain ⟨rfl, e9⟩ := hq
  rw [e9]
  clear e9 h9
  refine z_r1 ?_
  refine z_is6 (pc := 17) (by decide) rfl dX0_isSpent_17 ?_
  exact lp (t + 1 - (wfs (F 4 o) t)) (wfs (F 4 o) t) (by omega) (Nat.le_refl _)
theorem c_countOneMore {o k t : Nat} (hb : bq F o k) (ht : t < 40) : zM l g yX0_countOneMore cX0_countOneMore 6 none 2 0 0 [.ref (g.2.1 + 17), .ref (g.2.1 + 1), .int (iz o), .int (iz t)] (zk g F L im c) (fun r h => r = none ∧ h = zk g (va_up F 18 (cwi (F 18) (wfs (F 4 o) t) (wen (F 1 0) (F 4 o) t) 1)) L im c) := by
  refine zM_of 2 (by decide) rfl ?_
  show zJ l g RX0 cX0_countOneMore 6 none "countOneMore" (zRm 2 0 0) 0 0 _ 0 0 0 [some (.ref (g.2.1 + 17)), some (.ref (g.2.1 + 1)), some (.int (iz o)), some (.int (iz t)), none, none] [] _
  have q1 := hb.1
  have q2 := hb.2.1
  have q3 := hb.2.2.1
  have q4 := hb.2.2.2.1
  have q5 := hb.2.2.2.2.1
  have q6 := hb.2.2.2.2.2.1
  have hk := hb.2.2.2.2.2.2.1
  have ho := hb.2.2.2.2.2.2.2
  have eA : ((wfs (F 4 o) t) : Int) = max 0 ((t : Int) - F 4 o + 1) := by unfold wfs; omega
  have eE : ((wen (F 1 0) (F 4 o) t) : Int) = min (F 1 0) ((t : Int) + F 4 o) := by unfold wen; omega
  have lp : ∀ (j u : Nat), u + j = max (wfs (F 4 o) t) (wen (F 1 0) (F 4 o) t) → (wfs (F 4 o) t) ≤ u → zJ l g RX0 cX0_countOneMore 6 none "countOneMore" (zRm 2 0 0) 0 0 (fun r h => r = none ∧ h = zk g (va_up F 18 (cwi (F 18) (wfs (F 4 o) t) (wen (F 1 0) (F 4 o) t) 1)) L im c) 0 0 25 [some (.ref (g.2.1 + 17)), some (.ref (g.2.1 + 1)), some (.int (iz o)), some (.int (iz t)), some (.int (iz (wen (F 1 0) (F 4 o) t))), some (.int (iz u))] [] (zk g (va_up F 18 (cwq (F 18) (wfs (F 4 o) t) (wen (F 1 0) (F 4 o) t) 0 u)) L im c) := by
    intro j
    induction j with
    | zero =>
      intro u hu hau
      refine z_iload (pc := 25) rfl dX0_countOneMore_25 ?_
      refine z_iload (pc := 27) rfl dX0_countOneMore_27 ?_
      refine z_icmp_ge (pc := 29) ⟨by omega, by omega⟩ ⟨by omega, by omega⟩ 49 (by decide) dX0_countOneMore_29 (fun hq => ?_) (fun hq => ?_)
      · refine z_retv (pc := 49) rfl (by decide) (by decide) dX0_countOneMore_49 ⟨rfl, ?_⟩
        have e : cwq (F 18) (wfs (F 4 o) t) (wen (F 1 0) (F 4 o) t) 0 u = cwi (F 18) (wfs (F 4 o) t) (wen (F 1 0) (F 4 o) t) 1 := by
          funext q
          unfold cwq cwi
          by_cases h1 : (wfs (F 4 o) t) ≤ q ∧ q < (wen (F 1 0) (F 4 o) t)
          · rw [if_pos h1, if_pos (by omega)]; omega
          · rw [if_neg h1, if_neg h1, if_neg (by omega)]
        rw [e]
      omega
    | succ j ih =>
      intro u hu hau
      refine z_iload (pc := 25) rfl dX0_countOneMore_25 ?_
      refine z_iload (pc := 27) rfl dX0_countOneMore_27 ?_
      refine z_icmp_ge (pc := 29) ⟨by omega, by omega⟩ ⟨by omega, by omega⟩ 49 (by decide) dX0_countOneMore_29 (fun hq => ?_) (fun hq => ?_)
      · omega
      refine z_aload_n (pc := 32) rfl dX0_countOneMore_32 ?_
      refine zf_X0_9 (pc := 33) rfl rfl dX0_countOneMore_33 ?_
      refine z_iload (pc := 36) rfl dX0_countOneMore_36 ?_
      refine z_dup2 (pc := 38) rfl rfl dX0_countOneMore_38 ?_
      refine z_iald (pc := 39) rfl (by decide) (by omega) (by omega) dX0_countOneMore_39 ?_
      refine z_iconst (pc := 40) dX0_countOneMore_40 ?_
      refine z_iadd (pc := 41) dX0_countOneMore_41 ?_
      refine z_iast (pc := 42) rfl (by decide) (by omega) (by omega) dX0_countOneMore_42 ?_
      refine z_hp zs_18 ?_
      rw [Int.toNat_natCast, up_up]
      refine z_hp (congrArg (fun f => zk g (va_up F 18 f) L im c) (cwq_s (F 18) 0 hau (show u < (wen (F 1 0) (F 4 o) t) by omega))) ?_
      refine z_ii5 (pc := 43) (by decide) rfl dX0_countOneMore_43 ?_
      refine z_goto (pc := 46) 25 (by decide) dX0_countOneMore_46 ?_
      exact ih (u + 1) (by omega) (by omega)
  refine z_aload_n (pc := 0) rfl dX0_countOneMore_0 ?_
  refine zf_X0_21 (pc := 1) rfl rfl dX0_countOneMore_1 ?_
  refine z_iload_n (pc := 4) rfl dX0_countOneMore_4 ?_
  refine z_aload_n (pc := 5) rfl dX0_countOneMore_5 ?_
  refine zf_X0_59 (pc := 6) rfl rfl dX0_countOneMore_6 ?_
  refine z_iload_n (pc := 9) rfl dX0_countOneMore_9 ?_
  refine z_iald (pc := 10) rfl (by decide) (by omega) (by omega) dX0_countOneMore_10 ?_
  rw [Int.toNat_natCast]
  refine z_iadd (pc := 11) dX0_countOneMore_11 ?_
  refine z_mmin (pc := 12) lk_X0_62 ⟨by omega, by omega⟩ ⟨by omega, by omega⟩ ⟨by decide, by decide⟩ (Nat.le_of_ble_eq_true rfl) ⟨by decide, by decide⟩ dX0_countOneMore_12 ?_
  rw [← eE]
  refine z_is4 (pc := 15) (by decide) rfl dX0_countOneMore_15 ?_
  refine z_aload_n (pc := 17) rfl dX0_countOneMore_17 ?_
  refine z_iload_n (pc := 18) rfl dX0_countOneMore_18 ?_
  refine z_iload_n (pc := 19) rfl dX0_countOneMore_19 ?_
  refine z_S3 (pc := 20) (c_firstOfLatest hb ht) lk_X0_46 st_X0_firstOfLatest ⟨by decide, by decide⟩ (Nat.le_of_ble_eq_true rfl) ⟨by decide, by decide⟩ dX0_countOneMore_20 (fun r h9 hq => ?_)
  obtain ⟨rfl, e9⟩ := hq
  rw [e9]
  clear e9 h9
  refine z_r1 ?_
  refine z_is5 (pc := 23) (by decide) rfl dX0_countOneMore_23 ?_
  have := lp (max (wfs (F 4 o) t) (wen (F 1 0) (F 4 o) t) - (wfs (F 4 o) t)) (wfs (F 4 o) t) (by omega) (Nat.le_refl _)
  rw [cwq_0, cwi_0, up_id] at this
  exact this
theorem c_buyAt {o k t : Nat} (hb : bq F o k) (ht : t < 40) (hc : ∀ u, 0 ≤ F 18 u ∧ F 18 u ≤ 5000) : zM l g yX0_buyAt cX0_buyAt 5 (some .int) 3 0 0 [.ref (g.2.1 + 17), .ref (g.2.1 + 1), .int (iz o), .int (iz t)] (zk g F L im c) (fun r h => r = some (.int (iz ((nby (nda F k) (F 4 o) (F 5 o) (F 2 k) (F 1 0) t (F 18) 0 60 : Nat) : Int))) ∧ h = zk g (va_up F 18 (cwi (F 18) (wfs (F 4 o) t) (wen (F 1 0) (F 4 o) t) ((nby (nda F k) (F 4 o) (F 5 o) (F 2 k) (F 1 0) t (F 18) 0 60 : Nat) : Int))) L im c) := by
  refine zM_of 1 (by decide) rfl ?_
  show zJ l g RX0 cX0_buyAt 5 (some .int) "buyAt" (zRm 3 0 0) 0 0 _ 0 0 0 [some (.ref (g.2.1 + 17)), some (.ref (g.2.1 + 1)), some (.int (iz o)), some (.int (iz t)), none] [] _
  have lp : ∀ (f x : Nat), x + f = 60 → nby (nda F k) (F 4 o) (F 5 o) (F 2 k) (F 1 0) t (F 18) x f = nby (nda F k) (F 4 o) (F 5 o) (F 2 k) (F 1 0) t (F 18) 0 60 → zJ l g RX0 cX0_buyAt 5 (some .int) "buyAt" (zRm 3 0 0) 0 0 (fun r h => r = some (.int (iz ((nby (nda F k) (F 4 o) (F 5 o) (F 2 k) (F 1 0) t (F 18) 0 60 : Nat) : Int))) ∧ h = zk g (va_up F 18 (cwi (F 18) (wfs (F 4 o) t) (wen (F 1 0) (F 4 o) t) ((nby (nda F k) (F 4 o) (F 5 o) (F 2 k) (F 1 0) t (F 18) 0 60 : Nat) : Int))) L im c) 0 0 3 [some (.ref (g.2.1 + 17)), some (.ref (g.2.1 + 1)), some (.int (iz o)), some (.int (iz t)), some (.int (iz x))] [] (zk g (va_up F 18 (cwi (F 18) (wfs (F 4 o) t) (wen (F 1 0) (F 4 o) t) (x : Int))) L im c) := by
    intro f
    induction f with
    | zero =>
      intro x hx hn
      refine z_iload (pc := 3) rfl dX0_buyAt_3 ?_
      refine z_bipush (pc := 5) (by decide) dX0_buyAt_5 ?_
      refine z_icmp_ge (pc := 7) ⟨by omega, by omega⟩ ⟨by omega, by omega⟩ 33 (by decide) dX0_buyAt_7 (fun hq => ?_) (fun hq => ?_)
      · refine z_iload (pc := 33) rfl dX0_buyAt_33 ?_
        exact z_reti (pc := 35) rfl (by decide) (by decide) dX0_buyAt_35 ⟨by rw [← hn]; rfl, by rw [← hn]; rfl⟩
      omega
    | succ f ih =>
      intro x hx hn
      refine z_iload (pc := 3) rfl dX0_buyAt_3 ?_
      refine z_bipush (pc := 5) (by decide) dX0_buyAt_5 ?_
      refine z_icmp_ge (pc := 7) ⟨by omega, by omega⟩ ⟨by omega, by omega⟩ 33 (by decide) dX0_buyAt_7 (fun hq => ?_) (fun hq => ?_)
      · omega
      refine z_aload_n (pc := 10) rfl dX0_buyAt_10 ?_
      refine z_aload_n (pc := 11) rfl dX0_buyAt_11 ?_
      refine z_iload_n (pc := 12) rfl dX0_buyAt_12 ?_
      refine z_iload_n (pc := 13) rfl dX0_buyAt_13 ?_
      refine z_V3 (pc := 14) (c_isSpent (F := (va_up F 18 (cwi (F 18) (wfs (F 4 o) t) (wen (F 1 0) (F 4 o) t) (x : Int)))) (o := o) (k := k) (t := t) hb ht (fun u => by have := hc u; show 0 ≤ cwi (F 18) (wfs (F 4 o) t) (wen (F 1 0) (F 4 o) t) (x : Int) u ∧ cwi (F 18) (wfs (F 4 o) t) (wen (F 1 0) (F 4 o) t) (x : Int) u ≤ 10000; unfold cwi; split <;> omega)) lk_X0_35 iv_X0_isSpent rfl rfl ⟨by decide, by decide⟩ (Nat.le_of_ble_eq_true rfl) ⟨by decide, by decide⟩ dX0_buyAt_14 (fun r h9 hq => ?_)
      obtain ⟨rfl, e9⟩ := hq
      rw [e9]
      clear e9 h9
      refine z_r1 ?_
      refine z_top (congrArg iz (show _ = (if spc (nda F k) (F 4 o) (F 5 o) (F 2 k) t (cwi (F 18) (wfs (F 4 o) t) (wen (F 1 0) (F 4 o) t) (x : Int)) then (1 : Int) else 0) from rfl)) ?_
      by_cases hs : spc (nda F k) (F 4 o) (F 5 o) (F 2 k) t (cwi (F 18) (wfs (F 4 o) t) (wen (F 1 0) (F 4 o) t) (x : Int))
      · rw [if_pos hs]
        refine z_if_eq (pc := 17) ⟨by omega, by omega⟩ 33 (by decide) dX0_buyAt_17 (fun hq => ?_) (fun hq => ?_)
        · omega
        refine z_aload_n (pc := 20) rfl dX0_buyAt_20 ?_
        refine z_aload_n (pc := 21) rfl dX0_buyAt_21 ?_
        refine z_iload_n (pc := 22) rfl dX0_buyAt_22 ?_
        refine z_iload_n (pc := 23) rfl dX0_buyAt_23 ?_
        refine z_V3 (pc := 24) (c_countOneMore (F := (va_up F 18 (cwi (F 18) (wfs (F 4 o) t) (wen (F 1 0) (F 4 o) t) (x : Int)))) (o := o) (k := k) (t := t) hb ht) lk_X0_39 iv_X0_countOneMore rfl rfl ⟨by decide, by decide⟩ (Nat.le_of_ble_eq_true rfl) ⟨by decide, by decide⟩ dX0_buyAt_24 (fun r h9 hq => ?_)
        obtain ⟨rfl, e9⟩ := hq
        rw [e9]
        clear e9 h9
        refine z_r0 ?_
        refine z_hp (show _ = zk g (va_up F 18 (cwi (F 18) (wfs (F 4 o) t) (wen (F 1 0) (F 4 o) t) (((x + 1 : Nat)) : Int))) L im c from ?_) ?_
        · rw [up_up]
          exact congrArg (fun f => zk g (va_up F 18 f) L im c) (cwi_cwi (F 18) (wfs (F 4 o) t) (wen (F 1 0) (F 4 o) t) (x : Int))
        refine z_ii4 (pc := 27) (by decide) rfl dX0_buyAt_27 ?_
        refine z_goto (pc := 30) 3 (by decide) dX0_buyAt_30 ?_
        refine ih (x + 1) (by omega) ?_
        rw [← hn]
        conv => rhs; unfold nby
        rw [if_pos hs]
      · rw [if_neg hs]
        refine z_if_eq (pc := 17) ⟨by omega, by omega⟩ 33 (by decide) dX0_buyAt_17 (fun hq => ?_) (fun hq => ?_)
        rotate_left
        · omega
        refine z_iload (pc := 33) rfl dX0_buyAt_33 ?_
        have hn2 : x = nby (nda F k) (F 4 o) (F 5 o) (F 2 k) (F 1 0) t (F 18) 0 60 := by
          rw [← hn]
          unfold nby
          rw [if_neg hs]
        exact z_reti (pc := 35) rfl (by decide) (by decide) dX0_buyAt_35 ⟨by rw [← hn2], by rw [← hn2]⟩
  refine z_iconst (pc := 0) dX0_buyAt_0 ?_
  refine z_is4 (pc := 1) (by decide) rfl dX0_buyAt_1 ?_
  have := lp 60 0 rfl rfl
  rw [show (((0 : Nat)) : Int) = 0 from rfl, cwi_0, up_id] at this
  exact this
theorem c_buyBlindly {o k : Nat} (hb : bq F o k) : zM l g yX0_buyBlindly cX0_buyBlindly 4 none 4 0 0 [.ref (g.2.1 + 17), .ref (g.2.1 + 1), .int (iz o)] (zk g F L im c) (fun r h => r = none ∧ h = zk g (Cs F (put (F 7) (o * 40) (bln (nda F k) (F 4 o) (F 5 o) (F 2 k) (F 1 0)) (F 1 0).toNat) (cnb (nda F k) (F 4 o) (F 5 o) (F 2 k) (F 1 0) (F 1 0).toNat)) L im c) := by
  refine zM_of 1 (by decide) rfl ?_
  show zJ l g RX0 cX0_buyBlindly 4 none "buyBlindly" (zRm 4 0 0) 0 0 _ 0 0 0 [some (.ref (g.2.1 + 17)), some (.ref (g.2.1 + 1)), some (.int (iz o)), none] [] _
  have q1 := hb.1
  have lp : ∀ (j t : Nat), t + j = (F 1 0).toNat → zJ l g RX0 cX0_buyBlindly 4 none "buyBlindly" (zRm 4 0 0) 0 0 (fun r h => r = none ∧ h = zk g (Cs F (put (F 7) (o * 40) (bln (nda F k) (F 4 o) (F 5 o) (F 2 k) (F 1 0)) (F 1 0).toNat) (cnb (nda F k) (F 4 o) (F 5 o) (F 2 k) (F 1 0) (F 1 0).toNat)) L im c) 0 0 10 [some (.ref (g.2.1 + 17)), some (.ref (g.2.1 + 1)), some (.int (iz o)), some (.int (iz t))] [] (zk g (Cs F (put (F 7) (o * 40) (bln (nda F k) (F 4 o) (F 5 o) (F 2 k) (F 1 0)) t) (cnb (nda F k) (F 4 o) (F 5 o) (F 2 k) (F 1 0) t)) L im c) := by
    intro j
    induction j with
    | zero =>
      intro t ht
      refine z_iload_n (pc := 10) rfl dX0_buyBlindly_10 ?_
      refine z_aload_n (pc := 11) rfl dX0_buyBlindly_11 ?_
      refine zf_X0_21 (pc := 12) rfl rfl dX0_buyBlindly_12 ?_
      rw [show (Cs F (put (F 7) (o * 40) (bln (nda F k) (F 4 o) (F 5 o) (F 2 k) (F 1 0)) t) (cnb (nda F k) (F 4 o) (F 5 o) (F 2 k) (F 1 0) t)) 1 0 = F 1 0 from rfl]
      refine z_icmp_ge (pc := 15) ⟨by omega, by omega⟩ ⟨by omega, by omega⟩ 37 (by decide) dX0_buyBlindly_15 (fun hq => ?_) (fun hq => ?_)
      · exact z_retv (pc := 37) rfl (by decide) (by decide) dX0_buyBlindly_37 ⟨rfl, by rw [show t = (F 1 0).toNat by omega]⟩
      omega
    | succ j ih =>
      intro t ht
      have cb := cnb_bd (nda F k) (F 4 o) (F 5 o) (F 2 k) (F 1 0) t
      refine z_iload_n (pc := 10) rfl dX0_buyBlindly_10 ?_
      refine z_aload_n (pc := 11) rfl dX0_buyBlindly_11 ?_
      refine zf_X0_21 (pc := 12) rfl rfl dX0_buyBlindly_12 ?_
      rw [show (Cs F (put (F 7) (o * 40) (bln (nda F k) (F 4 o) (F 5 o) (F 2 k) (F 1 0)) t) (cnb (nda F k) (F 4 o) (F 5 o) (F 2 k) (F 1 0) t)) 1 0 = F 1 0 from rfl]
      refine z_icmp_ge (pc := 15) ⟨by omega, by omega⟩ ⟨by omega, by omega⟩ 37 (by decide) dX0_buyBlindly_15 (fun hq => ?_) (fun hq => ?_)
      · omega
      refine z_aload_n (pc := 18) rfl dX0_buyBlindly_18 ?_
      refine z_iload_n (pc := 19) rfl dX0_buyBlindly_19 ?_
      refine z_iload_n (pc := 20) rfl dX0_buyBlindly_20 ?_
      refine z_aload_n (pc := 21) rfl dX0_buyBlindly_21 ?_
      refine z_aload_n (pc := 22) rfl dX0_buyBlindly_22 ?_
      refine z_iload_n (pc := 23) rfl dX0_buyBlindly_23 ?_
      refine z_iload_n (pc := 24) rfl dX0_buyBlindly_24 ?_
      refine z_V3 (pc := 25) (c_buyAt (F := (Cs F (put (F 7) (o * 40) (bln (nda F k) (F 4 o) (F 5 o) (F 2 k) (F 1 0)) t) (cnb (nda F k) (F 4 o) (F 5 o) (F 2 k) (F 1 0) t))) (o := o) (k := k) (t := t) hb (by omega) (fun u => by have := cb u; show 0 ≤ cnb (nda F k) (F 4 o) (F 5 o) (F 2 k) (F 1 0) t u ∧ cnb (nda F k) (F 4 o) (F 5 o) (F 2 k) (F 1 0) t u ≤ 5000; omega)) lk_X0_27 iv_X0_buyAt rfl rfl ⟨by decide, by decide⟩ (Nat.le_of_ble_eq_true rfl) ⟨by decide, by decide⟩ dX0_buyBlindly_25 (fun r h9 hq => ?_)
      obtain ⟨rfl, e9⟩ := hq
      rw [e9]
      clear e9 h9
      refine z_r1 ?_
      refine z_hp (show _ = zk g (Cs F (put (F 7) (o * 40) (bln (nda F k) (F 4 o) (F 5 o) (F 2 k) (F 1 0)) t) (cnb (nda F k) (F 4 o) (F 5 o) (F 2 k) (F 1 0) (t + 1))) L im c from ?_) ?_
      · rw [up_up]; rfl
      refine z_top (congrArg iz (show _ = bln (nda F k) (F 4 o) (F 5 o) (F 2 k) (F 1 0) t from rfl)) ?_
      refine z_V3 (pc := 28) (c_setBought (F := Cs F (put (F 7) (o * 40) (bln (nda F k) (F 4 o) (F 5 o) (F 2 k) (F 1 0)) t) (cnb (nda F k) (F 4 o) (F 5 o) (F 2 k) (F 1 0) (t + 1))) (o := o) (t := t) (v := bln (nda F k) (F 4 o) (F 5 o) (F 2 k) (F 1 0) t) hb.2.2.2.2.2.2.2 (by omega)) lk_X0_31 iv_X1_setBought rfl rfl ⟨by decide, by decide⟩ (Nat.le_of_ble_eq_true rfl) ⟨by decide, by decide⟩ dX0_buyBlindly_28 (fun r h9 hq => ?_)
      obtain ⟨rfl, e9⟩ := hq
      rw [e9]
      clear e9 h9
      refine z_r0 ?_
      rw [Cs7]
      refine z_hp (congrArg (fun f => zk g (Cs F f (cnb (nda F k) (F 4 o) (F 5 o) (F 2 k) (F 1 0) (t + 1))) L im c) (put_s (F 7) (o * 40) (bln (nda F k) (F 4 o) (F 5 o) (F 2 k) (F 1 0)) t)) ?_
      refine z_ii3 (pc := 31) (by decide) rfl dX0_buyBlindly_31 ?_
      refine z_goto (pc := 34) 10 (by decide) dX0_buyBlindly_34 ?_
      exact ih (t + 1) (by omega)
  refine z_aload_n (pc := 0) rfl dX0_buyBlindly_0 ?_
  refine zf_X0_9 (pc := 1) rfl rfl dX0_buyBlindly_1 ?_
  refine z_iconst (pc := 4) dX0_buyBlindly_4 ?_
  refine z_S2 (pc := 5) (c_fill2 (q := 18) (n := 40) (f := F 18) (v := 0) rfl (by omega)) lk_X0_15 st_J7_fill_53178 ⟨by decide, by decide⟩ (Nat.le_of_ble_eq_true rfl) ⟨by decide, by decide⟩ dX0_buyBlindly_5 (fun r h9 hq => ?_)
  obtain ⟨rfl, e8⟩ := hq
  rw [e8]
  clear e8 h9
  refine z_r0 ?_
  refine z_hp zs_18 ?_
  refine z_cell (q := 18) (N := 40) (f := fl (F 18) 0 40 0) (f2 := fun _ => 0) rfl (fun j hj => by unfold fl; rw [if_pos (by omega)]) ?_
  refine z_hp zs_18 ?_
  rw [up_up]
  refine z_iconst (pc := 8) dX0_buyBlindly_8 ?_
  refine z_is3 (pc := 9) (by decide) rfl dX0_buyBlindly_9 ?_
  have := lp (F 1 0).toNat 0 (by omega)
  rw [put_0] at this
  rw [show Cs F (F 7) (cnb (nda F k) (F 4 o) (F 5 o) (F 2 k) (F 1 0) 0) = va_up F 18 (fun _ => 0) by show va_up (va_up F 7 (F 7)) 18 _ = _; rw [up_id]; rfl] at this
  exact this
end BLIND
