/-! ===== the reference: pays ===== -/
theorem fw_4 (f : Nat → Int) {x : Nat} (hx : x ≤ 4) : fw f x < 4 := by
  by_cases h : 0 < x
  · have := fw_lt f x h; omega
  · rw [show x = 0 by omega]; exact (by decide : 0 < 4)
section REF14
variable {l : Launch} {g : zG} {F : Nat → Nat → Int} {L : Nat → Int} {im : Nat → Option Nat} {c : Nat}
theorem m_pays (B : bi F 1) (hr : rl F 1 0) (h23 : F 23 0 = 0) {o z : Int} (ho : ir o) (hz : ir z) : zM l g yX5_pays cX5_pays 11 (some .long) 2 0 0 [.ref (g.2.1 + 23), .int (iz o), .int (iz z)] (zk g F L im c) (fun r h => r = some (.long (lz (if 0 ≤ o ∧ o ≤ 3 ∧ 0 ≤ z ∧ z < F 1 1 then pyv F z.toNat o.toNat else -1))) ∧ ∃ (a b L2 : Nat → Int), h = zk g (Ps F a b) L2 im c) := by
  refine zM_of 8 (by decide) rfl ?_
  show zJ l g RX5 cX5_pays 11 (some .long) "pays" (zRm 2 0 0) 0 0 _ 0 0 0 [some (.ref (g.2.1 + 23)), some (.int (iz o)), some (.int (iz z)), none, none, none, none, none, none, none, none] [] _
  have b1 := bi_hours B
  have b2 := bi_kinds B
  have no : ¬ (0 ≤ o ∧ o ≤ 3 ∧ 0 ≤ z ∧ z < F 1 1) → zJ l g RX5 cX5_pays 11 (some .long) "pays" (zRm 2 0 0) 0 0 (fun r h => r = some (.long (lz (if 0 ≤ o ∧ o ≤ 3 ∧ 0 ≤ z ∧ z < F 1 1 then pyv F z.toNat o.toNat else -1))) ∧ ∃ (a b L2 : Nat → Int), h = zk g (Ps F a b) L2 im c) 0 0 22 [some (.ref (g.2.1 + 23)), some (.int (iz o)), some (.int (iz z)), none, none, none, none, none, none, none, none] [] (zk g F L im c) := by
    intro hno
    rw [if_neg hno]
    refine z_ldc2 (pc := 22) kl_X5_120 dX5_pays_22 ?_
    exact z_retl (pc := 25) rfl (by decide) (by decide) dX5_pays_25 ⟨rfl, F 40, F 41, L, by rw [show Ps F (F 40) (F 41) = F by show va_up (va_up F 40 (F 40)) 41 (F 41) = F; rw [up_id, up_id]]⟩
  refine z_aload_n (pc := 0) rfl dX5_pays_0 ?_
  refine z_iconst (pc := 1) dX5_pays_1 ?_
  refine zp_X5_72 (pc := 2) rfl (Nat.le_of_ble_eq_true rfl) dX5_pays_2 ?_
  refine z_hp (show _ = zk g F L im c from zs_23_0.trans (congrArg (fun f => zk g f L im c) (up23 h23))) ?_
  refine z_iload_n (pc := 5) rfl dX5_pays_5 ?_
  refine z_iconst (pc := 6) dX5_pays_6 ?_
  refine z_iconst (pc := 7) dX5_pays_7 ?_
  refine z_S3 (pc := 8) (m_in (a := o) (b := 0) (e := 3) (by assumption) ⟨by omega, by omega⟩ ⟨by omega, by omega⟩) lk_X5_80 st_X5_in ⟨by decide, by decide⟩ (Nat.le_of_ble_eq_true rfl) ⟨by decide, by decide⟩ dX5_pays_8 (fun r h9 hq => ?_)
  obtain ⟨rfl, e9⟩ := hq
  rw [e9]
  clear e9 h9
  refine z_r1 ?_
  by_cases hc0 : 0 ≤ o ∧ o ≤ 3
  rotate_left
  · rw [if_neg hc0]
    refine z_if_eq (pc := 11) ⟨by omega, by omega⟩ 22 (by decide) dX5_pays_11 (fun hq => ?_) (fun hq => ?_)
    · exact no (by omega)
    omega
  rw [if_pos hc0]
  refine z_if_eq (pc := 11) ⟨by omega, by omega⟩ 22 (by decide) dX5_pays_11 (fun hq => ?_) (fun hq => ?_)
  · omega
  refine z_aload_n (pc := 14) rfl dX5_pays_14 ?_
  refine z_iload_n (pc := 15) rfl dX5_pays_15 ?_
  refine z_V1 (pc := 16) (m_isKind B hr hz) lk_X5_84 iv_X5_isKind rfl rfl ⟨by decide, by decide⟩ (Nat.le_of_ble_eq_true rfl) ⟨by decide, by decide⟩ dX5_pays_16 (fun r h9 hq => ?_)
  obtain ⟨rfl, e9⟩ := hq
  rw [e9]
  clear e9 h9
  refine z_r1 ?_
  by_cases hc1 : 0 ≤ z ∧ z < F 1 1
  rotate_left
  · rw [if_neg hc1]
    refine z_if_ne (pc := 19) ⟨by omega, by omega⟩ 26 (by decide) dX5_pays_19 (fun hq => ?_) (fun hq => ?_)
    · omega
    exact no (by omega)
  rw [if_pos hc1, if_pos (show 0 ≤ o ∧ o ≤ 3 ∧ 0 ≤ z ∧ z < F 1 1 by omega)]
  refine z_if_ne (pc := 19) ⟨by omega, by omega⟩ 26 (by decide) dX5_pays_19 (fun hq => ?_) (fun hq => ?_)
  rotate_left
  · omega
  clear no
  obtain ⟨k, rfl⟩ := Int.eq_ofNat_of_zero_le hc1.1
  obtain ⟨o, rfl⟩ := Int.eq_ofNat_of_zero_le hc0.1
  rw [Int.toNat_natCast, Int.toNat_natCast]
  have hk : k < 3 := by omega
  have ho4 : o < 4 := by omega
  refine z_aload_n (pc := 26) rfl dX5_pays_26 ?_
  refine z_iload_n (pc := 27) rfl dX5_pays_27 ?_
  refine z_V1 (pc := 28) (m_part B hr hk) lk_X5_151 iv_X5_part rfl rfl ⟨by decide, by decide⟩ (Nat.le_of_ble_eq_true rfl) ⟨by decide, by decide⟩ dX5_pays_28 (fun r h9 hq => ?_)
  obtain ⟨rfl, a, b, L2, e8, hb⟩ := hq
  rw [e8]
  clear e8 h9
  refine z_r0 ?_
  refine z_aload_n (pc := 31) rfl dX5_pays_31 ?_
  refine z_iload_n (pc := 32) rfl dX5_pays_32 ?_
  refine z_V1 (pc := 33) (m_offersCost (F := Ps F a b) (k := k) B hr hk) lk_X5_113 iv_X5_offersCost rfl rfl ⟨by decide, by decide⟩ (Nat.le_of_ble_eq_true rfl) ⟨by decide, by decide⟩ dX5_pays_33 (fun r h9 hq => ?_)
  obtain ⟨rfl, e9⟩ := hq
  rw [e9]
  clear e9 h9
  refine z_r1 ?_
  refine z_topL (congrArg lz (show _ = ofc F k from rfl)) ?_
  refine z_ls3 (pc := 36) (by decide) rfl dX5_pays_36 ?_
  refine z_aload_n (pc := 37) rfl dX5_pays_37 ?_
  refine zf_X5_61 (pc := 38) rfl rfl dX5_pays_38 ?_
  refine z_iconst (pc := 41) dX5_pays_41 ?_
  refine z_iald (pc := 42) rfl (by decide) (by omega) (by omega) dX5_pays_42 ?_
  refine z_aload_n (pc := 43) rfl dX5_pays_43 ?_
  refine zf_X5_61 (pc := 44) rfl rfl dX5_pays_44 ?_
  refine z_iconst (pc := 47) dX5_pays_47 ?_
  refine z_iald (pc := 48) rfl (by decide) (by omega) (by omega) dX5_pays_48 ?_
  refine z_iadd (pc := 49) dX5_pays_49 ?_
  refine z_aload_n (pc := 50) rfl dX5_pays_50 ?_
  refine zf_X5_61 (pc := 51) rfl rfl dX5_pays_51 ?_
  refine z_iconst (pc := 54) dX5_pays_54 ?_
  refine z_iald (pc := 55) rfl (by decide) (by omega) (by omega) dX5_pays_55 ?_
  refine z_iadd (pc := 56) dX5_pays_56 ?_
  refine z_aload_n (pc := 57) rfl dX5_pays_57 ?_
  refine zf_X5_61 (pc := 58) rfl rfl dX5_pays_58 ?_
  refine z_iconst (pc := 61) dX5_pays_61 ?_
  refine z_iald (pc := 62) rfl (by decide) (by omega) (by omega) dX5_pays_62 ?_
  refine z_iadd (pc := 63) dX5_pays_63 ?_
  refine z_top (congrArg iz (show _ = (sm (hd F k (F 1 0).toNat) 4) from ?_)) ?_
  · show b 0 + b 1 + b 2 + b 3 = 0 + (hd F k (F 1 0).toNat) 0 + (hd F k (F 1 0).toNat) 1 + (hd F k (F 1 0).toNat) 2 + (hd F k (F 1 0).toNat) 3
    rw [(hb 0 (by decide)).1, (hb 1 (by decide)).1, (hb 2 (by decide)).1, (hb 3 (by decide)).1]
    omega
  have sb := hs_bd B (t := (F 1 0).toNat) (by omega) k
  have ob := ofc_bd B k
  have bR := bi_rates B k
  have dv9 : ∀ x, x < 4 → lr (ofc F k * (hd F k (F 1 0).toNat) x) ∧ 0 ≤ ofc F k * (hd F k (F 1 0).toNat) x := by
    intro x hx
    have h1 := hd_bd B (t := (F 1 0).toNat) (by omega) k hx
    have h2 := mul_rg ob.1 ob.2 h1.1 h1.2
    exact ⟨⟨by omega, by omega⟩, h2.1⟩
  have tl2 : ∀ (mo : Nat) (y : Option Value), mo = fw (hd F k (F 1 0).toNat) 4 → zJ l g RX5 cX5_pays 11 (some .long) "pays" (zRm 2 0 0) 0 0 (fun r h => r = some (.long (lz (pyv F k o))) ∧ ∃ (a b L2 : Nat → Int), h = zk g (Ps F a b) L2 im c) 0 0 163 [some (.ref (g.2.1 + 23)), some (.int (iz o)), some (.int (iz k)), some (.long (lz (ofc F k))), none, some (.int (iz (sm (hd F k (F 1 0).toNat) 4))), some (.int (iz mo)), some (.long (lz (sm (ctv F k) 4))), none, y, none] [.long (lz (ctv F k o))] (zk g (Ps F a b) L2 im c) := by
    intro mo y hm
    have fl4 := fw_4 (hd F k (F 1 0).toNat) (x := 4) (by omega)
    refine z_ls9 (pc := 163) (by decide) rfl dX5_pays_163 ?_
    refine z_aload_n (pc := 165) rfl dX5_pays_165 ?_
    refine zf_X5_64 (pc := 166) rfl rfl dX5_pays_166 ?_
    refine z_iload_n (pc := 169) rfl dX5_pays_169 ?_
    refine z_lald (pc := 170) rfl (by decide) (by omega) (by omega) dX5_pays_170 ?_
    rw [Int.toNat_natCast, (hb o ho4).2]
    refine z_lload (pc := 171) rfl dX5_pays_171 ?_
    refine z_ladd (pc := 173) dX5_pays_173 ?_
    refine z_iload_n (pc := 174) rfl dX5_pays_174 ?_
    refine z_iload (pc := 175) rfl dX5_pays_175 ?_
    refine z_icmp_ne (pc := 177) ⟨by omega, by omega⟩ ⟨by omega, by omega⟩ 187 (by decide) dX5_pays_177 (fun hq => ?_) (fun hq => ?_)
    · refine z_lconst (pc := 187) (v := 0) (by decide) dX5_pays_187 ?_
      refine z_ladd (pc := 188) dX5_pays_188 ?_
      refine z_retl (pc := 189) rfl (by decide) (by decide) dX5_pays_189 ⟨congrArg (fun v => some (Value.long (lz v))) ?_, a, b, L2, rfl⟩
      unfold pyv
      rw [if_neg (by omega)]
      omega
    · refine z_lload_n (pc := 180) rfl dX5_pays_180 ?_
      refine z_lload (pc := 181) rfl dX5_pays_181 ?_
      refine z_lsub (pc := 183) dX5_pays_183 ?_
      refine z_goto (pc := 184) 188 (by decide) dX5_pays_184 ?_
      refine z_ladd (pc := 188) dX5_pays_188 ?_
      refine z_retl (pc := 189) rfl (by decide) (by decide) dX5_pays_189 ⟨congrArg (fun v => some (Value.long (lz v))) ?_, a, b, L2, rfl⟩
      unfold pyv
      rw [if_pos (by omega)]
      omega
  have lp : ∀ (j x : Nat), x + j = 4 → zJ l g RX5 cX5_pays 11 (some .long) "pays" (zRm 2 0 0) 0 0 (fun r h => r = some (.long (lz (pyv F k o))) ∧ ∃ (a b L2 : Nat → Int), h = zk g (Ps F a b) L2 im c) 0 0 75 [some (.ref (g.2.1 + 23)), some (.int (iz o)), some (.int (iz k)), some (.long (lz (ofc F k))), none, some (.int (iz (sm (hd F k (F 1 0).toNat) 4))), some (.int (iz ((fw (hd F k (F 1 0).toNat) x : Nat) : Int))), some (.long (lz (sm (ctv F k) x))), none, some (.int (iz x)), none] [] (zk g (Ps F a b) L2 im c) := by
    intro j
    induction j with
    | zero =>
      intro x hx
      refine z_iload (pc := 75) rfl dX5_pays_75 ?_
      refine z_iconst (pc := 77) dX5_pays_77 ?_
      refine z_icmp_ge (pc := 78) ⟨by omega, by omega⟩ ⟨by omega, by omega⟩ 141 (by decide) dX5_pays_78 (fun hq => ?_) (fun hq => ?_)
      rotate_left
      · omega
      rw [show x = 4 by omega]
      refine z_iload (pc := 141) rfl dX5_pays_141 ?_
      refine z_if_ne (pc := 143) ⟨by omega, by omega⟩ 150 (by decide) dX5_pays_143 (fun hq => ?_) (fun hq => ?_)
      rotate_left
      · refine z_lconst (pc := 146) (v := 0) (by decide) dX5_pays_146 ?_
        refine z_goto (pc := 147) 163 (by decide) dX5_pays_147 ?_
        refine z_topL (congrArg lz (show (0 : Int) = ctv F k o by unfold ctv; rw [if_neg (by omega)])) ?_
        exact tl2 _ _ rfl
      · refine z_lload_n (pc := 150) rfl dX5_pays_150 ?_
        refine z_aload_n (pc := 151) rfl dX5_pays_151 ?_
        refine zf_X5_61 (pc := 152) rfl rfl dX5_pays_152 ?_
        refine z_iload_n (pc := 155) rfl dX5_pays_155 ?_
        refine z_iald (pc := 156) rfl (by decide) (by omega) (by omega) dX5_pays_156 ?_
        rw [Int.toNat_natCast, show Ps F a b 41 o = (hd F k (F 1 0).toNat) o from (hb o ho4).1]
        have h1 := hd_bd B (t := (F 1 0).toNat) (by omega) k ho4
        have h2 := dv9 o ho4
        refine z_i2l (pc := 157) ⟨by omega, by omega⟩ dX5_pays_157 ?_
        refine z_lmul (pc := 158) dX5_pays_158 ?_
        refine z_iload (pc := 159) rfl dX5_pays_159 ?_
        refine z_i2l (pc := 161) ⟨by omega, by omega⟩ dX5_pays_161 ?_
        refine z_ldiv (pc := 162) h2.1 h2.2 ⟨by omega, by omega⟩ (by omega) dX5_pays_162 ?_
        refine z_topL (congrArg lz (show _ = ctv F k o by unfold ctv; rw [if_pos (by omega)])) ?_
        exact tl2 _ _ rfl
    | succ j ih =>
      intro x hx
      have fl4 := fw_4 (hd F k (F 1 0).toNat) (x := x) (by omega)
      have h1 := hd_bd B (t := (F 1 0).toNat) (by omega) k (x := x) (by omega)
      have h1f := hd_bd B (t := (F 1 0).toNat) (by omega) k (x := fw (hd F k (F 1 0).toNat) x) fl4
      have h2 := dv9 x (by omega)
      have c132 : ∀ mo : Nat, mo = fw (hd F k (F 1 0).toNat) (x + 1) → zJ l g RX5 cX5_pays 11 (some .long) "pays" (zRm 2 0 0) 0 0 (fun r h => r = some (.long (lz (pyv F k o))) ∧ ∃ (a b L2 : Nat → Int), h = zk g (Ps F a b) L2 im c) 0 0 132 [some (.ref (g.2.1 + 23)), some (.int (iz o)), some (.int (iz k)), some (.long (lz (ofc F k))), none, some (.int (iz (sm (hd F k (F 1 0).toNat) 4))), some (.int (iz mo)), some (.long (lz (sm (ctv F k) x))), none, some (.int (iz x)), none] [.long (lz (ctv F k x)), .long (lz (sm (ctv F k) x))] (zk g (Ps F a b) L2 im c) := by
        intro mo hm
        subst hm
        refine z_ladd (pc := 132) dX5_pays_132 ?_
        refine z_ls7 (pc := 133) (by decide) rfl dX5_pays_133 ?_
        refine z_ii9 (pc := 135) (by decide) rfl dX5_pays_135 ?_
        refine z_goto (pc := 138) 75 (by decide) dX5_pays_138 ?_
        exact ih (x + 1) (by omega)
      have c105 : ∀ (mo : Nat), mo = fw (hd F k (F 1 0).toNat) (x + 1) → zJ l g RX5 cX5_pays 11 (some .long) "pays" (zRm 2 0 0) 0 0 (fun r h => r = some (.long (lz (pyv F k o))) ∧ ∃ (a b L2 : Nat → Int), h = zk g (Ps F a b) L2 im c) 0 0 105 [some (.ref (g.2.1 + 23)), some (.int (iz o)), some (.int (iz k)), some (.long (lz (ofc F k))), none, some (.int (iz (sm (hd F k (F 1 0).toNat) 4))), some (.int (iz ((fw (hd F k (F 1 0).toNat) x : Nat) : Int))), some (.long (lz (sm (ctv F k) x))), none, some (.int (iz x)), none] [.int (iz mo)] (zk g (Ps F a b) L2 im c) := by
        intro mo hm
        refine z_is6 (pc := 105) (by decide) rfl dX5_pays_105 ?_
        refine z_lload (pc := 107) rfl dX5_pays_107 ?_
        refine z_iload (pc := 109) rfl dX5_pays_109 ?_
        refine z_if_ne (pc := 111) ⟨by omega, by omega⟩ 118 (by decide) dX5_pays_111 (fun hq => ?_) (fun hq => ?_)
        rotate_left
        · refine z_lconst (pc := 114) (v := 0) (by decide) dX5_pays_114 ?_
          refine z_goto (pc := 115) 132 (by decide) dX5_pays_115 ?_
          refine z_topL (congrArg lz (show (0 : Int) = ctv F k x by unfold ctv; rw [if_neg (by omega)])) ?_
          exact c132 _ hm
        · refine z_lload_n (pc := 118) rfl dX5_pays_118 ?_
          refine z_aload_n (pc := 119) rfl dX5_pays_119 ?_
          refine zf_X5_61 (pc := 120) rfl rfl dX5_pays_120 ?_
          refine z_iload (pc := 123) rfl dX5_pays_123 ?_
          refine z_iald (pc := 125) rfl (by decide) (by omega) (by omega) dX5_pays_125 ?_
          rw [Int.toNat_natCast, show Ps F a b 41 x = (hd F k (F 1 0).toNat) x from (hb x (by omega)).1]
          refine z_i2l (pc := 126) ⟨by omega, by omega⟩ dX5_pays_126 ?_
          refine z_lmul (pc := 127) dX5_pays_127 ?_
          refine z_iload (pc := 128) rfl dX5_pays_128 ?_
          refine z_i2l (pc := 130) ⟨by omega, by omega⟩ dX5_pays_130 ?_
          refine z_ldiv (pc := 131) h2.1 h2.2 ⟨by omega, by omega⟩ (by omega) dX5_pays_131 ?_
          refine z_topL (congrArg lz (show _ = ctv F k x by unfold ctv; rw [if_pos (by omega)])) ?_
          exact c132 _ hm
      refine z_iload (pc := 75) rfl dX5_pays_75 ?_
      refine z_iconst (pc := 77) dX5_pays_77 ?_
      refine z_icmp_ge (pc := 78) ⟨by omega, by omega⟩ ⟨by omega, by omega⟩ 141 (by decide) dX5_pays_78 (fun hq => ?_) (fun hq => ?_)
      · omega
      refine z_aload_n (pc := 81) rfl dX5_pays_81 ?_
      refine zf_X5_61 (pc := 82) rfl rfl dX5_pays_82 ?_
      refine z_iload (pc := 85) rfl dX5_pays_85 ?_
      refine z_iald (pc := 87) rfl (by decide) (by omega) (by omega) dX5_pays_87 ?_
      refine z_aload_n (pc := 88) rfl dX5_pays_88 ?_
      refine zf_X5_61 (pc := 89) rfl rfl dX5_pays_89 ?_
      refine z_iload (pc := 92) rfl dX5_pays_92 ?_
      refine z_iald (pc := 94) rfl (by decide) (by omega) (by omega) dX5_pays_94 ?_
      rw [Int.toNat_natCast, Int.toNat_natCast, show Ps F a b 41 x = (hd F k (F 1 0).toNat) x from (hb x (by omega)).1, show Ps F a b 41 (fw (hd F k (F 1 0).toNat) x) = (hd F k (F 1 0).toNat) (fw (hd F k (F 1 0).toNat) x) from (hb _ fl4).1]
      refine z_icmp_le (pc := 95) ⟨by omega, by omega⟩ ⟨by omega, by omega⟩ 103 (by decide) dX5_pays_95 (fun hq => ?_) (fun hq => ?_)
      · refine z_iload (pc := 103) rfl dX5_pays_103 ?_
        exact c105 _ (fw_lo (hd F k (F 1 0).toNat) (by omega)).symm
      · refine z_iload (pc := 98) rfl dX5_pays_98 ?_
        refine z_goto (pc := 100) 105 (by decide) dX5_pays_100 ?_
        exact c105 x (fw_hi (hd F k (F 1 0).toNat) (by omega)).symm
  refine z_is5 (pc := 64) (by decide) rfl dX5_pays_64 ?_
  refine z_iconst (pc := 66) dX5_pays_66 ?_
  refine z_is6 (pc := 67) (by decide) rfl dX5_pays_67 ?_
  refine z_lconst (pc := 69) (v := 0) (by decide) dX5_pays_69 ?_
  refine z_ls7 (pc := 70) (by decide) rfl dX5_pays_70 ?_
  refine z_iconst (pc := 72) dX5_pays_72 ?_
  refine z_is9 (pc := 73) (by decide) rfl dX5_pays_73 ?_
  exact lp 4 0 rfl
end REF14
