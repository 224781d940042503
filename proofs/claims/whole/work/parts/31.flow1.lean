/-! ===== Flow: the small methods, and the search of one point ===== -/
def fr (F : Nat → Nat → Int) : Prop := (1 ≤ F 9 0 ∧ F 9 0 ≤ 40) ∧ (2 ≤ F 9 1 ∧ F 9 1 ≤ 8) ∧ (∀ v, -1 ≤ F 10 v ∧ F 10 v ≤ 40) ∧ (∀ v, 0 ≤ F 11 v ∧ F 11 v ≤ 40000) ∧ (∀ j, 0 ≤ F 12 j ∧ F 12 j ≤ 100000000) ∧ (∀ u, 0 ≤ F 13 u ∧ F 13 u ≤ 200000) ∧ (∀ u, 0 ≤ F 14 u ∧ F 14 u ≤ 1000000000) ∧ (∀ u, 0 ≤ F 15 u ∧ F 15 u ≤ 15) ∧ ∀ u, F 16 u = 0 ∨ F 16 u = 1
abbrev nN (F : Nat → Nat → Int) : Nat := (F 9 0).toNat
abbrev nW (F : Nat → Nat → Int) : Nat := (F 9 1).toNat
abbrev rsF (F : Nat → Nat → Int) (b u v : Nat) : Prop := rs (nN F) (nW F) (F 10) (F 12) b u v
abbrev ftF (F : Nat → Nat → Int) : Prop := ft (nN F) (nW F) (F 10) (F 11) (F 12) (F 13)
abbrev rcF (F : Nat → Nat → Int) (b u v : Nat) : Int := fb (F 11) b - F 13 u + F 13 v
def rch (F : Nat → Nat → Int) (u : Int) (q : Nat) (fee b : Int) : Nat → Nat → Int := if 0 ≤ u ∧ u ≤ F 9 0 ∧ F 16 u.toNat = 0 ∧ F 14 q + fee - F 13 u.toNat + F 13 q < F 14 u.toNat then va_up (va_up F 14 (vf_upd (F 14) u.toNat (F 14 q + fee - F 13 u.toNat + F 13 q))) 15 (vf_upd (F 15) u.toNat b) else F
theorem nN_eq {F : Nat → Nat → Int} (R : fr F) : ((nN F : Nat) : Int) = F 9 0 := by have := R.1; show ((F 9 0).toNat : Int) = _; omega
theorem nW_eq {F : Nat → Nat → Int} (R : fr F) : ((nW F : Nat) : Int) = F 9 1 := by have := R.2.1; show ((F 9 1).toNat : Int) = _; omega
section FLOW1
variable {l : Launch} {g : zG} {F : Nat → Nat → Int} {L : Nat → Int} {im : Nat → Option Nat} {c : Nat}
theorem c_takesBack (R : fr F) {p : Nat} (hp : p ≤ 40) : zM l g yX2_takesBack cX2_takesBack 2 (some .boolean) 0 0 0 [.ref (g.2.1 + 9), .int (iz p)] (zk g F L im c) (fun r h => r = some (.int (iz (if 8 ≤ F 15 p then 1 else 0))) ∧ h = zk g F L im c) := by
  refine zM_of 0 (by decide) rfl ?_
  show zJ l g RX2 cX2_takesBack 2 (some .boolean) "takesBack" (zRm 0 0 0) 0 0 _ 0 0 0 [some (.ref (g.2.1 + 9)), some (.int (iz p))] [] _
  have h1 := R.2.2.2.2.2.2.2.1 p
  refine z_aload_n (pc := 0) rfl dX2_takesBack_0 ?_
  refine zf_X2_27 (pc := 1) rfl rfl dX2_takesBack_1 ?_
  refine z_iload_n (pc := 4) rfl dX2_takesBack_4 ?_
  refine z_iald (pc := 5) rfl (by decide) (by omega) (by omega) dX2_takesBack_5 ?_
  rw [Int.toNat_natCast]
  refine z_bipush (pc := 6) (by decide) dX2_takesBack_6 ?_
  refine z_icmp_lt (pc := 8) ⟨by omega, by omega⟩ ⟨by omega, by omega⟩ 15 (by decide) dX2_takesBack_8 (fun hq => ?_) (fun hq => ?_)
  · rw [if_neg (by omega)]
    refine z_iconst (pc := 15) dX2_takesBack_15 ?_
    exact z_retz (pc := 16) rfl (Or.inl rfl) (by decide) (by decide) dX2_takesBack_16 ⟨rfl, rfl⟩
  rw [if_pos (by omega)]
  refine z_iconst (pc := 11) dX2_takesBack_11 ?_
  refine z_goto (pc := 12) 16 (by decide) dX2_takesBack_12 ?_
  exact z_retz (pc := 16) rfl (Or.inr rfl) (by decide) (by decide) dX2_takesBack_16 ⟨rfl, rfl⟩
theorem c_after (R : fr F) {p : Nat} (hp : p ≤ 40) : zM l g yX2_after cX2_after 3 (some .int) 0 0 0 [.ref (g.2.1 + 9), .int (iz p)] (zk g F L im c) (fun r h => r = some (.int (iz (if 8 ≤ F 15 p then p - F 10 ((F 15 p).toNat - 8) else p + F 10 (F 15 p).toNat))) ∧ h = zk g F L im c) := by
  refine zM_of 1 (by decide) rfl ?_
  show zJ l g RX2 cX2_after 3 (some .int) "after" (zRm 0 0 0) 0 0 _ 0 0 0 [some (.ref (g.2.1 + 9)), some (.int (iz p)), none] [] _
  have h1 := R.2.2.2.2.2.2.2.1 p
  refine z_aload_n (pc := 0) rfl dX2_after_0 ?_
  refine zf_X2_27 (pc := 1) rfl rfl dX2_after_1 ?_
  refine z_iload_n (pc := 4) rfl dX2_after_4 ?_
  refine z_iald (pc := 5) rfl (by decide) (by omega) (by omega) dX2_after_5 ?_
  rw [Int.toNat_natCast]
  refine z_is2 (pc := 6) (by decide) rfl dX2_after_6 ?_
  refine z_iload_n (pc := 7) rfl dX2_after_7 ?_
  refine z_bipush (pc := 8) (by decide) dX2_after_8 ?_
  refine z_icmp_lt (pc := 10) ⟨by omega, by omega⟩ ⟨by omega, by omega⟩ 27 (by decide) dX2_after_10 (fun hq => ?_) (fun hq => ?_)
  · rw [if_neg (by omega)]
    refine z_iload_n (pc := 27) rfl dX2_after_27 ?_
    refine z_aload_n (pc := 28) rfl dX2_after_28 ?_
    refine zf_X2_11 (pc := 29) rfl rfl dX2_after_29 ?_
    refine z_iload_n (pc := 32) rfl dX2_after_32 ?_
    refine z_iald (pc := 33) rfl (by decide) (by omega) (by omega) dX2_after_33 ?_
    refine z_iadd (pc := 34) dX2_after_34 ?_
    exact z_reti (pc := 35) rfl (by decide) (by decide) dX2_after_35 ⟨rfl, rfl⟩
  rw [if_pos (by omega), show (F 15 p).toNat - 8 = (F 15 p - 8).toNat by omega]
  refine z_iload_n (pc := 13) rfl dX2_after_13 ?_
  refine z_aload_n (pc := 14) rfl dX2_after_14 ?_
  refine zf_X2_11 (pc := 15) rfl rfl dX2_after_15 ?_
  refine z_iload_n (pc := 18) rfl dX2_after_18 ?_
  refine z_bipush (pc := 19) (by decide) dX2_after_19 ?_
  refine z_isub (pc := 21) dX2_after_21 ?_
  refine z_iald (pc := 22) rfl (by decide) (by omega) (by omega) dX2_after_22 ?_
  refine z_isub (pc := 23) dX2_after_23 ?_
  refine z_goto (pc := 24) 35 (by decide) dX2_after_24 ?_
  exact z_reti (pc := 35) rfl (by decide) (by decide) dX2_after_35 ⟨rfl, rfl⟩
theorem c_addWay {a b : Int} (h0 : 0 ≤ F 9 1) (h8 : F 9 1 < 8) : zM l g yX2_addWay cX2_addWay 3 none 0 0 0 [.ref (g.2.1 + 9), .int (iz a), .int (iz b)] (zk g F L im c) (fun r h => r = none ∧ h = zk g (va_up (va_up (va_up F 10 (vf_upd (F 10) (F 9 1).toNat a)) 11 (vf_upd (F 11) (F 9 1).toNat b)) 9 (vf_upd (F 9) 1 (F 9 1 + 1))) L im c) := by
  refine zM_of 0 (by decide) rfl ?_
  show zJ l g RX2 cX2_addWay 3 none "addWay" (zRm 0 0 0) 0 0 _ 0 0 0 [some (.ref (g.2.1 + 9)), some (.int (iz a)), some (.int (iz b))] [] _
  refine z_aload_n (pc := 0) rfl dX2_addWay_0 ?_
  refine zf_X2_11 (pc := 1) rfl rfl dX2_addWay_1 ?_
  refine z_aload_n (pc := 4) rfl dX2_addWay_4 ?_
  refine zf_X2_69 (pc := 5) rfl rfl dX2_addWay_5 ?_
  refine z_iload_n (pc := 8) rfl dX2_addWay_8 ?_
  refine z_iast (pc := 9) rfl (by decide) (by omega) (by omega) dX2_addWay_9 ?_
  refine z_hp zs_10 ?_
  refine z_aload_n (pc := 10) rfl dX2_addWay_10 ?_
  refine zf_X2_15 (pc := 11) rfl rfl dX2_addWay_11 ?_
  refine z_aload_n (pc := 14) rfl dX2_addWay_14 ?_
  refine zf_X2_69 (pc := 15) rfl rfl dX2_addWay_15 ?_
  refine z_iload_n (pc := 18) rfl dX2_addWay_18 ?_
  refine z_iast (pc := 19) rfl (by decide) (show 0 ≤ F 9 1 from h0) (show F 9 1 < 8 from h8) dX2_addWay_19 ?_
  refine z_hp zs_11 ?_
  refine z_aload_n (pc := 20) rfl dX2_addWay_20 ?_
  refine z_dup (pc := 21) rfl dX2_addWay_21 ?_
  refine zf_X2_69 (pc := 22) rfl rfl dX2_addWay_22 ?_
  refine z_iconst (pc := 25) dX2_addWay_25 ?_
  refine z_iadd (pc := 26) dX2_addWay_26 ?_
  refine zp_X2_69 (pc := 27) rfl (Nat.le_of_ble_eq_true rfl) dX2_addWay_27 ?_
  refine z_hp zs_9_1 ?_
  exact z_retv (pc := 30) rfl (by decide) (by decide) dX2_addWay_30 ⟨rfl, rfl⟩
theorem c_reach (R : fr F) {u : Int} (hu : ir u) {q : Nat} (hq : q ≤ 40) {fee b : Int} (hf : -40000 ≤ fee ∧ fee ≤ 40000) : zM l g yX2_reach cX2_reach 6 none 0 0 0 [.ref (g.2.1 + 9), .int (iz u), .int (iz q), .int (iz fee), .int (iz b)] (zk g F L im c) (fun r h => r = none ∧ h = zk g (rch F u q fee b) L im c) := by
  refine zM_of 1 (by decide) rfl ?_
  show zJ l g RX2 cX2_reach 6 none "reach" (zRm 0 0 0) 0 0 _ 0 0 0 [some (.ref (g.2.1 + 9)), some (.int (iz u)), some (.int (iz q)), some (.int (iz fee)), some (.int (iz b)), none] [] _
  have r1 := R.1
  have r2 := R.2.2.2.2.2.1
  have r3 := R.2.2.2.2.2.2.1
  have r4 := R.2.2.2.2.2.2.2.2 u.toNat
  have a1 := r2 q
  have a2 := r2 u.toNat
  have a3 := r3 q
  have a4 := r3 u.toNat
  unfold rch
  refine z_iload_n (pc := 0) rfl dX2_reach_0 ?_
  refine z_if_lt (pc := 1) hu 21 (by decide) dX2_reach_1 (fun hq => ?_) (fun hq => ?_)
  · rw [if_neg (by omega)]
    exact z_retv (pc := 21) rfl (by decide) (by decide) dX2_reach_21 ⟨rfl, rfl⟩
  refine z_iload_n (pc := 4) rfl dX2_reach_4 ?_
  refine z_aload_n (pc := 5) rfl dX2_reach_5 ?_
  refine zf_X2_44 (pc := 6) rfl rfl dX2_reach_6 ?_
  refine z_icmp_gt (pc := 9) hu ⟨by omega, by omega⟩ 21 (by decide) dX2_reach_9 (fun hq => ?_) (fun hq => ?_)
  · rw [if_neg (by omega)]
    exact z_retv (pc := 21) rfl (by decide) (by decide) dX2_reach_21 ⟨rfl, rfl⟩
  refine z_aload_n (pc := 12) rfl dX2_reach_12 ?_
  refine zf_X2_30 (pc := 13) rfl rfl dX2_reach_13 ?_
  refine z_iload_n (pc := 16) rfl dX2_reach_16 ?_
  refine z_zald (pc := 17) rfl (by decide) (by omega) (by omega) dX2_reach_17 ?_
  refine z_if_eq (pc := 18) ⟨by omega, by omega⟩ 22 (by decide) dX2_reach_18 (fun hq => ?_) (fun hq => ?_)
  rotate_left
  · rw [if_neg (by omega)]
    exact z_retv (pc := 21) rfl (by decide) (by decide) dX2_reach_21 ⟨rfl, rfl⟩
  refine z_aload_n (pc := 22) rfl dX2_reach_22 ?_
  refine zf_X2_24 (pc := 23) rfl rfl dX2_reach_23 ?_
  refine z_iload_n (pc := 26) rfl dX2_reach_26 ?_
  refine z_iald (pc := 27) rfl (by decide) (by omega) (by omega) dX2_reach_27 ?_
  refine z_iload_n (pc := 28) rfl dX2_reach_28 ?_
  refine z_iadd (pc := 29) dX2_reach_29 ?_
  refine z_aload_n (pc := 30) rfl dX2_reach_30 ?_
  refine zf_X2_21 (pc := 31) rfl rfl dX2_reach_31 ?_
  refine z_iload_n (pc := 34) rfl dX2_reach_34 ?_
  refine z_iald (pc := 35) rfl (by decide) (by omega) (by omega) dX2_reach_35 ?_
  refine z_isub (pc := 36) dX2_reach_36 ?_
  refine z_aload_n (pc := 37) rfl dX2_reach_37 ?_
  refine zf_X2_21 (pc := 38) rfl rfl dX2_reach_38 ?_
  refine z_iload_n (pc := 41) rfl dX2_reach_41 ?_
  refine z_iald (pc := 42) rfl (by decide) (by omega) (by omega) dX2_reach_42 ?_
  refine z_iadd (pc := 43) dX2_reach_43 ?_
  refine z_is5 (pc := 44) (by decide) rfl dX2_reach_44 ?_
  refine z_iload (pc := 46) rfl dX2_reach_46 ?_
  refine z_aload_n (pc := 48) rfl dX2_reach_48 ?_
  refine zf_X2_24 (pc := 49) rfl rfl dX2_reach_49 ?_
  refine z_iload_n (pc := 52) rfl dX2_reach_52 ?_
  refine z_iald (pc := 53) rfl (by decide) (by omega) (by omega) dX2_reach_53 ?_
  rw [Int.toNat_natCast]
  refine z_icmp_ge (pc := 54) ⟨by omega, by omega⟩ ⟨by omega, by omega⟩ 73 (by decide) dX2_reach_54 (fun hq => ?_) (fun hq => ?_)
  · rw [if_neg (by omega)]
    exact z_retv (pc := 73) rfl (by decide) (by decide) dX2_reach_73 ⟨rfl, rfl⟩
  rw [if_pos (by omega)]
  refine z_aload_n (pc := 57) rfl dX2_reach_57 ?_
  refine zf_X2_24 (pc := 58) rfl rfl dX2_reach_58 ?_
  refine z_iload_n (pc := 61) rfl dX2_reach_61 ?_
  refine z_iload (pc := 62) rfl dX2_reach_62 ?_
  refine z_iast (pc := 64) rfl (by decide) (by omega) (by omega) dX2_reach_64 ?_
  refine z_hp zs_14 ?_
  refine z_aload_n (pc := 65) rfl dX2_reach_65 ?_
  refine zf_X2_27 (pc := 66) rfl rfl dX2_reach_66 ?_
  refine z_iload_n (pc := 69) rfl dX2_reach_69 ?_
  refine z_iload (pc := 70) rfl dX2_reach_70 ?_
  refine z_iast (pc := 72) rfl (by decide) (by omega) (by omega) dX2_reach_72 ?_
  refine z_hp zs_15 ?_
  exact z_retv (pc := 73) rfl (by decide) (by decide) dX2_reach_73 ⟨rfl, rfl⟩
theorem c_nearest (R : fr F) : zM l g yX2_nearest cX2_nearest 3 (some .int) 0 0 0 [.ref (g.2.1 + 9)] (zk g F L im c) (fun r h => (∃ z : Int, r = some (.int (iz z)) ∧ ((z = -1 ∧ ∀ u, u ≤ nN F → F 16 u = 1) ∨ ∃ p : Nat, z = p ∧ p ≤ nN F ∧ F 16 p = 0 ∧ ∀ u, u ≤ nN F → F 16 u = 0 → F 14 p ≤ F 14 u)) ∧ h = zk g F L im c) := by
  refine zM_of 2 (by decide) rfl ?_
  show zJ l g RX2 cX2_nearest 3 (some .int) "nearest" (zRm 0 0 0) 0 0 _ 0 0 0 [some (.ref (g.2.1 + 9)), none, none] [] _
  have r1 := R.1
  have eN := nN_eq R
  have r3 := R.2.2.2.2.2.2.1
  have r4 := R.2.2.2.2.2.2.2.2
  have loop : ∀ (j x : Nat) (z : Int), x + j = nN F + 1 → ((z = -1 ∧ ∀ u, u < x → F 16 u = 1) ∨ ∃ p : Nat, z = p ∧ p < x ∧ F 16 p = 0 ∧ ∀ u, u < x → F 16 u = 0 → F 14 p ≤ F 14 u) → zJ l g RX2 cX2_nearest 3 (some .int) "nearest" (zRm 0 0 0) 0 0 (fun r h => (∃ z : Int, r = some (.int (iz z)) ∧ ((z = -1 ∧ ∀ u, u ≤ nN F → F 16 u = 1) ∨ ∃ p : Nat, z = p ∧ p ≤ nN F ∧ F 16 p = 0 ∧ ∀ u, u ≤ nN F → F 16 u = 0 → F 14 p ≤ F 14 u)) ∧ h = zk g F L im c) 0 0 4 [some (.ref (g.2.1 + 9)), some (.int (iz z)), some (.int (iz x))] [] (zk g F L im c) := by
    intro j
    induction j with
    | zero =>
      intro x z hx hz
      refine z_iload_n (pc := 4) rfl dX2_nearest_4 ?_
      refine z_aload_n (pc := 5) rfl dX2_nearest_5 ?_
      refine zf_X2_44 (pc := 6) rfl rfl dX2_nearest_6 ?_
      refine z_icmp_gt (pc := 9) ⟨by omega, by omega⟩ ⟨by omega, by omega⟩ 49 (by decide) dX2_nearest_9 (fun hq => ?_) (fun hq => ?_)
      · refine z_iload_n (pc := 49) rfl dX2_nearest_49 ?_
        refine z_reti (pc := 50) rfl (by decide) (by decide) dX2_nearest_50 ⟨⟨z, rfl, ?_⟩, rfl⟩
        rcases hz with ⟨h1, h2⟩ | ⟨p, h1, h2, h3, h4⟩
        · exact Or.inl ⟨h1, fun u hu => h2 u (by omega)⟩
        · exact Or.inr ⟨p, h1, by omega, h3, fun u hu => h4 u (by omega)⟩
      omega
    | succ j ih =>
      intro x z hx hz
      have a1 := r4 x
      have a2 := r3 x
      refine z_iload_n (pc := 4) rfl dX2_nearest_4 ?_
      refine z_aload_n (pc := 5) rfl dX2_nearest_5 ?_
      refine zf_X2_44 (pc := 6) rfl rfl dX2_nearest_6 ?_
      refine z_icmp_gt (pc := 9) ⟨by omega, by omega⟩ ⟨by omega, by omega⟩ 49 (by decide) dX2_nearest_9 (fun hq => ?_) (fun hq => ?_)
      · omega
      refine z_aload_n (pc := 12) rfl dX2_nearest_12 ?_
      refine zf_X2_30 (pc := 13) rfl rfl dX2_nearest_13 ?_
      refine z_iload_n (pc := 16) rfl dX2_nearest_16 ?_
      refine z_zald (pc := 17) rfl (by decide) (by omega) (by omega) dX2_nearest_17 ?_
      rw [Int.toNat_natCast]
      refine z_if_ne (pc := 18) ⟨by omega, by omega⟩ 43 (by decide) dX2_nearest_18 (fun hq => ?_) (fun hq => ?_)
      · refine z_ii2 (pc := 43) (by decide) rfl dX2_nearest_43 ?_
        refine z_goto (pc := 46) 4 (by decide) dX2_nearest_46 ?_
        refine ih (x + 1) z (by omega) ?_
        rcases hz with ⟨h1, h2⟩ | ⟨p, h1, h2, h3, h4⟩
        · exact Or.inl ⟨h1, fun u hu => by
            by_cases e : u = x
            · rw [e]; omega
            · exact h2 u (by omega)⟩
        · exact Or.inr ⟨p, h1, by omega, h3, fun u hu h0 => by
            by_cases e : u = x
            · rw [e] at h0; omega
            · exact h4 u (by omega) h0⟩
      refine z_iload_n (pc := 21) rfl dX2_nearest_21 ?_
      refine z_iconst (pc := 22) dX2_nearest_22 ?_
      rcases hz with ⟨h1, h2⟩ | ⟨p, h1, h2, h3, h4⟩
      · subst h1
        refine z_icmp_eq (pc := 23) ⟨by omega, by omega⟩ ⟨by omega, by omega⟩ 41 (by decide) dX2_nearest_23 (fun hq => ?_) (fun hq => ?_)
        · refine z_iload_n (pc := 41) rfl dX2_nearest_41 ?_
          refine z_is1 (pc := 42) (by decide) rfl dX2_nearest_42 ?_
          refine z_ii2 (pc := 43) (by decide) rfl dX2_nearest_43 ?_
          refine z_goto (pc := 46) 4 (by decide) dX2_nearest_46 ?_
          refine ih (x + 1) x (by omega) (Or.inr ⟨x, rfl, by omega, by omega, fun u hu h0 => ?_⟩)
          by_cases e : u = x
          · rw [e]; exact Int.le_refl _
          · have := h2 u (by omega)
            omega
        omega
      · subst h1
        have a3 := r3 p
        refine z_icmp_eq (pc := 23) ⟨by omega, by omega⟩ ⟨by omega, by omega⟩ 41 (by decide) dX2_nearest_23 (fun hq => ?_) (fun hq => ?_)
        · omega
        refine z_aload_n (pc := 26) rfl dX2_nearest_26 ?_
        refine zf_X2_24 (pc := 27) rfl rfl dX2_nearest_27 ?_
        refine z_iload_n (pc := 30) rfl dX2_nearest_30 ?_
        refine z_iald (pc := 31) rfl (by decide) (by omega) (by omega) dX2_nearest_31 ?_
        refine z_aload_n (pc := 32) rfl dX2_nearest_32 ?_
        refine zf_X2_24 (pc := 33) rfl rfl dX2_nearest_33 ?_
        refine z_iload_n (pc := 36) rfl dX2_nearest_36 ?_
        refine z_iald (pc := 37) rfl (by decide) (by omega) (by omega) dX2_nearest_37 ?_
        rw [Int.toNat_natCast, Int.toNat_natCast]
        refine z_icmp_ge (pc := 38) ⟨by omega, by omega⟩ ⟨by omega, by omega⟩ 43 (by decide) dX2_nearest_38 (fun hq => ?_) (fun hq => ?_)
        · refine z_ii2 (pc := 43) (by decide) rfl dX2_nearest_43 ?_
          refine z_goto (pc := 46) 4 (by decide) dX2_nearest_46 ?_
          refine ih (x + 1) p (by omega) (Or.inr ⟨p, rfl, by omega, h3, fun u hu h0 => ?_⟩)
          by_cases e : u = x
          · rw [e]; exact hq
          · exact h4 u (by omega) h0
        refine z_iload_n (pc := 41) rfl dX2_nearest_41 ?_
        refine z_is1 (pc := 42) (by decide) rfl dX2_nearest_42 ?_
        refine z_ii2 (pc := 43) (by decide) rfl dX2_nearest_43 ?_
        refine z_goto (pc := 46) 4 (by decide) dX2_nearest_46 ?_
        refine ih (x + 1) x (by omega) (Or.inr ⟨x, rfl, by omega, by omega, fun u hu h0 => ?_⟩)
        by_cases e : u = x
        · rw [e]; exact Int.le_refl _
        · have := h4 u (by omega) h0
          omega
  refine z_iconst (pc := 0) dX2_nearest_0 ?_
  refine z_is1 (pc := 1) (by decide) rfl dX2_nearest_1 ?_
  refine z_iconst (pc := 2) dX2_nearest_2 ?_
  refine z_is2 (pc := 3) (by decide) rfl dX2_nearest_3 ?_
  exact loop (nN F + 1) 0 (-1) (by omega) (Or.inl ⟨rfl, fun u hu => by omega⟩)
end FLOW1
