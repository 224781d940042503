/-! ===== Flow: layWays, least ===== -/
/-- what holds of Flow's rows at all times -/
def fr0 (F : Nat → Nat → Int) : Prop := (∀ v, -1 ≤ F 10 v ∧ F 10 v ≤ 40) ∧ (∀ v, 0 ≤ F 11 v ∧ F 11 v ≤ 40000) ∧ (∀ u, 0 ≤ F 14 u ∧ F 14 u ≤ 1000000000) ∧ (∀ u, 0 ≤ F 15 u ∧ F 15 u ≤ 15) ∧ ∀ u, F 16 u = 0 ∨ F 16 u = 1
theorem fr_fr0 {F : Nat → Nat → Int} (R : fr F) : fr0 F := ⟨R.2.2.1, R.2.2.2.1, R.2.2.2.2.2.2.1, R.2.2.2.2.2.2.2.1, R.2.2.2.2.2.2.2.2⟩
def olen (F : Nat → Nat → Int) (o : Nat) : Int := min (F 4 o) (F 1 0)
/-- the ways are those of the offers of kind k that cost less than their hours by rate; n offers are looked at -/
def WY (F F' : Nat → Nat → Int) (k n : Nat) : Prop := (∀ q, q ≠ 9 → q ≠ 10 → q ≠ 11 → F' q = F q) ∧ F' 9 0 = F 1 0 ∧ (2 ≤ F' 9 1 ∧ F' 9 1 ≤ 2 + n) ∧ (∀ v, -1 ≤ F' 10 v ∧ F' 10 v ≤ 40) ∧ (∀ v, 0 ≤ F' 11 v ∧ F' 11 v ≤ 40000) ∧ (F' 10 0 = -1 ∧ F' 11 0 = 0 ∧ F' 10 1 = 1 ∧ F' 11 1 = F 2 k) ∧
  (∀ v : Nat, 2 ≤ v → (v : Int) < F' 9 1 → ∃ o, o < n ∧ F 3 o = k ∧ F' 10 v = olen F o ∧ F' 11 v = F 5 o) ∧ ∀ o, o < n → F 3 o = k → F 5 o < olen F o * F 2 k → ∃ v : Nat, 2 ≤ v ∧ (v : Int) < F' 9 1 ∧ F' 10 v = olen F o ∧ F' 11 v = F 5 o
section FLOW7
variable {l : Launch} {g : zG} {F : Nat → Nat → Int} {L : Nat → Int} {im : Nat → Option Nat} {c : Nat}
theorem WY_0 {F F' : Nat → Nat → Int} {k : Nat} (B : bi F 1) (h0 : fr0 F) (e : ∀ q, q ≠ 9 → q ≠ 10 → q ≠ 11 → F' q = F q) (e9 : F' 9 0 = F 1 0 ∧ F' 9 1 = 2) (e10 : F' 10 = vf_upd (vf_upd (F 10) 0 (-1)) 1 1) (e11 : F' 11 = vf_upd (vf_upd (F 11) 0 0) 1 (F 2 k)) : WY F F' k 0 := by
  have b2 := bi_rates B k
  refine ⟨e, e9.1, by omega, fun v => ?_, fun v => ?_, ?_, fun v h1 h2 => by omega, fun o h => by omega⟩
  · rw [e10]
    have := h0.1 v
    unfold vf_upd
    split
    · omega
    · split <;> omega
  · rw [e11]
    have := h0.2.1 v
    unfold vf_upd
    split
    · omega
    · split <;> omega
  · rw [e10, e11]
    exact ⟨rfl, rfl, rfl, rfl⟩
theorem WY_no {F F' : Nat → Nat → Int} {k n : Nat} (h : WY F F' k n) (hn : ¬ (F 3 n = k ∧ F 5 n < olen F n * F 2 k)) : WY F F' k (n + 1) := by
  obtain ⟨h1, h2, h3, h4, h5, h6, h7, h8⟩ := h
  refine ⟨h1, h2, ⟨h3.1, by omega⟩, h4, h5, h6, fun v a b => ?_, fun o ho a b => ?_⟩
  · obtain ⟨o, c1, c2⟩ := h7 v a b
    exact ⟨o, by omega, c2⟩
  · by_cases e : o = n
    · subst e; exact absurd ⟨a, b⟩ hn
    · exact h8 o (by omega) a b
theorem WY_yes {F F' : Nat → Nat → Int} {k n : Nat} (B : bi F 1) (hn6 : n < 6) (h : WY F F' k n) (hk : F 3 n = k) (hc : F 5 n < olen F n * F 2 k) : WY F (va_up (va_up (va_up F' 10 (vf_upd (F' 10) (F' 9 1).toNat (olen F n))) 11 (vf_upd (F' 11) (F' 9 1).toNat (F 5 n))) 9 (vf_upd (F' 9) 1 (F' 9 1 + 1))) k (n + 1) := by
  obtain ⟨h1, h2, h3, h4, h5, h6, h7, h8⟩ := h
  have b1 := bi_hours B
  have b2 := bi_rates B k
  have b4 := bi_terms B n
  have b5 := bi_costs B n
  have hol : 0 ≤ olen F n ∧ olen F n ≤ 40 := by unfold olen; omega
  have hfee : F 5 n ≤ 40000 := by
    have q1 : olen F n * F 2 k ≤ 40 * 1000 := Int.mul_le_mul hol.2 b2.2 b2.1 (by omega)
    omega
  generalize hF : va_up (va_up (va_up F' 10 (vf_upd (F' 10) (F' 9 1).toNat (olen F n))) 11 (vf_upd (F' 11) (F' 9 1).toNat (F 5 n))) 9 (vf_upd (F' 9) 1 (F' 9 1 + 1)) = F2
  have e9 : F2 9 = vf_upd (F' 9) 1 (F' 9 1 + 1) := by rw [← hF]; rfl
  have e10 : F2 10 = vf_upd (F' 10) (F' 9 1).toNat (olen F n) := by rw [← hF]; rfl
  have e11 : F2 11 = vf_upd (F' 11) (F' 9 1).toNat (F 5 n) := by rw [← hF]; rfl
  have e91 : F2 9 1 = F' 9 1 + 1 := by rw [e9]; rfl
  have e90 : F2 9 0 = F' 9 0 := by rw [e9]; rfl
  have l10 : ∀ v : Nat, (v : Int) ≠ F' 9 1 → F2 10 v = F' 10 v ∧ F2 11 v = F' 11 v := fun v hv => by
    rw [e10, e11]; unfold vf_upd; rw [if_neg (by omega), if_neg (by omega)]; exact ⟨rfl, rfl⟩
  have lw : F2 10 (F' 9 1).toNat = olen F n ∧ F2 11 (F' 9 1).toNat = F 5 n := by
    rw [e10, e11]; unfold vf_upd; rw [if_pos rfl, if_pos rfl]; exact ⟨rfl, rfl⟩
  refine ⟨fun q a1 a2 a3 => ?_, by rw [e90]; exact h2, by rw [e91]; omega, fun v => ?_, fun v => ?_, ?_, fun v a b => ?_, fun o ho a b => ?_⟩
  · rw [← hF]; unfold va_up; rw [if_neg a1, if_neg a3, if_neg a2]; exact h1 q a1 a2 a3
  · by_cases hv : (v : Int) = F' 9 1
    · rw [show v = (F' 9 1).toNat by omega, lw.1]; omega
    · rw [(l10 v hv).1]; exact h4 v
  · by_cases hv : (v : Int) = F' 9 1
    · rw [show v = (F' 9 1).toNat by omega, lw.2]; omega
    · rw [(l10 v hv).2]; exact h5 v
  · have q0 := l10 0 (by omega)
    have q1 := l10 1 (by omega)
    rw [q0.1, q0.2, q1.1, q1.2]; exact h6
  · by_cases hv : (v : Int) = F' 9 1
    · rw [show v = (F' 9 1).toNat by omega, lw.1, lw.2]
      exact ⟨n, by omega, hk, rfl, rfl⟩
    · rw [(l10 v hv).1, (l10 v hv).2]
      obtain ⟨o, c1, c2⟩ := h7 v a (by rw [e91] at b; omega)
      exact ⟨o, by omega, c2⟩
  · by_cases e : o = n
    · subst e
      exact ⟨(F' 9 1).toNat, by omega, by rw [e91]; omega, lw.1, lw.2⟩
    · obtain ⟨v, c1, c2, c3, c4⟩ := h8 o (by omega) a b
      refine ⟨v, c1, by rw [e91]; omega, ?_, ?_⟩
      · rw [(l10 v (by omega)).1]; exact c3
      · rw [(l10 v (by omega)).2]; exact c4
theorem c_layWays (B : bi F 1) (h0 : fr0 F) {k : Nat} (hk : k < 3) : zM l g yX2_layWays cX2_layWays 5 none 1 0 0 [.ref (g.2.1 + 9), .ref (g.2.1 + 1), .int (iz k)] (zk g F L im c) (fun r h => r = none ∧ ∃ F' : Nat → Nat → Int, h = zk g F' L im c ∧ WY F F' k (F 1 2).toNat) := by
  refine zM_of 2 (by decide) rfl ?_
  show zJ l g RX2 cX2_layWays 5 none "layWays" (zRm 1 0 0) 0 0 _ 0 0 0 [some (.ref (g.2.1 + 9)), some (.ref (g.2.1 + 1)), some (.int (iz k)), none, none] [] _
  have b1 := bi_hours B
  have b3 := bi_offers B
  have b2 := bi_rates B k
  have loop : ∀ (j x : Nat) (F1 : Nat → Nat → Int) (y : Option Value), x + j = (F 1 2).toNat → WY F F1 k x → zJ l g RX2 cX2_layWays 5 none "layWays" (zRm 1 0 0) 0 0 (fun r h => r = none ∧ ∃ F' : Nat → Nat → Int, h = zk g F' L im c ∧ WY F F' k (F 1 2).toNat) 0 0 32 [some (.ref (g.2.1 + 9)), some (.ref (g.2.1 + 1)), some (.int (iz k)), some (.int (iz x)), y] [] (zk g F1 L im c) := by
    intro j
    induction j with
    | zero =>
      intro x F1 y hx hW
      have e1 := hW.1 1 (by decide) (by decide) (by decide)
      refine z_iload_n (pc := 32) rfl dX2_layWays_32 ?_
      refine z_aload_n (pc := 33) rfl dX2_layWays_33 ?_
      refine zf_X2_78 (pc := 34) rfl rfl dX2_layWays_34 ?_
      rw [e1]
      refine z_icmp_ge (pc := 37) ⟨by omega, by omega⟩ ⟨by omega, by omega⟩ 101 (by decide) dX2_layWays_37 (fun hq => ?_) (fun hq => ?_)
      · exact z_retv (pc := 101) rfl (by decide) (by decide) dX2_layWays_101 ⟨rfl, F1, rfl, by rw [← show x = (F 1 2).toNat by omega]; exact hW⟩
      omega
    | succ j ih =>
      intro x F1 y hx hW
      have e1 := hW.1 1 (by decide) (by decide) (by decide)
      have e2 := hW.1 2 (by decide) (by decide) (by decide)
      have e3 := hW.1 3 (by decide) (by decide) (by decide)
      have e4 := hW.1 4 (by decide) (by decide) (by decide)
      have e5 := hW.1 5 (by decide) (by decide) (by decide)
      have h9 := hW.2.1
      have h91 := hW.2.2.1
      have c3 := bi_kindOf B x
      have c4 := bi_terms B x
      have c5 := bi_costs B x
      have hol : 0 ≤ olen F x ∧ olen F x ≤ 40 := by unfold olen; omega
      have hpr : 0 ≤ olen F x * F 2 k ∧ olen F x * F 2 k ≤ 40000 := by
        have q1 : olen F x * F 2 k ≤ 40 * 1000 := Int.mul_le_mul hol.2 b2.2 b2.1 (by omega)
        have q2 := Int.mul_nonneg hol.1 b2.1
        omega
      refine z_iload_n (pc := 32) rfl dX2_layWays_32 ?_
      refine z_aload_n (pc := 33) rfl dX2_layWays_33 ?_
      refine zf_X2_78 (pc := 34) rfl rfl dX2_layWays_34 ?_
      rw [e1]
      refine z_icmp_ge (pc := 37) ⟨by omega, by omega⟩ ⟨by omega, by omega⟩ 101 (by decide) dX2_layWays_37 (fun hq => ?_) (fun hq => ?_)
      · omega
      refine z_aload_n (pc := 40) rfl dX2_layWays_40 ?_
      refine zf_X2_81 (pc := 41) rfl rfl dX2_layWays_41 ?_
      refine z_iload_n (pc := 44) rfl dX2_layWays_44 ?_
      refine z_iald (pc := 45) rfl (by decide) (by omega) (by omega) dX2_layWays_45 ?_
      refine z_aload_n (pc := 46) rfl dX2_layWays_46 ?_
      refine zf_X2_44 (pc := 47) rfl rfl dX2_layWays_47 ?_
      rw [Int.toNat_natCast, e4, h9]
      refine z_mmin (pc := 50) lk_X2_84 ⟨by omega, by omega⟩ ⟨by omega, by omega⟩ ⟨by decide, by decide⟩ (Nat.le_of_ble_eq_true rfl) ⟨by decide, by decide⟩ dX2_layWays_50 ?_
      refine z_top (show _ = iz (olen F x) from rfl) ?_
      refine z_is4 (pc := 53) (by decide) rfl dX2_layWays_53 ?_
      refine z_aload_n (pc := 55) rfl dX2_layWays_55 ?_
      refine zf_X2_89 (pc := 56) rfl rfl dX2_layWays_56 ?_
      refine z_iload_n (pc := 59) rfl dX2_layWays_59 ?_
      refine z_iald (pc := 60) rfl (by decide) (by omega) (by omega) dX2_layWays_60 ?_
      rw [Int.toNat_natCast, e3]
      refine z_iload_n (pc := 61) rfl dX2_layWays_61 ?_
      refine z_icmp_ne (pc := 62) ⟨by omega, by omega⟩ ⟨by omega, by omega⟩ 95 (by decide) dX2_layWays_62 (fun hq => ?_) (fun hq => ?_)
      · refine z_ii3 (pc := 95) (by decide) rfl dX2_layWays_95 ?_
        refine z_goto (pc := 98) 32 (by decide) dX2_layWays_98 ?_
        exact ih (x + 1) F1 _ (by omega) (WY_no hW (fun h => hq h.1))
      have hk2 : F 3 x = k := by assumption
      refine z_aload_n (pc := 65) rfl dX2_layWays_65 ?_
      refine zf_X2_92 (pc := 66) rfl rfl dX2_layWays_66 ?_
      refine z_iload_n (pc := 69) rfl dX2_layWays_69 ?_
      refine z_iald (pc := 70) rfl (by decide) (by omega) (by omega) dX2_layWays_70 ?_
      refine z_iload (pc := 71) rfl dX2_layWays_71 ?_
      refine z_aload_n (pc := 73) rfl dX2_layWays_73 ?_
      refine zf_X2_75 (pc := 74) rfl rfl dX2_layWays_74 ?_
      refine z_iload_n (pc := 77) rfl dX2_layWays_77 ?_
      refine z_iald (pc := 78) rfl (by decide) (by omega) (by omega) dX2_layWays_78 ?_
      refine z_imul (pc := 79) dX2_layWays_79 ?_
      rw [Int.toNat_natCast, Int.toNat_natCast, e5, e2]
      refine z_icmp_ge (pc := 80) ⟨by omega, by omega⟩ ⟨by omega, by omega⟩ 95 (by decide) dX2_layWays_80 (fun hq => ?_) (fun hq => ?_)
      · refine z_ii3 (pc := 95) (by decide) rfl dX2_layWays_95 ?_
        refine z_goto (pc := 98) 32 (by decide) dX2_layWays_98 ?_
        exact ih (x + 1) F1 _ (by omega) (WY_no hW (fun h => by have := h.2; omega))
      refine z_aload_n (pc := 83) rfl dX2_layWays_83 ?_
      refine z_iload (pc := 84) rfl dX2_layWays_84 ?_
      refine z_aload_n (pc := 86) rfl dX2_layWays_86 ?_
      refine zf_X2_92 (pc := 87) rfl rfl dX2_layWays_87 ?_
      refine z_iload_n (pc := 90) rfl dX2_layWays_90 ?_
      refine z_iald (pc := 91) rfl (by decide) (by omega) (by omega) dX2_layWays_91 ?_
      rw [Int.toNat_natCast, e5]
      refine z_V2 (pc := 92) (c_addWay (F := F1) (a := olen F x) (b := F 5 x) (by omega) (by omega)) lk_X2_72 iv_X2_addWay rfl rfl ⟨by decide, by decide⟩ (Nat.le_of_ble_eq_true rfl) ⟨by decide, by decide⟩ dX2_layWays_92 (fun r h9 hq => ?_)
      obtain ⟨rfl, e8⟩ := hq
      rw [e8]
      clear e8 h9
      refine z_r0 ?_
      refine z_ii3 (pc := 95) (by decide) rfl dX2_layWays_95 ?_
      refine z_goto (pc := 98) 32 (by decide) dX2_layWays_98 ?_
      exact ih (x + 1) _ _ (by omega) (WY_yes B (by omega) hW hk2 (by assumption))
  refine z_aload_n (pc := 0) rfl dX2_layWays_0 ?_
  refine z_aload_n (pc := 1) rfl dX2_layWays_1 ?_
  refine zf_X2_66 (pc := 2) rfl rfl dX2_layWays_2 ?_
  refine zp_X2_44 (pc := 5) rfl (Nat.le_of_ble_eq_true rfl) dX2_layWays_5 ?_
  refine z_hp zs_9_0 ?_
  refine z_aload_n (pc := 8) rfl dX2_layWays_8 ?_
  refine z_iconst (pc := 9) dX2_layWays_9 ?_
  refine zp_X2_69 (pc := 10) rfl (Nat.le_of_ble_eq_true rfl) dX2_layWays_10 ?_
  refine z_hp zs_9_1 ?_
  refine z_aload_n (pc := 13) rfl dX2_layWays_13 ?_
  refine z_iconst (pc := 14) dX2_layWays_14 ?_
  refine z_iconst (pc := 15) dX2_layWays_15 ?_
  refine z_V2 (pc := 16) (c_addWay (a := -1) (b := 0) (show (0 : Int) ≤ 0 by omega) (show (0 : Int) < 8 by omega)) lk_X2_72 iv_X2_addWay rfl rfl ⟨by decide, by decide⟩ (Nat.le_of_ble_eq_true rfl) ⟨by decide, by decide⟩ dX2_layWays_16 (fun r h9 hq => ?_)
  obtain ⟨rfl, e8⟩ := hq
  rw [e8]
  clear e8 h9
  refine z_r0 ?_
  refine z_aload_n (pc := 19) rfl dX2_layWays_19 ?_
  refine z_iconst (pc := 20) dX2_layWays_20 ?_
  refine z_aload_n (pc := 21) rfl dX2_layWays_21 ?_
  refine zf_X2_75 (pc := 22) rfl rfl dX2_layWays_22 ?_
  refine z_iload_n (pc := 25) rfl dX2_layWays_25 ?_
  refine z_iald (pc := 26) rfl (by decide) (by omega) (by omega) dX2_layWays_26 ?_
  refine z_V2 (pc := 27) (c_addWay (a := 1) (b := F 2 k) (show (0 : Int) ≤ 1 by omega) (show (1 : Int) < 8 by omega)) lk_X2_72 iv_X2_addWay rfl rfl ⟨by decide, by decide⟩ (Nat.le_of_ble_eq_true rfl) ⟨by decide, by decide⟩ dX2_layWays_27 (fun r h9 hq => ?_)
  obtain ⟨rfl, e8⟩ := hq
  rw [e8]
  clear e8 h9
  refine z_r0 ?_
  refine z_iconst (pc := 30) dX2_layWays_30 ?_
  refine z_is3 (pc := 31) (by decide) rfl dX2_layWays_31 ?_
  refine loop (F 1 2).toNat 0 _ _ (by omega) (WY_0 B h0 (fun q a1 a2 a3 => ?_) ⟨rfl, rfl⟩ rfl rfl)
  unfold va_up
  rw [if_neg a1, if_neg a3, if_neg a2, if_neg a1, if_neg a3, if_neg a2, if_neg a1, if_neg a1]
end FLOW7
