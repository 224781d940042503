/-! ===== Flow.least, and what it means ===== -/
def dv (d w : Nat → Int) (n : Nat) : Int := sm (fun t => d t * (w t - w (t + 1))) n
theorem nda_cong {F F1 : Nat → Nat → Int} (e : F1 6 = F 6) (k t : Nat) : nda F1 k t = nda F k t := by unfold nda; exact sm_cong (fun j _ => by unfold fnd; rw [e])
theorem bi_cong {F F1 : Nat → Nat → Int} (e : ∀ q, q < 9 → F1 q = F q) (B : bi F 1) : bi F1 1 := by
  unfold bi
  rw [e 1 (by decide), e (1 + 1) (by decide), e (1 + 2) (by decide), e (1 + 3) (by decide), e (1 + 4) (by decide), e (1 + 5) (by decide), e (1 + 6) (by decide)]
  exact B
/-- the network of kind k, with d carried for d: the worth of what is carried -/
def lsS (F F' : Nat → Nat → Int) (k : Nat) (d : Nat → Int) : Prop := (∀ q, q < 9 ∨ 16 < q → F' q = F q) ∧ fr F' ∧ ftF F' ∧ (∃ Fw, WY F Fw k (F 1 2).toNat ∧ F' 9 = Fw 9 ∧ F' 10 = Fw 10 ∧ F' 11 = Fw 11) ∧ ∀ w : Nat → Int, Ex (F' 10) (F' 12) w = dv d w (F 1 0).toNat
theorem lsS_nb {F F' : Nat → Nat → Int} {k : Nat} {d : Nat → Int} (B : bi F 1) (hk : (k : Int) < F 1 1) (h : lsS F F' k d) : nb F' ∧ nN F' = (F 1 0).toNat := by
  obtain ⟨-, -, -, ⟨Fw, hW, e9, e10, e11⟩, -⟩ := h
  have q := hW.2.2.2.2.2.1
  have b2 := bi_rates B k
  have b1 := bi_rate1 B k hk
  unfold nb nN
  rw [e9, e10, e11, hW.2.1]
  exact ⟨⟨q.1, q.2.1, q.2.2.1, by rw [q.2.2.2]; exact b1, by rw [q.2.2.2]; exact b2.2⟩, rfl⟩
section FLOW8
variable {l : Launch} {g : zG} {F : Nat → Nat → Int} {L : Nat → Int} {im : Nat → Option Nat} {c : Nat}
theorem c_least (B : bi F 1) (h0 : fr0 F) {k : Nat} (hk : k < 3) (hkk : (k : Int) < F 1 1) : zM l g yX2_least cX2_least 6 (some .long) 5 0 0 [.ref (g.2.1 + 9), .ref (g.2.1 + 1), .int (iz k)] (zk g F L im c) (fun r h => ∃ F' : Nat → Nat → Int, r = some (.long (lz (Ex (F' 10) (F' 12) (F' 13)))) ∧ h = zk g F' L im c ∧ lsS F F' k (nda F k) ∧ (∀ u, F' 13 u ≤ 40000) ∧ ∀ j, F' 12 j ≤ 57600) := by
  refine zM_of 3 (by decide) rfl ?_
  show zJ l g RX2 cX2_least 6 (some .long) "least" (zRm 5 0 0) 0 0 _ 0 0 0 [some (.ref (g.2.1 + 9)), some (.ref (g.2.1 + 1)), some (.int (iz k)), none, none, none] [] _
  have b1 := bi_hours B
  have b3 := bi_offers B
  refine z_aload_n (pc := 0) rfl dX2_least_0 ?_
  refine z_aload_n (pc := 1) rfl dX2_least_1 ?_
  refine z_iload_n (pc := 2) rfl dX2_least_2 ?_
  refine z_V2 (pc := 3) (c_layWays B h0 hk) lk_X2_34 iv_X2_layWays rfl rfl ⟨by decide, by decide⟩ (Nat.le_of_ble_eq_true rfl) ⟨by decide, by decide⟩ dX2_least_3 (fun r h9 hq => ?_)
  obtain ⟨rfl, Fw, e8, hW⟩ := hq
  rw [e8]
  clear e8 h9
  refine z_r0 ?_
  refine z_aload_n (pc := 6) rfl dX2_least_6 ?_
  refine zf_X2_18 (pc := 7) rfl rfl dX2_least_7 ?_
  refine z_iconst (pc := 10) dX2_least_10 ?_
  refine z_S2 (pc := 11) (c_fill2 (q := 12) (n := 328) (f := Fw 12) (v := 0) rfl (by omega)) lk_X2_38 st_J7_fill_53178 ⟨by decide, by decide⟩ (Nat.le_of_ble_eq_true rfl) ⟨by decide, by decide⟩ dX2_least_11 (fun r h9 hq => ?_)
  obtain ⟨rfl, e8⟩ := hq
  rw [e8]
  clear e8 h9
  refine z_r0 ?_
  refine z_hp zs_12 ?_
  refine z_aload_n (pc := 14) rfl dX2_least_14 ?_
  refine zf_X2_21 (pc := 15) rfl rfl dX2_least_15 ?_
  refine z_iconst (pc := 18) dX2_least_18 ?_
  refine z_S2 (pc := 19) (c_fill2 (q := 13) (n := 41) (f := Fw 13) (v := 0) rfl (by omega)) lk_X2_38 st_J7_fill_53178 ⟨by decide, by decide⟩ (Nat.le_of_ble_eq_true rfl) ⟨by decide, by decide⟩ dX2_least_19 (fun r h9 hq => ?_)
  obtain ⟨rfl, e8⟩ := hq
  rw [e8]
  clear e8 h9
  refine z_r0 ?_
  refine z_hp zs_13 ?_
  -- beyond the rows' ends nothing is asked: take 0 there
  refine z_cell (q := 12) (N := 328) (f := fl (Fw 12) 0 328 0) (f2 := fun _ => 0) rfl (fun j hj => by unfold fl; rw [if_pos (by omega)]) ?_
  refine z_hp zs_12 ?_
  refine z_cell (q := 13) (N := 41) (f := fl (Fw 13) 0 41 0) (f2 := fun _ => 0) rfl (fun j hj => by unfold fl; rw [if_pos (by omega)]) ?_
  refine z_hp zs_13 ?_
  refine z_hp (show _ = zk g (va_up (va_up Fw 12 (fun _ => 0)) 13 (fun _ => 0)) L im c from congrArg (fun f => zk g f L im c) ?_) ?_
  · funext q
    unfold va_up
    by_cases h13 : q = 13
    · rw [if_pos h13, if_pos h13]
    · rw [if_neg h13, if_neg h13]
      by_cases h12 : q = 12
      · subst h12; rfl
      · rw [if_neg h12, if_neg h12, if_neg h13, if_neg h12]
  generalize hF0 : va_up (va_up Fw 12 (fun _ => 0)) 13 (fun _ => 0) = F0
  have f9 : F0 9 = Fw 9 := by rw [← hF0]; rfl
  have f10 : F0 10 = Fw 10 := by rw [← hF0]; rfl
  have f11 : F0 11 = Fw 11 := by rw [← hF0]; rfl
  have f12 : F0 12 = fun _ => 0 := by rw [← hF0]; rfl
  have f13 : F0 13 = fun _ => 0 := by rw [← hF0]; rfl
  have f0 : ∀ q, q < 9 ∨ 13 < q → F0 q = F q := fun q hq => by rw [← hF0]; unfold va_up; rw [if_neg (by omega), if_neg (by omega)]; exact hW.1 q (by omega) (by omega) (by omega)
  have w2 := hW.2.2.1
  have R0 : fr F0 := by
    unfold fr
    rw [f9, f10, f11, f12, f13, f0 14 (by omega), f0 15 (by omega), f0 16 (by omega), hW.2.1]
    exact ⟨b1, ⟨w2.1, by omega⟩, hW.2.2.2.1, hW.2.2.2.2.1, fun _ => ⟨Int.le_refl 0, (by decide : (0 : Int) ≤ 100000000)⟩, fun _ => ⟨Int.le_refl 0, (by decide : (0 : Int) ≤ 200000)⟩, h0.2.2.1, h0.2.2.2.1, h0.2.2.2.2⟩
  have T0 : ftF F0 := by
    refine ⟨fun b u v hr => ?_, fun v p hx => ?_, fun j => ?_⟩
    · rw [f13]
      show (0 : Int) - 0 ≤ _
      rcases hr.2.2 with h | h
      · have e2 := R0.2.1
        have := R0.2.2.2.1 b
        unfold fb
        rw [if_pos (by have : nW F0 ≤ 8 := (by show (F0 9 1).toNat ≤ 8; omega); omega)]
        omega
      · rw [f12] at h; exact absurd h.2.2.2 (Int.lt_irrefl 0)
    · rw [f12] at hx; exact absurd hx (Int.lt_irrefl 0)
    · rw [f12]; exact Int.le_refl 0
  have E0 : ∀ x : Nat → Int, Ex (F0 10) (F0 12) x = 0 := fun x => Ex_0 (fun j _ => by rw [f12])
  have loop : ∀ (j t : Nat) (F1 : Nat → Nat → Int), t + j = (F 1 0).toNat → (∀ q, q < 12 ∨ 16 < q → F1 q = F0 q) → fr F1 → ftF F1 → (∀ w : Nat → Int, Ex (F1 10) (F1 12) w = dv (nda F k) w t) → (∀ u, F1 13 u ≤ 1000 * t) → (∀ q, F1 12 q ≤ 1440 * t) → zJ l g RX2 cX2_least 6 (some .long) "least" (zRm 5 0 0) 0 0 (fun r h => ∃ F' : Nat → Nat → Int, r = some (.long (lz (Ex (F' 10) (F' 12) (F' 13)))) ∧ h = zk g F' L im c ∧ lsS F F' k (nda F k) ∧ (∀ u, F' 13 u ≤ 40000) ∧ ∀ j, F' 12 j ≤ 57600) 0 0 27 [some (.ref (g.2.1 + 9)), some (.ref (g.2.1 + 1)), some (.int (iz k)), some (.long (lz (Ex (F1 10) (F1 12) (F1 13)))), none, some (.int (iz t))] [] (zk g F1 L im c) := by
    intro j
    induction j with
    | zero =>
      intro t F1 ht k1 R1 T1 i1 i2 i3
      have e9 : F1 9 0 = F 1 0 := by rw [k1 9 (by omega), f9]; exact hW.2.1
      refine z_iload (pc := 27) rfl dX2_least_27 ?_
      refine z_aload_n (pc := 29) rfl dX2_least_29 ?_
      refine zf_X2_44 (pc := 30) rfl rfl dX2_least_30 ?_
      rw [e9]
      refine z_icmp_ge (pc := 33) ⟨by omega, by omega⟩ ⟨by omega, by omega⟩ 58 (by decide) dX2_least_33 (fun hq => ?_) (fun hq => ?_)
      · refine z_lload_n (pc := 58) rfl dX2_least_58 ?_
        refine z_retl (pc := 59) rfl (by decide) (by decide) dX2_least_59 ⟨F1, rfl, rfl, ⟨fun q hq => (k1 q (by omega)).trans (f0 q (by omega)), R1, T1, ⟨Fw, hW, (k1 9 (by omega)).trans f9, (k1 10 (by omega)).trans f10, (k1 11 (by omega)).trans f11⟩, fun w => by rw [i1 w, show t = (F 1 0).toNat by omega]⟩, fun u => ?_, fun q => ?_⟩
        · have := i2 u; omega
        · have := i3 q; omega
      omega
    | succ j ih =>
      intro t F1 ht k1 R1 T1 i1 i2 i3
      have e9 : F1 9 0 = F 1 0 := by rw [k1 9 (by omega), f9]; exact hW.2.1
      have enN : nN F1 = (F 1 0).toNat := by unfold nN; rw [e9]
      have q := hW.2.2.2.2.2.1
      have g2 := bi_rates B k
      have g1 := bi_rate1 B k hkk
      have N1 : nb F1 := by
        unfold nb
        rw [k1 10 (by omega), k1 11 (by omega), f10, f11]
        exact ⟨q.1, q.2.1, q.2.2.1, by rw [q.2.2.2]; exact g1, by rw [q.2.2.2]; exact g2.2⟩
      have nd := nda_bd B k t
      refine z_iload (pc := 27) rfl dX2_least_27 ?_
      refine z_aload_n (pc := 29) rfl dX2_least_29 ?_
      refine zf_X2_44 (pc := 30) rfl rfl dX2_least_30 ?_
      rw [e9]
      refine z_icmp_ge (pc := 33) ⟨by omega, by omega⟩ ⟨by omega, by omega⟩ 58 (by decide) dX2_least_33 (fun hq => ?_) (fun hq => ?_)
      · omega
      refine z_lload_n (pc := 36) rfl dX2_least_36 ?_
      refine z_aload_n (pc := 37) rfl dX2_least_37 ?_
      refine z_iload (pc := 38) rfl dX2_least_38 ?_
      refine z_aload_n (pc := 40) rfl dX2_least_40 ?_
      refine z_iload_n (pc := 41) rfl dX2_least_41 ?_
      refine z_iload (pc := 42) rfl dX2_least_42 ?_
      refine z_V2 (pc := 44) (c_needOfAll (F := F1) (k := k) (t := t) hk (by omega)) lk_X2_48 iv_X1_needOfAll rfl rfl ⟨by decide, by decide⟩ (Nat.le_of_ble_eq_true rfl) ⟨by decide, by decide⟩ dX2_least_44 (fun r h9 hq => ?_)
      obtain ⟨rfl, e9⟩ := hq
      rw [e9]
      clear e9 h9
      refine z_r1 ?_
      rw [nda_cong ((k1 6 (by omega)).trans (f0 6 (by omega))) k t]
      refine z_V2 (pc := 47) (c_change R1 T1 N1 (a := t) (un := nda F k t) (by omega) (by omega) (by omega) (fun u => by have := i2 u; omega) (fun u => by have := i3 u; omega)) lk_X2_54 iv_X2_change rfl rfl ⟨by decide, by decide⟩ (Nat.le_of_ble_eq_true rfl) ⟨by decide, by decide⟩ dX2_least_47 (fun r h9 hq => ?_)
      obtain ⟨F2, rfl, e8, C⟩ := hq
      rw [e8]
      clear e8 h9
      refine z_r1 ?_
      obtain ⟨c1, c2, c3, c4, c5, c6⟩ := C
      have e10 : F2 10 = F1 10 := c1 10 (by omega)
      rw [if_neg (by omega)] at c6
      refine z_ladd (pc := 50) dX2_least_50 ?_
      refine z_topL (show _ = lz (Ex (F2 10) (F2 12) (F2 13)) from congrArg lz (by rw [e10]; omega)) ?_
      refine z_ls3 (pc := 51) (by decide) rfl dX2_least_51 ?_
      refine z_ii5 (pc := 52) (by decide) rfl dX2_least_52 ?_
      refine z_goto (pc := 55) 27 (by decide) dX2_least_55 ?_
      refine ih (t + 1) F2 (by omega) (fun q hq => (c1 q hq).trans (k1 q hq)) c2 c3 (fun w => ?_) (fun u => ?_) (fun q => ?_)
      · rw [e10, c4 w, i1 w]
        rfl
      · have := c5 u
        have := i2 u
        omega
      · have := c6 q
        have := i3 q
        omega
  refine z_lconst (pc := 22) (v := 0) (by decide) dX2_least_22 ?_
  refine z_topL (show _ = lz (Ex (F0 10) (F0 12) (F0 13)) from congrArg lz (E0 _).symm) ?_
  refine z_ls3 (pc := 23) (by decide) rfl dX2_least_23 ?_
  refine z_iconst (pc := 24) dX2_least_24 ?_
  refine z_is5 (pc := 25) (by decide) rfl dX2_least_25 ?_
  exact loop (F 1 0).toNat 0 F0 (by omega) (fun _ _ => rfl) R0 T0 (fun w => E0 w) (fun u => by rw [f13]; simp) (fun u => by rw [f12]; simp)
end FLOW8
