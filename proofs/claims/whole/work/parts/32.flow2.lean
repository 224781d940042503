/-! ===== Flow: all that reach a point ===== -/
def RI (F F' : Nat → Nat → Int) (q : Nat) : Prop := (∀ k, k ≠ 14 → k ≠ 15 → F' k = F k) ∧ ∀ u, (F' 14 u = F 14 u ∧ F' 15 u = F 15 u) ∨ (u ≤ nN F ∧ F 16 u = 0 ∧ F' 14 u < F 14 u ∧ ∃ b, rsF F b u q ∧ F' 15 u = (b : Int) ∧ F' 14 u = F 14 q + rcF F b u q)
def wy (b : Nat) : Nat := if b < 8 then b else b - 8
theorem rs_code {n W : Nat} {ln x : Nat → Int} {b u v : Nat} (hW : W ≤ 8) (h : rs n W ln x b u v) : b ≤ 15 ∧ wy b < W := by
  unfold wy
  rcases h.2.2 with h1 | h1
  · rw [if_pos (by omega)]; omega
  · rw [if_neg (by omega)]; omega
theorem RI_rf (F : Nat → Nat → Int) (q : Nat) : RI F F q := ⟨fun _ _ _ => rfl, fun _ => Or.inl ⟨rfl, rfl⟩⟩
theorem RI_q {F F' : Nat → Nat → Int} {q u : Nat} (h : RI F F' q) (hs : F 16 u = 1) : F' 14 u = F 14 u ∧ F' 15 u = F 15 u := by
  rcases h.2 u with h1 | h1
  · exact h1
  · have := h1.2.1; omega
theorem RI_fr {F F' : Nat → Nat → Int} {q : Nat} (R : fr F) (T : ftF F) (h : RI F F' q) : fr F' := by
  have e : ∀ k, k ≠ 14 → k ≠ 15 → F' k = F k := h.1
  have hW : nW F ≤ 8 := by have := R.2.1; show (F 9 1).toNat ≤ 8; omega
  unfold fr
  rw [e 9 (by decide) (by decide), e 10 (by decide) (by decide), e 11 (by decide) (by decide), e 12 (by decide) (by decide), e 13 (by decide) (by decide), e 16 (by decide) (by decide)]
  refine ⟨R.1, R.2.1, R.2.2.1, R.2.2.2.1, R.2.2.2.2.1, R.2.2.2.2.2.1, fun u => ?_, fun u => ?_, R.2.2.2.2.2.2.2.2⟩
  · have a := R.2.2.2.2.2.2.1 u
    have a2 := R.2.2.2.2.2.2.1 q
    rcases h.2 u with h1 | ⟨h1, h2, h3, b, h4, h5, h6⟩
    · rw [h1.1]; exact a
    · have := T.1 b u q h4
      have h6' : F' 14 u = F 14 q + (fb (F 11) b - F 13 u + F 13 q) := h6
      omega
  · have a := R.2.2.2.2.2.2.2.1 u
    rcases h.2 u with h1 | ⟨h1, h2, h3, b, h4, h5, h6⟩
    · rw [h1.2]; exact a
    · have := (rs_code hW h4).1
      omega
theorem RI_step {F F1 : Nat → Nat → Int} {q b : Nat} {u fee bz : Int} (R : fr F) (h : RI F F1 q) (hs : F 16 q = 1) (hb : 0 ≤ u → u ≤ F 9 0 → rsF F b u.toNat q) (hf : fee = fb (F 11) b) (hbz : bz = b) : RI F (rch F1 u q fee bz) q ∧ (∀ p, rch F1 u q fee bz 14 p ≤ F1 14 p) ∧ (0 ≤ u → u ≤ F 9 0 → F 16 u.toNat = 0 → rch F1 u q fee bz 14 u.toNat ≤ F 14 q + rcF F b u.toNat q) := by
  have e := h.1
  have e9 : F1 9 = F 9 := e 9 (by decide) (by decide)
  have e13 : F1 13 = F 13 := e 13 (by decide) (by decide)
  have e16 : F1 16 = F 16 := e 16 (by decide) (by decide)
  have eq := (RI_q h hs).1
  subst hf
  subst hbz
  unfold rch
  rw [e9, e13, e16, eq]
  by_cases hc : 0 ≤ u ∧ u ≤ F 9 0 ∧ F 16 u.toNat = 0 ∧ F 14 q + fb (F 11) b - F 13 u.toNat + F 13 q < F1 14 u.toNat
  · rw [if_pos hc]
    have hr := hb hc.1 hc.2.1
    have hv : ∀ p, va_up (va_up F1 14 (vf_upd (F1 14) u.toNat (F 14 q + fb (F 11) b - F 13 u.toNat + F 13 q))) 15 (vf_upd (F1 15) u.toNat b) 14 p = vf_upd (F1 14) u.toNat (F 14 q + fb (F 11) b - F 13 u.toNat + F 13 q) p := fun p => rfl
    have hv5 : ∀ p, va_up (va_up F1 14 (vf_upd (F1 14) u.toNat (F 14 q + fb (F 11) b - F 13 u.toNat + F 13 q))) 15 (vf_upd (F1 15) u.toNat b) 15 p = vf_upd (F1 15) u.toNat b p := fun p => rfl
    refine ⟨⟨fun k h1 h2 => ?_, fun p => ?_⟩, fun p => ?_, fun _ _ _ => ?_⟩
    · unfold va_up
      rw [if_neg h2, if_neg h1]
      exact e k h1 h2
    · rw [hv p, hv5 p]
      unfold vf_upd
      by_cases hp : p = u.toNat
      · subst hp
        rw [if_pos rfl, if_pos rfl]
        have hle : F1 14 u.toNat ≤ F 14 u.toNat := by
          rcases h.2 u.toNat with h1 | h1
          · rw [h1.1]; exact Int.le_refl _
          · exact Int.le_of_lt h1.2.2.1
        refine Or.inr ⟨hr.1, hc.2.2.1, by omega, b, hr, rfl, ?_⟩
        show _ = F 14 q + (fb (F 11) b - F 13 u.toNat + F 13 q)
        omega
      · rw [if_neg hp, if_neg hp]
        exact h.2 p
    · rw [hv p]
      unfold vf_upd
      by_cases hp : p = u.toNat
      · rw [if_pos hp, hp]; omega
      · rw [if_neg hp]; exact Int.le_refl _
    · rw [hv]
      unfold vf_upd
      rw [if_pos rfl]
      show _ ≤ F 14 q + (fb (F 11) b - F 13 u.toNat + F 13 q)
      omega
  · rw [if_neg hc]
    refine ⟨h, fun p => Int.le_refl _, fun h1 h2 h3 => ?_⟩
    show _ ≤ F 14 q + (fb (F 11) b - F 13 u.toNat + F 13 q)
    omega
section FLOW2
variable {l : Launch} {g : zG} {F : Nat → Nat → Int} {L : Nat → Int} {im : Nat → Option Nat} {c : Nat}
theorem c_reachThose (R : fr F) (T : ftF F) {q : Nat} (hq0 : q ≤ nN F) (hs : F 16 q = 1) : zM l g yX2_reachThose cX2_reachThose 3 none 1 0 0 [.ref (g.2.1 + 9), .int (iz q)] (zk g F L im c) (fun r h => r = none ∧ ∃ F' : Nat → Nat → Int, h = zk g F' L im c ∧ RI F F' q ∧ ∀ b u, rsF F b u q → F 16 u = 0 → F' 14 u ≤ F 14 q + rcF F b u q) := by
  refine zM_of 1 (by decide) rfl ?_
  show zJ l g RX2 cX2_reachThose 3 none "reachThose" (zRm 1 0 0) 0 0 _ 0 0 0 [some (.ref (g.2.1 + 9)), some (.int (iz q)), none] [] _
  have eN := nN_eq R
  have eW := nW_eq R
  have r1 := R.1
  have r2 := R.2.1
  have loop : ∀ (j v : Nat) (F1 : Nat → Nat → Int), v + j = nW F → RI F F1 q → (∀ b u, rsF F b u q → wy b < v → F 16 u = 0 → F1 14 u ≤ F 14 q + rcF F b u q) → zJ l g RX2 cX2_reachThose 3 none "reachThose" (zRm 1 0 0) 0 0 (fun r h => r = none ∧ ∃ F' : Nat → Nat → Int, h = zk g F' L im c ∧ RI F F' q ∧ ∀ b u, rsF F b u q → F 16 u = 0 → F' 14 u ≤ F 14 q + rcF F b u q) 0 0 2 [some (.ref (g.2.1 + 9)), some (.int (iz q)), some (.int (iz v))] [] (zk g F1 L im c) := by
    intro j
    induction j with
    | zero =>
      intro v F1 hv hR hC
      have e9 : F1 9 = F 9 := hR.1 9 (by decide) (by decide)
      refine z_iload_n (pc := 2) rfl dX2_reachThose_2 ?_
      refine z_aload_n (pc := 3) rfl dX2_reachThose_3 ?_
      refine zf_X2_69 (pc := 4) rfl rfl dX2_reachThose_4 ?_
      rw [e9]
      refine z_icmp_ge (pc := 7) ⟨by omega, by omega⟩ ⟨by omega, by omega⟩ 74 (by decide) dX2_reachThose_7 (fun hq => ?_) (fun hq => ?_)
      · exact z_retv (pc := 74) rfl (by decide) (by decide) dX2_reachThose_74 ⟨rfl, F1, rfl, hR, fun b u hb h0 => hC b u hb (by have := (rs_code (by omega) hb).2; omega) h0⟩
      omega
    | succ j ih =>
      intro v F1 hv hR hC
      have e9 : F1 9 = F 9 := hR.1 9 (by decide) (by decide)
      have e10 : F1 10 = F 10 := hR.1 10 (by decide) (by decide)
      have e11 : F1 11 = F 11 := hR.1 11 (by decide) (by decide)
      have b10 := R.2.2.1 v
      have b11 := R.2.2.2.1 v
      have f1 : fb (F 11) v = F 11 v := if_pos (by omega)
      have f2 : fb (F 11) (v + 8) = -F 11 v := by unfold fb; rw [if_neg (by omega), Nat.add_sub_cancel]
      refine z_iload_n (pc := 2) rfl dX2_reachThose_2 ?_
      refine z_aload_n (pc := 3) rfl dX2_reachThose_3 ?_
      refine zf_X2_69 (pc := 4) rfl rfl dX2_reachThose_4 ?_
      rw [e9]
      refine z_icmp_ge (pc := 7) ⟨by omega, by omega⟩ ⟨by omega, by omega⟩ 74 (by decide) dX2_reachThose_7 (fun hq => ?_) (fun hq => ?_)
      · omega
      refine z_aload_n (pc := 10) rfl dX2_reachThose_10 ?_
      refine z_iload_n (pc := 11) rfl dX2_reachThose_11 ?_
      refine z_aload_n (pc := 12) rfl dX2_reachThose_12 ?_
      refine zf_X2_11 (pc := 13) rfl rfl dX2_reachThose_13 ?_
      refine z_iload_n (pc := 16) rfl dX2_reachThose_16 ?_
      refine z_iald (pc := 17) rfl (by decide) (by omega) (by omega) dX2_reachThose_17 ?_
      refine z_isub (pc := 18) dX2_reachThose_18 ?_
      refine z_iload_n (pc := 19) rfl dX2_reachThose_19 ?_
      refine z_aload_n (pc := 20) rfl dX2_reachThose_20 ?_
      refine zf_X2_15 (pc := 21) rfl rfl dX2_reachThose_21 ?_
      refine z_iload_n (pc := 24) rfl dX2_reachThose_24 ?_
      refine z_iald (pc := 25) rfl (by decide) (by omega) (by omega) dX2_reachThose_25 ?_
      refine z_iload_n (pc := 26) rfl dX2_reachThose_26 ?_
      rw [Int.toNat_natCast, e10, e11]
      refine z_V4 (pc := 27) (c_reach (RI_fr R T hR) (u := (q : Int) - F 10 v) ⟨by omega, by omega⟩ (q := q) (by omega) (fee := F 11 v) (b := v) (by omega)) lk_X2_112 iv_X2_reach rfl rfl ⟨by decide, by decide⟩ (Nat.le_of_ble_eq_true rfl) ⟨by decide, by decide⟩ dX2_reachThose_27 (fun r h9 hq => ?_)
      obtain ⟨rfl, e8⟩ := hq
      rw [e8]
      clear e8 h9
      refine z_r0 ?_
      obtain ⟨hR2, hm2, hc2⟩ := RI_step (b := v) (u := (q : Int) - F 10 v) (fee := F 11 v) (bz := v) R hR hs (fun h1 h2 => ⟨by omega, hq0, Or.inl ⟨by omega, by omega⟩⟩) f1.symm rfl
      generalize rch F1 ((q : Int) - F 10 v) q (F 11 v) v = F2 at hR2 hm2 hc2 ⊢
      have k10 : F2 10 = F 10 := hR2.1 10 (by decide) (by decide)
      have k11 : F2 11 = F 11 := hR2.1 11 (by decide) (by decide)
      have k12 : F2 12 = F 12 := hR2.1 12 (by decide) (by decide)
      have b12 := R.2.2.2.2.1 (v * 41 + q)
      have hC2 : ∀ b u, rsF F b u q → (wy b < v ∨ b = v) → F 16 u = 0 → F2 14 u ≤ F 14 q + rcF F b u q := by
        intro b u hb hbv h0
        rcases hbv with hbv | rfl
        · have := hC b u hb hbv h0
          have := hm2 u
          omega
        · have hu : ((q : Int) - F 10 b).toNat = u := by
            rcases hb.2.2 with h1 | h1
            · omega
            · omega
          rw [hu] at hc2
          have hu2 := hb.1
          exact hc2 (by rcases hb.2.2 with h1 | h1 <;> omega) (by rcases hb.2.2 with h1 | h1 <;> omega) h0
      refine z_aload_n (pc := 30) rfl dX2_reachThose_30 ?_
      refine zf_X2_18 (pc := 31) rfl rfl dX2_reachThose_31 ?_
      refine z_iload_n (pc := 34) rfl dX2_reachThose_34 ?_
      refine z_bipush (pc := 35) (by decide) dX2_reachThose_35 ?_
      refine z_imul (pc := 37) dX2_reachThose_37 ?_
      refine z_iload_n (pc := 38) rfl dX2_reachThose_38 ?_
      refine z_iadd (pc := 39) dX2_reachThose_39 ?_
      refine z_iald (pc := 40) rfl (by decide) (by omega) (by omega) dX2_reachThose_40 ?_
      rw [show ((v : Int) * 41 + q).toNat = v * 41 + q by omega, k12]
      refine z_if_le (pc := 41) ⟨by omega, by omega⟩ 68 (by decide) dX2_reachThose_41 (fun hq => ?_) (fun hq => ?_)
      · refine z_ii2 (pc := 68) (by decide) rfl dX2_reachThose_68 ?_
        refine z_goto (pc := 71) 2 (by decide) dX2_reachThose_71 ?_
        refine ih (v + 1) F2 (by omega) hR2 (fun b u hb hbv h0 => hC2 b u hb ?_ h0)
        unfold wy at hbv ⊢
        by_cases h8 : b < 8
        · rw [if_pos h8] at hbv ⊢; omega
        · rw [if_neg h8] at hbv ⊢
          rcases hb.2.2 with h1 | h1
          · omega
          · by_cases e : b - 8 = v
            · rw [e] at h1; omega
            · omega
      refine z_aload_n (pc := 44) rfl dX2_reachThose_44 ?_
      refine z_iload_n (pc := 45) rfl dX2_reachThose_45 ?_
      refine z_aload_n (pc := 46) rfl dX2_reachThose_46 ?_
      refine zf_X2_11 (pc := 47) rfl rfl dX2_reachThose_47 ?_
      refine z_iload_n (pc := 50) rfl dX2_reachThose_50 ?_
      refine z_iald (pc := 51) rfl (by decide) (by omega) (by omega) dX2_reachThose_51 ?_
      refine z_iadd (pc := 52) dX2_reachThose_52 ?_
      refine z_iload_n (pc := 53) rfl dX2_reachThose_53 ?_
      refine z_aload_n (pc := 54) rfl dX2_reachThose_54 ?_
      refine zf_X2_15 (pc := 55) rfl rfl dX2_reachThose_55 ?_
      refine z_iload_n (pc := 58) rfl dX2_reachThose_58 ?_
      refine z_iald (pc := 59) rfl (by decide) (by omega) (by omega) dX2_reachThose_59 ?_
      refine z_ineg (pc := 60) dX2_reachThose_60 ?_
      refine z_iload_n (pc := 61) rfl dX2_reachThose_61 ?_
      refine z_bipush (pc := 62) (by decide) dX2_reachThose_62 ?_
      refine z_iadd (pc := 64) dX2_reachThose_64 ?_
      rw [Int.toNat_natCast, k10, k11]
      refine z_V4 (pc := 65) (c_reach (RI_fr R T hR2) (u := (q : Int) + F 10 v) ⟨by omega, by omega⟩ (q := q) (by omega) (fee := -F 11 v) (b := (v : Int) + 8) (by omega)) lk_X2_112 iv_X2_reach rfl rfl ⟨by decide, by decide⟩ (Nat.le_of_ble_eq_true rfl) ⟨by decide, by decide⟩ dX2_reachThose_65 (fun r h9 hq => ?_)
      obtain ⟨rfl, e8⟩ := hq
      rw [e8]
      clear e8 h9
      refine z_r0 ?_
      have hx : 0 < F 12 (v * 41 + q) := by assumption
      obtain ⟨hR3, hm3, hc3⟩ := RI_step (b := v + 8) (u := (q : Int) + F 10 v) (fee := -F 11 v) (bz := (v : Int) + 8) R hR2 hs (fun h1 h2 => ⟨by omega, hq0, Or.inr ⟨by omega, by omega, by rw [Nat.add_sub_cancel]; omega, by rw [Nat.add_sub_cancel]; exact hx⟩⟩) f2.symm (by omega)
      generalize rch F2 ((q : Int) + F 10 v) q (-F 11 v) ((v : Int) + 8) = F3 at hR3 hm3 hc3 ⊢
      refine z_ii2 (pc := 68) (by decide) rfl dX2_reachThose_68 ?_
      refine z_goto (pc := 71) 2 (by decide) dX2_reachThose_71 ?_
      refine ih (v + 1) F3 (by omega) hR3 (fun b u hb hbv h0 => ?_)
      by_cases hb1 : wy b < v ∨ b = v
      · have := hC2 b u hb hb1 h0
        have := hm3 u
        omega
      · have hb2 : b = v + 8 := by
          unfold wy at hbv hb1
          by_cases h8 : b < 8
          · rw [if_pos h8] at hbv hb1; omega
          · rw [if_neg h8] at hbv hb1; omega
        subst hb2
        have hu : ((q : Int) + F 10 v).toNat = u ∧ 0 ≤ (q : Int) + F 10 v ∧ (q : Int) + F 10 v ≤ F 9 0 := by
          have hu2 := hb.1
          rcases hb.2.2 with h1 | h1
          · omega
          · rw [Nat.add_sub_cancel] at h1; omega
        rw [hu.1] at hc3
        exact hc3 hu.2.1 hu.2.2 h0
  refine z_iconst (pc := 0) dX2_reachThose_0 ?_
  refine z_is2 (pc := 1) (by decide) rfl dX2_reachThose_1 ?_
  exact loop (nW F) 0 F (by omega) (RI_rf F q) (fun b u _ h => by omega)
end FLOW2
