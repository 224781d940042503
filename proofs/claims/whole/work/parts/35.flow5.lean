/-! ===== Flow: carry, change, priceOf ===== -/
/-- what carrying un from a to b does -/
def CR (F F' : Nat → Nat → Int) (un : Int) (f : (Nat → Int) → Int) : Prop := (∀ k, k < 12 ∨ 16 < k → F' k = F k) ∧ fr F' ∧ ftF F' ∧ (∀ w : Nat → Int, Ex (F 10) (F' 12) w = Ex (F 10) (F 12) w + f w) ∧ (∀ u, F' 13 u ≤ F 13 u + 1000) ∧ ∀ j, F' 12 j ≤ F 12 j + 40 * un
theorem nb_of {F F1 : Nat → Nat → Int} (N : nb F) (e10 : F1 10 = F 10) (e11 : F1 11 = F 11) : nb F1 := by unfold nb; rw [e10, e11]; exact N
theorem RW_TR {F F' : Nat → Nat → Int} {goal : Nat} {st : Int} {t : Nat → Nat} (h : RW F F' goal st t) : TR F' goal t := by
  have e9 := h.1 9 (by decide) (by decide) (by decide) (by decide)
  have e10 := h.1 10 (by decide) (by decide) (by decide) (by decide)
  have e11 := h.1 11 (by decide) (by decide) (by decide) (by decide)
  have e12 := h.1 12 (by decide) (by decide) (by decide) (by decide)
  have k := h.2.2.2.2.2.1
  unfold TR rsF nN nW
  rw [e9, e10, e11, e12]
  exact k
section FLOW6
variable {l : Launch} {g : zG} {F : Nat → Nat → Int} {L : Nat → Int} {im : Nat → Option Nat} {c : Nat}
theorem c_carry (R : fr F) (T : ftF F) (N : nb F) {a b : Nat} {un : Int} (hab : b = a + 1 ∨ a = b + 1) (ha : a ≤ nN F) (hb : b ≤ nN F) (hu0 : 0 ≤ un) (hu1 : un ≤ 1000) (hP : ∀ u, F 13 u ≤ 90000) (hX : ∀ j, F 12 j ≤ 40000000) : zM l g yX2_carry cX2_carry 9 (some .long) 3 0 0 [.ref (g.2.1 + 9), .int (iz a), .int (iz b), .int (iz un)] (zk g F L im c) (fun r h => ∃ F' : Nat → Nat → Int, r = some (.long (lz (Ex (F 10) (F' 12) (F' 13) - Ex (F 10) (F 12) (F 13)))) ∧ h = zk g F' L im c ∧ CR F F' un (fun w => un * (w a - w b))) := by
  refine zM_of 5 (by decide) rfl ?_
  show zJ l g RX2 cX2_carry 9 (some .long) "carry" (zRm 3 0 0) 0 0 _ 0 0 0 [some (.ref (g.2.1 + 9)), some (.int (iz a)), some (.int (iz b)), some (.int (iz un)), none, none, none, none, none] [] _
  have eN := nN_eq R
  have r1 := R.1
  have bnd : ∀ F1 : Nat → Nat → Int, (∀ k, k < 12 ∨ 16 < k → F1 k = F k) → fr F1 → ftF F1 → F1 13 a - F1 13 b - (F 13 a - F 13 b) ≤ 1000 := by
    intro F1 k1 R1 T1
    have e9 := k1 9 (by omega)
    have enN : nN F1 = nN F := by unfold nN; rw [e9]
    have N1 := nb_of N (k1 10 (by omega)) (k1 11 (by omega))
    have n1 := N.2.2.2
    have e11 := k1 11 (by omega)
    rcases hab with h | h
    · subst h
      have q1 := nb_fall R1 T1 N1 (p := a) (by omega)
      have q2 := nb_fall R T N (p := a) (by omega)
      rw [e11] at q1
      omega
    · subst h
      have q1 := nb_fall R1 T1 N1 (p := b) (by omega)
      have q2 := nb_fall R T N (p := b) (by omega)
      omega
  have fin : ∀ (F1 : Nat → Nat → Int) (left : Int), left = 0 → (∀ k, k < 12 ∨ 16 < k → F1 k = F k) → fr F1 → ftF F1 → (∀ w : Nat → Int, Ex (F 10) (F1 12) w = Ex (F 10) (F 12) w + (un - left) * (w a - w b)) → (∀ u, F1 13 u ≤ F 13 u + (F1 13 a - F1 13 b - (F 13 a - F 13 b))) → (∀ j, F1 12 j ≤ F 12 j + 40 * (un - left)) → CR F F1 un (fun w => un * (w a - w b)) := by
    intro F1 left h0 k1 R1 T1 i1 i2 i3
    subst h0
    refine ⟨k1, R1, T1, fun w => by have := i1 w; rw [Int.sub_zero] at this; exact this, fun u => ?_, fun j => by have := i3 j; omega⟩
    have h5 := bnd F1 k1 R1 T1
    have h6 := i2 u
    omega
  have loop : ∀ (j ps : Nat) (F1 : Nat → Nat → Int) (left : Int) (y : Option Value), (ps : Int) + j = un + 1 → 0 ≤ left → left + ps ≤ un → (∀ k, k < 12 ∨ 16 < k → F1 k = F k) → fr F1 → ftF F1 → (∀ w : Nat → Int, Ex (F 10) (F1 12) w = Ex (F 10) (F 12) w + (un - left) * (w a - w b)) → (∀ u, F1 13 u ≤ F 13 u + (F1 13 a - F1 13 b - (F 13 a - F 13 b))) → (∀ j, F1 12 j ≤ F 12 j + 40 * (un - left)) → zJ l g RX2 cX2_carry 9 (some .long) "carry" (zRm 3 0 0) 0 0 (fun r h => ∃ F' : Nat → Nat → Int, r = some (.long (lz (Ex (F 10) (F' 12) (F' 13) - Ex (F 10) (F 12) (F 13)))) ∧ h = zk g F' L im c ∧ CR F F' un (fun w => un * (w a - w b))) 0 0 9 [some (.ref (g.2.1 + 9)), some (.int (iz a)), some (.int (iz b)), some (.int (iz un)), some (.long (lz (Ex (F 10) (F1 12) (F1 13) - Ex (F 10) (F 12) (F 13)))), none, some (.int (iz left)), some (.int (iz ps)), y] [] (zk g F1 L im c) := by
    intro j
    induction j with
    | zero =>
      intro ps F1 left y hj hl0 hl1 k1 R1 T1 i1 i2 i3
      omega
    | succ j ih =>
      intro ps F1 left y hj hl0 hl1 k1 R1 T1 i1 i2 i3
      refine z_iload (pc := 9) rfl dX2_carry_9 ?_
      refine z_iload_n (pc := 11) rfl dX2_carry_11 ?_
      refine z_icmp_ge (pc := 12) ⟨by omega, by omega⟩ ⟨by omega, by omega⟩ 80 (by decide) dX2_carry_12 (fun hq => ?_) (fun hq => ?_)
      · refine z_lload (pc := 80) rfl dX2_carry_80 ?_
        exact z_retl (pc := 82) rfl (by decide) (by decide) dX2_carry_82 ⟨F1, rfl, rfl, fin F1 left (by omega) k1 R1 T1 i1 i2 i3⟩
      refine z_iload (pc := 15) rfl dX2_carry_15 ?_
      refine z_if_le (pc := 17) ⟨by omega, by omega⟩ 80 (by decide) dX2_carry_17 (fun hq => ?_) (fun hq => ?_)
      · refine z_lload (pc := 80) rfl dX2_carry_80 ?_
        exact z_retl (pc := 82) rfl (by decide) (by decide) dX2_carry_82 ⟨F1, rfl, rfl, fin F1 left (by omega) k1 R1 T1 i1 i2 i3⟩
      have hleft : 0 < left := by assumption
      have e9 := k1 9 (by omega)
      have e10 := k1 10 (by omega)
      have e11 := k1 11 (by omega)
      have enN : nN F1 = nN F := by unfold nN; rw [e9]
      have N1 := nb_of N e10 e11
      have b1 := bnd F1 k1 R1 T1
      refine z_aload_n (pc := 20) rfl dX2_carry_20 ?_
      refine z_iload_n (pc := 21) rfl dX2_carry_21 ?_
      refine z_iload_n (pc := 22) rfl dX2_carry_22 ?_
      refine z_V2 (pc := 23) (c_raiseWorth R1 T1 N1 (fun u => by have := i2 u; have := hP u; omega) (goal := b) (st := (a : Int)) (by rw [enN]; exact hb) (Or.inr ⟨a, rfl, by rw [enN]; exact ha, by omega⟩)) lk_X2_62 iv_X2_raiseWorth rfl rfl ⟨by decide, by decide⟩ (Nat.le_of_ble_eq_true rfl) ⟨by decide, by decide⟩ dX2_carry_23 (fun r h9 hq => ?_)
      obtain ⟨rfl, F2, t, e8, W2⟩ := hq
      rw [e8]
      clear e8 h9
      refine z_r0 ?_
      have A := RW_TR W2
      obtain ⟨w1, R2, T2, w4, w5, w6, w7⟩ := W2
      have f9 := w1 9 (by decide) (by decide) (by decide) (by decide)
      have f10 := w1 10 (by decide) (by decide) (by decide) (by decide)
      have f11 := w1 11 (by decide) (by decide) (by decide) (by decide)
      have f12 := w1 12 (by decide) (by decide) (by decide) (by decide)
      have enN2 : nN F2 = nN F := by unfold nN; rw [f9, e9]
      have eW2 : nW F1 ≤ 8 := by have := R1.2.1; show (F1 9 1).toNat ≤ 8; omega
      have eW3 : nW F2 ≤ 8 := by have := R2.2.1; show (F2 9 1).toNat ≤ 8; omega
      obtain ⟨s, hs1, hs2, hs3, hs4⟩ : ∃ s : Nat, (a : Int) = s ∧ s ≤ nN F1 ∧ F2 16 s = 1 ∧ ∀ u, F2 13 u ≤ F1 13 u + (F2 13 s - F2 13 b) - (F1 13 s - F1 13 b) := by
        rcases w7 with h | h
        · omega
        · exact h
      have hsa : s = a := by omega
      subst hsa
      refine z_aload_n (pc := 26) rfl dX2_carry_26 ?_
      refine z_iload_n (pc := 27) rfl dX2_carry_27 ?_
      refine z_iload_n (pc := 28) rfl dX2_carry_28 ?_
      refine z_iload (pc := 29) rfl dX2_carry_29 ?_
      refine z_V3 (pc := 31) (c_roomOnPath R2 (goal := b) (a := s) (t := t) (un := left) A (by rw [enN2]; exact ha) hs3 (by rw [enN2]; exact hb) (by omega) (by omega)) lk_X2_95 iv_X2_roomOnPath rfl rfl ⟨by decide, by decide⟩ (Nat.le_of_ble_eq_true rfl) ⟨by decide, by decide⟩ dX2_carry_31 (fun r h9 hq => ?_)
      obtain ⟨⟨z, rfl, hz1, hz2, hz3⟩, e8⟩ := hq
      rw [e8]
      clear e8 h9
      refine z_r1 ?_
      refine z_is8 (pc := 34) (by decide) rfl dX2_carry_34 ?_
      refine z_aload_n (pc := 36) rfl dX2_carry_36 ?_
      refine z_iload_n (pc := 37) rfl dX2_carry_37 ?_
      refine z_iload_n (pc := 38) rfl dX2_carry_38 ?_
      refine z_iload (pc := 39) rfl dX2_carry_39 ?_
      refine z_V3 (pc := 41) (c_sendOnPath R2 T2 (goal := b) (a := s) (t := t) (un := z) A (by rw [enN2]; exact ha) hs3 (by rw [enN2]; exact hb) hz1 (by omega) hz3 (fun q => by rw [f12]; have := i3 q; have := hX q; omega)) lk_X2_99 iv_X2_sendOnPath rfl rfl ⟨by decide, by decide⟩ (Nat.le_of_ble_eq_true rfl) ⟨by decide, by decide⟩ dX2_carry_41 (fun r h9 hq => ?_)
      obtain ⟨rfl, F3, e8, P3⟩ := hq
      rw [e8]
      clear e8 h9
      refine z_r0 ?_
      have T3 := SP_ft R2 T2 P3
      obtain ⟨p1, p2, p3, p4⟩ := P3
      have g13 : F3 13 = F2 13 := p1 13 (by decide)
      have k3 : ∀ k, k < 12 ∨ 16 < k → F3 k = F k := fun k hk => (p1 k (by omega)).trans ((w1 k (by omega) (by omega) (by omega) (by omega)).trans (k1 k hk))
      have R3 : fr F3 := by
        unfold fr
        rw [p1 9 (by decide), p1 10 (by decide), p1 11 (by decide), p1 13 (by decide), p1 14 (by decide), p1 15 (by decide), p1 16 (by decide)]
        refine ⟨R2.1, R2.2.1, R2.2.2.1, R2.2.2.2.1, fun q => ?_, R2.2.2.2.2.2.1, R2.2.2.2.2.2.2.1, R2.2.2.2.2.2.2.2.1, R2.2.2.2.2.2.2.2.2⟩
        have h5 := p3 q
        rw [f12] at h5
        have h6 := i3 q
        have h7 := hX q
        omega
      have hval : Ex (F 10) (F3 12) (F3 13) - Ex (F 10) (F 12) (F 13) = Ex (F 10) (F1 12) (F1 13) - Ex (F 10) (F 12) (F 13) + z * (F3 13 s - F3 13 b) := by
        have h5 := p2 (F3 13)
        have h6 := Ex_tight T2 eW3
        have h7 := Ex_tight T1 eW2
        rw [f10, f11, f12, e10, e11] at h6
        rw [f10, e10, f12] at h5
        rw [e10, e11] at h7
        rw [h5]
        rw [g13, h6, h7]
        omega
      have hb13 := R3.2.2.2.2.2.1 s
      have hc13 := R3.2.2.2.2.2.1 b
      refine z_lload (pc := 44) rfl dX2_carry_44 ?_
      refine z_iload (pc := 46) rfl dX2_carry_46 ?_
      refine z_i2l (pc := 48) ⟨by omega, by omega⟩ dX2_carry_48 ?_
      refine z_aload_n (pc := 49) rfl dX2_carry_49 ?_
      refine zf_X2_21 (pc := 50) rfl rfl dX2_carry_50 ?_
      refine z_iload_n (pc := 53) rfl dX2_carry_53 ?_
      refine z_iald (pc := 54) rfl (by decide) (by omega) (by omega) dX2_carry_54 ?_
      refine z_aload_n (pc := 55) rfl dX2_carry_55 ?_
      refine zf_X2_21 (pc := 56) rfl rfl dX2_carry_56 ?_
      refine z_iload_n (pc := 59) rfl dX2_carry_59 ?_
      refine z_iald (pc := 60) rfl (by decide) (by omega) (by omega) dX2_carry_60 ?_
      refine z_isub (pc := 61) dX2_carry_61 ?_
      rw [Int.toNat_natCast, Int.toNat_natCast]
      refine z_i2l (pc := 62) ⟨by omega, by omega⟩ dX2_carry_62 ?_
      refine z_lmul (pc := 63) dX2_carry_63 ?_
      refine z_ladd (pc := 64) dX2_carry_64 ?_
      rw [← hval]
      refine z_ls4 (pc := 65) (by decide) rfl dX2_carry_65 ?_
      refine z_iload (pc := 67) rfl dX2_carry_67 ?_
      refine z_iload (pc := 69) rfl dX2_carry_69 ?_
      refine z_isub (pc := 71) dX2_carry_71 ?_
      refine z_is6 (pc := 72) (by decide) rfl dX2_carry_72 ?_
      refine z_ii7 (pc := 74) (by decide) rfl dX2_carry_74 ?_
      refine z_goto (pc := 77) 9 (by decide) dX2_carry_77 ?_
      refine ih (ps + 1) F3 (left - z) _ (by omega) (by omega) (by omega) k3 R3 T3 (fun w => ?_) (fun u => ?_) (fun q => ?_)
      · have h5 := p2 w
        rw [f10, e10, f12, i1 w] at h5
        rw [h5]
        generalize w s = x1
        generalize w b = x2
        rw [show un - (left - z) = (un - left) + z by omega, Int.add_mul]
        omega
      · rw [g13]
        have h5 := hs4 u
        have h6 := i2 u
        omega
      · have h5 := p3 q
        rw [f12] at h5
        have h6 := i3 q
        omega
  refine z_lconst (pc := 0) (v := 0) (by decide) dX2_carry_0 ?_
  refine z_topL (show _ = lz (Ex (F 10) (F 12) (F 13) - Ex (F 10) (F 12) (F 13)) by rw [Int.sub_self]) ?_
  refine z_ls4 (pc := 1) (by decide) rfl dX2_carry_1 ?_
  refine z_iload_n (pc := 3) rfl dX2_carry_3 ?_
  refine z_is6 (pc := 4) (by decide) rfl dX2_carry_4 ?_
  refine z_iconst (pc := 6) dX2_carry_6 ?_
  refine z_is7 (pc := 7) (by decide) rfl dX2_carry_7 ?_
  exact loop (un.toNat + 1) 0 F un _ (by omega) hu0 (by omega) (fun _ _ => rfl) R T (fun w => by rw [Int.sub_self, Int.zero_mul, Int.add_zero]) (fun u => by omega) (fun q => by omega)
theorem c_change (R : fr F) (T : ftF F) (N : nb F) {a : Nat} {un : Int} (ha : a < nN F) (hu0 : -1000 ≤ un) (hu1 : un ≤ 1000) (hP : ∀ u, F 13 u ≤ 90000) (hX : ∀ j, F 12 j ≤ 40000000) : zM l g yX2_change cX2_change 3 (some .long) 4 0 0 [.ref (g.2.1 + 9), .int (iz a), .int (iz un)] (zk g F L im c) (fun r h => ∃ F' : Nat → Nat → Int, r = some (.long (lz (Ex (F 10) (F' 12) (F' 13) - Ex (F 10) (F 12) (F 13)))) ∧ h = zk g F' L im c ∧ CR F F' (if un < 0 then -un else un) (fun w => un * (w a - w (a + 1)))) := by
  refine zM_of 0 (by decide) rfl ?_
  show zJ l g RX2 cX2_change 3 (some .long) "change" (zRm 4 0 0) 0 0 _ 0 0 0 [some (.ref (g.2.1 + 9)), some (.int (iz a)), some (.int (iz un))] [] _
  have eN := nN_eq R
  have r1 := R.1
  refine z_iload_n (pc := 0) rfl dX2_change_0 ?_
  refine z_if_ge (pc := 1) ⟨by omega, by omega⟩ 17 (by decide) dX2_change_1 (fun hq => ?_) (fun hq => ?_)
  · refine z_aload_n (pc := 17) rfl dX2_change_17 ?_
    refine z_iload_n (pc := 18) rfl dX2_change_18 ?_
    refine z_iload_n (pc := 19) rfl dX2_change_19 ?_
    refine z_iconst (pc := 20) dX2_change_20 ?_
    refine z_iadd (pc := 21) dX2_change_21 ?_
    rw [show (a : Int) + 1 = ((a + 1 : Nat) : Int) by omega]
    refine z_iload_n (pc := 22) rfl dX2_change_22 ?_
    refine z_V3 (pc := 23) (c_carry R T N (a := a) (b := a + 1) (un := un) (Or.inl rfl) (by omega) (by omega) (by omega) hu1 hP hX) lk_X2_58 iv_X2_carry rfl rfl ⟨by decide, by decide⟩ (Nat.le_of_ble_eq_true rfl) ⟨by decide, by decide⟩ dX2_change_23 (fun r h9 hq => ?_)
    obtain ⟨F1, rfl, e8, C⟩ := hq
    rw [e8]
    clear e8 h9
    refine z_r1 ?_
    exact z_retl (pc := 26) rfl (by decide) (by decide) dX2_change_26 ⟨F1, rfl, rfl, by rw [if_neg (by omega)]; exact C⟩
  refine z_aload_n (pc := 4) rfl dX2_change_4 ?_
  refine z_iload_n (pc := 5) rfl dX2_change_5 ?_
  refine z_iconst (pc := 6) dX2_change_6 ?_
  refine z_iadd (pc := 7) dX2_change_7 ?_
  rw [show (a : Int) + 1 = ((a + 1 : Nat) : Int) by omega]
  refine z_iload_n (pc := 8) rfl dX2_change_8 ?_
  refine z_iload_n (pc := 9) rfl dX2_change_9 ?_
  refine z_ineg (pc := 10) dX2_change_10 ?_
  refine z_V3 (pc := 11) (c_carry R T N (a := a + 1) (b := a) (un := -un) (Or.inr rfl) (by omega) (by omega) (by omega) (by omega) hP hX) lk_X2_58 iv_X2_carry rfl rfl ⟨by decide, by decide⟩ (Nat.le_of_ble_eq_true rfl) ⟨by decide, by decide⟩ dX2_change_11 (fun r h9 hq => ?_)
  obtain ⟨F1, rfl, e8, C⟩ := hq
  rw [e8]
  clear e8 h9
  refine z_r1 ?_
  refine z_goto (pc := 14) 26 (by decide) dX2_change_14 ?_
  refine z_retl (pc := 26) rfl (by decide) (by decide) dX2_change_26 ⟨F1, rfl, rfl, ?_⟩
  rw [if_pos (by omega)]
  obtain ⟨c1, c2, c3, c4, c5, c6⟩ := C
  refine ⟨c1, c2, c3, fun w => ?_, c5, c6⟩
  rw [c4 w]
  dsimp only
  generalize w a = x1
  generalize w (a + 1) = x2
  rw [Int.neg_mul, Int.mul_sub, Int.mul_sub]
  omega
theorem c_priceOf (R : fr F) (T : ftF F) (N : nb F) {a : Nat} (ha : a < nN F) (hP : ∀ u, F 13 u ≤ 100000) : zM l g yX2_priceOf cX2_priceOf 2 (some .int) 3 0 0 [.ref (g.2.1 + 9), .int (iz a)] (zk g F L im c) (fun r h => ∃ (F' : Nat → Nat → Int) (t : Nat → Nat), r = some (.int (iz (F' 13 a - F' 13 (a + 1)))) ∧ h = zk g F' L im c ∧ RW F F' (nN F) (-1) t) := by
  refine zM_of 0 (by decide) rfl ?_
  show zJ l g RX2 cX2_priceOf 2 (some .int) "priceOf" (zRm 3 0 0) 0 0 _ 0 0 0 [some (.ref (g.2.1 + 9)), some (.int (iz a))] [] _
  have eN := nN_eq R
  have r1 := R.1
  refine z_aload_n (pc := 0) rfl dX2_priceOf_0 ?_
  refine z_aload_n (pc := 1) rfl dX2_priceOf_1 ?_
  refine zf_X2_44 (pc := 2) rfl rfl dX2_priceOf_2 ?_
  rw [show F 9 0 = ((nN F : Nat) : Int) from eN.symm]
  refine z_iconst (pc := 5) dX2_priceOf_5 ?_
  refine z_V2 (pc := 6) (c_raiseWorth R T N hP (goal := nN F) (st := -1) (Nat.le_refl _) (Or.inl rfl)) lk_X2_62 iv_X2_raiseWorth rfl rfl ⟨by decide, by decide⟩ (Nat.le_of_ble_eq_true rfl) ⟨by decide, by decide⟩ dX2_priceOf_6 (fun r h9 hq => ?_)
  obtain ⟨rfl, F2, t, e8, W2⟩ := hq
  rw [e8]
  clear e8 h9
  refine z_r0 ?_
  refine z_aload_n (pc := 9) rfl dX2_priceOf_9 ?_
  refine zf_X2_21 (pc := 10) rfl rfl dX2_priceOf_10 ?_
  refine z_iload_n (pc := 13) rfl dX2_priceOf_13 ?_
  refine z_iald (pc := 14) rfl (by decide) (by omega) (by omega) dX2_priceOf_14 ?_
  refine z_aload_n (pc := 15) rfl dX2_priceOf_15 ?_
  refine zf_X2_21 (pc := 16) rfl rfl dX2_priceOf_16 ?_
  refine z_iload_n (pc := 19) rfl dX2_priceOf_19 ?_
  refine z_iconst (pc := 20) dX2_priceOf_20 ?_
  refine z_iadd (pc := 21) dX2_priceOf_21 ?_
  refine z_iald (pc := 22) rfl (by decide) (by omega) (by omega) dX2_priceOf_22 ?_
  refine z_isub (pc := 23) dX2_priceOf_23 ?_
  rw [Int.toNat_natCast, show ((a : Int) + 1).toNat = a + 1 by omega]
  exact z_reti (pc := 24) rfl (by decide) (by decide) dX2_priceOf_24 ⟨F2, t, rfl, rfl, W2⟩
end FLOW6
