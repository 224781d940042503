/-! ===== Flow: along a path ===== -/
def itr (f : Nat → Nat) (u : Nat) : Nat → Nat
  | 0 => u
  | k + 1 => f (itr f u k)
def nxz (F : Nat → Nat → Int) (u : Nat) : Int := if 8 ≤ F 15 u then u - F 10 ((F 15 u).toNat - 8) else u + F 10 (F 15 u).toNat
def nxF (F : Nat → Nat → Int) (u : Nat) : Nat := (nxz F u).toNat
/-- the settled points lead to the goal, each by a tight open arc to one settled earlier -/
def TR (F : Nat → Nat → Int) (goal : Nat) (t : Nat → Nat) : Prop := ∀ u, u ≤ nN F → F 16 u = 1 → t u ≤ nN F ∧ (u ≠ goal → ∃ b v, rsF F b u v ∧ F 15 u = (b : Int) ∧ F 16 v = 1 ∧ F 13 u - F 13 v = fb (F 11) b ∧ t v < t u)
theorem TR_nx {F : Nat → Nat → Int} {goal : Nat} {t : Nat → Nat} (R : fr F) (A : TR F goal t) {u : Nat} (hu : u ≤ nN F) (h1 : F 16 u = 1) (hg : u ≠ goal) : ∃ b, rsF F b u (nxF F u) ∧ F 15 u = (b : Int) ∧ F 16 (nxF F u) = 1 ∧ F 13 u - F 13 (nxF F u) = fb (F 11) b ∧ t (nxF F u) < t u ∧ nxz F u = (nxF F u : Int) := by
  obtain ⟨b, v, k1, k2, k3, k4, k5⟩ := (A u hu h1).2 hg
  have hW : nW F ≤ 8 := by have := R.2.1; show (F 9 1).toNat ≤ 8; omega
  have hz : nxz F u = (v : Int) := by
    unfold nxz
    rw [k2]
    rcases k1.2.2 with h | h
    · rw [if_neg (by omega), Int.toNat_natCast]; omega
    · rw [if_pos (by omega), Int.toNat_natCast]; omega
  have hv : nxF F u = v := by unfold nxF; rw [hz]; omega
  rw [hv]
  exact ⟨b, k1, k2, k3, k4, k5, hz⟩
/-- where the path is after k steps, none of them at the goal -/
theorem TR_it {F : Nat → Nat → Int} {goal : Nat} {t : Nat → Nat} (R : fr F) (A : TR F goal t) {u : Nat} (hu : u ≤ nN F) (h1 : F 16 u = 1) : ∀ k, (∀ j, j < k → itr (nxF F) u j ≠ goal) → itr (nxF F) u k ≤ nN F ∧ F 16 (itr (nxF F) u k) = 1 ∧ t (itr (nxF F) u k) + k ≤ t u
  | 0, _ => ⟨hu, h1, Nat.le_refl _⟩
  | k + 1, h => by
    obtain ⟨a1, a2, a3⟩ := TR_it R A hu h1 k (fun j hj => h j (by omega))
    obtain ⟨b, b1, b2, b3, b4, b5, b6⟩ := TR_nx R A a1 a2 (h k (by omega))
    exact ⟨b1.2.1, b3, by show t (nxF F (itr (nxF F) u k)) + (k + 1) ≤ t u; omega⟩
theorem TR_end {F : Nat → Nat → Int} {goal : Nat} {t : Nat → Nat} (A : TR F goal t) {u : Nat} (hu : u ≤ nN F) (h1 : F 16 u = 1) (h0 : t u = 0) : u = goal := by
  refine Classical.byContradiction fun hn => ?_
  obtain ⟨b, v, k1, k2, k3, k4, k5⟩ := (A u hu h1).2 hn
  omega
/-- no backward step of the path takes more than is there -/
def RP (F : Nat → Nat → Int) (u goal : Nat) (m : Int) (K : Nat) : Prop := ∀ k, k < K → (∀ j, j ≤ k → itr (nxF F) u j ≠ goal) → 8 ≤ F 15 (itr (nxF F) u k) → m ≤ F 12 (((F 15 (itr (nxF F) u k)).toNat - 8) * 41 + itr (nxF F) u (k + 1))
section FLOW4
variable {l : Launch} {g : zG} {F : Nat → Nat → Int} {L : Nat → Int} {im : Nat → Option Nat} {c : Nat}
theorem c_roomOnPath (R : fr F) {goal a : Nat} {t : Nat → Nat} {un : Int} (A : TR F goal t) (ha : a ≤ nN F) (h1 : F 16 a = 1) (hg : goal ≤ nN F) (hu1 : 1 ≤ un) (hu2 : un ≤ 1000000) : zM l g yX2_roomOnPath cX2_roomOnPath 8 (some .int) 1 0 0 [.ref (g.2.1 + 9), .int (iz a), .int (iz goal), .int (iz un)] (zk g F L im c) (fun r h => (∃ z : Int, r = some (.int (iz z)) ∧ 1 ≤ z ∧ z ≤ un ∧ ∀ K, RP F a goal z K) ∧ h = zk g F L im c) := by
  refine zM_of 4 (by decide) rfl ?_
  show zJ l g RX2 cX2_roomOnPath 8 (some .int) "roomOnPath" (zRm 1 0 0) 0 0 _ 0 0 0 [some (.ref (g.2.1 + 9)), some (.int (iz a)), some (.int (iz goal)), some (.int (iz un)), none, none, none, none] [] _
  have eN := nN_eq R
  have r1 := R.1
  have hta := (A a ha h1).1
  have ext : ∀ (k : Nat) (z : Int), itr (nxF F) a k = goal → RP F a goal z k → ∀ K, RP F a goal z K := by
    intro k z hk hP K k2 hk2 hall h8
    by_cases hlt : k2 < k
    · exact hP k2 hlt hall h8
    · exact absurd hk (hall k (by omega))
  have loop : ∀ (j k : Nat) (z : Int) (y : Option Value), k + j = nN F → (∀ q, q < k → itr (nxF F) a q ≠ goal) → 1 ≤ z → z ≤ un → RP F a goal z k → zJ l g RX2 cX2_roomOnPath 8 (some .int) "roomOnPath" (zRm 1 0 0) 0 0 (fun r h => (∃ z : Int, r = some (.int (iz z)) ∧ 1 ≤ z ∧ z ≤ un ∧ ∀ K, RP F a goal z K) ∧ h = zk g F L im c) 0 0 9 [some (.ref (g.2.1 + 9)), some (.int (iz a)), some (.int (iz goal)), some (.int (iz un)), some (.int (iz z)), some (.int (iz (itr (nxF F) a k))), some (.int (iz k)), y] [] (zk g F L im c) := by
    intro j
    induction j with
    | zero =>
      intro k z y hk hng hz1 hz2 hP
      obtain ⟨p1, p2, p3⟩ := TR_it R A ha h1 k hng
      have hend := TR_end A p1 p2 (by omega)
      refine z_iload (pc := 9) rfl dX2_roomOnPath_9 ?_
      refine z_aload_n (pc := 11) rfl dX2_roomOnPath_11 ?_
      refine zf_X2_44 (pc := 12) rfl rfl dX2_roomOnPath_12 ?_
      refine z_icmp_ge (pc := 15) ⟨by omega, by omega⟩ ⟨by omega, by omega⟩ 79 (by decide) dX2_roomOnPath_15 (fun hq => ?_) (fun hq => ?_)
      · refine z_iload (pc := 79) rfl dX2_roomOnPath_79 ?_
        exact z_reti (pc := 81) rfl (by decide) (by decide) dX2_roomOnPath_81 ⟨⟨z, rfl, hz1, hz2, ext k z hend hP⟩, rfl⟩
      omega
    | succ j ih =>
      intro k z y hk hng hz1 hz2 hP
      obtain ⟨p1, p2, p3⟩ := TR_it R A ha h1 k hng
      refine z_iload (pc := 9) rfl dX2_roomOnPath_9 ?_
      refine z_aload_n (pc := 11) rfl dX2_roomOnPath_11 ?_
      refine zf_X2_44 (pc := 12) rfl rfl dX2_roomOnPath_12 ?_
      refine z_icmp_ge (pc := 15) ⟨by omega, by omega⟩ ⟨by omega, by omega⟩ 79 (by decide) dX2_roomOnPath_15 (fun hq => ?_) (fun hq => ?_)
      · omega
      refine z_iload (pc := 18) rfl dX2_roomOnPath_18 ?_
      refine z_iload_n (pc := 20) rfl dX2_roomOnPath_20 ?_
      refine z_icmp_eq (pc := 21) ⟨by omega, by omega⟩ ⟨by omega, by omega⟩ 79 (by decide) dX2_roomOnPath_21 (fun hq => ?_) (fun hq => ?_)
      · refine z_iload (pc := 79) rfl dX2_roomOnPath_79 ?_
        exact z_reti (pc := 81) rfl (by decide) (by decide) dX2_roomOnPath_81 ⟨⟨z, rfl, hz1, hz2, ext k z (by omega) hP⟩, rfl⟩
      have hne : itr (nxF F) a k ≠ goal := fun e => hq (by rw [e])
      have hng2 : ∀ q, q < k + 1 → itr (nxF F) a q ≠ goal := fun q h => by
        by_cases e : q = k
        · rw [e]; exact hne
        · exact hng q (by omega)
      obtain ⟨b, b1, b2, b3, b4, b5, b6⟩ := TR_nx R A p1 p2 hne
      have s15 := R.2.2.2.2.2.2.2.1 (itr (nxF F) a k)
      have hW : nW F ≤ 8 := by have := R.2.1; show (F 9 1).toNat ≤ 8; omega
      refine z_aload_n (pc := 24) rfl dX2_roomOnPath_24 ?_
      refine z_iload (pc := 25) rfl dX2_roomOnPath_25 ?_
      refine z_V1 (pc := 27) (c_after R (p := itr (nxF F) a k) (by omega)) lk_X2_116 iv_X2_after rfl rfl ⟨by decide, by decide⟩ (Nat.le_of_ble_eq_true rfl) ⟨by decide, by decide⟩ dX2_roomOnPath_27 (fun r h9 hq => ?_)
      obtain ⟨rfl, e8⟩ := hq
      rw [e8]
      clear e8 h9
      refine z_r1 ?_
      refine z_top (show _ = iz (nxF F (itr (nxF F) a k) : Int) from congrArg iz b6) ?_
      refine z_is7 (pc := 30) (by decide) rfl dX2_roomOnPath_30 ?_
      refine z_aload_n (pc := 32) rfl dX2_roomOnPath_32 ?_
      refine z_iload (pc := 33) rfl dX2_roomOnPath_33 ?_
      refine z_V1 (pc := 35) (c_takesBack R (p := itr (nxF F) a k) (by omega)) lk_X2_120 iv_X2_takesBack rfl rfl ⟨by decide, by decide⟩ (Nat.le_of_ble_eq_true rfl) ⟨by decide, by decide⟩ dX2_roomOnPath_35 (fun r h9 hq => ?_)
      obtain ⟨rfl, e8⟩ := hq
      rw [e8]
      clear e8 h9
      refine z_r1 ?_
      by_cases h8 : 8 ≤ F 15 (itr (nxF F) a k)
      · rw [if_pos h8]
        refine z_if_eq (pc := 38) ⟨by omega, by omega⟩ 69 (by decide) dX2_roomOnPath_38 (fun hq => ?_) (fun hq => ?_)
        · omega
        have hx : 0 < F 12 ((b - 8) * 41 + nxF F (itr (nxF F) a k)) := by
          rcases b1.2.2 with h | h
          · omega
          · exact h.2.2.2
        have hxb := R.2.2.2.2.1 ((b - 8) * 41 + nxF F (itr (nxF F) a k))
        have hvn : nxF F (itr (nxF F) a k) ≤ nN F := b1.2.1
        refine z_iload (pc := 41) rfl dX2_roomOnPath_41 ?_
        refine z_aload_n (pc := 43) rfl dX2_roomOnPath_43 ?_
        refine zf_X2_18 (pc := 44) rfl rfl dX2_roomOnPath_44 ?_
        refine z_aload_n (pc := 47) rfl dX2_roomOnPath_47 ?_
        refine zf_X2_27 (pc := 48) rfl rfl dX2_roomOnPath_48 ?_
        refine z_iload (pc := 51) rfl dX2_roomOnPath_51 ?_
        refine z_iald (pc := 53) rfl (by decide) (by omega) (by omega) dX2_roomOnPath_53 ?_
        rw [Int.toNat_natCast, b2]
        have hb15 : b ≤ 15 := (rs_code hW b1).1
        refine z_bipush (pc := 54) (by decide) dX2_roomOnPath_54 ?_
        refine z_isub (pc := 56) dX2_roomOnPath_56 ?_
        refine z_bipush (pc := 57) (by decide) dX2_roomOnPath_57 ?_
        refine z_imul (pc := 59) dX2_roomOnPath_59 ?_
        refine z_iload (pc := 60) rfl dX2_roomOnPath_60 ?_
        refine z_iadd (pc := 62) dX2_roomOnPath_62 ?_
        refine z_iald (pc := 63) rfl (by decide) (by omega) (by omega) dX2_roomOnPath_63 ?_
        rw [show (((b : Int) - 8) * 41 + (nxF F (itr (nxF F) a k) : Int)).toNat = (b - 8) * 41 + nxF F (itr (nxF F) a k) by omega]
        refine z_mmin (pc := 64) lk_X2_84 ⟨by omega, by omega⟩ ⟨by omega, by omega⟩ ⟨by decide, by decide⟩ (Nat.le_of_ble_eq_true rfl) ⟨by decide, by decide⟩ dX2_roomOnPath_64 ?_
        refine z_is4 (pc := 67) (by decide) rfl dX2_roomOnPath_67 ?_
        refine z_iload (pc := 69) rfl dX2_roomOnPath_69 ?_
        refine z_is5 (pc := 71) (by decide) rfl dX2_roomOnPath_71 ?_
        refine z_ii6 (pc := 73) (by decide) rfl dX2_roomOnPath_73 ?_
        refine z_goto (pc := 76) 9 (by decide) dX2_roomOnPath_76 ?_
        refine ih (k + 1) _ _ (by omega) hng2 (by omega) (by omega) (fun q hq3 hall hq8 => ?_)
        by_cases e : q = k
        · subst e
          rw [b2, Int.toNat_natCast]
          show min z _ ≤ F 12 ((b - 8) * 41 + nxF F (itr (nxF F) a q))
          omega
        · have := hP q (by omega) hall hq8
          omega
      · rw [if_neg h8]
        refine z_if_eq (pc := 38) ⟨by omega, by omega⟩ 69 (by decide) dX2_roomOnPath_38 (fun hq => ?_) (fun hq => ?_)
        · refine z_iload (pc := 69) rfl dX2_roomOnPath_69 ?_
          refine z_is5 (pc := 71) (by decide) rfl dX2_roomOnPath_71 ?_
          refine z_ii6 (pc := 73) (by decide) rfl dX2_roomOnPath_73 ?_
          refine z_goto (pc := 76) 9 (by decide) dX2_roomOnPath_76 ?_
          refine ih (k + 1) z _ (by omega) hng2 hz1 hz2 (fun q hq3 hall hq8 => ?_)
          by_cases e : q = k
          · subst e; exact absurd hq8 h8
          · exact hP q (by omega) hall hq8
        omega
  refine z_iload_n (pc := 0) rfl dX2_roomOnPath_0 ?_
  refine z_is4 (pc := 1) (by decide) rfl dX2_roomOnPath_1 ?_
  refine z_iload_n (pc := 3) rfl dX2_roomOnPath_3 ?_
  refine z_is5 (pc := 4) (by decide) rfl dX2_roomOnPath_4 ?_
  refine z_iconst (pc := 6) dX2_roomOnPath_6 ?_
  refine z_is6 (pc := 7) (by decide) rfl dX2_roomOnPath_7 ?_
  exact loop (nN F) 0 un _ (by omega) (fun q h => by omega) hu1 (Int.le_refl _) (fun k h => by omega)
/-- what sendOnPath does -/
def SP (F F' : Nat → Nat → Int) (a goal : Nat) (un : Int) : Prop := (∀ k, k ≠ 12 → F' k = F k) ∧ (∀ w : Nat → Int, Ex (F 10) (F' 12) w = Ex (F 10) (F 12) w + un * (w a - w goal)) ∧ (∀ j, 0 ≤ F' 12 j ∧ F' 12 j ≤ F 12 j + 40 * un) ∧ ∀ j, 0 < F' 12 j → 0 < F 12 j ∨ ∃ b u v, b < 8 ∧ j = b * 41 + u ∧ rsF F b u v ∧ F 13 u - F 13 v = fb (F 11) b
theorem SP_ft {F F' : Nat → Nat → Int} {a goal : Nat} {un : Int} (R : fr F) (T : ftF F) (h : SP F F' a goal un) : ftF F' := by
  have eN := nN_eq R
  have r1 := R.1
  have r2 := R.2.1
  have e9 := h.1 9 (by decide)
  have e10 := h.1 10 (by decide)
  have e11 := h.1 11 (by decide)
  have e13 := h.1 13 (by decide)
  have eW := nW_eq R
  unfold ftF nN nW
  rw [e9, e10, e11, e13]
  refine ⟨fun b u v hr => ?_, fun v p hx hp => ?_, fun j => (h.2.2.1 j).1⟩
  · rcases hr.2.2 with h1 | h1
    · exact T.1 b u v ⟨hr.1, hr.2.1, Or.inl h1⟩
    · rcases h.2.2.2 _ h1.2.2.2 with h2 | ⟨b2, u2, v2, k1, k2, k3, k4⟩
      · exact T.1 b u v ⟨hr.1, hr.2.1, Or.inr ⟨h1.1, h1.2.1, h1.2.2.1, h2⟩⟩
      · have hv := hr.2.1
        have hu2 := k3.1
        have eb : b2 = b - 8 := by omega
        have eu : u2 = v := by omega
        subst eb
        subst eu
        have ev : v2 = u := by
          rcases k3.2.2 with h2 | h2
          · omega
          · omega
        subst ev
        unfold fb at k4 ⊢
        rw [if_pos k1] at k4
        rw [if_neg (by omega)]
        omega
  · rcases h.2.2.2 _ hx with h2 | ⟨b2, u2, v2, k1, k2, k3, k4⟩
    · exact T.2.1 v p h2 hp
    · have hu2 := k3.1
      have hv2 := k3.2.1
      have eb : b2 = v := by omega
      have eu : u2 = p := by omega
      subst eb
      subst eu
      rcases k3.2.2 with h2 | h2
      · exact ⟨h2.1, hu2, by omega, by omega⟩
      · omega
section FLOW5
variable {l : Launch} {g : zG} {F : Nat → Nat → Int} {L : Nat → Int} {im : Nat → Option Nat} {c : Nat}
theorem c_sendOnPath (R : fr F) (T : ftF F) {goal a : Nat} {t : Nat → Nat} {un : Int} (A : TR F goal t) (ha : a ≤ nN F) (h1 : F 16 a = 1) (hg : goal ≤ nN F) (hu1 : 1 ≤ un) (hu2 : un ≤ 1000000) (hP : ∀ K, RP F a goal un K) (hX : ∀ j, F 12 j ≤ 50000000) : zM l g yX2_sendOnPath cX2_sendOnPath 7 none 1 0 0 [.ref (g.2.1 + 9), .int (iz a), .int (iz goal), .int (iz un)] (zk g F L im c) (fun r h => r = none ∧ ∃ F' : Nat → Nat → Int, h = zk g F' L im c ∧ SP F F' a goal un) := by
  refine zM_of 3 (by decide) rfl ?_
  show zJ l g RX2 cX2_sendOnPath 7 none "sendOnPath" (zRm 1 0 0) 0 0 _ 0 0 0 [some (.ref (g.2.1 + 9)), some (.int (iz a)), some (.int (iz goal)), some (.int (iz un)), none, none, none] [] _
  have eN := nN_eq R
  have r1 := R.1
  have hta := (A a ha h1).1
  have hW : nW F ≤ 8 := by have := R.2.1; show (F 9 1).toNat ≤ 8; omega
  have fin : ∀ (k : Nat) (x : Nat → Int), k ≤ nN F → (∀ w : Nat → Int, Ex (F 10) x w = Ex (F 10) (F 12) w + un * (w a - w goal)) → (∀ j, 0 ≤ x j ∧ x j ≤ F 12 j + k * un) → (∀ j, 0 < x j → 0 < F 12 j ∨ ∃ b u v, b < 8 ∧ j = b * 41 + u ∧ rsF F b u v ∧ F 13 u - F 13 v = fb (F 11) b) → SP F (va_up F 12 x) a goal un := by
    intro k x hk i1 i2 i3
    refine ⟨fun q hq => by unfold va_up; rw [if_neg hq], i1, fun j => ⟨(i2 j).1, ?_⟩, i3⟩
    have h5 : (k : Int) * un ≤ 40 * un := Int.mul_le_mul_of_nonneg_right (by omega) (by omega)
    have h6 := (i2 j).2
    show x j ≤ _
    omega
  have loop : ∀ (j k : Nat) (x : Nat → Int) (y : Option Value), k + j = nN F → (∀ q, q < k → itr (nxF F) a q ≠ goal) → (∀ w : Nat → Int, Ex (F 10) x w = Ex (F 10) (F 12) w + un * (w a - w (itr (nxF F) a k))) → (∀ j, 0 ≤ x j ∧ x j ≤ F 12 j + k * un) → (∀ j, 0 < x j → 0 < F 12 j ∨ ∃ b u v, b < 8 ∧ j = b * 41 + u ∧ rsF F b u v ∧ F 13 u - F 13 v = fb (F 11) b) → (∀ q, F 16 (q % 41) = 1 → t (q % 41) < t (itr (nxF F) a k) → x q = F 12 q) → zJ l g RX2 cX2_sendOnPath 7 none "sendOnPath" (zRm 1 0 0) 0 0 (fun r h => r = none ∧ ∃ F' : Nat → Nat → Int, h = zk g F' L im c ∧ SP F F' a goal un) 0 0 6 [some (.ref (g.2.1 + 9)), some (.int (iz a)), some (.int (iz goal)), some (.int (iz un)), some (.int (iz (itr (nxF F) a k))), some (.int (iz k)), y] [] (zk g (va_up F 12 x) L im c) := by
    intro j
    induction j with
    | zero =>
      intro k x y hk hng i1 i2 i3 i4
      obtain ⟨p1, p2, p3⟩ := TR_it R A ha h1 k hng
      have hend := TR_end A p1 p2 (by omega)
      rw [hend] at i1
      refine z_iload (pc := 6) rfl dX2_sendOnPath_6 ?_
      refine z_aload_n (pc := 8) rfl dX2_sendOnPath_8 ?_
      refine zf_X2_44 (pc := 9) rfl rfl dX2_sendOnPath_9 ?_
      refine z_icmp_ge (pc := 12) ⟨by omega, by omega⟩ (show ir (F 9 0) from ⟨by omega, by omega⟩) 98 (by decide) dX2_sendOnPath_12 (fun hq => ?_) (fun hq => ?_)
      · exact z_retv (pc := 98) rfl (by decide) (by decide) dX2_sendOnPath_98 ⟨rfl, _, rfl, fin k x (by omega) i1 i2 i3⟩
      have hq2 : (k : Int) < F 9 0 := hq
      omega
    | succ j ih =>
      intro k x y hk hng i1 i2 i3 i4
      obtain ⟨p1, p2, p3⟩ := TR_it R A ha h1 k hng
      refine z_iload (pc := 6) rfl dX2_sendOnPath_6 ?_
      refine z_aload_n (pc := 8) rfl dX2_sendOnPath_8 ?_
      refine zf_X2_44 (pc := 9) rfl rfl dX2_sendOnPath_9 ?_
      refine z_icmp_ge (pc := 12) ⟨by omega, by omega⟩ (show ir (F 9 0) from ⟨by omega, by omega⟩) 98 (by decide) dX2_sendOnPath_12 (fun hq => ?_) (fun hq => ?_)
      · have hq2 : F 9 0 ≤ (k : Int) := hq
        omega
      refine z_iload (pc := 15) rfl dX2_sendOnPath_15 ?_
      refine z_iload_n (pc := 17) rfl dX2_sendOnPath_17 ?_
      refine z_icmp_eq (pc := 18) ⟨by omega, by omega⟩ ⟨by omega, by omega⟩ 98 (by decide) dX2_sendOnPath_18 (fun hq => ?_) (fun hq => ?_)
      · have hend : itr (nxF F) a k = goal := by omega
        rw [hend] at i1
        exact z_retv (pc := 98) rfl (by decide) (by decide) dX2_sendOnPath_98 ⟨rfl, _, rfl, fin k x (by omega) i1 i2 i3⟩
      have hne : itr (nxF F) a k ≠ goal := fun e => hq (by rw [e])
      have hng2 : ∀ q, q < k + 1 → itr (nxF F) a q ≠ goal := fun q h => by
        by_cases e : q = k
        · rw [e]; exact hne
        · exact hng q (by omega)
      obtain ⟨b, b1, b2, b3, b4, b5, b6⟩ := TR_nx R A p1 p2 hne
      have R1 : fr (va_up F 12 x) := by
        refine ⟨R.1, R.2.1, R.2.2.1, R.2.2.2.1, fun q => ?_, R.2.2.2.2.2.1, R.2.2.2.2.2.2.1, R.2.2.2.2.2.2.2.1, R.2.2.2.2.2.2.2.2⟩
        have h5 := i2 q
        have h6 := hX q
        have h7 : (k : Int) * un ≤ 40 * un := Int.mul_le_mul_of_nonneg_right (by omega) (by omega)
        show 0 ≤ x q ∧ x q ≤ 100000000
        omega
      have nx1 : ∀ u, nxz (va_up F 12 x) u = nxz F u := fun u => rfl
      have s15 := R.2.2.2.2.2.2.2.1 (itr (nxF F) a k)
      have hb15 : b ≤ 15 := (rs_code hW b1).1
      have hvn : nxF F (itr (nxF F) a k) ≤ nN F := b1.2.1
      have hsu : (k : Int) * un + un = ((k + 1 : Nat) : Int) * un := by rw [Int.natCast_add, Int.add_mul]; simp
      refine z_aload_n (pc := 21) rfl dX2_sendOnPath_21 ?_
      refine z_iload (pc := 22) rfl dX2_sendOnPath_22 ?_
      refine z_V1 (pc := 24) (c_after R1 (p := itr (nxF F) a k) (by omega)) lk_X2_116 iv_X2_after rfl rfl ⟨by decide, by decide⟩ (Nat.le_of_ble_eq_true rfl) ⟨by decide, by decide⟩ dX2_sendOnPath_24 (fun r h9 hq => ?_)
      obtain ⟨rfl, e8⟩ := hq
      rw [e8]
      clear e8 h9
      refine z_r1 ?_
      refine z_top (show _ = iz (nxF F (itr (nxF F) a k) : Int) from congrArg iz b6) ?_
      refine z_is6 (pc := 27) (by decide) rfl dX2_sendOnPath_27 ?_
      refine z_aload_n (pc := 29) rfl dX2_sendOnPath_29 ?_
      refine z_iload (pc := 30) rfl dX2_sendOnPath_30 ?_
      refine z_V1 (pc := 32) (c_takesBack R1 (p := itr (nxF F) a k) (by omega)) lk_X2_120 iv_X2_takesBack rfl rfl ⟨by decide, by decide⟩ (Nat.le_of_ble_eq_true rfl) ⟨by decide, by decide⟩ dX2_sendOnPath_32 (fun r h9 hq => ?_)
      obtain ⟨rfl, e8⟩ := hq
      rw [e8]
      clear e8 h9
      refine z_r1 ?_
      rw [show va_up F 12 x 15 = F 15 from rfl]
      by_cases h8 : 8 ≤ F 15 (itr (nxF F) a k)
      · rw [if_pos h8]
        refine z_if_eq (pc := 35) ⟨by omega, by omega⟩ 66 (by decide) dX2_sendOnPath_35 (fun hq => ?_) (fun hq => ?_)
        · omega
        refine z_aload_n (pc := 38) rfl dX2_sendOnPath_38 ?_
        refine zf_X2_18 (pc := 39) rfl rfl dX2_sendOnPath_39 ?_
        refine z_aload_n (pc := 42) rfl dX2_sendOnPath_42 ?_
        refine zf_X2_27 (pc := 43) rfl rfl dX2_sendOnPath_43 ?_
        refine z_iload (pc := 46) rfl dX2_sendOnPath_46 ?_
        refine z_iald (pc := 48) rfl (by decide) (by omega) (by omega) dX2_sendOnPath_48 ?_
        rw [Int.toNat_natCast, show va_up F 12 x 15 = F 15 from rfl, b2]
        refine z_bipush (pc := 49) (by decide) dX2_sendOnPath_49 ?_
        refine z_isub (pc := 51) dX2_sendOnPath_51 ?_
        refine z_bipush (pc := 52) (by decide) dX2_sendOnPath_52 ?_
        refine z_imul (pc := 54) dX2_sendOnPath_54 ?_
        refine z_iload (pc := 55) rfl dX2_sendOnPath_55 ?_
        refine z_iadd (pc := 57) dX2_sendOnPath_57 ?_
        refine z_dup2 (pc := 58) rfl rfl dX2_sendOnPath_58 ?_
        refine z_iald (pc := 59) rfl (by decide) (by omega) (by omega) dX2_sendOnPath_59 ?_
        refine z_iload_n (pc := 60) rfl dX2_sendOnPath_60 ?_
        refine z_isub (pc := 61) dX2_sendOnPath_61 ?_
        rw [show (((b : Int) - 8) * 41 + (nxF F (itr (nxF F) a k) : Int)).toNat = (b - 8) * 41 + nxF F (itr (nxF F) a k) by omega, show va_up F 12 x 12 = x from rfl]
        refine z_iast (pc := 62) rfl (by decide) (by omega) (by omega) dX2_sendOnPath_62 ?_
        rw [show (((b : Int) - 8) * 41 + (nxF F (itr (nxF F) a k) : Int)).toNat = (b - 8) * 41 + nxF F (itr (nxF F) a k) by omega]
        refine z_hp (show _ = zk g (va_up F 12 (vf_upd x ((b - 8) * 41 + nxF F (itr (nxF F) a k)) (x ((b - 8) * 41 + nxF F (itr (nxF F) a k)) - un))) L im c from zs_12.trans (congrArg (fun f => zk g f L im c) (bx_uu _ _ _ _))) ?_
        have hcell : x ((b - 8) * 41 + nxF F (itr (nxF F) a k)) = F 12 ((b - 8) * 41 + nxF F (itr (nxF F) a k)) := i4 _ (by rw [show ((b - 8) * 41 + nxF F (itr (nxF F) a k)) % 41 = nxF F (itr (nxF F) a k) by omega]; exact b3) (by rw [show ((b - 8) * 41 + nxF F (itr (nxF F) a k)) % 41 = nxF F (itr (nxF F) a k) by omega]; exact b5)
        have hroom : un ≤ F 12 ((b - 8) * 41 + nxF F (itr (nxF F) a k)) := by
          have := hP (k + 1) k (by omega) (fun q hq5 => hng2 q (by omega)) h8
          rw [b2, Int.toNat_natCast] at this
          exact this
        refine z_goto (pc := 63) 88 (by decide) dX2_sendOnPath_63 ?_
        refine z_iload (pc := 88) rfl dX2_sendOnPath_88 ?_
        refine z_is4 (pc := 90) (by decide) rfl dX2_sendOnPath_90 ?_
        refine z_ii5 (pc := 92) (by decide) rfl dX2_sendOnPath_92 ?_
        refine z_goto (pc := 95) 6 (by decide) dX2_sendOnPath_95 ?_
        refine ih (k + 1) _ _ (by omega) hng2 (fun w => ?_) (fun q => ?_) (fun q hq5 => ?_) (fun q hq5 hq6 => ?_)
        · rw [Ex_upd (by omega), i1 w]
          unfold ph
          rw [show ((b - 8) * 41 + nxF F (itr (nxF F) a k)) % 41 = nxF F (itr (nxF F) a k) by omega, show ((b - 8) * 41 + nxF F (itr (nxF F) a k)) / 41 = b - 8 by omega]
          have ht : tgt (F 10) (b - 8) (nxF F (itr (nxF F) a k)) = itr (nxF F) a k := by
            unfold tgt
            rcases b1.2.2 with h | h
            · omega
            · omega
          rw [ht]
          show _ = _ + un * (w a - w (nxF F (itr (nxF F) a k)))
          rw [show x ((b - 8) * 41 + nxF F (itr (nxF F) a k)) - un - x ((b - 8) * 41 + nxF F (itr (nxF F) a k)) = -un by omega]
          generalize w a = p1
          generalize w (itr (nxF F) a k) = p2
          generalize w (nxF F (itr (nxF F) a k)) = p3
          rw [Int.mul_sub, Int.mul_sub, Int.mul_sub, Int.neg_mul, Int.neg_mul]
          omega
        · have a1 := i2 q
          unfold vf_upd
          split
          · rename_i e
            subst e
            omega
          · omega
        · have a1 := i2 q
          unfold vf_upd at hq5
          split at hq5
          · rename_i e
            subst e
            left; omega
          · exact i3 q hq5
        · unfold vf_upd
          split
          · rename_i e
            subst e
            rw [show ((b - 8) * 41 + nxF F (itr (nxF F) a k)) % 41 = nxF F (itr (nxF F) a k) by omega] at hq6
            exact absurd hq6 (Nat.lt_irrefl _)
          · exact i4 q hq5 (Nat.lt_trans hq6 b5)
      · rw [if_neg h8]
        refine z_if_eq (pc := 35) ⟨by omega, by omega⟩ 66 (by decide) dX2_sendOnPath_35 (fun hq => ?_) (fun hq => ?_)
        rotate_left
        · omega
        refine z_aload_n (pc := 66) rfl dX2_sendOnPath_66 ?_
        refine zf_X2_18 (pc := 67) rfl rfl dX2_sendOnPath_67 ?_
        refine z_aload_n (pc := 70) rfl dX2_sendOnPath_70 ?_
        refine zf_X2_27 (pc := 71) rfl rfl dX2_sendOnPath_71 ?_
        refine z_iload (pc := 74) rfl dX2_sendOnPath_74 ?_
        refine z_iald (pc := 76) rfl (by decide) (by omega) (by omega) dX2_sendOnPath_76 ?_
        rw [Int.toNat_natCast, show va_up F 12 x 15 = F 15 from rfl, b2]
        refine z_bipush (pc := 77) (by decide) dX2_sendOnPath_77 ?_
        refine z_imul (pc := 79) dX2_sendOnPath_79 ?_
        refine z_iload (pc := 80) rfl dX2_sendOnPath_80 ?_
        refine z_iadd (pc := 82) dX2_sendOnPath_82 ?_
        refine z_dup2 (pc := 83) rfl rfl dX2_sendOnPath_83 ?_
        refine z_iald (pc := 84) rfl (by decide) (by omega) (by omega) dX2_sendOnPath_84 ?_
        refine z_iload_n (pc := 85) rfl dX2_sendOnPath_85 ?_
        refine z_iadd (pc := 86) dX2_sendOnPath_86 ?_
        rw [show ((b : Int) * 41 + (itr (nxF F) a k : Int)).toNat = b * 41 + itr (nxF F) a k by omega, show va_up F 12 x 12 = x from rfl]
        refine z_iast (pc := 87) rfl (by decide) (by omega) (by omega) dX2_sendOnPath_87 ?_
        rw [show ((b : Int) * 41 + (itr (nxF F) a k : Int)).toNat = b * 41 + itr (nxF F) a k by omega]
        refine z_hp (show _ = zk g (va_up F 12 (vf_upd x (b * 41 + itr (nxF F) a k) (x (b * 41 + itr (nxF F) a k) + un))) L im c from zs_12.trans (congrArg (fun f => zk g f L im c) (bx_uu _ _ _ _))) ?_
        refine z_iload (pc := 88) rfl dX2_sendOnPath_88 ?_
        refine z_is4 (pc := 90) (by decide) rfl dX2_sendOnPath_90 ?_
        refine z_ii5 (pc := 92) (by decide) rfl dX2_sendOnPath_92 ?_
        refine z_goto (pc := 95) 6 (by decide) dX2_sendOnPath_95 ?_
        refine ih (k + 1) _ _ (by omega) hng2 (fun w => ?_) (fun q => ?_) (fun q hq5 => ?_) (fun q hq5 hq6 => ?_)
        · rw [Ex_upd (by omega), i1 w]
          unfold ph
          rw [show (b * 41 + itr (nxF F) a k) % 41 = itr (nxF F) a k by omega, show (b * 41 + itr (nxF F) a k) / 41 = b by omega]
          have ht : tgt (F 10) b (itr (nxF F) a k) = nxF F (itr (nxF F) a k) := by
            unfold tgt
            rcases b1.2.2 with h | h
            · omega
            · omega
          rw [ht]
          show _ = _ + un * (w a - w (nxF F (itr (nxF F) a k)))
          rw [show x (b * 41 + itr (nxF F) a k) + un - x (b * 41 + itr (nxF F) a k) = un by omega]
          generalize w a = p1
          generalize w (itr (nxF F) a k) = p2
          generalize w (nxF F (itr (nxF F) a k)) = p3
          rw [Int.mul_sub, Int.mul_sub, Int.mul_sub]
          omega
        · have a1 := i2 q
          unfold vf_upd
          split
          · rename_i e
            subst e
            omega
          · omega
        · unfold vf_upd at hq5
          split at hq5
          · rename_i e
            right
            exact ⟨b, itr (nxF F) a k, nxF F (itr (nxF F) a k), by omega, e, b1, b4⟩
          · exact i3 q hq5
        · unfold vf_upd
          split
          · rename_i e
            subst e
            rw [show (b * 41 + itr (nxF F) a k) % 41 = itr (nxF F) a k by omega] at hq6
            have hq7 : t (itr (nxF F) a k) < t (nxF F (itr (nxF F) a k)) := hq6
            omega
          · exact i4 q hq5 (Nat.lt_trans hq6 b5)
  refine z_iload_n (pc := 0) rfl dX2_sendOnPath_0 ?_
  refine z_is4 (pc := 1) (by decide) rfl dX2_sendOnPath_1 ?_
  refine z_iconst (pc := 3) dX2_sendOnPath_3 ?_
  refine z_is5 (pc := 4) (by decide) rfl dX2_sendOnPath_4 ?_
  refine z_hp (show _ = zk g (va_up F 12 (F 12)) L im c from congrArg (fun f => zk g f L im c) (by funext k; unfold va_up; split <;> simp_all)) ?_
  exact loop (nN F) 0 (F 12) _ (by omega) (fun q h => by omega) (fun w => by show _ = _ + un * (w a - w a); rw [Int.sub_self, Int.mul_zero, Int.add_zero]) (fun j => by have := R.2.2.2.2.1 j; simp; omega) (fun j h => Or.inl h) (fun q _ _ => rfl)
end FLOW5
end FLOW4
