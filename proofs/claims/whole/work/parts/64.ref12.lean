/-! ===== the reference: images; what owners pay ===== -/
abbrev mv (F : Nat → Nat → Int) (q s a b : Nat) : Nat → Int := put (F q) (s * b) (fun j => F q (s * a + j)) s
abbrev cpy (F : Nat → Nat → Int) (a b : Nat) : Nat → Nat → Int := va_up (va_up (va_up (va_up (va_up (va_up (va_up (va_up (va_up F 24 (mv F 24 1 a b)) 25 (mv F 25 1 a b)) 26 (mv F 26 3 a b)) 27 (mv F 27 1 a b)) 28 (mv F 28 6 a b)) 29 (mv F 29 6 a b)) 30 (mv F 30 6 a b)) 31 (mv F 31 480 a b)) 32 (mv F 32 240 a b)
section REF12
variable {l : Launch} {g : zG} {F : Nat → Nat → Int} {L : Nat → Int} {im : Nat → Option Nat} {c : Nat}
theorem m_move {h : List va_E} {q N n a b x y : Nat} {f : Nat → Int} (he : h[q]? = some (zA g N f)) (hN : N ≤ 100000) (hx : (n : Int) * a = x) (hy : (n : Int) * b = y) (hx2 : x + n ≤ N) (hy2 : y + n ≤ N) (hs : x + n ≤ y ∨ y + n ≤ x) : zM l g yX5_move cX5_move 5 none 0 0 0 [.ref (g.2.1 + q), .int (iz n), .int (iz a), .int (iz b)] (h) (fun r h2 => r = none ∧ h2 = h.set q (zA g N (put f y (fun j => f (x + j)) n))) := by
  refine zM_of 1 (by decide) rfl ?_
  show zJ l g RX5 cX5_move 5 none "move" (zRm 0 0 0) 0 0 _ 0 0 0 [some (.ref (g.2.1 + q)), some (.int (iz n)), some (.int (iz a)), some (.int (iz b)), none] [] _
  have loop : ∀ (j k : Nat), k + j = n → zJ l g RX5 cX5_move 5 none "move" (zRm 0 0 0) 0 0 (fun r h2 => r = none ∧ h2 = h.set q (zA g N (put f y (fun j => f (x + j)) n))) 0 0 3 [some (.ref (g.2.1 + q)), some (.int (iz n)), some (.int (iz a)), some (.int (iz b)), some (.int (iz k))] [] (h.set q (zA g N (put f y (fun j => f (x + j)) k))) := by
    intro j
    induction j with
    | zero =>
      intro k hk
      refine z_iload (pc := 3) rfl dX5_move_3 ?_
      refine z_iload_n (pc := 5) rfl dX5_move_5 ?_
      refine z_icmp_ge (pc := 6) ⟨by omega, by omega⟩ ⟨by omega, by omega⟩ 31 (by decide) dX5_move_6 (fun hq => ?_) (fun hq => ?_)
      · rw [show k = n by omega]
        exact z_retv (pc := 31) rfl (by decide) (by decide) dX5_move_31 ⟨rfl, rfl⟩
      omega
    | succ j ih =>
      intro k hk
      refine z_iload (pc := 3) rfl dX5_move_3 ?_
      refine z_iload_n (pc := 5) rfl dX5_move_5 ?_
      refine z_icmp_ge (pc := 6) ⟨by omega, by omega⟩ ⟨by omega, by omega⟩ 31 (by decide) dX5_move_6 (fun hq => ?_) (fun hq => ?_)
      · omega
      refine z_aload_n (pc := 9) rfl dX5_move_9 ?_
      refine z_iload_n (pc := 10) rfl dX5_move_10 ?_
      refine z_iload_n (pc := 11) rfl dX5_move_11 ?_
      refine z_imul (pc := 12) dX5_move_12 ?_
      refine z_iload (pc := 13) rfl dX5_move_13 ?_
      refine z_iadd (pc := 15) dX5_move_15 ?_
      refine z_aload_n (pc := 16) rfl dX5_move_16 ?_
      refine z_iload_n (pc := 17) rfl dX5_move_17 ?_
      refine z_iload_n (pc := 18) rfl dX5_move_18 ?_
      refine z_imul (pc := 19) dX5_move_19 ?_
      refine z_iload (pc := 20) rfl dX5_move_20 ?_
      refine z_iadd (pc := 22) dX5_move_22 ?_
      rw [hx, hy]
      refine z_iald (pc := 23) (set_at he) (by omega) (by omega) (by omega) dX5_move_23 ?_
      rw [show ((x : Int) + k).toNat = x + k by omega, put_out f _ (by omega)]
      refine z_iast (pc := 24) (set_at he) (by omega) (by omega) (by omega) dX5_move_24 ?_
      refine z_hp (show _ = h.set q (zA g N (put f y (fun j => f (x + j)) (k + 1))) by rw [List.set_set, show ((y : Int) + k).toNat = y + k by omega, ← put_s]) ?_
      refine z_ii4 (pc := 25) (by decide) rfl dX5_move_25 ?_
      refine z_goto (pc := 28) 3 (by decide) dX5_move_28 ?_
      exact ih (k + 1) (by omega)
  refine z_iconst (pc := 0) dX5_move_0 ?_
  refine z_is4 (pc := 1) (by decide) rfl dX5_move_1 ?_
  refine z_hp (show h = h.set q (zA g N (put f y (fun j => f (x + j)) 0)) by rw [put_0, set_id he]) ?_
  exact loop n 0 (by omega)
theorem m_copy {a b : Nat} (ha : a ≤ 3) (hb : b ≤ 3) (hab : a ≠ b) : zM l g yX5_copy cX5_copy 3 none 1 0 0 [.ref (g.2.1 + 23), .int (iz a), .int (iz b)] (zk g F L im c) (fun r h => r = none ∧ h = zk g (cpy F a b) L im c) := by
  refine zM_of 0 (by decide) rfl ?_
  show zJ l g RX5 cX5_copy 3 none "copy" (zRm 1 0 0) 0 0 _ 0 0 0 [some (.ref (g.2.1 + 23)), some (.int (iz a)), some (.int (iz b))] [] _
  refine z_aload_n (pc := 0) rfl dX5_copy_0 ?_
  refine zf_X5_7 (pc := 1) rfl rfl dX5_copy_1 ?_
  refine z_iconst (pc := 4) dX5_copy_4 ?_
  refine z_iload_n (pc := 5) rfl dX5_copy_5 ?_
  refine z_iload_n (pc := 6) rfl dX5_copy_6 ?_
  refine z_S4 (pc := 7) (m_move (q := 24) (N := 4) (n := 1) (a := a) (b := b) (x := 1 * a) (y := 1 * b) (f := F 24) rfl (by omega) (by omega) (by omega) (by omega) (by omega) (by omega)) lk_X5_76 st_X5_move ⟨by decide, by decide⟩ (Nat.le_of_ble_eq_true rfl) ⟨by decide, by decide⟩ dX5_copy_7 (fun r h9 hq => ?_)
  obtain ⟨rfl, e9⟩ := hq
  rw [e9]
  clear e9 h9
  refine z_r0 ?_
  refine z_hp zs_24 ?_
  refine z_aload_n (pc := 10) rfl dX5_copy_10 ?_
  refine zf_X5_13 (pc := 11) rfl rfl dX5_copy_11 ?_
  refine z_iconst (pc := 14) dX5_copy_14 ?_
  refine z_iload_n (pc := 15) rfl dX5_copy_15 ?_
  refine z_iload_n (pc := 16) rfl dX5_copy_16 ?_
  refine z_S4 (pc := 17) (m_move (q := 25) (N := 4) (n := 1) (a := a) (b := b) (x := 1 * a) (y := 1 * b) (f := F 25) rfl (by omega) (by omega) (by omega) (by omega) (by omega) (by omega)) lk_X5_76 st_X5_move ⟨by decide, by decide⟩ (Nat.le_of_ble_eq_true rfl) ⟨by decide, by decide⟩ dX5_copy_17 (fun r h9 hq => ?_)
  obtain ⟨rfl, e9⟩ := hq
  rw [e9]
  clear e9 h9
  refine z_r0 ?_
  refine z_hp zs_25 ?_
  refine z_aload_n (pc := 20) rfl dX5_copy_20 ?_
  refine zf_X5_16 (pc := 21) rfl rfl dX5_copy_21 ?_
  refine z_iconst (pc := 24) dX5_copy_24 ?_
  refine z_iload_n (pc := 25) rfl dX5_copy_25 ?_
  refine z_iload_n (pc := 26) rfl dX5_copy_26 ?_
  refine z_S4 (pc := 27) (m_move (q := 26) (N := 12) (n := 3) (a := a) (b := b) (x := 3 * a) (y := 3 * b) (f := F 26) rfl (by omega) (by omega) (by omega) (by omega) (by omega) (by omega)) lk_X5_76 st_X5_move ⟨by decide, by decide⟩ (Nat.le_of_ble_eq_true rfl) ⟨by decide, by decide⟩ dX5_copy_27 (fun r h9 hq => ?_)
  obtain ⟨rfl, e9⟩ := hq
  rw [e9]
  clear e9 h9
  refine z_r0 ?_
  refine z_hp zs_26 ?_
  refine z_aload_n (pc := 30) rfl dX5_copy_30 ?_
  refine zf_X5_19 (pc := 31) rfl rfl dX5_copy_31 ?_
  refine z_iconst (pc := 34) dX5_copy_34 ?_
  refine z_iload_n (pc := 35) rfl dX5_copy_35 ?_
  refine z_iload_n (pc := 36) rfl dX5_copy_36 ?_
  refine z_S4 (pc := 37) (m_move (q := 27) (N := 4) (n := 1) (a := a) (b := b) (x := 1 * a) (y := 1 * b) (f := F 27) rfl (by omega) (by omega) (by omega) (by omega) (by omega) (by omega)) lk_X5_76 st_X5_move ⟨by decide, by decide⟩ (Nat.le_of_ble_eq_true rfl) ⟨by decide, by decide⟩ dX5_copy_37 (fun r h9 hq => ?_)
  obtain ⟨rfl, e9⟩ := hq
  rw [e9]
  clear e9 h9
  refine z_r0 ?_
  refine z_hp zs_27 ?_
  refine z_aload_n (pc := 40) rfl dX5_copy_40 ?_
  refine zf_X5_22 (pc := 41) rfl rfl dX5_copy_41 ?_
  refine z_bipush (pc := 44) (by decide) dX5_copy_44 ?_
  refine z_iload_n (pc := 46) rfl dX5_copy_46 ?_
  refine z_iload_n (pc := 47) rfl dX5_copy_47 ?_
  refine z_S4 (pc := 48) (m_move (q := 28) (N := 24) (n := 6) (a := a) (b := b) (x := 6 * a) (y := 6 * b) (f := F 28) rfl (by omega) (by omega) (by omega) (by omega) (by omega) (by omega)) lk_X5_76 st_X5_move ⟨by decide, by decide⟩ (Nat.le_of_ble_eq_true rfl) ⟨by decide, by decide⟩ dX5_copy_48 (fun r h9 hq => ?_)
  obtain ⟨rfl, e9⟩ := hq
  rw [e9]
  clear e9 h9
  refine z_r0 ?_
  refine z_hp zs_28 ?_
  refine z_aload_n (pc := 51) rfl dX5_copy_51 ?_
  refine zf_X5_25 (pc := 52) rfl rfl dX5_copy_52 ?_
  refine z_bipush (pc := 55) (by decide) dX5_copy_55 ?_
  refine z_iload_n (pc := 57) rfl dX5_copy_57 ?_
  refine z_iload_n (pc := 58) rfl dX5_copy_58 ?_
  refine z_S4 (pc := 59) (m_move (q := 29) (N := 24) (n := 6) (a := a) (b := b) (x := 6 * a) (y := 6 * b) (f := F 29) rfl (by omega) (by omega) (by omega) (by omega) (by omega) (by omega)) lk_X5_76 st_X5_move ⟨by decide, by decide⟩ (Nat.le_of_ble_eq_true rfl) ⟨by decide, by decide⟩ dX5_copy_59 (fun r h9 hq => ?_)
  obtain ⟨rfl, e9⟩ := hq
  rw [e9]
  clear e9 h9
  refine z_r0 ?_
  refine z_hp zs_29 ?_
  refine z_aload_n (pc := 62) rfl dX5_copy_62 ?_
  refine zf_X5_28 (pc := 63) rfl rfl dX5_copy_63 ?_
  refine z_bipush (pc := 66) (by decide) dX5_copy_66 ?_
  refine z_iload_n (pc := 68) rfl dX5_copy_68 ?_
  refine z_iload_n (pc := 69) rfl dX5_copy_69 ?_
  refine z_S4 (pc := 70) (m_move (q := 30) (N := 24) (n := 6) (a := a) (b := b) (x := 6 * a) (y := 6 * b) (f := F 30) rfl (by omega) (by omega) (by omega) (by omega) (by omega) (by omega)) lk_X5_76 st_X5_move ⟨by decide, by decide⟩ (Nat.le_of_ble_eq_true rfl) ⟨by decide, by decide⟩ dX5_copy_70 (fun r h9 hq => ?_)
  obtain ⟨rfl, e9⟩ := hq
  rw [e9]
  clear e9 h9
  refine z_r0 ?_
  refine z_hp zs_30 ?_
  refine z_aload_n (pc := 73) rfl dX5_copy_73 ?_
  refine zf_X5_31 (pc := 74) rfl rfl dX5_copy_74 ?_
  refine z_sipush (pc := 77) (by decide) dX5_copy_77 ?_
  refine z_iload_n (pc := 80) rfl dX5_copy_80 ?_
  refine z_iload_n (pc := 81) rfl dX5_copy_81 ?_
  refine z_S4 (pc := 82) (m_move (q := 31) (N := 1920) (n := 480) (a := a) (b := b) (x := 480 * a) (y := 480 * b) (f := F 31) rfl (by omega) (by omega) (by omega) (by omega) (by omega) (by omega)) lk_X5_76 st_X5_move ⟨by decide, by decide⟩ (Nat.le_of_ble_eq_true rfl) ⟨by decide, by decide⟩ dX5_copy_82 (fun r h9 hq => ?_)
  obtain ⟨rfl, e9⟩ := hq
  rw [e9]
  clear e9 h9
  refine z_r0 ?_
  refine z_hp zs_31 ?_
  refine z_aload_n (pc := 85) rfl dX5_copy_85 ?_
  refine zf_X5_34 (pc := 86) rfl rfl dX5_copy_86 ?_
  refine z_sipush (pc := 89) (by decide) dX5_copy_89 ?_
  refine z_iload_n (pc := 92) rfl dX5_copy_92 ?_
  refine z_iload_n (pc := 93) rfl dX5_copy_93 ?_
  refine z_S4 (pc := 94) (m_move (q := 32) (N := 960) (n := 240) (a := a) (b := b) (x := 240 * a) (y := 240 * b) (f := F 32) rfl (by omega) (by omega) (by omega) (by omega) (by omega) (by omega)) lk_X5_76 st_X5_move ⟨by decide, by decide⟩ (Nat.le_of_ble_eq_true rfl) ⟨by decide, by decide⟩ dX5_copy_94 (fun r h9 hq => ?_)
  obtain ⟨rfl, e9⟩ := hq
  rw [e9]
  clear e9 h9
  refine z_r0 ?_
  refine z_hp zs_32 ?_
  exact z_retv (pc := 97) rfl (by decide) (by decide) dX5_copy_97 ⟨rfl, rfl⟩
theorem m_image (h23 : F 23 0 = 0) {z : Int} (hz : ir z) : zM l g yX5_image cX5_image 2 (some .boolean) 2 0 0 [.ref (g.2.1 + 23), .int (iz z)] (zk g F L im c) (fun r h => ((0 ≤ z ∧ z ≤ 2) ∧ r = some (.int (iz 1)) ∧ h = zk g (va_up (cpy F 0 (z.toNat + 1)) 43 (vf_upd (F 43) z.toNat 1)) L im c) ∨ (¬ (0 ≤ z ∧ z ≤ 2) ∧ r = some (.int (iz 0)) ∧ h = zk g F L im c)) := by
  refine zM_of 0 (by decide) rfl ?_
  show zJ l g RX5 cX5_image 2 (some .boolean) "image" (zRm 2 0 0) 0 0 _ 0 0 0 [some (.ref (g.2.1 + 23)), some (.int (iz z))] [] _
  refine z_aload_n (pc := 0) rfl dX5_image_0 ?_
  refine z_iconst (pc := 1) dX5_image_1 ?_
  refine zp_X5_72 (pc := 2) rfl (Nat.le_of_ble_eq_true rfl) dX5_image_2 ?_
  refine z_hp (show _ = zk g F L im c from zs_23_0.trans (congrArg (fun f => zk g f L im c) (up23 h23))) ?_
  refine z_iload_n (pc := 5) rfl dX5_image_5 ?_
  refine z_iconst (pc := 6) dX5_image_6 ?_
  refine z_iconst (pc := 7) dX5_image_7 ?_
  refine z_S3 (pc := 8) (m_in (a := z) (b := 0) (e := 2) (by assumption) ⟨by omega, by omega⟩ ⟨by omega, by omega⟩) lk_X5_80 st_X5_in ⟨by decide, by decide⟩ (Nat.le_of_ble_eq_true rfl) ⟨by decide, by decide⟩ dX5_image_8 (fun r h9 hq => ?_)
  obtain ⟨rfl, e9⟩ := hq
  rw [e9]
  clear e9 h9
  refine z_r1 ?_
  by_cases hc : 0 ≤ z ∧ z ≤ 2
  rotate_left
  · rw [if_neg hc]
    refine z_if_ne (pc := 11) ⟨by omega, by omega⟩ 16 (by decide) dX5_image_11 (fun hq => ?_) (fun hq => ?_)
    · omega
    refine z_iconst (pc := 14) dX5_image_14 ?_
    exact z_retz (pc := 15) rfl (Or.inl rfl) (by decide) (by decide) dX5_image_15 (Or.inr ⟨hc, rfl, rfl⟩)
  rw [if_pos hc]
  refine z_if_ne (pc := 11) ⟨by omega, by omega⟩ 16 (by decide) dX5_image_11 (fun hq => ?_) (fun hq => ?_)
  rotate_left
  · omega
  obtain ⟨k, rfl⟩ := Int.eq_ofNat_of_zero_le hc.1
  refine z_aload_n (pc := 16) rfl dX5_image_16 ?_
  refine z_iconst (pc := 17) dX5_image_17 ?_
  refine z_iload_n (pc := 18) rfl dX5_image_18 ?_
  refine z_iconst (pc := 19) dX5_image_19 ?_
  refine z_iadd (pc := 20) dX5_image_20 ?_
  rw [show (k : Int) + 1 = ((k + 1 : Nat) : Int) by omega]
  refine z_V2 (pc := 21) (m_copy (a := 0) (b := k + 1) (by omega) (by omega) (by omega)) lk_X5_154 iv_X5_copy rfl rfl ⟨by decide, by decide⟩ (Nat.le_of_ble_eq_true rfl) ⟨by decide, by decide⟩ dX5_image_21 (fun r h9 hq => ?_)
  obtain ⟨rfl, e9⟩ := hq
  rw [e9]
  clear e9 h9
  refine z_r0 ?_
  refine z_aload_n (pc := 24) rfl dX5_image_24 ?_
  refine zf_X5_68 (pc := 25) rfl rfl dX5_image_25 ?_
  refine z_iload_n (pc := 28) rfl dX5_image_28 ?_
  refine z_iconst (pc := 29) dX5_image_29 ?_
  refine z_zast (pc := 30) rfl (by decide) (by omega) (by omega) (by omega) dX5_image_30 ?_
  refine z_hp zs_43 ?_
  refine z_iconst (pc := 31) dX5_image_31 ?_
  exact z_retz (pc := 32) rfl (Or.inr rfl) (by decide) (by decide) dX5_image_32 (Or.inl ⟨hc, rfl, rfl⟩)
theorem m_again (h43 : ∀ j, j < 3 → F 43 j = 0 ∨ F 43 j = 1) (h23 : F 23 0 = 0) {z : Int} (hz : ir z) : zM l g yX5_again cX5_again 2 (some .boolean) 2 0 0 [.ref (g.2.1 + 23), .int (iz z)] (zk g F L im c) (fun r h => ((0 ≤ z ∧ z ≤ 2 ∧ F 43 z.toNat = 1) ∧ r = some (.int (iz 1)) ∧ h = zk g (cpy F (z.toNat + 1) 0) L im c) ∨ (¬ (0 ≤ z ∧ z ≤ 2 ∧ F 43 z.toNat = 1) ∧ r = some (.int (iz 0)) ∧ h = zk g F L im c)) := by
  refine zM_of 0 (by decide) rfl ?_
  show zJ l g RX5 cX5_again 2 (some .boolean) "again" (zRm 2 0 0) 0 0 _ 0 0 0 [some (.ref (g.2.1 + 23)), some (.int (iz z))] [] _
  refine z_aload_n (pc := 0) rfl dX5_again_0 ?_
  refine z_iconst (pc := 1) dX5_again_1 ?_
  refine zp_X5_72 (pc := 2) rfl (Nat.le_of_ble_eq_true rfl) dX5_again_2 ?_
  refine z_hp (show _ = zk g F L im c from zs_23_0.trans (congrArg (fun f => zk g f L im c) (up23 h23))) ?_
  refine z_iload_n (pc := 5) rfl dX5_again_5 ?_
  refine z_iconst (pc := 6) dX5_again_6 ?_
  refine z_iconst (pc := 7) dX5_again_7 ?_
  refine z_S3 (pc := 8) (m_in (a := z) (b := 0) (e := 2) (by assumption) ⟨by omega, by omega⟩ ⟨by omega, by omega⟩) lk_X5_80 st_X5_in ⟨by decide, by decide⟩ (Nat.le_of_ble_eq_true rfl) ⟨by decide, by decide⟩ dX5_again_8 (fun r h9 hq => ?_)
  obtain ⟨rfl, e9⟩ := hq
  rw [e9]
  clear e9 h9
  refine z_r1 ?_
  by_cases hc : 0 ≤ z ∧ z ≤ 2
  rotate_left
  · rw [if_neg hc]
    refine z_if_eq (pc := 11) ⟨by omega, by omega⟩ 23 (by decide) dX5_again_11 (fun hq => ?_) (fun hq => ?_)
    · refine z_iconst (pc := 23) dX5_again_23 ?_
      exact z_retz (pc := 24) rfl (Or.inl rfl) (by decide) (by decide) dX5_again_24 (Or.inr ⟨fun h => hc ⟨h.1, h.2.1⟩, rfl, rfl⟩)
    omega
  rw [if_pos hc]
  refine z_if_eq (pc := 11) ⟨by omega, by omega⟩ 23 (by decide) dX5_again_11 (fun hq => ?_) (fun hq => ?_)
  · omega
  obtain ⟨k, rfl⟩ := Int.eq_ofNat_of_zero_le hc.1
  have h4 := h43 k (by omega)
  refine z_aload_n (pc := 14) rfl dX5_again_14 ?_
  refine zf_X5_68 (pc := 15) rfl rfl dX5_again_15 ?_
  refine z_iload_n (pc := 18) rfl dX5_again_18 ?_
  refine z_zald (pc := 19) rfl (by decide) (by omega) (by omega) dX5_again_19 ?_
  rw [Int.toNat_natCast]
  refine z_if_ne (pc := 20) ⟨by omega, by omega⟩ 25 (by decide) dX5_again_20 (fun hq => ?_) (fun hq => ?_)
  rotate_left
  · refine z_iconst (pc := 23) dX5_again_23 ?_
    exact z_retz (pc := 24) rfl (Or.inl rfl) (by decide) (by decide) dX5_again_24 (Or.inr ⟨fun h => by have := h.2.2; omega, rfl, rfl⟩)
  refine z_aload_n (pc := 25) rfl dX5_again_25 ?_
  refine z_iload_n (pc := 26) rfl dX5_again_26 ?_
  refine z_iconst (pc := 27) dX5_again_27 ?_
  refine z_iadd (pc := 28) dX5_again_28 ?_
  rw [show (k : Int) + 1 = ((k + 1 : Nat) : Int) by omega]
  refine z_iconst (pc := 29) dX5_again_29 ?_
  refine z_V2 (pc := 30) (m_copy (a := k + 1) (b := 0) (by omega) (by omega) (by omega)) lk_X5_154 iv_X5_copy rfl rfl ⟨by decide, by decide⟩ (Nat.le_of_ble_eq_true rfl) ⟨by decide, by decide⟩ dX5_again_30 (fun r h9 hq => ?_)
  obtain ⟨rfl, e9⟩ := hq
  rw [e9]
  clear e9 h9
  refine z_r0 ?_
  refine z_iconst (pc := 33) dX5_again_33 ?_
  exact z_retz (pc := 34) rfl (Or.inr rfl) (by decide) (by decide) dX5_again_34 (Or.inl ⟨⟨hc.1, hc.2, by omega⟩, rfl, rfl⟩)
end REF12
/-! what owners have and pay -/
def fw (f : Nat → Int) : Nat → Nat
  | 0 => 0
  | n + 1 => if f (fw f n) < f n then n else fw f n
theorem fw_lt (f : Nat → Int) : ∀ n, 0 < n → fw f n < n
  | 0, h => absurd h (by decide)
  | 1, _ => by unfold fw fw; split <;> decide
  | n + 2, _ => by
    have := fw_lt f (n + 1) (by omega)
    show (if f (fw f (n + 1)) < f (n + 1) then n + 1 else fw f (n + 1)) < n + 2
    split <;> omega
theorem fw_hi (f : Nat → Int) {n : Nat} (h : f (fw f n) < f n) : fw f (n + 1) = n := if_pos h
theorem fw_lo (f : Nat → Int) {n : Nat} (h : ¬ f (fw f n) < f n) : fw f (n + 1) = fw f n := if_neg h
theorem fw_max (f : Nat → Int) : ∀ n j, j < n → f j ≤ f (fw f n)
  | 0, j, h => absurd h (Nat.not_lt_zero j)
  | n + 1, j, h => by
    by_cases e : f (fw f n) < f n
    · rw [fw_hi f e]
      by_cases e2 : j = n
      · subst e2; exact Int.le_refl _
      · have := fw_max f n j (by omega); omega
    · rw [fw_lo f e]
      by_cases e2 : j = n
      · subst e2; omega
      · exact fw_max f n j (by omega)
theorem fw_cong {f f2 : Nat → Int} : ∀ n, (∀ j, j < n → f j = f2 j) → fw f n = fw f2 n
  | 0, _ => rfl
  | n + 1, h => by
    have ih := fw_cong n (fun j hj => h j (by omega))
    have e1 : f (fw f n) = f2 (fw f2 n) := by
      rw [← ih]
      by_cases h0 : 0 < n
      · exact h _ (by have := fw_lt f n h0; omega)
      · rw [show n = 0 by omega]; exact h 0 (by omega)
    show (if f (fw f n) < f n then n else fw f n) = (if f2 (fw f2 n) < f2 n then n else fw f2 n)
    rw [e1, h n (by omega), ih]
def yt (f : Nat → Int) : Nat → Nat → Int
  | 0 => f
  | x + 1 => vf_upd (yt f x) (fw (yt f x) 4) (yt f x (fw (yt f x) 4) - 1)
theorem yt_cong {f f2 : Nat → Int} (h : ∀ j, j < 4 → f j = f2 j) : ∀ x j, j < 4 → yt f x j = yt f2 x j
  | 0, j, hj => h j hj
  | x + 1, j, hj => by
    have ih := yt_cong h x
    have e := fw_cong (f := yt f x) (f2 := yt f2 x) 4 (fun j hj => ih j hj)
    have l4 := fw_lt (yt f2 x) 4 (by decide)
    show vf_upd (yt f x) (fw (yt f x) 4) (yt f x (fw (yt f x) 4) - 1) j = vf_upd (yt f2 x) (fw (yt f2 x) 4) (yt f2 x (fw (yt f2 x) 4) - 1) j
    unfold vf_upd
    rw [e, ih _ l4, ih j hj]
theorem yt_sum (f : Nat → Int) : ∀ x, sm (yt f x) 4 = sm f 4 - x
  | 0 => by show sm f 4 = sm f 4 - ((0 : Nat) : Int); omega
  | x + 1 => by
    show sm (vf_upd (yt f x) (fw (yt f x) 4) (yt f x (fw (yt f x) 4) - 1)) 4 = _
    rw [sm_upd (fw_lt (yt f x) 4 (by decide)), yt_sum f x]
    omega
theorem yt_top (f : Nat → Int) (x : Nat) (h : (x : Int) < sm f 4) : 0 < yt f x (fw (yt f x) 4) := by
  have e := yt_sum f x
  have m0 := fw_max (yt f x) 4 0 (by decide)
  have m1 := fw_max (yt f x) 4 1 (by decide)
  have m2 := fw_max (yt f x) 4 2 (by decide)
  have m3 := fw_max (yt f x) 4 3 (by decide)
  have e2 : sm (yt f x) 4 = 0 + yt f x 0 + yt f x 1 + yt f x 2 + yt f x 3 := rfl
  omega
theorem yt_bd {f : Nat → Int} (h : ∀ j, j < 4 → 0 ≤ f j) : ∀ x : Nat, (x : Int) ≤ sm f 4 → ∀ j, j < 4 → 0 ≤ yt f x j ∧ yt f x j ≤ f j
  | 0, _, j, hj => ⟨h j hj, Int.le_refl _⟩
  | x + 1, hx, j, hj => by
    have ih := yt_bd h x (by omega) j hj
    have tp := yt_top f x (by omega)
    show 0 ≤ vf_upd (yt f x) (fw (yt f x) 4) (yt f x (fw (yt f x) 4) - 1) j ∧ vf_upd (yt f x) (fw (yt f x) 4) (yt f x (fw (yt f x) 4) - 1) j ≤ f j
    unfold vf_upd
    by_cases e : j = fw (yt f x) 4
    · rw [if_pos e, ← e]
      rw [← e] at tp
      omega
    · rw [if_neg e]; exact ih
theorem yt_end {f : Nat → Int} (h : ∀ j, j < 4 → 0 ≤ f j) {x : Nat} (hx : (x : Int) = sm f 4) {j : Nat} (hj : j < 4) : yt f x j = 0 := by
  have e := yt_sum f x
  have e2 : sm (yt f x) 4 = 0 + yt f x 0 + yt f x 1 + yt f x 2 + yt f x 3 := rfl
  have b0 := yt_bd h x (by omega) 0 (by decide)
  have b1 := yt_bd h x (by omega) 1 (by decide)
  have b2 := yt_bd h x (by omega) 2 (by decide)
  have b3 := yt_bd h x (by omega) 3 (by decide)
  have : j = 0 ∨ j = 1 ∨ j = 2 ∨ j = 3 := by omega
  rcases this with rfl | rfl | rfl | rfl <;> omega
def nh (F : Nat → Nat → Int) (k t : Nat) : Nat := (min (ahd F k t) (nda F k t)).toNat
def yh (F : Nat → Nat → Int) (k t : Nat) : Nat → Int := yt (fnd F k t) (nh F k t)
def hd (F : Nat → Nat → Int) (k t x : Nat) : Int := sm (fun u => fnd F k u x - yh F k u x) t
def bs (F : Nat → Nat → Int) (k t x : Nat) : Int := sm (fun u => yh F k u x) t
def ctv (F : Nat → Nat → Int) (k x : Nat) : Int := if 0 < sm (hd F k (F 1 0).toNat) 4 then ofc F k * hd F k (F 1 0).toNat x / sm (hd F k (F 1 0).toNat) 4 else 0
def pyv (F : Nat → Nat → Int) (k o : Nat) : Int := bs F k (F 1 0).toNat o * F 2 k + (ctv F k o + (if o = fw (hd F k (F 1 0).toNat) 4 then ofc F k - sm (ctv F k) 4 else 0))
theorem fnd_bd {F : Nat → Nat → Int} (B : bi F 1) (k t x : Nat) : 0 ≤ fnd F k t x ∧ fnd F k t x ≤ 9 := bi_needs B _
theorem nh_le {F : Nat → Nat → Int} (B : bi F 1) {t : Nat} (ht : t < 40) (k : Nat) : ((nh F k t : Nat) : Int) = min (ahd F k t) (nda F k t) := by
  have h1 := ahd_bd B ht k
  have h2 := nda_bd B k t
  unfold nh
  omega
theorem yh_bd {F : Nat → Nat → Int} (B : bi F 1) {t : Nat} (ht : t < 40) (k : Nat) {x : Nat} (hx : x < 4) : 0 ≤ yh F k t x ∧ yh F k t x ≤ fnd F k t x := by
  have h1 := nh_le B ht k
  have e : nda F k t = sm (fnd F k t) 4 := rfl
  exact yt_bd (fun j _ => (fnd_bd B k t j).1) (nh F k t) (by omega) x hx
theorem hd_bd {F : Nat → Nat → Int} (B : bi F 1) {t : Nat} (ht : t ≤ 40) (k : Nat) {x : Nat} (hx : x < 4) : 0 ≤ hd F k t x ∧ hd F k t x ≤ 360 := by
  have := sm_bd (f := fun u => fnd F k u x - yh F k u x) (a := 0) (b := 9) (n := t) (fun j hj => by
    have h1 := yh_bd B (t := j) (by omega) k hx
    have h2 := fnd_bd B k j x
    show 0 ≤ fnd F k j x - yh F k j x ∧ fnd F k j x - yh F k j x ≤ 9
    omega)
  unfold hd
  omega
theorem bs_bd {F : Nat → Nat → Int} (B : bi F 1) {t : Nat} (ht : t ≤ 40) (k : Nat) {x : Nat} (hx : x < 4) : 0 ≤ bs F k t x ∧ bs F k t x ≤ 360 := by
  have := sm_bd (f := fun u => yh F k u x) (a := 0) (b := 9) (n := t) (fun j hj => by
    have h1 := yh_bd B (t := j) (by omega) k hx
    have h2 := fnd_bd B k j x
    show 0 ≤ yh F k j x ∧ yh F k j x ≤ 9
    omega)
  unfold bs
  omega
theorem hs_bd {F : Nat → Nat → Int} (B : bi F 1) {t : Nat} (ht : t ≤ 40) (k : Nat) : 0 ≤ sm (hd F k t) 4 ∧ sm (hd F k t) 4 ≤ 1440 := by
  have := sm_bd (f := hd F k t) (a := 0) (b := 360) (n := 4) (fun j hj => hd_bd B ht k hj)
  omega
theorem ofc_bd {F : Nat → Nat → Int} (B : bi F 1) (k : Nat) : 0 ≤ ofc F k ∧ ofc F k ≤ 1440000000 := by
  have b3 := bi_offers B
  have := sm_bd (f := fun o => if F 3 o = k then sm (bt F o) (F 1 0).toNat * F 5 o else 0) (a := 0) (b := 240000000) (n := (F 1 2).toNat) (fun j hj => by
    have h1 := bts_bd B j
    have h2 := bi_costs B j
    have h3 := mul_rg h1.1 h1.2 h2.1 h2.2
    show 0 ≤ (if F 3 j = k then sm (bt F j) (F 1 0).toNat * F 5 j else 0) ∧ (if F 3 j = k then sm (bt F j) (F 1 0).toNat * F 5 j else 0) ≤ 240000000
    split <;> omega)
  unfold ofc
  omega
abbrev Ps (F : Nat → Nat → Int) (a b : Nat → Int) : Nat → Nat → Int := va_up (va_up F 40 a) 41 b
theorem Ps40 (F : Nat → Nat → Int) (a b a2 : Nat → Int) : va_up (Ps F a b) 40 a2 = Ps F a2 b := by
  funext q
  unfold Ps va_up
  by_cases h : q = 40
  · subst h; rfl
  · rw [if_neg h]
    by_cases h2 : q = 41
    · rw [if_pos h2, if_pos h2]
    · rw [if_neg h2, if_neg h2, if_neg h, if_neg h]
/-- the scan for the first owner with the most: before owner x -/
def scn (Y : Nat → Int) (x : Nat) (mo nx : Int) : Prop := (nx = -1 ∧ mo = 0 ∧ ∀ j, j < x → Y j ≤ 0) ∨ (0 < x ∧ nx = (fw Y x : Nat) ∧ 0 < Y (fw Y x) ∧ mo = Y (fw Y x))
theorem scn_y {Y : Nat → Int} {x : Nat} {mo nx : Int} (h : scn Y x mo nx) (hl : mo < Y x) : scn Y (x + 1) (Y x) (x : Int) := by
  have e : fw Y (x + 1) = x := by
    by_cases h0 : x = 0
    · subst h0
      show (if Y 0 < Y 0 then 0 else 0) = 0
      split <;> rfl
    · rcases h with h | h
      · have := h.2.2 (fw Y x) (fw_lt Y x (by omega))
        exact fw_hi Y (by omega)
      · exact fw_hi Y (by omega)
  have hm : 0 ≤ mo := by rcases h with h | h; (rw [h.2.1]; exact Int.le_refl 0); omega
  exact Or.inr ⟨by omega, by rw [e], by rw [e]; omega, by rw [e]⟩
theorem scn_n {Y : Nat → Int} {x : Nat} {mo nx : Int} (h : scn Y x mo nx) (hl : Y x ≤ mo) : scn Y (x + 1) mo nx := by
  rcases h with h | h
  · refine Or.inl ⟨h.1, h.2.1, fun j hj => ?_⟩
    by_cases e : j = x
    · subst e; omega
    · exact h.2.2 j (by omega)
  · have e : fw Y (x + 1) = fw Y x := fw_lo Y (by omega)
    exact Or.inr ⟨by omega, by rw [e]; exact h.2.1, by rw [e]; exact h.2.2.1, by rw [e]; exact h.2.2.2⟩
theorem scn_bd {Y : Nat → Int} {x : Nat} {mo nx : Int} (h : scn Y x mo nx) (hx : x ≤ 4) (hY : ∀ j, j < 4 → Y j ≤ 9) : (0 ≤ mo ∧ mo ≤ 9) ∧ -1 ≤ nx ∧ nx ≤ 4 := by
  rcases h with h | h
  · have h1 := h.1; have h2 := h.2.1; omega
  · have h0 := h.1
    have h1 := h.2.1; have h2 := h.2.2.2
    have h3 := fw_lt Y x h.1
    have h4 := hY (fw Y x) (by omega)
    have h5 := h.2.2.1
    omega
section REF13
variable {l : Launch} {g : zG} {F : Nat → Nat → Int} {L : Nat → Int} {im : Nat → Option Nat} {c : Nat}
theorem m_part (B : bi F 1) (hr : rl F 1 0) {k : Nat} (hk : k < 3) : zM l g yX5_part cX5_part 8 none 1 0 0 [.ref (g.2.1 + 23), .int (iz k)] (zk g F L im c) (fun r h => r = none ∧ ∃ (a b L2 : Nat → Int), h = zk g (Ps F a b) L2 im c ∧ ∀ x, x < 4 → b x = hd F k (F 1 0).toNat x ∧ L2 x = bs F k (F 1 0).toNat x * F 2 k) := by
  refine zM_of 6 (by decide) rfl ?_
  show zJ l g RX5 cX5_part 8 none "part" (zRm 1 0 0) 0 0 _ 0 0 0 [some (.ref (g.2.1 + 23)), some (.int (iz k)), none, none, none, none, none, none] [] _
  have b1 := bi_hours B
  have bR := bi_rates B k
  have e24 : F 24 0 = F 1 0 := hr.1
  have lpT : ∀ (j t : Nat) (a b L2 : Nat → Int) (y3 y4 y5 y6 y7 : Option Value), t + j = (F 1 0).toNat → (∀ x, x < 4 → b x = hd F k t x ∧ L2 x = bs F k t x * F 2 k) → zJ l g RX5 cX5_part 8 none "part" (zRm 1 0 0) 0 0 (fun r h => r = none ∧ ∃ (a b L2 : Nat → Int), h = zk g (Ps F a b) L2 im c ∧ ∀ x, x < 4 → b x = hd F k (F 1 0).toNat x ∧ L2 x = bs F k (F 1 0).toNat x * F 2 k) 0 0 29 [some (.ref (g.2.1 + 23)), some (.int (iz k)), some (.int (iz t)), y3, y4, y5, y6, y7] [] (zk g (Ps F a b) L2 im c) := by
    intro j
    induction j with
    | zero =>
      intro t a b L2 y3 y4 y5 y6 y7 ht hb
      refine z_iload_n (pc := 29) rfl dX5_part_29 ?_
      refine z_aload_n (pc := 30) rfl dX5_part_30 ?_
      refine zf_X5_7 (pc := 31) rfl rfl dX5_part_31 ?_
      refine z_iconst (pc := 34) dX5_part_34 ?_
      refine z_iald (pc := 35) rfl (by decide) (by omega) (by omega) dX5_part_35 ?_
      rw [show Ps F a b 24 (0 : Int).toNat = F 1 0 from e24]
      refine z_icmp_ge (pc := 36) ⟨by omega, by omega⟩ ⟨by omega, by omega⟩ 233 (by decide) dX5_part_36 (fun hq => ?_) (fun hq => ?_)
      rotate_left
      · omega
      exact z_retv (pc := 233) rfl (by decide) (by decide) dX5_part_233 ⟨rfl, a, b, L2, rfl, by rw [← show t = (F 1 0).toNat by omega]; exact hb⟩
    | succ j ih =>
      intro t a b L2 y3 y4 y5 y6 y7 ht hb
      have ht4 : t < 40 := by omega
      have en := nh_le B ht4 k
      have ba := ahd_bd B ht4 k
      have bn := nda_bd B k t
      have ns : nda F k t = sm (fnd F k t) 4 := rfl
      have f0 : ∀ j, j < 4 → 0 ≤ fnd F k t j := fun j _ => (fnd_bd B k t j).1
      -- the row's end
      have acc : ∀ (j2 x : Nat) (a b L2 : Nat → Int) (nx : Int) (y5 y6 y7 : Option Value), x + j2 = 4 → (∀ q, q < 4 → a q = fnd F k t q - yh F k t q) → (∀ q, q < x → b q = hd F k (t + 1) q ∧ L2 q = bs F k (t + 1) q * F 2 k) → (∀ q, x ≤ q → q < 4 → b q = hd F k t q ∧ L2 q = bs F k t q * F 2 k) → zJ l g RX5 cX5_part 8 none "part" (zRm 1 0 0) 0 0 (fun r h => r = none ∧ ∃ (a b L2 : Nat → Int), h = zk g (Ps F a b) L2 im c ∧ ∀ x, x < 4 → b x = hd F k (F 1 0).toNat x ∧ L2 x = bs F k (F 1 0).toNat x * F 2 k) 0 0 159 [some (.ref (g.2.1 + 23)), some (.int (iz k)), some (.int (iz t)), some (.int (iz nx)), some (.int (iz x)), y5, y6, y7] [] (zk g (Ps F a b) L2 im c) := by
        intro j2
        induction j2 with
        | zero =>
          intro x a b L2 y3 y5 y6 y7 hx ha h1 h2
          refine z_iload (pc := 159) rfl dX5_part_159 ?_
          refine z_iconst (pc := 161) dX5_part_161 ?_
          refine z_icmp_ge (pc := 162) ⟨by omega, by omega⟩ ⟨by omega, by omega⟩ 227 (by decide) dX5_part_162 (fun hq => ?_) (fun hq => ?_)
          rotate_left
          · omega
          refine z_ii2 (pc := 227) (by decide) rfl dX5_part_227 ?_
          refine z_goto (pc := 230) 29 (by decide) dX5_part_230 ?_
          exact ih (t + 1) a b L2 _ _ _ _ _ (by omega) (fun q hq => h1 q (by omega))
        | succ j2 ih2 =>
          intro x a b L2 y3 y5 y6 y7 hx ha h1 h2
          have e1 := ha x (by omega)
          have e2 := h2 x (Nat.le_refl x) (by omega)
          have yb := yh_bd B ht4 k (x := x) (by omega)
          have fb := fnd_bd B k t x
          refine z_iload (pc := 159) rfl dX5_part_159 ?_
          refine z_iconst (pc := 161) dX5_part_161 ?_
          refine z_icmp_ge (pc := 162) ⟨by omega, by omega⟩ ⟨by omega, by omega⟩ 227 (by decide) dX5_part_162 (fun hq => ?_) (fun hq => ?_)
          · omega
          refine z_aload_n (pc := 165) rfl dX5_part_165 ?_
          refine zf_X5_61 (pc := 166) rfl rfl dX5_part_166 ?_
          refine z_iload (pc := 169) rfl dX5_part_169 ?_
          refine z_dup2 (pc := 171) rfl rfl dX5_part_171 ?_
          refine z_iald (pc := 172) rfl (by decide) (by omega) (by omega) dX5_part_172 ?_
          refine z_aload_n (pc := 173) rfl dX5_part_173 ?_
          refine zf_X5_58 (pc := 174) rfl rfl dX5_part_174 ?_
          refine z_iload (pc := 177) rfl dX5_part_177 ?_
          refine z_iald (pc := 179) rfl (by decide) (by omega) (by omega) dX5_part_179 ?_
          rw [Int.toNat_natCast, show Ps F a b 41 x = b x from rfl, show Ps F a b 40 x = a x from rfl]
          refine z_iadd (pc := 180) dX5_part_180 ?_
          refine z_iast (pc := 181) rfl (by decide) (by omega) (by omega) dX5_part_181 ?_
          refine z_hp zs_41 ?_
          rw [up_up, Int.toNat_natCast]
          refine z_hp (show _ = zk g (Ps F a (vf_upd b x (b x + a x))) L2 im c from rfl) ?_
          refine z_aload_n (pc := 182) rfl dX5_part_182 ?_
          refine zf_X5_64 (pc := 183) rfl rfl dX5_part_183 ?_
          refine z_iload (pc := 186) rfl dX5_part_186 ?_
          refine z_dup2 (pc := 188) rfl rfl dX5_part_188 ?_
          refine z_lald (pc := 189) rfl (by decide) (by omega) (by omega) dX5_part_189 ?_
          refine z_aload_n (pc := 190) rfl dX5_part_190 ?_
          refine zf_X5_16 (pc := 191) rfl rfl dX5_part_191 ?_
          refine z_iload_n (pc := 194) rfl dX5_part_194 ?_
          refine z_iald (pc := 195) rfl (by decide) (by omega) (by omega) dX5_part_195 ?_
          rw [Int.toNat_natCast, Int.toNat_natCast, show Ps F a (vf_upd b x (b x + a x)) 26 k = F 2 k from rl_rate hr hk]
          refine z_i2l (pc := 196) ⟨by omega, by omega⟩ dX5_part_196 ?_
          refine z_aload_n (pc := 197) rfl dX5_part_197 ?_
          refine zf_X5_31 (pc := 198) rfl rfl dX5_part_198 ?_
          refine z_iload (pc := 201) rfl dX5_part_201 ?_
          refine z_iload_n (pc := 203) rfl dX5_part_203 ?_
          refine z_iload_n (pc := 204) rfl dX5_part_204 ?_
          refine z_S3 (pc := 205) (m_cell (a := x) (b := k) (e := t)) lk_X5_95 st_X5_cell ⟨by decide, by decide⟩ (Nat.le_of_ble_eq_true rfl) ⟨by decide, by decide⟩ dX5_part_205 (fun r h9 hq => ?_)
          obtain ⟨rfl, e9⟩ := hq
          rw [e9]
          clear e9 h9
          refine z_r1 ?_
          refine z_iald (pc := 208) rfl (by decide) (by omega) (by omega) dX5_part_208 ?_
          rw [show (40 * (3 * (x : Int) + k) + t).toNat = 40 * (3 * x + k) + t by omega, show Ps F a (vf_upd b x (b x + a x)) 31 (40 * (3 * x + k) + t) = fnd F k t x from rl_need hr (by omega) hk ht4]
          refine z_aload_n (pc := 209) rfl dX5_part_209 ?_
          refine zf_X5_58 (pc := 210) rfl rfl dX5_part_210 ?_
          refine z_iload (pc := 213) rfl dX5_part_213 ?_
          refine z_iald (pc := 215) rfl (by decide) (by omega) (by omega) dX5_part_215 ?_
          rw [Int.toNat_natCast, show Ps F a (vf_upd b x (b x + a x)) 40 x = a x from rfl]
          refine z_isub (pc := 216) dX5_part_216 ?_
          refine z_i2l (pc := 217) ⟨by omega, by omega⟩ dX5_part_217 ?_
          refine z_lmul (pc := 218) dX5_part_218 ?_
          refine z_ladd (pc := 219) dX5_part_219 ?_
          refine z_last (pc := 220) rfl (by decide) (by omega) (by omega) dX5_part_220 ?_
          refine z_hp zs_42 ?_
          rw [Int.toNat_natCast]
          refine z_ii4 (pc := 221) (by decide) rfl dX5_part_221 ?_
          refine z_goto (pc := 224) 159 (by decide) dX5_part_224 ?_
          refine ih2 (x + 1) a _ _ _ _ _ _ (by omega) ha (fun q hq => ?_) (fun q h3 h4 => ?_)
          · by_cases e : q = x
            · subst e
              rw [upd_at, upd_at, e2.1, e2.2, e1]
              refine ⟨rfl, ?_⟩
              rw [show fnd F k t q - (fnd F k t q - yh F k t q) = yh F k t q by omega, show bs F k (t + 1) q = bs F k t q + yh F k t q from rfl, Int.add_mul, Int.mul_comm (F 2 k)]
            · have := h1 q (by omega)
              unfold vf_upd
              rw [if_neg e, if_neg e]
              exact this
          · have := h2 q (by omega) h4
            unfold vf_upd
            rw [if_neg (by omega), if_neg (by omega)]
            exact this
      -- one unit after the other
      have fin : ∀ (a : Nat → Int) (nx : Int) (y4 y5 y6 y7 : Option Value), (∀ q, q < 4 → a q = fnd F k t q - yh F k t q) → zJ l g RX5 cX5_part 8 none "part" (zRm 1 0 0) 0 0 (fun r h => r = none ∧ ∃ (a b L2 : Nat → Int), h = zk g (Ps F a b) L2 im c ∧ ∀ x, x < 4 → b x = hd F k (F 1 0).toNat x ∧ L2 x = bs F k (F 1 0).toNat x * F 2 k) 0 0 156 [some (.ref (g.2.1 + 23)), some (.int (iz k)), some (.int (iz t)), some (.int (iz nx)), y4, y5, y6, y7] [] (zk g (Ps F a b) L2 im c) := by
        intro a y3 y4 y5 y6 y7 ha
        refine z_iconst (pc := 156) dX5_part_156 ?_
        refine z_is4 (pc := 157) (by decide) rfl dX5_part_157 ?_
        exact acc 4 0 a b L2 _ _ _ _ rfl ha (fun q hq => absurd hq (Nat.not_lt_zero q)) (fun q _ h4 => hb q h4)
      have scan : ∀ (Y : Nat → Int) (a : Nat → Int) (nn : Int), (∀ q, q < 4 → Y q = fnd F k t q - a q) → (∀ q, q < 4 → 0 ≤ Y q ∧ Y q ≤ 9) → (∀ (nx : Int) (y5 y6 y7 : Option Value), (∃ mo, scn Y 4 mo nx) → zJ l g RX5 cX5_part 8 none "part" (zRm 1 0 0) 0 0 (fun r h => r = none ∧ ∃ (a b L2 : Nat → Int), h = zk g (Ps F a b) L2 im c ∧ ∀ x, x < 4 → b x = hd F k (F 1 0).toNat x ∧ L2 x = bs F k (F 1 0).toNat x * F 2 k) 0 0 135 [some (.ref (g.2.1 + 23)), some (.int (iz k)), some (.int (iz t)), some (.int (iz nx)), some (.int (iz nn)), y5, y6, y7] [] (zk g (Ps F a b) L2 im c)) → ∀ (j2 x : Nat) (mo nx : Int) (y7 : Option Value), x + j2 = 4 → scn Y x mo nx → zJ l g RX5 cX5_part 8 none "part" (zRm 1 0 0) 0 0 (fun r h => r = none ∧ ∃ (a b L2 : Nat → Int), h = zk g (Ps F a b) L2 im c ∧ ∀ x, x < 4 → b x = hd F k (F 1 0).toNat x ∧ L2 x = bs F k (F 1 0).toNat x * F 2 k) 0 0 87 [some (.ref (g.2.1 + 23)), some (.int (iz k)), some (.int (iz t)), some (.int (iz nx)), some (.int (iz nn)), some (.int (iz mo)), some (.int (iz x)), y7] [] (zk g (Ps F a b) L2 im c) := by
        intro Y a nn hY hYb kk j2
        induction j2 with
        | zero =>
          intro x mo nx y7 hx hs
          refine z_iload (pc := 87) rfl dX5_part_87 ?_
          refine z_iconst (pc := 89) dX5_part_89 ?_
          refine z_icmp_ge (pc := 90) ⟨by omega, by omega⟩ ⟨by omega, by omega⟩ 135 (by decide) dX5_part_90 (fun hq => ?_) (fun hq => ?_)
          rotate_left
          · omega
          exact kk nx _ _ _ ⟨mo, by rw [← show x = 4 by omega]; exact hs⟩
        | succ j2 ih2 =>
          intro x mo nx y7 hx hs
          have sb := scn_bd hs (by omega) (fun j hj => (hYb j hj).2)
          have yb := hYb x (by omega)
          have ye := hY x (by omega)
          refine z_iload (pc := 87) rfl dX5_part_87 ?_
          refine z_iconst (pc := 89) dX5_part_89 ?_
          refine z_icmp_ge (pc := 90) ⟨by omega, by omega⟩ ⟨by omega, by omega⟩ 135 (by decide) dX5_part_90 (fun hq => ?_) (fun hq => ?_)
          · omega
          refine z_aload_n (pc := 93) rfl dX5_part_93 ?_
          refine zf_X5_31 (pc := 94) rfl rfl dX5_part_94 ?_
          refine z_iload (pc := 97) rfl dX5_part_97 ?_
          refine z_iload_n (pc := 99) rfl dX5_part_99 ?_
          refine z_iload_n (pc := 100) rfl dX5_part_100 ?_
          refine z_S3 (pc := 101) (m_cell (a := x) (b := k) (e := t)) lk_X5_95 st_X5_cell ⟨by decide, by decide⟩ (Nat.le_of_ble_eq_true rfl) ⟨by decide, by decide⟩ dX5_part_101 (fun r h9 hq => ?_)
          obtain ⟨rfl, e9⟩ := hq
          rw [e9]
          clear e9 h9
          refine z_r1 ?_
          refine z_iald (pc := 104) rfl (by decide) (by omega) (by omega) dX5_part_104 ?_
          rw [show (40 * (3 * (x : Int) + k) + t).toNat = 40 * (3 * x + k) + t by omega, show Ps F a b 31 (40 * (3 * x + k) + t) = fnd F k t x from rl_need hr (by omega) hk ht4]
          refine z_aload_n (pc := 105) rfl dX5_part_105 ?_
          refine zf_X5_58 (pc := 106) rfl rfl dX5_part_106 ?_
          refine z_iload (pc := 109) rfl dX5_part_109 ?_
          refine z_iald (pc := 111) rfl (by decide) (by omega) (by omega) dX5_part_111 ?_
          rw [Int.toNat_natCast, show Ps F a b 40 x = a x from rfl]
          refine z_isub (pc := 112) dX5_part_112 ?_
          rw [← ye]
          refine z_is7 (pc := 113) (by decide) rfl dX5_part_113 ?_
          refine z_iload (pc := 115) rfl dX5_part_115 ?_
          refine z_iload (pc := 117) rfl dX5_part_117 ?_
          refine z_icmp_le (pc := 119) ⟨by omega, by omega⟩ ⟨by omega, by omega⟩ 129 (by decide) dX5_part_119 (fun hq => ?_) (fun hq => ?_)
          · refine z_ii6 (pc := 129) (by decide) rfl dX5_part_129 ?_
            refine z_goto (pc := 132) 87 (by decide) dX5_part_132 ?_
            exact ih2 (x + 1) mo nx _ (by omega) (scn_n hs (by assumption))
          · refine z_iload (pc := 122) rfl dX5_part_122 ?_
            refine z_is5 (pc := 124) (by decide) rfl dX5_part_124 ?_
            refine z_iload (pc := 126) rfl dX5_part_126 ?_
            refine z_is3 (pc := 128) (by decide) rfl dX5_part_128 ?_
            refine z_ii6 (pc := 129) (by decide) rfl dX5_part_129 ?_
            refine z_goto (pc := 132) 87 (by decide) dX5_part_132 ?_
            exact ih2 (x + 1) (Y x) (x : Int) _ (by omega) (scn_y hs (by assumption))
      have lpN : ∀ (j2 x : Nat) (a : Nat → Int) (nx : Int) (y5 y6 y7 : Option Value), x + j2 = nh F k t → (0 ≤ nx ∧ nx ≤ 4) → (∀ q, q < 4 → a q = fnd F k t q - yt (fnd F k t) x q) → zJ l g RX5 cX5_part 8 none "part" (zRm 1 0 0) 0 0 (fun r h => r = none ∧ ∃ (a b L2 : Nat → Int), h = zk g (Ps F a b) L2 im c ∧ ∀ x, x < 4 → b x = hd F k (F 1 0).toNat x ∧ L2 x = bs F k (F 1 0).toNat x * F 2 k) 0 0 69 [some (.ref (g.2.1 + 23)), some (.int (iz k)), some (.int (iz t)), some (.int (iz nx)), some (.int (iz (ahd F k t - x))), y5, y6, y7] [] (zk g (Ps F a b) L2 im c) := by
        intro j2
        induction j2 with
        | zero =>
          intro x a nx y5 y6 y7 hx hn ha
          have ha2 : ∀ q, q < 4 → a q = fnd F k t q - yh F k t q := fun q hq => by unfold yh; rw [← show x = nh F k t by omega]; exact ha q hq
          refine z_iload (pc := 69) rfl dX5_part_69 ?_
          refine z_if_le (pc := 71) ⟨by omega, by omega⟩ 156 (by decide) dX5_part_71 (fun hq => ?_) (fun hq => ?_)
          · exact fin a _ _ _ _ _ ha2
          have hxs : (x : Int) = sm (fnd F k t) 4 := by omega
          refine z_iload_n (pc := 74) rfl dX5_part_74 ?_
          refine z_iconst (pc := 75) dX5_part_75 ?_
          refine z_icmp_eq (pc := 76) ⟨by omega, by omega⟩ ⟨by omega, by omega⟩ 156 (by decide) dX5_part_76 (fun hq => ?_) (fun hq => ?_)
          · omega
          refine z_iconst (pc := 79) dX5_part_79 ?_
          refine z_is3 (pc := 80) (by decide) rfl dX5_part_80 ?_
          refine z_iconst (pc := 81) dX5_part_81 ?_
          refine z_is5 (pc := 82) (by decide) rfl dX5_part_82 ?_
          refine z_iconst (pc := 84) dX5_part_84 ?_
          refine z_is6 (pc := 85) (by decide) rfl dX5_part_85 ?_
          refine scan (fun _ => 0) a (ahd F k t - x) (fun q hq => ?_) (fun q _ => ⟨Int.le_refl 0, (by decide : (0 : Int) ≤ 9)⟩) (fun nx y5 y6 y7 hs => ?_) 4 0 0 (-1) _ rfl (Or.inl ⟨rfl, rfl, fun j hj => absurd hj (Nat.not_lt_zero j)⟩)
          · show (0 : Int) = _
            rw [ha q hq, yt_end f0 hxs hq]
            omega
          · obtain ⟨mo, hs⟩ := hs
            have enx : nx = -1 := by
              rcases hs with h | h
              · exact h.1
              · exact absurd h.2.2.1 (Int.lt_irrefl 0)
            subst enx
            refine z_iload_n (pc := 135) rfl dX5_part_135 ?_
            refine z_iconst (pc := 136) dX5_part_136 ?_
            refine z_icmp_eq (pc := 137) ⟨by omega, by omega⟩ ⟨by omega, by omega⟩ 150 (by decide) dX5_part_137 (fun hq => ?_) (fun hq => ?_)
            rotate_left
            · omega
            refine z_ii4 (pc := 150) (by decide) rfl dX5_part_150 ?_
            refine z_goto (pc := 153) 69 (by decide) dX5_part_153 ?_
            refine z_iload (pc := 69) rfl dX5_part_69 ?_
            refine z_if_le (pc := 71) ⟨by omega, by omega⟩ 156 (by decide) dX5_part_71 (fun hq => ?_) (fun hq => ?_)
            · exact fin a _ _ _ _ _ ha2
            refine z_iload_n (pc := 74) rfl dX5_part_74 ?_
            refine z_iconst (pc := 75) dX5_part_75 ?_
            refine z_icmp_eq (pc := 76) ⟨by omega, by omega⟩ ⟨by omega, by omega⟩ 156 (by decide) dX5_part_76 (fun hq => ?_) (fun hq => ?_)
            · exact fin a _ _ _ _ _ ha2
            omega
        | succ j2 ih2 =>
          intro x a nx y5 y6 y7 hx hn ha
          have hxs : (x : Int) < sm (fnd F k t) 4 := by omega
          refine z_iload (pc := 69) rfl dX5_part_69 ?_
          refine z_if_le (pc := 71) ⟨by omega, by omega⟩ 156 (by decide) dX5_part_71 (fun hq => ?_) (fun hq => ?_)
          · omega
          refine z_iload_n (pc := 74) rfl dX5_part_74 ?_
          refine z_iconst (pc := 75) dX5_part_75 ?_
          refine z_icmp_eq (pc := 76) ⟨by omega, by omega⟩ ⟨by omega, by omega⟩ 156 (by decide) dX5_part_76 (fun hq => ?_) (fun hq => ?_)
          · omega
          refine z_iconst (pc := 79) dX5_part_79 ?_
          refine z_is3 (pc := 80) (by decide) rfl dX5_part_80 ?_
          refine z_iconst (pc := 81) dX5_part_81 ?_
          refine z_is5 (pc := 82) (by decide) rfl dX5_part_82 ?_
          refine z_iconst (pc := 84) dX5_part_84 ?_
          refine z_is6 (pc := 85) (by decide) rfl dX5_part_85 ?_
          refine scan (yt (fnd F k t) x) a (ahd F k t - x) (fun q hq => ?_) (fun q hq => ?_) (fun nx y5 y6 y7 hs => ?_) 4 0 0 (-1) _ rfl (Or.inl ⟨rfl, rfl, fun j hj => absurd hj (Nat.not_lt_zero j)⟩)
          · rw [ha q hq]; omega
          · have h1 := yt_bd f0 x (by omega) q hq
            have h2 := fnd_bd B k t q
            omega
          · obtain ⟨mo, hs⟩ := hs
            have tp := yt_top (fnd F k t) x hxs
            have l4 := fw_lt (yt (fnd F k t) x) 4 (by decide)
            have enx : nx = (fw (yt (fnd F k t) x) 4 : Nat) := by
              rcases hs with h | h
              · have := h.2.2 (fw (yt (fnd F k t) x) 4) l4; omega
              · exact h.2.1
            subst enx
            refine z_iload_n (pc := 135) rfl dX5_part_135 ?_
            refine z_iconst (pc := 136) dX5_part_136 ?_
            refine z_icmp_eq (pc := 137) ⟨by omega, by omega⟩ ⟨by omega, by omega⟩ 150 (by decide) dX5_part_137 (fun hq => ?_) (fun hq => ?_)
            · omega
            refine z_aload_n (pc := 140) rfl dX5_part_140 ?_
            refine zf_X5_58 (pc := 141) rfl rfl dX5_part_141 ?_
            refine z_iload_n (pc := 144) rfl dX5_part_144 ?_
            refine z_dup2 (pc := 145) rfl rfl dX5_part_145 ?_
            refine z_iald (pc := 146) rfl (by decide) (by omega) (by omega) dX5_part_146 ?_
            rw [Int.toNat_natCast, show ∀ q, Ps F a b 40 q = a q from fun _ => rfl]
            refine z_iconst (pc := 147) dX5_part_147 ?_
            refine z_iadd (pc := 148) dX5_part_148 ?_
            refine z_iast (pc := 149) rfl (by decide) (by omega) (by omega) dX5_part_149 ?_
            refine z_hp zs_40 ?_
            rw [Int.toNat_natCast]
            refine z_hp (congrArg (fun f => zk g f L2 im c) (Ps40 F a b _)) ?_
            refine z_ii4 (pc := 150) (by decide) rfl dX5_part_150 ?_
            refine z_goto (pc := 153) 69 (by decide) dX5_part_153 ?_
            rw [show ahd F k t - (x : Int) + -1 = ahd F k t - ((x + 1 : Nat) : Int) by omega]
            refine ih2 (x + 1) _ _ _ _ _ (by omega) (by omega) (fun q hq => ?_)
            show vf_upd a (fw (yt (fnd F k t) x) 4) (a (fw (yt (fnd F k t) x) 4) + 1) q = fnd F k t q - vf_upd (yt (fnd F k t) x) (fw (yt (fnd F k t) x) 4) (yt (fnd F k t) x (fw (yt (fnd F k t) x) 4) - 1) q
            have e1 := ha q hq
            have e2 := ha _ l4
            unfold vf_upd
            by_cases e : q = fw (yt (fnd F k t) x) 4
            · rw [if_pos e, if_pos e, e2, ← e]; omega
            · rw [if_neg e, if_neg e]; exact e1
      have zr : ∀ (j2 x : Nat) (a : Nat → Int) (y4 y5 y6 y7 : Option Value), x + j2 = 4 → (∀ q, q < x → a q = 0) → zJ l g RX5 cX5_part 8 none "part" (zRm 1 0 0) 0 0 (fun r h => r = none ∧ ∃ (a b L2 : Nat → Int), h = zk g (Ps F a b) L2 im c ∧ ∀ x, x < 4 → b x = hd F k (F 1 0).toNat x ∧ L2 x = bs F k (F 1 0).toNat x * F 2 k) 0 0 41 [some (.ref (g.2.1 + 23)), some (.int (iz k)), some (.int (iz t)), some (.int (iz x)), y4, y5, y6, y7] [] (zk g (Ps F a b) L2 im c) := by
        intro j2
        induction j2 with
        | zero =>
          intro x a y4 y5 y6 y7 hx ha
          refine z_iload_n (pc := 41) rfl dX5_part_41 ?_
          refine z_iconst (pc := 42) dX5_part_42 ?_
          refine z_icmp_ge (pc := 43) ⟨by omega, by omega⟩ ⟨by omega, by omega⟩ 59 (by decide) dX5_part_43 (fun hq => ?_) (fun hq => ?_)
          rotate_left
          · omega
          refine z_iconst (pc := 59) dX5_part_59 ?_
          refine z_is3 (pc := 60) (by decide) rfl dX5_part_60 ?_
          refine z_aload_n (pc := 61) rfl dX5_part_61 ?_
          refine z_iload_n (pc := 62) rfl dX5_part_62 ?_
          refine z_iload_n (pc := 63) rfl dX5_part_63 ?_
          refine z_V2 (pc := 64) (m_aheadOf (F := Ps F a b) (k := k) (t := t) B hr hk ht4) lk_X5_107 iv_X5_aheadOf rfl rfl ⟨by decide, by decide⟩ (Nat.le_of_ble_eq_true rfl) ⟨by decide, by decide⟩ dX5_part_64 (fun r h9 hq => ?_)
          obtain ⟨rfl, e9⟩ := hq
          rw [e9]
          clear e9 h9
          refine z_r1 ?_
          refine z_top (congrArg iz (show _ = ahd F k t - ((0 : Nat) : Int) from (show ahd F k t = _ by omega))) ?_
          refine z_is4 (pc := 67) (by decide) rfl dX5_part_67 ?_
          refine lpN (nh F k t) 0 a 0 _ _ _ (by omega) (by omega) (fun q hq => ?_)
          rw [ha q (by omega)]
          show (0 : Int) = fnd F k t q - fnd F k t q
          omega
        | succ j2 ih2 =>
          intro x a y4 y5 y6 y7 hx ha
          refine z_iload_n (pc := 41) rfl dX5_part_41 ?_
          refine z_iconst (pc := 42) dX5_part_42 ?_
          refine z_icmp_ge (pc := 43) ⟨by omega, by omega⟩ ⟨by omega, by omega⟩ 59 (by decide) dX5_part_43 (fun hq => ?_) (fun hq => ?_)
          · omega
          refine z_aload_n (pc := 46) rfl dX5_part_46 ?_
          refine zf_X5_58 (pc := 47) rfl rfl dX5_part_47 ?_
          refine z_iload_n (pc := 50) rfl dX5_part_50 ?_
          refine z_iconst (pc := 51) dX5_part_51 ?_
          refine z_iast (pc := 52) rfl (by decide) (by omega) (by omega) dX5_part_52 ?_
          refine z_hp zs_40 ?_
          rw [Int.toNat_natCast]
          refine z_hp (congrArg (fun f => zk g f L2 im c) (Ps40 F a b _)) ?_
          refine z_ii3 (pc := 53) (by decide) rfl dX5_part_53 ?_
          refine z_goto (pc := 56) 41 (by decide) dX5_part_56 ?_
          refine ih2 (x + 1) _ _ _ _ _ (by omega) (fun q hq => ?_)
          unfold vf_upd
          by_cases e : q = x
          · rw [if_pos e]
          · rw [if_neg e]; exact ha q (by omega)
      refine z_iload_n (pc := 29) rfl dX5_part_29 ?_
      refine z_aload_n (pc := 30) rfl dX5_part_30 ?_
      refine zf_X5_7 (pc := 31) rfl rfl dX5_part_31 ?_
      refine z_iconst (pc := 34) dX5_part_34 ?_
      refine z_iald (pc := 35) rfl (by decide) (by omega) (by omega) dX5_part_35 ?_
      rw [show Ps F a b 24 (0 : Int).toNat = F 1 0 from e24]
      refine z_icmp_ge (pc := 36) ⟨by omega, by omega⟩ ⟨by omega, by omega⟩ 233 (by decide) dX5_part_36 (fun hq => ?_) (fun hq => ?_)
      · omega
      refine z_iconst (pc := 39) dX5_part_39 ?_
      refine z_is3 (pc := 40) (by decide) rfl dX5_part_40 ?_
      exact zr 4 0 a _ _ _ _ rfl (fun q hq => absurd hq (Nat.not_lt_zero q))
  have z0 : ∀ (j x : Nat) (b L2 : Nat → Int), x + j = 4 → (∀ q, q < x → b q = 0 ∧ L2 q = 0) → zJ l g RX5 cX5_part 8 none "part" (zRm 1 0 0) 0 0 (fun r h => r = none ∧ ∃ (a b L2 : Nat → Int), h = zk g (Ps F a b) L2 im c ∧ ∀ x, x < 4 → b x = hd F k (F 1 0).toNat x ∧ L2 x = bs F k (F 1 0).toNat x * F 2 k) 0 0 2 [some (.ref (g.2.1 + 23)), some (.int (iz k)), some (.int (iz x)), none, none, none, none, none] [] (zk g (Ps F (F 40) b) L2 im c) := by
    intro j
    induction j with
    | zero =>
      intro x b L2 hx hb
      refine z_iload_n (pc := 2) rfl dX5_part_2 ?_
      refine z_iconst (pc := 3) dX5_part_3 ?_
      refine z_icmp_ge (pc := 4) ⟨by omega, by omega⟩ ⟨by omega, by omega⟩ 27 (by decide) dX5_part_4 (fun hq => ?_) (fun hq => ?_)
      rotate_left
      · omega
      refine z_iconst (pc := 27) dX5_part_27 ?_
      refine z_is2 (pc := 28) (by decide) rfl dX5_part_28 ?_
      refine lpT (F 1 0).toNat 0 (F 40) b L2 _ _ _ _ _ (by omega) (fun q hq => ?_)
      have := hb q (by omega)
      rw [this.1, this.2]
      exact ⟨rfl, (Int.zero_mul _).symm⟩
    | succ j ih =>
      intro x b L2 hx hb
      refine z_iload_n (pc := 2) rfl dX5_part_2 ?_
      refine z_iconst (pc := 3) dX5_part_3 ?_
      refine z_icmp_ge (pc := 4) ⟨by omega, by omega⟩ ⟨by omega, by omega⟩ 27 (by decide) dX5_part_4 (fun hq => ?_) (fun hq => ?_)
      · omega
      refine z_aload_n (pc := 7) rfl dX5_part_7 ?_
      refine zf_X5_61 (pc := 8) rfl rfl dX5_part_8 ?_
      refine z_iload_n (pc := 11) rfl dX5_part_11 ?_
      refine z_iconst (pc := 12) dX5_part_12 ?_
      refine z_iast (pc := 13) rfl (by decide) (by omega) (by omega) dX5_part_13 ?_
      refine z_hp zs_41 ?_
      rw [up_up, Int.toNat_natCast]
      refine z_aload_n (pc := 14) rfl dX5_part_14 ?_
      refine zf_X5_64 (pc := 15) rfl rfl dX5_part_15 ?_
      refine z_iload_n (pc := 18) rfl dX5_part_18 ?_
      refine z_lconst (pc := 19) (v := 0) (by decide) dX5_part_19 ?_
      refine z_last (pc := 20) rfl (by decide) (by omega) (by omega) dX5_part_20 ?_
      refine z_hp zs_42 ?_
      rw [Int.toNat_natCast]
      refine z_ii2 (pc := 21) (by decide) rfl dX5_part_21 ?_
      refine z_goto (pc := 24) 2 (by decide) dX5_part_24 ?_
      refine ih (x + 1) _ _ (by omega) (fun q hq => ?_)
      unfold vf_upd
      by_cases e : q = x
      · rw [if_pos e, if_pos e]; exact ⟨rfl, rfl⟩
      · rw [if_neg e, if_neg e]; exact hb q (by omega)
  refine z_iconst (pc := 0) dX5_part_0 ?_
  refine z_is2 (pc := 1) (by decide) rfl dX5_part_1 ?_
  have := z0 4 0 (F 41) L rfl (fun q hq => absurd hq (Nat.not_lt_zero q))
  rw [show Ps F (F 40) (F 41) = F by show va_up (va_up F 40 (F 40)) 41 (F 41) = F; rw [up_id, up_id]] at this
  exact this
end REF13
