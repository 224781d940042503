/-! ===== the reference: what changes it; about ===== -/
def rb (F : Nat → Nat → Int) : Prop := (1 ≤ F 24 0 ∧ F 24 0 ≤ 40) ∧ (0 ≤ F 25 0 ∧ F 25 0 ≤ 3) ∧ 0 ≤ F 27 0 ∧ F 27 0 ≤ 6
def Hs (F : Nat → Nat → Int) (z : Int) (f31 f32 : Nat → Int) : Nat → Nat → Int := fun q => if q = 24 then vf_upd (F 24) 0 z else if q = 31 then f31 else if q = 32 then f32 else F q
theorem Hs31 (F : Nat → Nat → Int) (z : Int) (a b f : Nat → Int) : va_up (Hs F z a b) 31 f = Hs F z f b := by
  funext q
  unfold va_up Hs
  by_cases h : q = 31
  · subst h; rfl
  · rw [if_neg h]; simp only [if_neg h]
theorem Hs32 (F : Nat → Nat → Int) (z : Int) (a b f : Nat → Int) : va_up (Hs F z a b) 32 f = Hs F z a f := by
  funext q
  unfold va_up Hs
  by_cases h : q = 32
  · subst h; rfl
  · rw [if_neg h]; simp only [if_neg h]
theorem Hs24 (F : Nat → Nat → Int) (z : Int) : va_up F 24 (vf_upd (F 24) 0 z) = Hs F z (F 31) (F 32) := by
  funext q
  unfold va_up Hs
  by_cases h : q = 24
  · subst h; rfl
  · rw [if_neg h, if_neg h]
    by_cases h1 : q = 31
    · subst h1; rfl
    · rw [if_neg h1]
      by_cases h2 : q = 32
      · subst h2; rfl
      · rw [if_neg h2]
/-- columns forgotten: those from a up to t, and of column t the first rows -/
def clm (f : Nat → Int) (a t r N : Nat) : Nat → Int := fun j => if j < 40 * N ∧ a ≤ j % 40 ∧ (j % 40 < t ∨ (j % 40 = t ∧ j / 40 < r)) then 0 else f j
theorem clm_0 (f : Nat → Int) (a N : Nat) : clm f a a 0 N = f := by funext j; unfold clm; rw [if_neg (by omega)]
theorem clm_s (f : Nat → Int) {a t r N : Nat} (ht : t < 40) (ha : a ≤ t) (hr : r < N) : vf_upd (clm f a t r N) (40 * r + t) 0 = clm f a t (r + 1) N := by
  funext j
  unfold vf_upd clm
  by_cases h : j = 40 * r + t
  · rw [if_pos h, if_pos (by omega)]
  · rw [if_neg h]
    by_cases h2 : j < 40 * N ∧ a ≤ j % 40 ∧ (j % 40 < t ∨ (j % 40 = t ∧ j / 40 < r))
    · rw [if_pos h2, if_pos (by omega)]
    · rw [if_neg h2, if_neg (by omega)]
theorem clm_n (f : Nat → Int) (a t N : Nat) : clm f a t N N = clm f a (t + 1) 0 N := by
  funext j
  unfold clm
  by_cases h2 : j < 40 * N ∧ a ≤ j % 40 ∧ (j % 40 < t ∨ (j % 40 = t ∧ j / 40 < N))
  · rw [if_pos h2, if_pos (by omega)]
  · rw [if_neg h2, if_neg (by omega)]
theorem clm_40 (f : Nat → Int) (a N : Nat) : clm f a 40 0 N = cut0 f a (40 * N) := by
  funext j
  unfold clm cut0
  by_cases h2 : j < 40 * N ∧ a ≤ j % 40
  · rw [if_pos h2, if_pos (by omega)]
  · rw [if_neg h2, if_neg (by omega)]
def nobR (F : Nat → Nat → Int) (k n : Nat) : Nat → Int := fun j => if j / 40 < n ∧ F 28 (j / 40) = k then 0 else F 32 j
theorem nobR_0 (F : Nat → Nat → Int) (k : Nat) : nobR F k 0 = F 32 := by funext j; unfold nobR; rw [if_neg (by omega)]
theorem nobR_y (F : Nat → Nat → Int) {k n : Nat} (h : F 28 n = k) : fl (nobR F k n) (40 * n) (40 * n + 40) 0 = nobR F k (n + 1) := by
  funext j
  unfold fl nobR
  by_cases h1 : 40 * n ≤ j ∧ j < 40 * n + 40
  · have e : j / 40 = n := by omega
    rw [if_pos h1, if_pos ⟨by omega, by rw [e]; exact h⟩]
  · rw [if_neg h1]
    by_cases h2 : j / 40 < n ∧ F 28 (j / 40) = k
    · rw [if_pos h2, if_pos ⟨by omega, h2.2⟩]
    · rw [if_neg h2, if_neg (fun h3 => h2 ⟨by omega, h3.2⟩)]
theorem nobR_n (F : Nat → Nat → Int) {k n : Nat} (h : ¬ F 28 n = k) : nobR F k n = nobR F k (n + 1) := by
  funext j
  unfold nobR
  by_cases h2 : j / 40 < n ∧ F 28 (j / 40) = k
  · rw [if_pos h2, if_pos ⟨by omega, h2.2⟩]
  · rw [if_neg h2, if_neg (fun h3 => h2 ⟨by have := h3.1; by_cases e : j / 40 = n; (exfalso; apply h; rw [← e]; exact h3.2); omega, h3.2⟩)]
theorem up_up (F : Nat → Nat → Int) (p : Nat) (a b : Nat → Int) : va_up (va_up F p a) p b = va_up F p b := by
  funext q
  unfold va_up
  by_cases h : q = p
  · rw [if_pos h, if_pos h]
  · rw [if_neg h, if_neg h, if_neg h]
theorem up_id (F : Nat → Nat → Int) (p : Nat) : va_up F p (F p) = F := by
  funext q
  unfold va_up
  by_cases h : q = p
  · rw [if_pos h, h]
  · rw [if_neg h]
theorem bts40 {F : Nat → Nat → Int} (B : bi F 1) {o : Nat} (ho : o < 6) : sm (bt F o) 40 = sm (bt F o) (F 1 0).toNat := by
  have b1 := bi_hours B
  have key : ∀ j t : Nat, t + j = 40 → F 1 0 ≤ t → sm (bt F o) 40 = sm (bt F o) t := by
    intro j
    induction j with
    | zero => intro t h1 _; rw [show t = 40 by omega]
    | succ j ih =>
      intro t h1 h2
      rw [ih (t + 1) (by omega) (by omega)]
      show sm (bt F o) t + bt F o t = sm (bt F o) t
      rw [show bt F o t = 0 from B.2.2.2.2.2.2.2.2.2.2.2.2 o t ho (by omega) h2, Int.add_zero]
  exact key (40 - (F 1 0).toNat) (F 1 0).toNat (by omega) (by omega)
def abv (F : Nat → Nat → Int) (z x : Int) : Int := if 10 ≤ x then (if 0 ≤ z ∧ z < F 1 1 then (if x = 10 then F 2 z.toNat else if x = 11 then sm (fun o => if F 3 o = (z.toNat : Int) then 1 else 0) (F 1 2).toNat else if x = 12 then sm (nda F z.toNat) (F 1 0).toNat else if x = 13 then mxs (nda F z.toNat) (F 1 0).toNat else -1) else -1) else (if 0 ≤ z ∧ z < F 1 2 then (if x = 0 then F 3 z.toNat else if x = 1 then F 4 z.toNat else if x = 2 then F 5 z.toNat else if x = 3 then sm (bt F z.toNat) (F 1 0).toNat else -1) else -1)
section REF10
variable {l : Launch} {g : zG} {F : Nat → Nat → Int} {L : Nat → Int} {im : Nat → Option Nat} {c : Nat}
theorem g_isKind (rB : rb F) {z : Int} (hz : ir z) : zM l g yX5_isKind cX5_isKind 2 (some .boolean) 1 0 0 [.ref (g.2.1 + 23), .int (iz z)] (zk g F L im c) (fun r h => r = some (.int (iz (if 0 ≤ z ∧ z < F 25 0 then 1 else 0))) ∧ h = zk g F L im c) := by
  refine zM_of 0 (by decide) rfl ?_
  show zJ l g RX5 cX5_isKind 2 (some .boolean) "isKind" (zRm 1 0 0) 0 0 _ 0 0 0 [some (.ref (g.2.1 + 23)), some (.int (iz z))] [] _
  have h1 := rB.1
  have h2 := rB.2.1
  have h3 := rB.2.2
  refine z_iload_n (pc := 0) rfl dX5_isKind_0 ?_
  refine z_iconst (pc := 1) dX5_isKind_1 ?_
  refine z_aload_n (pc := 2) rfl dX5_isKind_2 ?_
  refine zf_X5_13 (pc := 3) rfl rfl dX5_isKind_3 ?_
  refine z_iconst (pc := 6) dX5_isKind_6 ?_
  refine z_iald (pc := 7) rfl (by decide) (by omega) (by omega) dX5_isKind_7 ?_
  rw [show F 25 (0 : Int).toNat = F 25 0 from rfl]
  refine z_iconst (pc := 8) dX5_isKind_8 ?_
  refine z_isub (pc := 9) dX5_isKind_9 ?_
  refine z_S3 (pc := 10) (m_in (a := z) (b := 0) (e := F 25 0 - 1) hz ⟨by omega, by omega⟩ ⟨by omega, by omega⟩) lk_X5_80 st_X5_in ⟨by decide, by decide⟩ (Nat.le_of_ble_eq_true rfl) ⟨by decide, by decide⟩ dX5_isKind_10 (fun r h9 hq => ?_)
  obtain ⟨rfl, e9⟩ := hq
  rw [e9]
  clear e9 h9
  refine z_r1 ?_
  have e2 : (if 0 ≤ z ∧ z ≤ F 25 0 - 1 then (1 : Int) else 0) = if 0 ≤ z ∧ z < F 25 0 then 1 else 0 := by
    by_cases hc : 0 ≤ z ∧ z < F 25 0
    · rw [if_pos hc, if_pos (by omega)]
    · rw [if_neg hc, if_neg (by omega)]
  rw [e2]
  exact z_retz (pc := 13) rfl (by split <;> simp) (by decide) (by decide) dX5_isKind_13 ⟨rfl, rfl⟩
theorem g_isHour (rB : rb F) {z : Int} (hz : ir z) : zM l g yX5_isHour cX5_isHour 2 (some .boolean) 1 0 0 [.ref (g.2.1 + 23), .int (iz z)] (zk g F L im c) (fun r h => r = some (.int (iz (if 0 ≤ z ∧ z < F 24 0 then 1 else 0))) ∧ h = zk g F L im c) := by
  refine zM_of 0 (by decide) rfl ?_
  show zJ l g RX5 cX5_isHour 2 (some .boolean) "isHour" (zRm 1 0 0) 0 0 _ 0 0 0 [some (.ref (g.2.1 + 23)), some (.int (iz z))] [] _
  have h1 := rB.1
  have h2 := rB.2.1
  have h3 := rB.2.2
  refine z_iload_n (pc := 0) rfl dX5_isHour_0 ?_
  refine z_iconst (pc := 1) dX5_isHour_1 ?_
  refine z_aload_n (pc := 2) rfl dX5_isHour_2 ?_
  refine zf_X5_7 (pc := 3) rfl rfl dX5_isHour_3 ?_
  refine z_iconst (pc := 6) dX5_isHour_6 ?_
  refine z_iald (pc := 7) rfl (by decide) (by omega) (by omega) dX5_isHour_7 ?_
  rw [show F 24 (0 : Int).toNat = F 24 0 from rfl]
  refine z_iconst (pc := 8) dX5_isHour_8 ?_
  refine z_isub (pc := 9) dX5_isHour_9 ?_
  refine z_S3 (pc := 10) (m_in (a := z) (b := 0) (e := F 24 0 - 1) hz ⟨by omega, by omega⟩ ⟨by omega, by omega⟩) lk_X5_80 st_X5_in ⟨by decide, by decide⟩ (Nat.le_of_ble_eq_true rfl) ⟨by decide, by decide⟩ dX5_isHour_10 (fun r h9 hq => ?_)
  obtain ⟨rfl, e9⟩ := hq
  rw [e9]
  clear e9 h9
  refine z_r1 ?_
  have e2 : (if 0 ≤ z ∧ z ≤ F 24 0 - 1 then (1 : Int) else 0) = if 0 ≤ z ∧ z < F 24 0 then 1 else 0 := by
    by_cases hc : 0 ≤ z ∧ z < F 24 0
    · rw [if_pos hc, if_pos (by omega)]
    · rw [if_neg hc, if_neg (by omega)]
  rw [e2]
  exact z_retz (pc := 13) rfl (by split <;> simp) (by decide) (by decide) dX5_isHour_13 ⟨rfl, rfl⟩
theorem g_isOffer (rB : rb F) {z : Int} (hz : ir z) : zM l g yX5_isOffer cX5_isOffer 2 (some .boolean) 1 0 0 [.ref (g.2.1 + 23), .int (iz z)] (zk g F L im c) (fun r h => r = some (.int (iz (if 0 ≤ z ∧ z < F 27 0 then 1 else 0))) ∧ h = zk g F L im c) := by
  refine zM_of 0 (by decide) rfl ?_
  show zJ l g RX5 cX5_isOffer 2 (some .boolean) "isOffer" (zRm 1 0 0) 0 0 _ 0 0 0 [some (.ref (g.2.1 + 23)), some (.int (iz z))] [] _
  have h1 := rB.1
  have h2 := rB.2.1
  have h3 := rB.2.2
  refine z_iload_n (pc := 0) rfl dX5_isOffer_0 ?_
  refine z_iconst (pc := 1) dX5_isOffer_1 ?_
  refine z_aload_n (pc := 2) rfl dX5_isOffer_2 ?_
  refine zf_X5_19 (pc := 3) rfl rfl dX5_isOffer_3 ?_
  refine z_iconst (pc := 6) dX5_isOffer_6 ?_
  refine z_iald (pc := 7) rfl (by decide) (by omega) (by omega) dX5_isOffer_7 ?_
  rw [show F 27 (0 : Int).toNat = F 27 0 from rfl]
  refine z_iconst (pc := 8) dX5_isOffer_8 ?_
  refine z_isub (pc := 9) dX5_isOffer_9 ?_
  refine z_S3 (pc := 10) (m_in (a := z) (b := 0) (e := F 27 0 - 1) hz ⟨by omega, by omega⟩ ⟨by omega, by omega⟩) lk_X5_80 st_X5_in ⟨by decide, by decide⟩ (Nat.le_of_ble_eq_true rfl) ⟨by decide, by decide⟩ dX5_isOffer_10 (fun r h9 hq => ?_)
  obtain ⟨rfl, e9⟩ := hq
  rw [e9]
  clear e9 h9
  refine z_r1 ?_
  have e2 : (if 0 ≤ z ∧ z ≤ F 27 0 - 1 then (1 : Int) else 0) = if 0 ≤ z ∧ z < F 27 0 then 1 else 0 := by
    by_cases hc : 0 ≤ z ∧ z < F 27 0
    · rw [if_pos hc, if_pos (by omega)]
    · rw [if_neg hc, if_neg (by omega)]
  rw [e2]
  exact z_retz (pc := 13) rfl (by split <;> simp) (by decide) (by decide) dX5_isOffer_13 ⟨rfl, rfl⟩
theorem m_hours (h23 : F 23 0 = 0) {z : Int} (hz : ir z) : zM l g yX5_hours cX5_hours 4 (some .boolean) 1 0 0 [.ref (g.2.1 + 23), .int (iz z)] (zk g F L im c) (fun r h => ((1 ≤ z ∧ z ≤ 40) ∧ r = some (.int (iz 1)) ∧ h = zk g (Hs F z (cut0 (F 31) z.toNat 480) (cut0 (F 32) z.toNat 240)) L im c) ∨ (¬ (1 ≤ z ∧ z ≤ 40) ∧ r = some (.int (iz 0)) ∧ h = zk g F L im c)) := by
  refine zM_of 2 (by decide) rfl ?_
  show zJ l g RX5 cX5_hours 4 (some .boolean) "hours" (zRm 1 0 0) 0 0 _ 0 0 0 [some (.ref (g.2.1 + 23)), some (.int (iz z)), none, none] [] _
  have no : ¬ (1 ≤ z ∧ z ≤ 40) → zJ l g RX5 cX5_hours 4 (some .boolean) "hours" (zRm 1 0 0) 0 0 (fun r h => ((1 ≤ z ∧ z ≤ 40) ∧ r = some (.int (iz 1)) ∧ h = zk g (Hs F z (cut0 (F 31) z.toNat 480) (cut0 (F 32) z.toNat 240)) L im c) ∨ (¬ (1 ≤ z ∧ z ≤ 40) ∧ r = some (.int (iz 0)) ∧ h = zk g F L im c)) 0 0 15 [some (.ref (g.2.1 + 23)), some (.int (iz z)), none, none] [] (zk g F L im c) := by
    intro hno
    refine z_iconst (pc := 15) dX5_hours_15 ?_
    exact z_retz (pc := 16) rfl (Or.inl rfl) (by decide) (by decide) dX5_hours_16 (Or.inr ⟨hno, rfl, rfl⟩)
  refine z_aload_n (pc := 0) rfl dX5_hours_0 ?_
  refine z_iconst (pc := 1) dX5_hours_1 ?_
  refine zp_X5_72 (pc := 2) rfl (Nat.le_of_ble_eq_true rfl) dX5_hours_2 ?_
  refine z_hp (show _ = zk g F L im c from zs_23_0.trans (congrArg (fun f => zk g f L im c) (up23 h23))) ?_
  refine z_iload_n (pc := 5) rfl dX5_hours_5 ?_
  refine z_iconst (pc := 6) dX5_hours_6 ?_
  refine z_bipush (pc := 7) (by decide) dX5_hours_7 ?_
  refine z_S3 (pc := 9) (m_in (a := z) (b := 1) (e := 40) (by assumption) ⟨by omega, by omega⟩ ⟨by omega, by omega⟩) lk_X5_80 st_X5_in ⟨by decide, by decide⟩ (Nat.le_of_ble_eq_true rfl) ⟨by decide, by decide⟩ dX5_hours_9 (fun r h9 hq => ?_)
  obtain ⟨rfl, e9⟩ := hq
  rw [e9]
  clear e9 h9
  refine z_r1 ?_
  by_cases hc1 : 1 ≤ z ∧ z ≤ 40
  rotate_left
  · rw [if_neg hc1]
    refine z_if_ne (pc := 12) ⟨by omega, by omega⟩ 17 (by decide) dX5_hours_12 (fun hq => ?_) (fun hq => ?_)
    · omega
    exact no (by omega)
  rw [if_pos hc1]
  refine z_if_ne (pc := 12) ⟨by omega, by omega⟩ 17 (by decide) dX5_hours_12 (fun hq => ?_) (fun hq => ?_)
  rotate_left
  · omega
  have lpT : ∀ (j t : Nat) (y : Option Value), t + j = 40 → z ≤ t → zJ l g RX5 cX5_hours 4 (some .boolean) "hours" (zRm 1 0 0) 0 0 (fun r h => ((1 ≤ z ∧ z ≤ 40) ∧ r = some (.int (iz 1)) ∧ h = zk g (Hs F z (cut0 (F 31) z.toNat 480) (cut0 (F 32) z.toNat 240)) L im c) ∨ (¬ (1 ≤ z ∧ z ≤ 40) ∧ r = some (.int (iz 0)) ∧ h = zk g F L im c)) 0 0 26 [some (.ref (g.2.1 + 23)), some (.int (iz z)), some (.int (iz t)), y] [] (zk g (Hs F z (clm (F 31) z.toNat t 0 12) (clm (F 32) z.toNat t 0 6)) L im c) := by
    intro j
    induction j with
    | zero =>
      intro t y ht hz2
      refine z_iload_n (pc := 26) rfl dX5_hours_26 ?_
      refine z_bipush (pc := 27) (by decide) dX5_hours_27 ?_
      refine z_icmp_ge (pc := 29) ⟨by omega, by omega⟩ ⟨by omega, by omega⟩ 90 (by decide) dX5_hours_29 (fun hq => ?_) (fun hq => ?_)
      · refine z_iconst (pc := 90) dX5_hours_90 ?_
        exact z_retz (pc := 91) rfl (Or.inr rfl) (by decide) (by decide) dX5_hours_91 (Or.inl ⟨hc1, rfl, by rw [show t = 40 by omega, clm_40, clm_40]⟩)
      omega
    | succ j ih =>
      intro t y ht hz2
      have two : ∀ (j2 o : Nat), o + j2 = 6 → zJ l g RX5 cX5_hours 4 (some .boolean) "hours" (zRm 1 0 0) 0 0 (fun r h => ((1 ≤ z ∧ z ≤ 40) ∧ r = some (.int (iz 1)) ∧ h = zk g (Hs F z (cut0 (F 31) z.toNat 480) (cut0 (F 32) z.toNat 240)) L im c) ∨ (¬ (1 ≤ z ∧ z ≤ 40) ∧ r = some (.int (iz 0)) ∧ h = zk g F L im c)) 0 0 60 [some (.ref (g.2.1 + 23)), some (.int (iz z)), some (.int (iz t)), some (.int (iz o))] [] (zk g (Hs F z (clm (F 31) z.toNat (t + 1) 0 12) (clm (F 32) z.toNat t o 6)) L im c) := by
        intro j2
        induction j2 with
        | zero =>
          intro o ho
          refine z_iload_n (pc := 60) rfl dX5_hours_60 ?_
          refine z_bipush (pc := 61) (by decide) dX5_hours_61 ?_
          refine z_icmp_ge (pc := 63) ⟨by omega, by omega⟩ ⟨by omega, by omega⟩ 84 (by decide) dX5_hours_63 (fun hq => ?_) (fun hq => ?_)
          · refine z_ii2 (pc := 84) (by decide) rfl dX5_hours_84 ?_
            refine z_goto (pc := 87) 26 (by decide) dX5_hours_87 ?_
            have := ih (t + 1) (some (.int (iz o))) (by omega) (by omega)
            rw [show o = 6 by omega, clm_n] 
            rw [show o = 6 by omega] at this
            exact this
          omega
        | succ j2 ih2 =>
          intro o ho
          refine z_iload_n (pc := 60) rfl dX5_hours_60 ?_
          refine z_bipush (pc := 61) (by decide) dX5_hours_61 ?_
          refine z_icmp_ge (pc := 63) ⟨by omega, by omega⟩ ⟨by omega, by omega⟩ 84 (by decide) dX5_hours_63 (fun hq => ?_) (fun hq => ?_)
          · omega
          refine z_aload_n (pc := 66) rfl dX5_hours_66 ?_
          refine zf_X5_34 (pc := 67) rfl rfl dX5_hours_67 ?_
          refine z_bipush (pc := 70) (by decide) dX5_hours_70 ?_
          refine z_iload_n (pc := 72) rfl dX5_hours_72 ?_
          refine z_imul (pc := 73) dX5_hours_73 ?_
          refine z_iload_n (pc := 74) rfl dX5_hours_74 ?_
          refine z_iadd (pc := 75) dX5_hours_75 ?_
          refine z_iconst (pc := 76) dX5_hours_76 ?_
          refine z_iast (pc := 77) rfl (by decide) (by omega) (by omega) dX5_hours_77 ?_
          refine z_hp zs_32 ?_
          rw [show (40 * (o : Int) + t).toNat = 40 * o + t by omega]
          refine z_hp (congrArg (fun f => zk g f L im c) ((Hs32 F z _ _ _).trans (congrArg (Hs F z _) (clm_s (F 32) (r := o) (N := 6) (by omega) (by omega) (by omega))))) ?_
          refine z_ii3 (pc := 78) (by decide) rfl dX5_hours_78 ?_
          refine z_goto (pc := 81) 60 (by decide) dX5_hours_81 ?_
          exact ih2 (o + 1) (by omega)
      have one : ∀ (j2 o : Nat), o + j2 = 12 → zJ l g RX5 cX5_hours 4 (some .boolean) "hours" (zRm 1 0 0) 0 0 (fun r h => ((1 ≤ z ∧ z ≤ 40) ∧ r = some (.int (iz 1)) ∧ h = zk g (Hs F z (cut0 (F 31) z.toNat 480) (cut0 (F 32) z.toNat 240)) L im c) ∨ (¬ (1 ≤ z ∧ z ≤ 40) ∧ r = some (.int (iz 0)) ∧ h = zk g F L im c)) 0 0 34 [some (.ref (g.2.1 + 23)), some (.int (iz z)), some (.int (iz t)), some (.int (iz o))] [] (zk g (Hs F z (clm (F 31) z.toNat t o 12) (clm (F 32) z.toNat t 0 6)) L im c) := by
        intro j2
        induction j2 with
        | zero =>
          intro o ho
          refine z_iload_n (pc := 34) rfl dX5_hours_34 ?_
          refine z_bipush (pc := 35) (by decide) dX5_hours_35 ?_
          refine z_icmp_ge (pc := 37) ⟨by omega, by omega⟩ ⟨by omega, by omega⟩ 58 (by decide) dX5_hours_37 (fun hq => ?_) (fun hq => ?_)
          · refine z_iconst (pc := 58) dX5_hours_58 ?_
            refine z_is3 (pc := 59) (by decide) rfl dX5_hours_59 ?_
            rw [show o = 12 by omega, clm_n]
            exact two 6 0 (by omega)
          omega
        | succ j2 ih2 =>
          intro o ho
          refine z_iload_n (pc := 34) rfl dX5_hours_34 ?_
          refine z_bipush (pc := 35) (by decide) dX5_hours_35 ?_
          refine z_icmp_ge (pc := 37) ⟨by omega, by omega⟩ ⟨by omega, by omega⟩ 58 (by decide) dX5_hours_37 (fun hq => ?_) (fun hq => ?_)
          · omega
          refine z_aload_n (pc := 40) rfl dX5_hours_40 ?_
          refine zf_X5_31 (pc := 41) rfl rfl dX5_hours_41 ?_
          refine z_bipush (pc := 44) (by decide) dX5_hours_44 ?_
          refine z_iload_n (pc := 46) rfl dX5_hours_46 ?_
          refine z_imul (pc := 47) dX5_hours_47 ?_
          refine z_iload_n (pc := 48) rfl dX5_hours_48 ?_
          refine z_iadd (pc := 49) dX5_hours_49 ?_
          refine z_iconst (pc := 50) dX5_hours_50 ?_
          refine z_iast (pc := 51) rfl (by decide) (by omega) (by omega) dX5_hours_51 ?_
          refine z_hp zs_31 ?_
          rw [show (40 * (o : Int) + t).toNat = 40 * o + t by omega]
          refine z_hp (congrArg (fun f => zk g f L im c) ((Hs31 F z _ _ _).trans (congrArg (fun f => Hs F z f _) (clm_s (F 31) (r := o) (N := 12) (by omega) (by omega) (by omega))))) ?_
          refine z_ii3 (pc := 52) (by decide) rfl dX5_hours_52 ?_
          refine z_goto (pc := 55) 34 (by decide) dX5_hours_55 ?_
          exact ih2 (o + 1) (by omega)
      refine z_iload_n (pc := 26) rfl dX5_hours_26 ?_
      refine z_bipush (pc := 27) (by decide) dX5_hours_27 ?_
      refine z_icmp_ge (pc := 29) ⟨by omega, by omega⟩ ⟨by omega, by omega⟩ 90 (by decide) dX5_hours_29 (fun hq => ?_) (fun hq => ?_)
      · omega
      refine z_iconst (pc := 32) dX5_hours_32 ?_
      refine z_is3 (pc := 33) (by decide) rfl dX5_hours_33 ?_
      exact one 12 0 (by omega)
  refine z_aload_n (pc := 17) rfl dX5_hours_17 ?_
  refine zf_X5_7 (pc := 18) rfl rfl dX5_hours_18 ?_
  refine z_iconst (pc := 21) dX5_hours_21 ?_
  refine z_iload_n (pc := 22) rfl dX5_hours_22 ?_
  refine z_iast (pc := 23) rfl (by decide) (by omega) (by omega) dX5_hours_23 ?_
  refine z_hp zs_24 ?_
  refine z_hp (congrArg (fun f => zk g f L im c) (Hs24 F z)) ?_
  refine z_iload_n (pc := 24) rfl dX5_hours_24 ?_
  refine z_is2 (pc := 25) (by decide) rfl dX5_hours_25 ?_
  have := lpT (40 - z.toNat) z.toNat none (by omega) (by omega)
  rw [clm_0, clm_0, show ((z.toNat : Nat) : Int) = z by omega] at this
  exact this
theorem m_kind (rB : rb F) (h23 : F 23 0 = 0) {z : Int} (hz : ir z) : zM l g yX5_kind cX5_kind 2 (some .int) 1 0 0 [.ref (g.2.1 + 23), .int (iz z)] (zk g F L im c) (fun r h => ((F 25 0 < 3 ∧ 1 ≤ z ∧ z ≤ 1000) ∧ r = some (.int (iz (F 25 0))) ∧ h = zk g (va_up (va_up F 26 (vf_upd (F 26) (F 25 0).toNat z)) 25 (vf_upd (F 25) 0 (F 25 0 + 1))) L im c) ∨ (¬ (F 25 0 < 3 ∧ 1 ≤ z ∧ z ≤ 1000) ∧ r = some (.int (iz (-1))) ∧ h = zk g F L im c)) := by
  refine zM_of 0 (by decide) rfl ?_
  show zJ l g RX5 cX5_kind 2 (some .int) "kind" (zRm 1 0 0) 0 0 _ 0 0 0 [some (.ref (g.2.1 + 23)), some (.int (iz z))] [] _
  have h2 := rB.2.1
  have no : ¬ (F 25 0 < 3 ∧ 1 ≤ z ∧ z ≤ 1000) → zJ l g RX5 cX5_kind 2 (some .int) "kind" (zRm 1 0 0) 0 0 (fun r h => ((F 25 0 < 3 ∧ 1 ≤ z ∧ z ≤ 1000) ∧ r = some (.int (iz (F 25 0))) ∧ h = zk g (va_up (va_up F 26 (vf_upd (F 26) (F 25 0).toNat z)) 25 (vf_upd (F 25) 0 (F 25 0 + 1))) L im c) ∨ (¬ (F 25 0 < 3 ∧ 1 ≤ z ∧ z ≤ 1000) ∧ r = some (.int (iz (-1))) ∧ h = zk g F L im c)) 0 0 26 [some (.ref (g.2.1 + 23)), some (.int (iz z))] [] (zk g F L im c) := by
    intro hno
    refine z_iconst (pc := 26) dX5_kind_26 ?_
    exact z_reti (pc := 27) rfl (by decide) (by decide) dX5_kind_27 (Or.inr ⟨hno, rfl, rfl⟩)
  refine z_aload_n (pc := 0) rfl dX5_kind_0 ?_
  refine z_iconst (pc := 1) dX5_kind_1 ?_
  refine zp_X5_72 (pc := 2) rfl (Nat.le_of_ble_eq_true rfl) dX5_kind_2 ?_
  refine z_hp (show _ = zk g F L im c from zs_23_0.trans (congrArg (fun f => zk g f L im c) (up23 h23))) ?_
  refine z_aload_n (pc := 5) rfl dX5_kind_5 ?_
  refine zf_X5_13 (pc := 6) rfl rfl dX5_kind_6 ?_
  refine z_iconst (pc := 9) dX5_kind_9 ?_
  refine z_iald (pc := 10) rfl (by decide) (by omega) (by omega) dX5_kind_10 ?_
  rw [show F 25 (0 : Int).toNat = F 25 0 from rfl]
  refine z_iconst (pc := 11) dX5_kind_11 ?_
  refine z_icmp_eq (pc := 12) ⟨by omega, by omega⟩ ⟨by omega, by omega⟩ 26 (by decide) dX5_kind_12 (fun hq => ?_) (fun hq => ?_)
  · exact no (by omega)
  refine z_iload_n (pc := 15) rfl dX5_kind_15 ?_
  refine z_iconst (pc := 16) dX5_kind_16 ?_
  refine z_sipush (pc := 17) (by decide) dX5_kind_17 ?_
  refine z_S3 (pc := 20) (m_in (a := z) (b := 1) (e := 1000) (by assumption) ⟨by omega, by omega⟩ ⟨by omega, by omega⟩) lk_X5_80 st_X5_in ⟨by decide, by decide⟩ (Nat.le_of_ble_eq_true rfl) ⟨by decide, by decide⟩ dX5_kind_20 (fun r h9 hq => ?_)
  obtain ⟨rfl, e9⟩ := hq
  rw [e9]
  clear e9 h9
  refine z_r1 ?_
  by_cases hc1 : 1 ≤ z ∧ z ≤ 1000
  rotate_left
  · rw [if_neg hc1]
    refine z_if_ne (pc := 23) ⟨by omega, by omega⟩ 28 (by decide) dX5_kind_23 (fun hq => ?_) (fun hq => ?_)
    · omega
    exact no (by omega)
  rw [if_pos hc1]
  refine z_if_ne (pc := 23) ⟨by omega, by omega⟩ 28 (by decide) dX5_kind_23 (fun hq => ?_) (fun hq => ?_)
  rotate_left
  · omega
  refine z_aload_n (pc := 28) rfl dX5_kind_28 ?_
  refine zf_X5_16 (pc := 29) rfl rfl dX5_kind_29 ?_
  refine z_aload_n (pc := 32) rfl dX5_kind_32 ?_
  refine zf_X5_13 (pc := 33) rfl rfl dX5_kind_33 ?_
  refine z_iconst (pc := 36) dX5_kind_36 ?_
  refine z_iald (pc := 37) rfl (by decide) (by omega) (by omega) dX5_kind_37 ?_
  rw [show F 25 (0 : Int).toNat = F 25 0 from rfl]
  refine z_iload_n (pc := 38) rfl dX5_kind_38 ?_
  refine z_iast (pc := 39) rfl (by decide) (by omega) (by omega) dX5_kind_39 ?_
  refine z_hp zs_26 ?_
  refine z_aload_n (pc := 40) rfl dX5_kind_40 ?_
  refine zf_X5_13 (pc := 41) rfl rfl dX5_kind_41 ?_
  refine z_iconst (pc := 44) dX5_kind_44 ?_
  refine z_dup2 (pc := 45) rfl rfl dX5_kind_45 ?_
  refine z_iald (pc := 46) rfl (by decide) (by omega) (by omega) dX5_kind_46 ?_
  rw [show va_up F 26 (vf_upd (F 26) (F 25 0).toNat z) 25 (0 : Int).toNat = F 25 0 from rfl]
  refine z_iconst (pc := 47) dX5_kind_47 ?_
  refine z_iadd (pc := 48) dX5_kind_48 ?_
  refine z_iast (pc := 49) rfl (by decide) (by omega) (by omega) dX5_kind_49 ?_
  refine z_hp zs_25 ?_
  refine z_aload_n (pc := 50) rfl dX5_kind_50 ?_
  refine zf_X5_13 (pc := 51) rfl rfl dX5_kind_51 ?_
  refine z_iconst (pc := 54) dX5_kind_54 ?_
  refine z_iald (pc := 55) rfl (by decide) (by omega) (by omega) dX5_kind_55 ?_
  refine z_iconst (pc := 56) dX5_kind_56 ?_
  refine z_isub (pc := 57) dX5_kind_57 ?_
  exact z_reti (pc := 58) rfl (by decide) (by decide) dX5_kind_58 (Or.inl ⟨by omega, congrArg (fun x => some (Value.int (iz x))) (show F 25 0 + 1 - 1 = F 25 0 by omega), rfl⟩)
theorem m_offer (rB : rb F) (h23 : F 23 0 = 0) {z y x : Int} (hz : ir z) (hy : ir y) (hx : ir x) : zM l g yX5_offer cX5_offer 5 (some .int) 2 0 0 [.ref (g.2.1 + 23), .int (iz z), .int (iz y), .int (iz x)] (zk g F L im c) (fun r h => ((F 27 0 < 6 ∧ 0 ≤ z ∧ z < F 25 0 ∧ 1 ≤ y ∧ y ≤ 40 ∧ 0 ≤ x ∧ x ≤ 100000) ∧ r = some (.int (iz (F 27 0))) ∧ h = zk g (va_up (va_up (va_up (va_up F 27 (vf_upd (F 27) 0 (F 27 0 + 1))) 28 (vf_upd (F 28) (F 27 0).toNat z)) 29 (vf_upd (F 29) (F 27 0).toNat y)) 30 (vf_upd (F 30) (F 27 0).toNat x)) L im c) ∨ (¬ (F 27 0 < 6 ∧ 0 ≤ z ∧ z < F 25 0 ∧ 1 ≤ y ∧ y ≤ 40 ∧ 0 ≤ x ∧ x ≤ 100000) ∧ r = some (.int (iz (-1))) ∧ h = zk g F L im c)) := by
  refine zM_of 1 (by decide) rfl ?_
  show zJ l g RX5 cX5_offer 5 (some .int) "offer" (zRm 2 0 0) 0 0 _ 0 0 0 [some (.ref (g.2.1 + 23)), some (.int (iz z)), some (.int (iz y)), some (.int (iz x)), none] [] _
  have h2 := rB.2.1
  have h3 := rB.2.2
  have no : ¬ (F 27 0 < 6 ∧ 0 ≤ z ∧ z < F 25 0 ∧ 1 ≤ y ∧ y ≤ 40 ∧ 0 ≤ x ∧ x ≤ 100000) → zJ l g RX5 cX5_offer 5 (some .int) "offer" (zRm 2 0 0) 0 0 (fun r h => ((F 27 0 < 6 ∧ 0 ≤ z ∧ z < F 25 0 ∧ 1 ≤ y ∧ y ≤ 40 ∧ 0 ≤ x ∧ x ≤ 100000) ∧ r = some (.int (iz (F 27 0))) ∧ h = zk g (va_up (va_up (va_up (va_up F 27 (vf_upd (F 27) 0 (F 27 0 + 1))) 28 (vf_upd (F 28) (F 27 0).toNat z)) 29 (vf_upd (F 29) (F 27 0).toNat y)) 30 (vf_upd (F 30) (F 27 0).toNat x)) L im c) ∨ (¬ (F 27 0 < 6 ∧ 0 ≤ z ∧ z < F 25 0 ∧ 1 ≤ y ∧ y ≤ 40 ∧ 0 ≤ x ∧ x ≤ 100000) ∧ r = some (.int (iz (-1))) ∧ h = zk g F L im c)) 0 0 44 [some (.ref (g.2.1 + 23)), some (.int (iz z)), some (.int (iz y)), some (.int (iz x)), none] [] (zk g F L im c) := by
    intro hno
    refine z_iconst (pc := 44) dX5_offer_44 ?_
    exact z_reti (pc := 45) rfl (by decide) (by decide) dX5_offer_45 (Or.inr ⟨hno, rfl, rfl⟩)
  refine z_aload_n (pc := 0) rfl dX5_offer_0 ?_
  refine z_iconst (pc := 1) dX5_offer_1 ?_
  refine zp_X5_72 (pc := 2) rfl (Nat.le_of_ble_eq_true rfl) dX5_offer_2 ?_
  refine z_hp (show _ = zk g F L im c from zs_23_0.trans (congrArg (fun f => zk g f L im c) (up23 h23))) ?_
  refine z_aload_n (pc := 5) rfl dX5_offer_5 ?_
  refine zf_X5_19 (pc := 6) rfl rfl dX5_offer_6 ?_
  refine z_iconst (pc := 9) dX5_offer_9 ?_
  refine z_iald (pc := 10) rfl (by decide) (by omega) (by omega) dX5_offer_10 ?_
  rw [show F 27 (0 : Int).toNat = F 27 0 from rfl]
  refine z_bipush (pc := 11) (by decide) dX5_offer_11 ?_
  refine z_icmp_eq (pc := 13) ⟨by omega, by omega⟩ ⟨by omega, by omega⟩ 44 (by decide) dX5_offer_13 (fun hq => ?_) (fun hq => ?_)
  · exact no (by omega)
  refine z_aload_n (pc := 16) rfl dX5_offer_16 ?_
  refine z_iload_n (pc := 17) rfl dX5_offer_17 ?_
  refine z_V1 (pc := 18) (g_isKind rB hz) lk_X5_84 iv_X5_isKind rfl rfl ⟨by decide, by decide⟩ (Nat.le_of_ble_eq_true rfl) ⟨by decide, by decide⟩ dX5_offer_18 (fun r h9 hq => ?_)
  obtain ⟨rfl, e9⟩ := hq
  rw [e9]
  clear e9 h9
  refine z_r1 ?_
  by_cases hc1 : 0 ≤ z ∧ z < F 25 0
  rotate_left
  · rw [if_neg hc1]
    refine z_if_eq (pc := 21) ⟨by omega, by omega⟩ 44 (by decide) dX5_offer_21 (fun hq => ?_) (fun hq => ?_)
    · exact no (by omega)
    omega
  rw [if_pos hc1]
  refine z_if_eq (pc := 21) ⟨by omega, by omega⟩ 44 (by decide) dX5_offer_21 (fun hq => ?_) (fun hq => ?_)
  · omega
  refine z_iload_n (pc := 24) rfl dX5_offer_24 ?_
  refine z_iconst (pc := 25) dX5_offer_25 ?_
  refine z_bipush (pc := 26) (by decide) dX5_offer_26 ?_
  refine z_S3 (pc := 28) (m_in (a := y) (b := 1) (e := 40) (by assumption) ⟨by omega, by omega⟩ ⟨by omega, by omega⟩) lk_X5_80 st_X5_in ⟨by decide, by decide⟩ (Nat.le_of_ble_eq_true rfl) ⟨by decide, by decide⟩ dX5_offer_28 (fun r h9 hq => ?_)
  obtain ⟨rfl, e9⟩ := hq
  rw [e9]
  clear e9 h9
  refine z_r1 ?_
  by_cases hc2 : 1 ≤ y ∧ y ≤ 40
  rotate_left
  · rw [if_neg hc2]
    refine z_if_eq (pc := 31) ⟨by omega, by omega⟩ 44 (by decide) dX5_offer_31 (fun hq => ?_) (fun hq => ?_)
    · exact no (by omega)
    omega
  rw [if_pos hc2]
  refine z_if_eq (pc := 31) ⟨by omega, by omega⟩ 44 (by decide) dX5_offer_31 (fun hq => ?_) (fun hq => ?_)
  · omega
  refine z_iload_n (pc := 34) rfl dX5_offer_34 ?_
  refine z_iconst (pc := 35) dX5_offer_35 ?_
  refine z_ldc (pc := 36) kc_X5_88 dX5_offer_36 ?_
  refine z_S3 (pc := 38) (m_in (a := x) (b := 0) (e := 100000) (by assumption) ⟨by omega, by omega⟩ ⟨by omega, by omega⟩) lk_X5_80 st_X5_in ⟨by decide, by decide⟩ (Nat.le_of_ble_eq_true rfl) ⟨by decide, by decide⟩ dX5_offer_38 (fun r h9 hq => ?_)
  obtain ⟨rfl, e9⟩ := hq
  rw [e9]
  clear e9 h9
  refine z_r1 ?_
  by_cases hc3 : 0 ≤ x ∧ x ≤ 100000
  rotate_left
  · rw [if_neg hc3]
    refine z_if_ne (pc := 41) ⟨by omega, by omega⟩ 46 (by decide) dX5_offer_41 (fun hq => ?_) (fun hq => ?_)
    · omega
    exact no (by omega)
  rw [if_pos hc3]
  refine z_if_ne (pc := 41) ⟨by omega, by omega⟩ 46 (by decide) dX5_offer_41 (fun hq => ?_) (fun hq => ?_)
  rotate_left
  · omega
  refine z_aload_n (pc := 46) rfl dX5_offer_46 ?_
  refine zf_X5_19 (pc := 47) rfl rfl dX5_offer_47 ?_
  refine z_iconst (pc := 50) dX5_offer_50 ?_
  refine z_iald (pc := 51) rfl (by decide) (by omega) (by omega) dX5_offer_51 ?_
  rw [show F 27 (0 : Int).toNat = F 27 0 from rfl]
  refine z_is4 (pc := 52) (by decide) rfl dX5_offer_52 ?_
  refine z_aload_n (pc := 54) rfl dX5_offer_54 ?_
  refine zf_X5_19 (pc := 55) rfl rfl dX5_offer_55 ?_
  refine z_iconst (pc := 58) dX5_offer_58 ?_
  refine z_dup2 (pc := 59) rfl rfl dX5_offer_59 ?_
  refine z_iald (pc := 60) rfl (by decide) (by omega) (by omega) dX5_offer_60 ?_
  rw [show F 27 (0 : Int).toNat = F 27 0 from rfl]
  refine z_iconst (pc := 61) dX5_offer_61 ?_
  refine z_iadd (pc := 62) dX5_offer_62 ?_
  refine z_iast (pc := 63) rfl (by decide) (by omega) (by omega) dX5_offer_63 ?_
  refine z_hp zs_27 ?_
  refine z_aload_n (pc := 64) rfl dX5_offer_64 ?_
  refine zf_X5_22 (pc := 65) rfl rfl dX5_offer_65 ?_
  refine z_iload (pc := 68) rfl dX5_offer_68 ?_
  refine z_iload_n (pc := 70) rfl dX5_offer_70 ?_
  refine z_iast (pc := 71) rfl (by decide) (by omega) (by omega) dX5_offer_71 ?_
  refine z_hp zs_28 ?_
  refine z_aload_n (pc := 72) rfl dX5_offer_72 ?_
  refine zf_X5_25 (pc := 73) rfl rfl dX5_offer_73 ?_
  refine z_iload (pc := 76) rfl dX5_offer_76 ?_
  refine z_iload_n (pc := 78) rfl dX5_offer_78 ?_
  refine z_iast (pc := 79) rfl (by decide) (by omega) (by omega) dX5_offer_79 ?_
  refine z_hp zs_29 ?_
  refine z_aload_n (pc := 80) rfl dX5_offer_80 ?_
  refine zf_X5_28 (pc := 81) rfl rfl dX5_offer_81 ?_
  refine z_iload (pc := 84) rfl dX5_offer_84 ?_
  refine z_iload_n (pc := 86) rfl dX5_offer_86 ?_
  refine z_iast (pc := 87) rfl (by decide) (by omega) (by omega) dX5_offer_87 ?_
  refine z_hp zs_30 ?_
  refine z_iload (pc := 88) rfl dX5_offer_88 ?_
  exact z_reti (pc := 90) rfl (by decide) (by decide) dX5_offer_90 (Or.inl ⟨by omega, rfl, rfl⟩)
theorem m_reprice (rB : rb F) (h23 : F 23 0 = 0) {z y : Int} (hz : ir z) (hy : ir y) : zM l g yX5_reprice cX5_reprice 3 (some .boolean) 2 0 0 [.ref (g.2.1 + 23), .int (iz z), .int (iz y)] (zk g F L im c) (fun r h => ((0 ≤ z ∧ z < F 27 0 ∧ 0 ≤ y ∧ y ≤ 100000) ∧ r = some (.int (iz 1)) ∧ h = zk g (va_up F 30 (vf_upd (F 30) z.toNat y)) L im c) ∨ (¬ (0 ≤ z ∧ z < F 27 0 ∧ 0 ≤ y ∧ y ≤ 100000) ∧ r = some (.int (iz 0)) ∧ h = zk g F L im c)) := by
  refine zM_of 0 (by decide) rfl ?_
  show zJ l g RX5 cX5_reprice 3 (some .boolean) "reprice" (zRm 2 0 0) 0 0 _ 0 0 0 [some (.ref (g.2.1 + 23)), some (.int (iz z)), some (.int (iz y))] [] _
  have h3 := rB.2.2
  have no : ¬ (0 ≤ z ∧ z < F 27 0 ∧ 0 ≤ y ∧ y ≤ 100000) → zJ l g RX5 cX5_reprice 3 (some .boolean) "reprice" (zRm 2 0 0) 0 0 (fun r h => ((0 ≤ z ∧ z < F 27 0 ∧ 0 ≤ y ∧ y ≤ 100000) ∧ r = some (.int (iz 1)) ∧ h = zk g (va_up F 30 (vf_upd (F 30) z.toNat y)) L im c) ∨ (¬ (0 ≤ z ∧ z < F 27 0 ∧ 0 ≤ y ∧ y ≤ 100000) ∧ r = some (.int (iz 0)) ∧ h = zk g F L im c)) 0 0 23 [some (.ref (g.2.1 + 23)), some (.int (iz z)), some (.int (iz y))] [] (zk g F L im c) := by
    intro hno
    refine z_iconst (pc := 23) dX5_reprice_23 ?_
    exact z_retz (pc := 24) rfl (Or.inl rfl) (by decide) (by decide) dX5_reprice_24 (Or.inr ⟨hno, rfl, rfl⟩)
  refine z_aload_n (pc := 0) rfl dX5_reprice_0 ?_
  refine z_iconst (pc := 1) dX5_reprice_1 ?_
  refine zp_X5_72 (pc := 2) rfl (Nat.le_of_ble_eq_true rfl) dX5_reprice_2 ?_
  refine z_hp (show _ = zk g F L im c from zs_23_0.trans (congrArg (fun f => zk g f L im c) (up23 h23))) ?_
  refine z_aload_n (pc := 5) rfl dX5_reprice_5 ?_
  refine z_iload_n (pc := 6) rfl dX5_reprice_6 ?_
  refine z_V1 (pc := 7) (g_isOffer rB hz) lk_X5_89 iv_X5_isOffer rfl rfl ⟨by decide, by decide⟩ (Nat.le_of_ble_eq_true rfl) ⟨by decide, by decide⟩ dX5_reprice_7 (fun r h9 hq => ?_)
  obtain ⟨rfl, e9⟩ := hq
  rw [e9]
  clear e9 h9
  refine z_r1 ?_
  by_cases hc1 : 0 ≤ z ∧ z < F 27 0
  rotate_left
  · rw [if_neg hc1]
    refine z_if_eq (pc := 10) ⟨by omega, by omega⟩ 23 (by decide) dX5_reprice_10 (fun hq => ?_) (fun hq => ?_)
    · exact no (by omega)
    omega
  rw [if_pos hc1]
  refine z_if_eq (pc := 10) ⟨by omega, by omega⟩ 23 (by decide) dX5_reprice_10 (fun hq => ?_) (fun hq => ?_)
  · omega
  refine z_iload_n (pc := 13) rfl dX5_reprice_13 ?_
  refine z_iconst (pc := 14) dX5_reprice_14 ?_
  refine z_ldc (pc := 15) kc_X5_88 dX5_reprice_15 ?_
  refine z_S3 (pc := 17) (m_in (a := y) (b := 0) (e := 100000) (by assumption) ⟨by omega, by omega⟩ ⟨by omega, by omega⟩) lk_X5_80 st_X5_in ⟨by decide, by decide⟩ (Nat.le_of_ble_eq_true rfl) ⟨by decide, by decide⟩ dX5_reprice_17 (fun r h9 hq => ?_)
  obtain ⟨rfl, e9⟩ := hq
  rw [e9]
  clear e9 h9
  refine z_r1 ?_
  by_cases hc3 : 0 ≤ y ∧ y ≤ 100000
  rotate_left
  · rw [if_neg hc3]
    refine z_if_ne (pc := 20) ⟨by omega, by omega⟩ 25 (by decide) dX5_reprice_20 (fun hq => ?_) (fun hq => ?_)
    · omega
    exact no (by omega)
  rw [if_pos hc3]
  refine z_if_ne (pc := 20) ⟨by omega, by omega⟩ 25 (by decide) dX5_reprice_20 (fun hq => ?_) (fun hq => ?_)
  rotate_left
  · omega
  refine z_aload_n (pc := 25) rfl dX5_reprice_25 ?_
  refine zf_X5_28 (pc := 26) rfl rfl dX5_reprice_26 ?_
  refine z_iload_n (pc := 29) rfl dX5_reprice_29 ?_
  refine z_iload_n (pc := 30) rfl dX5_reprice_30 ?_
  refine z_iast (pc := 31) rfl (by decide) (by omega) (by omega) dX5_reprice_31 ?_
  refine z_hp zs_30 ?_
  refine z_iconst (pc := 32) dX5_reprice_32 ?_
  exact z_retz (pc := 33) rfl (Or.inr rfl) (by decide) (by decide) dX5_reprice_33 (Or.inl ⟨by omega, rfl, rfl⟩)
theorem m_need (rB : rb F) (h23 : F 23 0 = 0) {o z y x : Int} (ho : ir o) (hz : ir z) (hy : ir y) (hx : ir x) : zM l g yX5_need cX5_need 5 (some .boolean) 2 0 0 [.ref (g.2.1 + 23), .int (iz o), .int (iz z), .int (iz y), .int (iz x)] (zk g F L im c) (fun r h => ((0 ≤ o ∧ o ≤ 3 ∧ 0 ≤ z ∧ z < F 25 0 ∧ 0 ≤ y ∧ y < F 24 0 ∧ 0 ≤ x ∧ x ≤ 9) ∧ r = some (.int (iz 1)) ∧ h = zk g (va_up F 31 (vf_upd (F 31) (40 * (3 * o + z) + y).toNat x)) L im c) ∨ (¬ (0 ≤ o ∧ o ≤ 3 ∧ 0 ≤ z ∧ z < F 25 0 ∧ 0 ≤ y ∧ y < F 24 0 ∧ 0 ≤ x ∧ x ≤ 9) ∧ r = some (.int (iz 0)) ∧ h = zk g F L im c)) := by
  refine zM_of 0 (by decide) rfl ?_
  show zJ l g RX5 cX5_need 5 (some .boolean) "need" (zRm 2 0 0) 0 0 _ 0 0 0 [some (.ref (g.2.1 + 23)), some (.int (iz o)), some (.int (iz z)), some (.int (iz y)), some (.int (iz x))] [] _
  have h1 := rB.1
  have h2 := rB.2.1
  have no : ¬ (0 ≤ o ∧ o ≤ 3 ∧ 0 ≤ z ∧ z < F 25 0 ∧ 0 ≤ y ∧ y < F 24 0 ∧ 0 ≤ x ∧ x ≤ 9) → zJ l g RX5 cX5_need 5 (some .boolean) "need" (zRm 2 0 0) 0 0 (fun r h => ((0 ≤ o ∧ o ≤ 3 ∧ 0 ≤ z ∧ z < F 25 0 ∧ 0 ≤ y ∧ y < F 24 0 ∧ 0 ≤ x ∧ x ≤ 9) ∧ r = some (.int (iz 1)) ∧ h = zk g (va_up F 31 (vf_upd (F 31) (40 * (3 * o + z) + y).toNat x)) L im c) ∨ (¬ (0 ≤ o ∧ o ≤ 3 ∧ 0 ≤ z ∧ z < F 25 0 ∧ 0 ≤ y ∧ y < F 24 0 ∧ 0 ≤ x ∧ x ≤ 9) ∧ r = some (.int (iz 0)) ∧ h = zk g F L im c)) 0 0 41 [some (.ref (g.2.1 + 23)), some (.int (iz o)), some (.int (iz z)), some (.int (iz y)), some (.int (iz x))] [] (zk g F L im c) := by
    intro hno
    refine z_iconst (pc := 41) dX5_need_41 ?_
    exact z_retz (pc := 42) rfl (Or.inl rfl) (by decide) (by decide) dX5_need_42 (Or.inr ⟨hno, rfl, rfl⟩)
  refine z_aload_n (pc := 0) rfl dX5_need_0 ?_
  refine z_iconst (pc := 1) dX5_need_1 ?_
  refine zp_X5_72 (pc := 2) rfl (Nat.le_of_ble_eq_true rfl) dX5_need_2 ?_
  refine z_hp (show _ = zk g F L im c from zs_23_0.trans (congrArg (fun f => zk g f L im c) (up23 h23))) ?_
  refine z_iload_n (pc := 5) rfl dX5_need_5 ?_
  refine z_iconst (pc := 6) dX5_need_6 ?_
  refine z_iconst (pc := 7) dX5_need_7 ?_
  refine z_S3 (pc := 8) (m_in (a := o) (b := 0) (e := 3) (by assumption) ⟨by omega, by omega⟩ ⟨by omega, by omega⟩) lk_X5_80 st_X5_in ⟨by decide, by decide⟩ (Nat.le_of_ble_eq_true rfl) ⟨by decide, by decide⟩ dX5_need_8 (fun r h9 hq => ?_)
  obtain ⟨rfl, e9⟩ := hq
  rw [e9]
  clear e9 h9
  refine z_r1 ?_
  by_cases hc0 : 0 ≤ o ∧ o ≤ 3
  rotate_left
  · rw [if_neg hc0]
    refine z_if_eq (pc := 11) ⟨by omega, by omega⟩ 41 (by decide) dX5_need_11 (fun hq => ?_) (fun hq => ?_)
    · exact no (by omega)
    omega
  rw [if_pos hc0]
  refine z_if_eq (pc := 11) ⟨by omega, by omega⟩ 41 (by decide) dX5_need_11 (fun hq => ?_) (fun hq => ?_)
  · omega
  refine z_aload_n (pc := 14) rfl dX5_need_14 ?_
  refine z_iload_n (pc := 15) rfl dX5_need_15 ?_
  refine z_V1 (pc := 16) (g_isKind rB hz) lk_X5_84 iv_X5_isKind rfl rfl ⟨by decide, by decide⟩ (Nat.le_of_ble_eq_true rfl) ⟨by decide, by decide⟩ dX5_need_16 (fun r h9 hq => ?_)
  obtain ⟨rfl, e9⟩ := hq
  rw [e9]
  clear e9 h9
  refine z_r1 ?_
  by_cases hc1 : 0 ≤ z ∧ z < F 25 0
  rotate_left
  · rw [if_neg hc1]
    refine z_if_eq (pc := 19) ⟨by omega, by omega⟩ 41 (by decide) dX5_need_19 (fun hq => ?_) (fun hq => ?_)
    · exact no (by omega)
    omega
  rw [if_pos hc1]
  refine z_if_eq (pc := 19) ⟨by omega, by omega⟩ 41 (by decide) dX5_need_19 (fun hq => ?_) (fun hq => ?_)
  · omega
  refine z_aload_n (pc := 22) rfl dX5_need_22 ?_
  refine z_iload_n (pc := 23) rfl dX5_need_23 ?_
  refine z_V1 (pc := 24) (g_isHour rB hy) lk_X5_92 iv_X5_isHour rfl rfl ⟨by decide, by decide⟩ (Nat.le_of_ble_eq_true rfl) ⟨by decide, by decide⟩ dX5_need_24 (fun r h9 hq => ?_)
  obtain ⟨rfl, e9⟩ := hq
  rw [e9]
  clear e9 h9
  refine z_r1 ?_
  by_cases hc2 : 0 ≤ y ∧ y < F 24 0
  rotate_left
  · rw [if_neg hc2]
    refine z_if_eq (pc := 27) ⟨by omega, by omega⟩ 41 (by decide) dX5_need_27 (fun hq => ?_) (fun hq => ?_)
    · exact no (by omega)
    omega
  rw [if_pos hc2]
  refine z_if_eq (pc := 27) ⟨by omega, by omega⟩ 41 (by decide) dX5_need_27 (fun hq => ?_) (fun hq => ?_)
  · omega
  refine z_iload (pc := 30) rfl dX5_need_30 ?_
  refine z_iconst (pc := 32) dX5_need_32 ?_
  refine z_bipush (pc := 33) (by decide) dX5_need_33 ?_
  refine z_S3 (pc := 35) (m_in (a := x) (b := 0) (e := 9) (by assumption) ⟨by omega, by omega⟩ ⟨by omega, by omega⟩) lk_X5_80 st_X5_in ⟨by decide, by decide⟩ (Nat.le_of_ble_eq_true rfl) ⟨by decide, by decide⟩ dX5_need_35 (fun r h9 hq => ?_)
  obtain ⟨rfl, e9⟩ := hq
  rw [e9]
  clear e9 h9
  refine z_r1 ?_
  by_cases hc3 : 0 ≤ x ∧ x ≤ 9
  rotate_left
  · rw [if_neg hc3]
    refine z_if_ne (pc := 38) ⟨by omega, by omega⟩ 43 (by decide) dX5_need_38 (fun hq => ?_) (fun hq => ?_)
    · omega
    exact no (by omega)
  rw [if_pos hc3]
  refine z_if_ne (pc := 38) ⟨by omega, by omega⟩ 43 (by decide) dX5_need_38 (fun hq => ?_) (fun hq => ?_)
  rotate_left
  · omega
  refine z_aload_n (pc := 43) rfl dX5_need_43 ?_
  refine zf_X5_31 (pc := 44) rfl rfl dX5_need_44 ?_
  refine z_iload_n (pc := 47) rfl dX5_need_47 ?_
  refine z_iload_n (pc := 48) rfl dX5_need_48 ?_
  refine z_iload_n (pc := 49) rfl dX5_need_49 ?_
  refine z_S3 (pc := 50) (m_cell (a := o) (b := z) (e := y)) lk_X5_95 st_X5_cell ⟨by decide, by decide⟩ (Nat.le_of_ble_eq_true rfl) ⟨by decide, by decide⟩ dX5_need_50 (fun r h9 hq => ?_)
  obtain ⟨rfl, e9⟩ := hq
  rw [e9]
  clear e9 h9
  refine z_r1 ?_
  refine z_iload (pc := 53) rfl dX5_need_53 ?_
  refine z_iast (pc := 55) rfl (by decide) (by omega) (by omega) dX5_need_55 ?_
  refine z_hp zs_31 ?_
  refine z_iconst (pc := 56) dX5_need_56 ?_
  exact z_retz (pc := 57) rfl (Or.inr rfl) (by decide) (by decide) dX5_need_57 (Or.inl ⟨by omega, rfl, rfl⟩)
theorem m_buy (rB : rb F) (h23 : F 23 0 = 0) {z y x : Int} (hz : ir z) (hy : ir y) (hx : ir x) : zM l g yX5_buy cX5_buy 4 (some .boolean) 2 0 0 [.ref (g.2.1 + 23), .int (iz z), .int (iz y), .int (iz x)] (zk g F L im c) (fun r h => ((0 ≤ z ∧ z < F 27 0 ∧ 0 ≤ y ∧ y < F 24 0 ∧ 0 ≤ x ∧ x ≤ 60) ∧ r = some (.int (iz 1)) ∧ h = zk g (va_up F 32 (vf_upd (F 32) (40 * z + y).toNat x)) L im c) ∨ (¬ (0 ≤ z ∧ z < F 27 0 ∧ 0 ≤ y ∧ y < F 24 0 ∧ 0 ≤ x ∧ x ≤ 60) ∧ r = some (.int (iz 0)) ∧ h = zk g F L im c)) := by
  refine zM_of 0 (by decide) rfl ?_
  show zJ l g RX5 cX5_buy 4 (some .boolean) "buy" (zRm 2 0 0) 0 0 _ 0 0 0 [some (.ref (g.2.1 + 23)), some (.int (iz z)), some (.int (iz y)), some (.int (iz x))] [] _
  have h1 := rB.1
  have h2 := rB.2.2
  have no : ¬ (0 ≤ z ∧ z < F 27 0 ∧ 0 ≤ y ∧ y < F 24 0 ∧ 0 ≤ x ∧ x ≤ 60) → zJ l g RX5 cX5_buy 4 (some .boolean) "buy" (zRm 2 0 0) 0 0 (fun r h => ((0 ≤ z ∧ z < F 27 0 ∧ 0 ≤ y ∧ y < F 24 0 ∧ 0 ≤ x ∧ x ≤ 60) ∧ r = some (.int (iz 1)) ∧ h = zk g (va_up F 32 (vf_upd (F 32) (40 * z + y).toNat x)) L im c) ∨ (¬ (0 ≤ z ∧ z < F 27 0 ∧ 0 ≤ y ∧ y < F 24 0 ∧ 0 ≤ x ∧ x ≤ 60) ∧ r = some (.int (iz 0)) ∧ h = zk g F L im c)) 0 0 31 [some (.ref (g.2.1 + 23)), some (.int (iz z)), some (.int (iz y)), some (.int (iz x))] [] (zk g F L im c) := by
    intro hno
    refine z_iconst (pc := 31) dX5_buy_31 ?_
    exact z_retz (pc := 32) rfl (Or.inl rfl) (by decide) (by decide) dX5_buy_32 (Or.inr ⟨hno, rfl, rfl⟩)
  refine z_aload_n (pc := 0) rfl dX5_buy_0 ?_
  refine z_iconst (pc := 1) dX5_buy_1 ?_
  refine zp_X5_72 (pc := 2) rfl (Nat.le_of_ble_eq_true rfl) dX5_buy_2 ?_
  refine z_hp (show _ = zk g F L im c from zs_23_0.trans (congrArg (fun f => zk g f L im c) (up23 h23))) ?_
  refine z_aload_n (pc := 5) rfl dX5_buy_5 ?_
  refine z_iload_n (pc := 6) rfl dX5_buy_6 ?_
  refine z_V1 (pc := 7) (g_isOffer rB hz) lk_X5_89 iv_X5_isOffer rfl rfl ⟨by decide, by decide⟩ (Nat.le_of_ble_eq_true rfl) ⟨by decide, by decide⟩ dX5_buy_7 (fun r h9 hq => ?_)
  obtain ⟨rfl, e9⟩ := hq
  rw [e9]
  clear e9 h9
  refine z_r1 ?_
  by_cases hc1 : 0 ≤ z ∧ z < F 27 0
  rotate_left
  · rw [if_neg hc1]
    refine z_if_eq (pc := 10) ⟨by omega, by omega⟩ 31 (by decide) dX5_buy_10 (fun hq => ?_) (fun hq => ?_)
    · exact no (by omega)
    omega
  rw [if_pos hc1]
  refine z_if_eq (pc := 10) ⟨by omega, by omega⟩ 31 (by decide) dX5_buy_10 (fun hq => ?_) (fun hq => ?_)
  · omega
  refine z_aload_n (pc := 13) rfl dX5_buy_13 ?_
  refine z_iload_n (pc := 14) rfl dX5_buy_14 ?_
  refine z_V1 (pc := 15) (g_isHour rB hy) lk_X5_92 iv_X5_isHour rfl rfl ⟨by decide, by decide⟩ (Nat.le_of_ble_eq_true rfl) ⟨by decide, by decide⟩ dX5_buy_15 (fun r h9 hq => ?_)
  obtain ⟨rfl, e9⟩ := hq
  rw [e9]
  clear e9 h9
  refine z_r1 ?_
  by_cases hc2 : 0 ≤ y ∧ y < F 24 0
  rotate_left
  · rw [if_neg hc2]
    refine z_if_eq (pc := 18) ⟨by omega, by omega⟩ 31 (by decide) dX5_buy_18 (fun hq => ?_) (fun hq => ?_)
    · exact no (by omega)
    omega
  rw [if_pos hc2]
  refine z_if_eq (pc := 18) ⟨by omega, by omega⟩ 31 (by decide) dX5_buy_18 (fun hq => ?_) (fun hq => ?_)
  · omega
  refine z_iload_n (pc := 21) rfl dX5_buy_21 ?_
  refine z_iconst (pc := 22) dX5_buy_22 ?_
  refine z_bipush (pc := 23) (by decide) dX5_buy_23 ?_
  refine z_S3 (pc := 25) (m_in (a := x) (b := 0) (e := 60) (by assumption) ⟨by omega, by omega⟩ ⟨by omega, by omega⟩) lk_X5_80 st_X5_in ⟨by decide, by decide⟩ (Nat.le_of_ble_eq_true rfl) ⟨by decide, by decide⟩ dX5_buy_25 (fun r h9 hq => ?_)
  obtain ⟨rfl, e9⟩ := hq
  rw [e9]
  clear e9 h9
  refine z_r1 ?_
  by_cases hc3 : 0 ≤ x ∧ x ≤ 60
  rotate_left
  · rw [if_neg hc3]
    refine z_if_ne (pc := 28) ⟨by omega, by omega⟩ 33 (by decide) dX5_buy_28 (fun hq => ?_) (fun hq => ?_)
    · omega
    exact no (by omega)
  rw [if_pos hc3]
  refine z_if_ne (pc := 28) ⟨by omega, by omega⟩ 33 (by decide) dX5_buy_28 (fun hq => ?_) (fun hq => ?_)
  rotate_left
  · omega
  refine z_aload_n (pc := 33) rfl dX5_buy_33 ?_
  refine zf_X5_34 (pc := 34) rfl rfl dX5_buy_34 ?_
  refine z_bipush (pc := 37) (by decide) dX5_buy_37 ?_
  refine z_iload_n (pc := 39) rfl dX5_buy_39 ?_
  refine z_imul (pc := 40) dX5_buy_40 ?_
  refine z_iload_n (pc := 41) rfl dX5_buy_41 ?_
  refine z_iadd (pc := 42) dX5_buy_42 ?_
  refine z_iload_n (pc := 43) rfl dX5_buy_43 ?_
  refine z_iast (pc := 44) rfl (by decide) (by omega) (by omega) dX5_buy_44 ?_
  refine z_hp zs_32 ?_
  refine z_iconst (pc := 45) dX5_buy_45 ?_
  exact z_retz (pc := 46) rfl (Or.inr rfl) (by decide) (by decide) dX5_buy_46 (Or.inl ⟨by omega, rfl, rfl⟩)
theorem m_clearKind (rB : rb F) (hof : ∀ j, j < 6 → 0 ≤ F 28 j ∧ F 28 j ≤ 2) {k : Nat} (hk : k < 3) : zM l g yX5_clearKind cX5_clearKind 4 none 0 0 0 [.ref (g.2.1 + 23), .int (iz k)] (zk g F L im c) (fun r h => r = none ∧ h = zk g (va_up F 32 (nobR F k (F 27 0).toNat)) L im c) := by
  refine zM_of 2 (by decide) rfl ?_
  show zJ l g RX5 cX5_clearKind 4 none "clearKind" (zRm 0 0 0) 0 0 _ 0 0 0 [some (.ref (g.2.1 + 23)), some (.int (iz k)), none, none] [] _
  have h3 := rB.2.2
  have lpO : ∀ (j o : Nat) (y : Option Value), o + j = (F 27 0).toNat → zJ l g RX5 cX5_clearKind 4 none "clearKind" (zRm 0 0 0) 0 0 (fun r h => r = none ∧ h = zk g (va_up F 32 (nobR F k (F 27 0).toNat)) L im c) 0 0 2 [some (.ref (g.2.1 + 23)), some (.int (iz k)), some (.int (iz o)), y] [] (zk g (va_up F 32 (nobR F k o)) L im c) := by
    intro j
    induction j with
    | zero =>
      intro o y ho
      refine z_iload_n (pc := 2) rfl dX5_clearKind_2 ?_
      refine z_aload_n (pc := 3) rfl dX5_clearKind_3 ?_
      refine zf_X5_19 (pc := 4) rfl rfl dX5_clearKind_4 ?_
      refine z_iconst (pc := 7) dX5_clearKind_7 ?_
      refine z_iald (pc := 8) rfl (by decide) (by omega) (by omega) dX5_clearKind_8 ?_
      rw [show va_up F 32 (nobR F k o) 27 (0 : Int).toNat = F 27 0 from rfl]
      refine z_icmp_ge (pc := 9) ⟨by omega, by omega⟩ ⟨by omega, by omega⟩ 54 (by decide) dX5_clearKind_9 (fun hq => ?_) (fun hq => ?_)
      · exact z_retv (pc := 54) rfl (by decide) (by decide) dX5_clearKind_54 ⟨rfl, by rw [show o = (F 27 0).toNat by omega]⟩
      omega
    | succ j ih =>
      intro o y ho
      have ro := hof o (by omega)
      have nx : ∀ (y : Option Value), zJ l g RX5 cX5_clearKind 4 none "clearKind" (zRm 0 0 0) 0 0 (fun r h => r = none ∧ h = zk g (va_up F 32 (nobR F k (F 27 0).toNat)) L im c) 0 0 48 [some (.ref (g.2.1 + 23)), some (.int (iz k)), some (.int (iz o)), y] [] (zk g (va_up F 32 (nobR F k (o + 1))) L im c) := by
        intro y
        refine z_ii2 (pc := 48) (by decide) rfl dX5_clearKind_48 ?_
        refine z_goto (pc := 51) 2 (by decide) dX5_clearKind_51 ?_
        exact ih (o + 1) _ (by omega)
      refine z_iload_n (pc := 2) rfl dX5_clearKind_2 ?_
      refine z_aload_n (pc := 3) rfl dX5_clearKind_3 ?_
      refine zf_X5_19 (pc := 4) rfl rfl dX5_clearKind_4 ?_
      refine z_iconst (pc := 7) dX5_clearKind_7 ?_
      refine z_iald (pc := 8) rfl (by decide) (by omega) (by omega) dX5_clearKind_8 ?_
      rw [show va_up F 32 (nobR F k o) 27 (0 : Int).toNat = F 27 0 from rfl]
      refine z_icmp_ge (pc := 9) ⟨by omega, by omega⟩ ⟨by omega, by omega⟩ 54 (by decide) dX5_clearKind_9 (fun hq => ?_) (fun hq => ?_)
      · omega
      refine z_iconst (pc := 12) dX5_clearKind_12 ?_
      refine z_is3 (pc := 13) (by decide) rfl dX5_clearKind_13 ?_
      by_cases hko : F 28 o = k
      · have inn : ∀ (j2 t : Nat), t + j2 = 40 → zJ l g RX5 cX5_clearKind 4 none "clearKind" (zRm 0 0 0) 0 0 (fun r h => r = none ∧ h = zk g (va_up F 32 (nobR F k (F 27 0).toNat)) L im c) 0 0 14 [some (.ref (g.2.1 + 23)), some (.int (iz k)), some (.int (iz o)), some (.int (iz t))] [] (zk g (va_up F 32 (fl (nobR F k o) (40 * o) (40 * o + t) 0)) L im c) := by
          intro j2
          induction j2 with
          | zero =>
            intro t ht
            refine z_iload_n (pc := 14) rfl dX5_clearKind_14 ?_
            refine z_bipush (pc := 15) (by decide) dX5_clearKind_15 ?_
            refine z_icmp_ge (pc := 17) ⟨by omega, by omega⟩ ⟨by omega, by omega⟩ 48 (by decide) dX5_clearKind_17 (fun hq => ?_) (fun hq => ?_)
            · rw [show t = 40 by omega, nobR_y F hko]
              exact nx _
            omega
          | succ j2 ih2 =>
            intro t ht
            refine z_iload_n (pc := 14) rfl dX5_clearKind_14 ?_
            refine z_bipush (pc := 15) (by decide) dX5_clearKind_15 ?_
            refine z_icmp_ge (pc := 17) ⟨by omega, by omega⟩ ⟨by omega, by omega⟩ 48 (by decide) dX5_clearKind_17 (fun hq => ?_) (fun hq => ?_)
            · omega
            refine z_aload_n (pc := 20) rfl dX5_clearKind_20 ?_
            refine zf_X5_22 (pc := 21) rfl rfl dX5_clearKind_21 ?_
            refine z_iload_n (pc := 24) rfl dX5_clearKind_24 ?_
            refine z_iald (pc := 25) rfl (by decide) (by omega) (by omega) dX5_clearKind_25 ?_
            rw [Int.toNat_natCast, show va_up F 32 (fl (nobR F k o) (40 * o) (40 * o + t) 0) 28 o = F 28 o from rfl]
            refine z_iload_n (pc := 26) rfl dX5_clearKind_26 ?_
            refine z_icmp_ne (pc := 27) ⟨by omega, by omega⟩ ⟨by omega, by omega⟩ 48 (by decide) dX5_clearKind_27 (fun hq => ?_) (fun hq => ?_)
            · omega
            refine z_aload_n (pc := 30) rfl dX5_clearKind_30 ?_
            refine zf_X5_34 (pc := 31) rfl rfl dX5_clearKind_31 ?_
            refine z_bipush (pc := 34) (by decide) dX5_clearKind_34 ?_
            refine z_iload_n (pc := 36) rfl dX5_clearKind_36 ?_
            refine z_imul (pc := 37) dX5_clearKind_37 ?_
            refine z_iload_n (pc := 38) rfl dX5_clearKind_38 ?_
            refine z_iadd (pc := 39) dX5_clearKind_39 ?_
            refine z_iconst (pc := 40) dX5_clearKind_40 ?_
            refine z_iast (pc := 41) rfl (by decide) (by omega) (by omega) dX5_clearKind_41 ?_
            refine z_hp zs_32 ?_
            rw [show (40 * (o : Int) + t).toNat = 40 * o + t by omega, up_up]
            refine z_hp (congrArg (fun f => zk g (va_up F 32 f) L im c) (fl_s (nobR F k o) (a := 40 * o) (b := 40 * o + t) 0 (by omega))) ?_
            refine z_ii3 (pc := 42) (by decide) rfl dX5_clearKind_42 ?_
            refine z_goto (pc := 45) 14 (by decide) dX5_clearKind_45 ?_
            exact ih2 (t + 1) (by omega)
        have := inn 40 0 (by omega)
        rw [show fl (nobR F k o) (40 * o) (40 * o + 0) 0 = nobR F k o from fl_0 _ _ _] at this
        exact this
      · refine z_iload_n (pc := 14) rfl dX5_clearKind_14 ?_
        refine z_bipush (pc := 15) (by decide) dX5_clearKind_15 ?_
        refine z_icmp_ge (pc := 17) ⟨by omega, by omega⟩ ⟨by omega, by omega⟩ 48 (by decide) dX5_clearKind_17 (fun hq => ?_) (fun hq => ?_)
        · omega
        refine z_aload_n (pc := 20) rfl dX5_clearKind_20 ?_
        refine zf_X5_22 (pc := 21) rfl rfl dX5_clearKind_21 ?_
        refine z_iload_n (pc := 24) rfl dX5_clearKind_24 ?_
        refine z_iald (pc := 25) rfl (by decide) (by omega) (by omega) dX5_clearKind_25 ?_
        rw [Int.toNat_natCast, show va_up F 32 (nobR F k o) 28 o = F 28 o from rfl]
        refine z_iload_n (pc := 26) rfl dX5_clearKind_26 ?_
        refine z_icmp_ne (pc := 27) ⟨by omega, by omega⟩ ⟨by omega, by omega⟩ 48 (by decide) dX5_clearKind_27 (fun hq => ?_) (fun hq => ?_)
        · rw [nobR_n F hko]
          exact nx _
        exact absurd (by assumption) hko
  refine z_iconst (pc := 0) dX5_clearKind_0 ?_
  refine z_is2 (pc := 1) (by decide) rfl dX5_clearKind_1 ?_
  have := lpO (F 27 0).toNat 0 none (by omega)
  rw [nobR_0, up_id] at this
  exact this
theorem m_clear (rB : rb F) (hof : ∀ j, j < 6 → 0 ≤ F 28 j ∧ F 28 j ≤ 2) (h23 : F 23 0 = 0) {z : Int} (hz : ir z) : zM l g yX5_clear cX5_clear 2 (some .boolean) 2 0 0 [.ref (g.2.1 + 23), .int (iz z)] (zk g F L im c) (fun r h => ((0 ≤ z ∧ z < F 25 0) ∧ r = some (.int (iz 1)) ∧ h = zk g (va_up F 32 (nobR F z.toNat (F 27 0).toNat)) L im c) ∨ (¬ (0 ≤ z ∧ z < F 25 0) ∧ r = some (.int (iz 0)) ∧ h = zk g F L im c)) := by
  refine zM_of 0 (by decide) rfl ?_
  show zJ l g RX5 cX5_clear 2 (some .boolean) "clear" (zRm 2 0 0) 0 0 _ 0 0 0 [some (.ref (g.2.1 + 23)), some (.int (iz z))] [] _
  have h2 := rB.2.1
  have no : ¬ (0 ≤ z ∧ z < F 25 0) → zJ l g RX5 cX5_clear 2 (some .boolean) "clear" (zRm 2 0 0) 0 0 (fun r h => ((0 ≤ z ∧ z < F 25 0) ∧ r = some (.int (iz 1)) ∧ h = zk g (va_up F 32 (nobR F z.toNat (F 27 0).toNat)) L im c) ∨ (¬ (0 ≤ z ∧ z < F 25 0) ∧ r = some (.int (iz 0)) ∧ h = zk g F L im c)) 0 0 13 [some (.ref (g.2.1 + 23)), some (.int (iz z))] [] (zk g F L im c) := by
    intro hno
    refine z_iconst (pc := 13) dX5_clear_13 ?_
    exact z_retz (pc := 14) rfl (Or.inl rfl) (by decide) (by decide) dX5_clear_14 (Or.inr ⟨hno, rfl, rfl⟩)
  refine z_aload_n (pc := 0) rfl dX5_clear_0 ?_
  refine z_iconst (pc := 1) dX5_clear_1 ?_
  refine zp_X5_72 (pc := 2) rfl (Nat.le_of_ble_eq_true rfl) dX5_clear_2 ?_
  refine z_hp (show _ = zk g F L im c from zs_23_0.trans (congrArg (fun f => zk g f L im c) (up23 h23))) ?_
  refine z_aload_n (pc := 5) rfl dX5_clear_5 ?_
  refine z_iload_n (pc := 6) rfl dX5_clear_6 ?_
  refine z_V1 (pc := 7) (g_isKind rB hz) lk_X5_84 iv_X5_isKind rfl rfl ⟨by decide, by decide⟩ (Nat.le_of_ble_eq_true rfl) ⟨by decide, by decide⟩ dX5_clear_7 (fun r h9 hq => ?_)
  obtain ⟨rfl, e9⟩ := hq
  rw [e9]
  clear e9 h9
  refine z_r1 ?_
  by_cases hc1 : 0 ≤ z ∧ z < F 25 0
  rotate_left
  · rw [if_neg hc1]
    refine z_if_ne (pc := 10) ⟨by omega, by omega⟩ 15 (by decide) dX5_clear_10 (fun hq => ?_) (fun hq => ?_)
    · omega
    exact no (by omega)
  rw [if_pos hc1]
  refine z_if_ne (pc := 10) ⟨by omega, by omega⟩ 15 (by decide) dX5_clear_10 (fun hq => ?_) (fun hq => ?_)
  rotate_left
  · omega
  obtain ⟨k, rfl⟩ := Int.eq_ofNat_of_zero_le hc1.1
  refine z_aload_n (pc := 15) rfl dX5_clear_15 ?_
  refine z_iload_n (pc := 16) rfl dX5_clear_16 ?_
  refine z_V1 (pc := 17) (m_clearKind rB hof (k := k) (by omega)) lk_X5_99 iv_X5_clearKind rfl rfl ⟨by decide, by decide⟩ (Nat.le_of_ble_eq_true rfl) ⟨by decide, by decide⟩ dX5_clear_17 (fun r h9 hq => ?_)
  obtain ⟨rfl, e9⟩ := hq
  rw [e9]
  clear e9 h9
  refine z_r0 ?_
  refine z_iconst (pc := 20) dX5_clear_20 ?_
  exact z_retz (pc := 21) rfl (Or.inr rfl) (by decide) (by decide) dX5_clear_21 (Or.inl ⟨hc1, rfl, rfl⟩)
theorem m_about (B : bi F 1) (hr : rl F 1 0) (h23 : F 23 0 = 0) {z x : Int} (hz : ir z) (hx : ir x) : zM l g yX5_about cX5_about 7 (some .int) 2 0 0 [.ref (g.2.1 + 23), .int (iz z), .int (iz x)] (zk g F L im c) (fun r h => r = some (.int (iz (abv F z x))) ∧ h = zk g F L im c) := by
  refine zM_of 4 (by decide) rfl ?_
  show zJ l g RX5 cX5_about 7 (some .int) "about" (zRm 2 0 0) 0 0 _ 0 0 0 [some (.ref (g.2.1 + 23)), some (.int (iz z)), some (.int (iz x)), none, none, none, none] [] _
  have b1 := bi_hours B
  have b2 := bi_kinds B
  have b3 := bi_offers B
  have h240 : F 24 0 = F 1 0 := hr.1
  have h270 : F 27 0 = F 1 2 := hr.2.2.1
  unfold abv
  refine z_aload_n (pc := 0) rfl dX5_about_0 ?_
  refine z_iconst (pc := 1) dX5_about_1 ?_
  refine zp_X5_72 (pc := 2) rfl (Nat.le_of_ble_eq_true rfl) dX5_about_2 ?_
  refine z_hp (show _ = zk g F L im c from zs_23_0.trans (congrArg (fun f => zk g f L im c) (up23 h23))) ?_
  refine z_iconst (pc := 5) dX5_about_5 ?_
  refine z_is3 (pc := 6) (by decide) rfl dX5_about_6 ?_
  refine z_iload_n (pc := 7) rfl dX5_about_7 ?_
  refine z_iconst (pc := 8) dX5_about_8 ?_
  refine z_iconst (pc := 9) dX5_about_9 ?_
  refine z_S3 (pc := 10) (m_in (a := x) (b := 0) (e := 3) (by assumption) ⟨by omega, by omega⟩ ⟨by omega, by omega⟩) lk_X5_80 st_X5_in ⟨by decide, by decide⟩ (Nat.le_of_ble_eq_true rfl) ⟨by decide, by decide⟩ dX5_about_10 (fun r h9 hq => ?_)
  obtain ⟨rfl, e9⟩ := hq
  rw [e9]
  clear e9 h9
  refine z_r1 ?_
  by_cases c1 : 0 ≤ x ∧ x ≤ 3
  · rw [if_pos c1, if_neg (show ¬ 10 ≤ x by omega)]
    refine z_if_eq (pc := 13) ⟨by omega, by omega⟩ 100 (by decide) dX5_about_13 (fun hq => ?_) (fun hq => ?_)
    · omega
    refine z_aload_n (pc := 16) rfl dX5_about_16 ?_
    refine z_iload_n (pc := 17) rfl dX5_about_17 ?_
    refine z_V1 (pc := 18) (m_isOffer B hr hz) lk_X5_89 iv_X5_isOffer rfl rfl ⟨by decide, by decide⟩ (Nat.le_of_ble_eq_true rfl) ⟨by decide, by decide⟩ dX5_about_18 (fun r h9 hq => ?_)
    obtain ⟨rfl, e9⟩ := hq
    rw [e9]
    clear e9 h9
    refine z_r1 ?_
    by_cases c2 : 0 ≤ z ∧ z < F 1 2
    rotate_left
    · rw [if_neg c2, if_neg c2]
      refine z_if_ne (pc := 21) ⟨by omega, by omega⟩ 26 (by decide) dX5_about_21 (fun hq => ?_) (fun hq => ?_)
      · omega
      refine z_iconst (pc := 24) dX5_about_24 ?_
      exact z_reti (pc := 25) rfl (by decide) (by decide) dX5_about_25 ⟨rfl, rfl⟩
    rw [if_pos c2, if_pos c2]
    refine z_if_ne (pc := 21) ⟨by omega, by omega⟩ 26 (by decide) dX5_about_21 (fun hq => ?_) (fun hq => ?_)
    rotate_left
    · omega
    obtain ⟨k, rfl⟩ := Int.eq_ofNat_of_zero_le c2.1
    rw [Int.toNat_natCast]
    have ro := rl_off hr (j := k) (by omega)
    have e40 := bts40 B (o := k) (by omega)
    have lp : ∀ (j t : Nat), t + j = 40 → zJ l g RX5 cX5_about 7 (some .int) "about" (zRm 2 0 0) 0 0 (fun r h => r = some (.int (iz (if x = 0 then F 3 k else if x = 1 then F 4 k else if x = 2 then F 5 k else if x = 3 then sm (bt F k) (F 1 0).toNat else -1))) ∧ h = zk g F L im c) 0 0 29 [some (.ref (g.2.1 + 23)), some (.int (iz k)), some (.int (iz x)), some (.int (iz (sm (bt F k) t))), some (.int (iz t)), none, none] [] (zk g F L im c) := by
      intro j
      induction j with
      | succ j ih =>
        intro t ht
        refine z_iload (pc := 29) rfl dX5_about_29 ?_
        refine z_bipush (pc := 31) (by decide) dX5_about_31 ?_
        refine z_icmp_ge (pc := 33) ⟨by omega, by omega⟩ ⟨by omega, by omega⟩ 57 (by decide) dX5_about_33 (fun hq => ?_) (fun hq => ?_)
        · omega
        refine z_iload_n (pc := 36) rfl dX5_about_36 ?_
        refine z_aload_n (pc := 37) rfl dX5_about_37 ?_
        refine zf_X5_34 (pc := 38) rfl rfl dX5_about_38 ?_
        refine z_bipush (pc := 41) (by decide) dX5_about_41 ?_
        refine z_iload_n (pc := 43) rfl dX5_about_43 ?_
        refine z_imul (pc := 44) dX5_about_44 ?_
        refine z_iload (pc := 45) rfl dX5_about_45 ?_
        refine z_iadd (pc := 47) dX5_about_47 ?_
        refine z_iald (pc := 48) rfl (by decide) (by omega) (by omega) dX5_about_48 ?_
        rw [show (40 * (k : Int) + t).toNat = 40 * k + t by omega, rl_bt hr (by omega) (by omega)]
        refine z_iadd (pc := 49) dX5_about_49 ?_
        refine z_is3 (pc := 50) (by decide) rfl dX5_about_50 ?_
        refine z_ii4 (pc := 51) (by decide) rfl dX5_about_51 ?_
        refine z_goto (pc := 54) 29 (by decide) dX5_about_54 ?_
        exact ih (t + 1) (by omega)
      | zero =>
        intro t ht
        refine z_iload (pc := 29) rfl dX5_about_29 ?_
        refine z_bipush (pc := 31) (by decide) dX5_about_31 ?_
        refine z_icmp_ge (pc := 33) ⟨by omega, by omega⟩ ⟨by omega, by omega⟩ 57 (by decide) dX5_about_33 (fun hq => ?_) (fun hq => ?_)
        rotate_left
        · omega
        rw [show t = 40 by omega, e40]
        refine z_iload_n (pc := 57) rfl dX5_about_57 ?_
        refine z_if_ne (pc := 58) ⟨by omega, by omega⟩ 70 (by decide) dX5_about_58 (fun hq => ?_) (fun hq => ?_)
        rotate_left
        · rw [if_pos (by assumption)]
          refine z_aload_n (pc := 61) rfl dX5_about_61 ?_
          refine zf_X5_22 (pc := 62) rfl rfl dX5_about_62 ?_
          refine z_iload_n (pc := 65) rfl dX5_about_65 ?_
          refine z_iald (pc := 66) rfl (by decide) (by omega) (by omega) dX5_about_66 ?_
          rw [Int.toNat_natCast, ro.1]
          refine z_goto (pc := 67) 99 (by decide) dX5_about_67 ?_
          exact z_reti (pc := 99) rfl (by decide) (by decide) dX5_about_99 ⟨rfl, rfl⟩
        rw [if_neg (by assumption)]
        refine z_iload_n (pc := 70) rfl dX5_about_70 ?_
        refine z_iconst (pc := 71) dX5_about_71 ?_
        refine z_icmp_ne (pc := 72) ⟨by omega, by omega⟩ ⟨by omega, by omega⟩ 84 (by decide) dX5_about_72 (fun hq => ?_) (fun hq => ?_)
        rotate_left
        · rw [if_pos (by assumption)]
          refine z_aload_n (pc := 75) rfl dX5_about_75 ?_
          refine zf_X5_25 (pc := 76) rfl rfl dX5_about_76 ?_
          refine z_iload_n (pc := 79) rfl dX5_about_79 ?_
          refine z_iald (pc := 80) rfl (by decide) (by omega) (by omega) dX5_about_80 ?_
          rw [Int.toNat_natCast, ro.2.1]
          refine z_goto (pc := 81) 99 (by decide) dX5_about_81 ?_
          exact z_reti (pc := 99) rfl (by decide) (by decide) dX5_about_99 ⟨rfl, rfl⟩
        rw [if_neg (by assumption)]
        refine z_iload_n (pc := 84) rfl dX5_about_84 ?_
        refine z_iconst (pc := 85) dX5_about_85 ?_
        refine z_icmp_ne (pc := 86) ⟨by omega, by omega⟩ ⟨by omega, by omega⟩ 98 (by decide) dX5_about_86 (fun hq => ?_) (fun hq => ?_)
        rotate_left
        · rw [if_pos (by assumption)]
          refine z_aload_n (pc := 89) rfl dX5_about_89 ?_
          refine zf_X5_28 (pc := 90) rfl rfl dX5_about_90 ?_
          refine z_iload_n (pc := 93) rfl dX5_about_93 ?_
          refine z_iald (pc := 94) rfl (by decide) (by omega) (by omega) dX5_about_94 ?_
          rw [Int.toNat_natCast, ro.2.2]
          refine z_goto (pc := 95) 99 (by decide) dX5_about_95 ?_
          exact z_reti (pc := 99) rfl (by decide) (by decide) dX5_about_99 ⟨rfl, rfl⟩
        rw [if_neg (by assumption), if_pos (by omega)]
        refine z_iload_n (pc := 98) rfl dX5_about_98 ?_
        exact z_reti (pc := 99) rfl (by decide) (by decide) dX5_about_99 ⟨rfl, rfl⟩
    refine z_iconst (pc := 26) dX5_about_26 ?_
    refine z_is4 (pc := 27) (by decide) rfl dX5_about_27 ?_
    exact lp 40 0 (by omega)
  rw [if_neg c1]
  refine z_if_eq (pc := 13) ⟨by omega, by omega⟩ 100 (by decide) dX5_about_13 (fun hq => ?_) (fun hq => ?_)
  rotate_left
  · omega
  refine z_iload_n (pc := 100) rfl dX5_about_100 ?_
  refine z_bipush (pc := 101) (by decide) dX5_about_101 ?_
  refine z_bipush (pc := 103) (by decide) dX5_about_103 ?_
  refine z_S3 (pc := 105) (m_in (a := x) (b := 10) (e := 13) (by assumption) ⟨by omega, by omega⟩ ⟨by omega, by omega⟩) lk_X5_80 st_X5_in ⟨by decide, by decide⟩ (Nat.le_of_ble_eq_true rfl) ⟨by decide, by decide⟩ dX5_about_105 (fun r h9 hq => ?_)
  obtain ⟨rfl, e9⟩ := hq
  rw [e9]
  clear e9 h9
  refine z_r1 ?_
  by_cases c3 : 10 ≤ x ∧ x ≤ 13
  rotate_left
  · rw [if_neg c3]
    refine z_if_eq (pc := 108) ⟨by omega, by omega⟩ 119 (by decide) dX5_about_108 (fun hq => ?_) (fun hq => ?_)
    rotate_left
    · omega
    refine z_iconst (pc := 119) dX5_about_119 ?_
    refine z_reti (pc := 120) rfl (by decide) (by decide) dX5_about_120 ⟨congrArg (fun v => some (Value.int (iz v))) ?_, rfl⟩
    by_cases c4 : 10 ≤ x
    · rw [if_pos c4]
      by_cases c5 : 0 ≤ z ∧ z < F 1 1
      · rw [if_pos c5, if_neg (by omega), if_neg (by omega), if_neg (by omega), if_neg (by omega)]
      · rw [if_neg c5]
    · rw [if_neg c4]
      by_cases c5 : 0 ≤ z ∧ z < F 1 2
      · rw [if_pos c5, if_neg (by omega), if_neg (by omega), if_neg (by omega), if_neg (by omega)]
      · rw [if_neg c5]
  rw [if_pos c3, if_pos c3.1]
  refine z_if_eq (pc := 108) ⟨by omega, by omega⟩ 119 (by decide) dX5_about_108 (fun hq => ?_) (fun hq => ?_)
  · omega
  refine z_aload_n (pc := 111) rfl dX5_about_111 ?_
  refine z_iload_n (pc := 112) rfl dX5_about_112 ?_
  refine z_V1 (pc := 113) (m_isKind B hr hz) lk_X5_84 iv_X5_isKind rfl rfl ⟨by decide, by decide⟩ (Nat.le_of_ble_eq_true rfl) ⟨by decide, by decide⟩ dX5_about_113 (fun r h9 hq => ?_)
  obtain ⟨rfl, e9⟩ := hq
  rw [e9]
  clear e9 h9
  refine z_r1 ?_
  by_cases c2 : 0 ≤ z ∧ z < F 1 1
  rotate_left
  · rw [if_neg c2, if_neg c2]
    refine z_if_ne (pc := 116) ⟨by omega, by omega⟩ 121 (by decide) dX5_about_116 (fun hq => ?_) (fun hq => ?_)
    · omega
    refine z_iconst (pc := 119) dX5_about_119 ?_
    exact z_reti (pc := 120) rfl (by decide) (by decide) dX5_about_120 ⟨rfl, rfl⟩
  rw [if_pos c2, if_pos c2]
  refine z_if_ne (pc := 116) ⟨by omega, by omega⟩ 121 (by decide) dX5_about_116 (fun hq => ?_) (fun hq => ?_)
  rotate_left
  · omega
  obtain ⟨k, rfl⟩ := Int.eq_ofNat_of_zero_le c2.1
  rw [Int.toNat_natCast]
  have hk : k < 3 := by omega
  have lp2 : ∀ (j o : Nat) , o + j = (F 1 2).toNat → zJ l g RX5 cX5_about 7 (some .int) "about" (zRm 2 0 0) 0 0 (fun r h => r = some (.int (iz (if x = 10 then F 2 k else if x = 11 then sm (fun o => if F 3 o = (k : Int) then 1 else 0) (F 1 2).toNat else if x = 12 then sm (nda F k) (F 1 0).toNat else if x = 13 then mxs (nda F k) (F 1 0).toNat else -1))) ∧ h = zk g F L im c) 0 0 188 [some (.ref (g.2.1 + 23)), some (.int (iz k)), some (.int (iz x)), some (.int (iz (sm (fun o => if F 3 o = k then 1 else 0) o))), some (.int (iz (sm (nda F k) (F 1 0).toNat))), some (.int (iz (mxs (nda F k) (F 1 0).toNat))), some (.int (iz o))] [] (zk g F L im c) := by
    intro j
    induction j with
    | succ j ih =>
      intro o ho
      have ro := rl_off hr (j := o) (by omega)
      have c3 := bi_kindOf B o
      refine z_iload (pc := 188) rfl dX5_about_188 ?_
      refine z_aload_n (pc := 190) rfl dX5_about_190 ?_
      refine zf_X5_19 (pc := 191) rfl rfl dX5_about_191 ?_
      refine z_iconst (pc := 194) dX5_about_194 ?_
      refine z_iald (pc := 195) rfl (by decide) (by omega) (by omega) dX5_about_195 ?_
      rw [show F 27 (0 : Int).toNat = F 1 2 from h270]
      refine z_icmp_ge (pc := 196) ⟨by omega, by omega⟩ ⟨by omega, by omega⟩ 224 (by decide) dX5_about_196 (fun hq => ?_) (fun hq => ?_)
      · omega
      refine z_iload_n (pc := 199) rfl dX5_about_199 ?_
      refine z_aload_n (pc := 200) rfl dX5_about_200 ?_
      refine zf_X5_22 (pc := 201) rfl rfl dX5_about_201 ?_
      refine z_iload (pc := 204) rfl dX5_about_204 ?_
      refine z_iald (pc := 206) rfl (by decide) (by omega) (by omega) dX5_about_206 ?_
      rw [Int.toNat_natCast, ro.1]
      refine z_iload_n (pc := 207) rfl dX5_about_207 ?_
      refine z_icmp_ne (pc := 208) ⟨by omega, by omega⟩ ⟨by omega, by omega⟩ 215 (by decide) dX5_about_208 (fun hq => ?_) (fun hq => ?_)
      · refine z_iconst (pc := 215) dX5_about_215 ?_
        refine z_iadd (pc := 216) dX5_about_216 ?_
        have e : sm (fun o => if F 3 o = (k : Int) then (1 : Int) else 0) o + 0 = sm (fun o => if F 3 o = (k : Int) then (1 : Int) else 0) (o + 1) := by
          show _ = sm _ o + (if F 3 o = (k : Int) then (1 : Int) else 0)
          rw [if_neg (by assumption)]
        rw [e]
        refine z_is3 (pc := 217) (by decide) rfl dX5_about_217 ?_
        refine z_ii6 (pc := 218) (by decide) rfl dX5_about_218 ?_
        refine z_goto (pc := 221) 188 (by decide) dX5_about_221 ?_
        exact ih (o + 1) (by omega)
      · refine z_iconst (pc := 211) dX5_about_211 ?_
        refine z_goto (pc := 212) 216 (by decide) dX5_about_212 ?_
        refine z_iadd (pc := 216) dX5_about_216 ?_
        have e : sm (fun o => if F 3 o = (k : Int) then (1 : Int) else 0) o + 1 = sm (fun o => if F 3 o = (k : Int) then (1 : Int) else 0) (o + 1) := by
          show _ = sm _ o + (if F 3 o = (k : Int) then (1 : Int) else 0)
          rw [if_pos (by assumption)]
        rw [e]
        refine z_is3 (pc := 217) (by decide) rfl dX5_about_217 ?_
        refine z_ii6 (pc := 218) (by decide) rfl dX5_about_218 ?_
        refine z_goto (pc := 221) 188 (by decide) dX5_about_221 ?_
        exact ih (o + 1) (by omega)
    | zero =>
      intro o ho
      refine z_iload (pc := 188) rfl dX5_about_188 ?_
      refine z_aload_n (pc := 190) rfl dX5_about_190 ?_
      refine zf_X5_19 (pc := 191) rfl rfl dX5_about_191 ?_
      refine z_iconst (pc := 194) dX5_about_194 ?_
      refine z_iald (pc := 195) rfl (by decide) (by omega) (by omega) dX5_about_195 ?_
      rw [show F 27 (0 : Int).toNat = F 1 2 from h270]
      refine z_icmp_ge (pc := 196) ⟨by omega, by omega⟩ ⟨by omega, by omega⟩ 224 (by decide) dX5_about_196 (fun hq => ?_) (fun hq => ?_)
      rotate_left
      · omega
      rw [show o = (F 1 2).toNat by omega]
      refine z_iload_n (pc := 224) rfl dX5_about_224 ?_
      refine z_bipush (pc := 225) (by decide) dX5_about_225 ?_
      refine z_icmp_ne (pc := 227) ⟨by omega, by omega⟩ ⟨by omega, by omega⟩ 239 (by decide) dX5_about_227 (fun hq => ?_) (fun hq => ?_)
      rotate_left
      · rw [if_pos (by assumption)]
        refine z_aload_n (pc := 230) rfl dX5_about_230 ?_
        refine zf_X5_16 (pc := 231) rfl rfl dX5_about_231 ?_
        refine z_iload_n (pc := 234) rfl dX5_about_234 ?_
        refine z_iald (pc := 235) rfl (by decide) (by omega) (by omega) dX5_about_235 ?_
        rw [Int.toNat_natCast, rl_rate hr hk]
        refine z_goto (pc := 236) 262 (by decide) dX5_about_236 ?_
        exact z_reti (pc := 262) rfl (by decide) (by decide) dX5_about_262 ⟨rfl, rfl⟩
      rw [if_neg (by assumption)]
      refine z_iload_n (pc := 239) rfl dX5_about_239 ?_
      refine z_bipush (pc := 240) (by decide) dX5_about_240 ?_
      refine z_icmp_ne (pc := 242) ⟨by omega, by omega⟩ ⟨by omega, by omega⟩ 249 (by decide) dX5_about_242 (fun hq => ?_) (fun hq => ?_)
      rotate_left
      · rw [if_pos (by assumption)]
        refine z_iload_n (pc := 245) rfl dX5_about_245 ?_
        refine z_goto (pc := 246) 262 (by decide) dX5_about_246 ?_
        exact z_reti (pc := 262) rfl (by decide) (by decide) dX5_about_262 ⟨rfl, rfl⟩
      rw [if_neg (by assumption)]
      refine z_iload_n (pc := 249) rfl dX5_about_249 ?_
      refine z_bipush (pc := 250) (by decide) dX5_about_250 ?_
      refine z_icmp_ne (pc := 252) ⟨by omega, by omega⟩ ⟨by omega, by omega⟩ 260 (by decide) dX5_about_252 (fun hq => ?_) (fun hq => ?_)
      rotate_left
      · rw [if_pos (by assumption)]
        refine z_iload (pc := 255) rfl dX5_about_255 ?_
        refine z_goto (pc := 257) 262 (by decide) dX5_about_257 ?_
        exact z_reti (pc := 262) rfl (by decide) (by decide) dX5_about_262 ⟨rfl, rfl⟩
      rw [if_neg (by assumption), if_pos (by omega)]
      refine z_iload (pc := 260) rfl dX5_about_260 ?_
      exact z_reti (pc := 262) rfl (by decide) (by decide) dX5_about_262 ⟨rfl, rfl⟩
  have lp1 : ∀ (j t : Nat) , t + j = (F 1 0).toNat → zJ l g RX5 cX5_about 7 (some .int) "about" (zRm 2 0 0) 0 0 (fun r h => r = some (.int (iz (if x = 10 then F 2 k else if x = 11 then sm (fun o => if F 3 o = (k : Int) then 1 else 0) (F 1 2).toNat else if x = 12 then sm (nda F k) (F 1 0).toNat else if x = 13 then mxs (nda F k) (F 1 0).toNat else -1))) ∧ h = zk g F L im c) 0 0 130 [some (.ref (g.2.1 + 23)), some (.int (iz k)), some (.int (iz x)), some (.int (iz 0)), some (.int (iz (sm (nda F k) t))), some (.int (iz (mxs (nda F k) t))), some (.int (iz t))] [] (zk g F L im c) := by
    intro j
    induction j with
    | zero =>
      intro t ht
      refine z_iload (pc := 130) rfl dX5_about_130 ?_
      refine z_aload_n (pc := 132) rfl dX5_about_132 ?_
      refine zf_X5_7 (pc := 133) rfl rfl dX5_about_133 ?_
      refine z_iconst (pc := 136) dX5_about_136 ?_
      refine z_iald (pc := 137) rfl (by decide) (by omega) (by omega) dX5_about_137 ?_
      rw [show F 24 (0 : Int).toNat = F 1 0 from h240]
      refine z_icmp_ge (pc := 138) ⟨by omega, by omega⟩ ⟨by omega, by omega⟩ 185 (by decide) dX5_about_138 (fun hq => ?_) (fun hq => ?_)
      rotate_left
      · omega
      refine z_iconst (pc := 185) dX5_about_185 ?_
      refine z_is6 (pc := 186) (by decide) rfl dX5_about_186 ?_
      rw [show t = (F 1 0).toNat by omega]
      exact lp2 (F 1 2).toNat 0 (by omega)
    | succ j ih =>
      intro t ht
      have q1 := nda_bd B k t
      have q2 := mxs_bd (f := nda F k) (b := 36) (by omega) (n := t) (fun j _ => (nda_bd B k j).2)
      refine z_iload (pc := 130) rfl dX5_about_130 ?_
      refine z_aload_n (pc := 132) rfl dX5_about_132 ?_
      refine zf_X5_7 (pc := 133) rfl rfl dX5_about_133 ?_
      refine z_iconst (pc := 136) dX5_about_136 ?_
      refine z_iald (pc := 137) rfl (by decide) (by omega) (by omega) dX5_about_137 ?_
      rw [show F 24 (0 : Int).toNat = F 1 0 from h240]
      refine z_icmp_ge (pc := 138) ⟨by omega, by omega⟩ ⟨by omega, by omega⟩ 185 (by decide) dX5_about_138 (fun hq => ?_) (fun hq => ?_)
      · omega
      refine z_iload (pc := 141) rfl dX5_about_141 ?_
      refine z_aload_n (pc := 143) rfl dX5_about_143 ?_
      refine z_iload_n (pc := 144) rfl dX5_about_144 ?_
      refine z_iload (pc := 145) rfl dX5_about_145 ?_
      refine z_V2 (pc := 147) (m_needOf hr hk (t := t) (by omega)) lk_X5_103 iv_X5_needOf rfl rfl ⟨by decide, by decide⟩ (Nat.le_of_ble_eq_true rfl) ⟨by decide, by decide⟩ dX5_about_147 (fun r h9 hq => ?_)
      obtain ⟨rfl, e9⟩ := hq
      rw [e9]
      clear e9 h9
      refine z_r1 ?_
      refine z_iadd (pc := 150) dX5_about_150 ?_
      refine z_is4 (pc := 151) (by decide) rfl dX5_about_151 ?_
      refine z_aload_n (pc := 153) rfl dX5_about_153 ?_
      refine z_iload_n (pc := 154) rfl dX5_about_154 ?_
      refine z_iload (pc := 155) rfl dX5_about_155 ?_
      refine z_V2 (pc := 157) (m_needOf hr hk (t := t) (by omega)) lk_X5_103 iv_X5_needOf rfl rfl ⟨by decide, by decide⟩ (Nat.le_of_ble_eq_true rfl) ⟨by decide, by decide⟩ dX5_about_157 (fun r h9 hq => ?_)
      obtain ⟨rfl, e9⟩ := hq
      rw [e9]
      clear e9 h9
      refine z_r1 ?_
      refine z_iload (pc := 160) rfl dX5_about_160 ?_
      refine z_icmp_le (pc := 162) ⟨by omega, by omega⟩ ⟨by omega, by omega⟩ 175 (by decide) dX5_about_162 (fun hq => ?_) (fun hq => ?_)
      · refine z_iload (pc := 175) rfl dX5_about_175 ?_
        rw [show mxs (nda F k) t = mxs (nda F k) (t + 1) by show _ = max (mxs (nda F k) t) (nda F k t); omega]
        refine z_is5 (pc := 177) (by decide) rfl dX5_about_177 ?_
        refine z_ii6 (pc := 179) (by decide) rfl dX5_about_179 ?_
        refine z_goto (pc := 182) 130 (by decide) dX5_about_182 ?_
        exact ih (t + 1) (by omega)
      · refine z_aload_n (pc := 165) rfl dX5_about_165 ?_
        refine z_iload_n (pc := 166) rfl dX5_about_166 ?_
        refine z_iload (pc := 167) rfl dX5_about_167 ?_
        refine z_V2 (pc := 169) (m_needOf hr hk (t := t) (by omega)) lk_X5_103 iv_X5_needOf rfl rfl ⟨by decide, by decide⟩ (Nat.le_of_ble_eq_true rfl) ⟨by decide, by decide⟩ dX5_about_169 (fun r h9 hq => ?_)
        obtain ⟨rfl, e9⟩ := hq
        rw [e9]
        clear e9 h9
        refine z_r1 ?_
        refine z_goto (pc := 172) 177 (by decide) dX5_about_172 ?_
        refine z_top (congrArg iz (show nda F k t = mxs (nda F k) (t + 1) by show _ = max (mxs (nda F k) t) (nda F k t); omega)) ?_
        refine z_is5 (pc := 177) (by decide) rfl dX5_about_177 ?_
        refine z_ii6 (pc := 179) (by decide) rfl dX5_about_179 ?_
        refine z_goto (pc := 182) 130 (by decide) dX5_about_182 ?_
        exact ih (t + 1) (by omega)
  refine z_iconst (pc := 121) dX5_about_121 ?_
  refine z_is4 (pc := 122) (by decide) rfl dX5_about_122 ?_
  refine z_iconst (pc := 124) dX5_about_124 ?_
  refine z_is5 (pc := 125) (by decide) rfl dX5_about_125 ?_
  refine z_iconst (pc := 127) dX5_about_127 ?_
  refine z_is6 (pc := 128) (by decide) rfl dX5_about_128 ?_
  exact lp1 (F 1 0).toNat 0 (by omega)
end REF10
