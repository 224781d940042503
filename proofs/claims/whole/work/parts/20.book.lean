/-! ===== Book: asking ===== -/
def sm (f : Nat → Int) : Nat → Int
  | 0 => 0
  | n + 1 => sm f n + f n
def fnd (F : Nat → Nat → Int) (k t o : Nat) : Int := F 6 ((k * 4 + o) * 40 + t)
def nda (F : Nat → Nat → Int) (k t : Nat) : Int := sm (fnd F k t) 4
section BOOK
variable {l : Launch} {g : zG} {F : Nat → Nat → Int} {L : Nat → Int} {im : Nat → Option Nat} {c : Nat}
theorem c_hasHour {z : Int} (hz : ir z) (hF : ir (F 1 0)) : zM l g yX1_hasHour cX1_hasHour 2 (some .boolean) 0 0 0 [.ref (g.2.1 + 1), .int (iz z)] (zk g F L im c) (fun r h => r = some (.int (iz (if 0 ≤ z ∧ z < F 1 0 then 1 else 0))) ∧ h = zk g F L im c) := by
  refine zM_of 0 (by decide) rfl ?_
  show zJ l g RX1 cX1_hasHour 2 (some .boolean) "hasHour" (zRm 0 0 0) 0 0 _ 0 0 0 [some (.ref (g.2.1 + 1)), some (.int (iz z))] [] _
  refine z_iload_n (pc := 0) rfl dX1_hasHour_0 ?_
  refine z_if_lt (pc := 1) hz 16 (by decide) dX1_hasHour_1 (fun hq => ?_) (fun hq => ?_)
  · rw [if_neg (by omega)]
    refine z_iconst (pc := 16) dX1_hasHour_16 ?_
    exact z_retz (pc := 17) rfl (Or.inl rfl) (by decide) (by decide) dX1_hasHour_17 ⟨rfl, rfl⟩
  refine z_iload_n (pc := 4) rfl dX1_hasHour_4 ?_
  refine z_aload_n (pc := 5) rfl dX1_hasHour_5 ?_
  refine zf_X1_9 (pc := 6) rfl rfl dX1_hasHour_6 ?_
  refine z_icmp_ge (pc := 9) hz hF 16 (by decide) dX1_hasHour_9 (fun hq => ?_) (fun hq => ?_)
  · rw [if_neg (by omega)]
    refine z_iconst (pc := 16) dX1_hasHour_16 ?_
    exact z_retz (pc := 17) rfl (Or.inl rfl) (by decide) (by decide) dX1_hasHour_17 ⟨rfl, rfl⟩
  rw [if_pos (by omega)]
  refine z_iconst (pc := 12) dX1_hasHour_12 ?_
  refine z_goto (pc := 13) 17 (by decide) dX1_hasHour_13 ?_
  exact z_retz (pc := 17) rfl (Or.inr rfl) (by decide) (by decide) dX1_hasHour_17 ⟨rfl, rfl⟩
theorem c_needOf {o k t : Nat} (ho : o < 4) (hk : k < 3) (ht : t < 40) : zM l g yX1_needOf cX1_needOf 4 (some .int) 0 0 0 [.ref (g.2.1 + 1), .int (iz o), .int (iz k), .int (iz t)] (zk g F L im c) (fun r h => r = some (.int (iz (fnd F k t o))) ∧ h = zk g F L im c) := by
  refine zM_of 0 (by decide) rfl ?_
  show zJ l g RX1 cX1_needOf 4 (some .int) "needOf" (zRm 0 0 0) 0 0 _ 0 0 0 [some (.ref (g.2.1 + 1)), some (.int (iz o)), some (.int (iz k)), some (.int (iz t))] [] _
  refine z_aload_n (pc := 0) rfl dX1_needOf_0 ?_
  refine zf_X1_28 (pc := 1) rfl rfl dX1_needOf_1 ?_
  refine z_iload_n (pc := 4) rfl dX1_needOf_4 ?_
  refine z_iconst (pc := 5) dX1_needOf_5 ?_
  refine z_imul (pc := 6) dX1_needOf_6 ?_
  refine z_iload_n (pc := 7) rfl dX1_needOf_7 ?_
  refine z_iadd (pc := 8) dX1_needOf_8 ?_
  refine z_bipush (pc := 9) (by decide) dX1_needOf_9 ?_
  refine z_imul (pc := 11) dX1_needOf_11 ?_
  refine z_iload_n (pc := 12) rfl dX1_needOf_12 ?_
  refine z_iadd (pc := 13) dX1_needOf_13 ?_
  refine z_iald (pc := 14) rfl (by decide) (by omega) (by omega) dX1_needOf_14 ?_
  exact z_reti (pc := 15) rfl (by decide) (by decide) dX1_needOf_15 ⟨congrArg (fun x => some (Value.int (iz (F 6 x)))) (by omega), rfl⟩
theorem c_needOfAll {k t : Nat} (hk : k < 3) (ht : t < 40) : zM l g yX1_needOfAll cX1_needOfAll 5 (some .int) 1 0 0 [.ref (g.2.1 + 1), .int (iz k), .int (iz t)] (zk g F L im c) (fun r h => r = some (.int (iz (nda F k t))) ∧ h = zk g F L im c) := by
  refine zM_of 2 (by decide) rfl ?_
  show zJ l g RX1 cX1_needOfAll 5 (some .int) "needOfAll" (zRm 1 0 0) 0 0 _ 0 0 0 [some (.ref (g.2.1 + 1)), some (.int (iz k)), some (.int (iz t)), none, none] [] _
  have loop : ∀ (j o : Nat), o + j = 4 → zJ l g RX1 cX1_needOfAll 5 (some .int) "needOfAll" (zRm 1 0 0) 0 0 (fun r h => r = some (.int (iz (nda F k t))) ∧ h = zk g F L im c) 0 0 5 [some (.ref (g.2.1 + 1)), some (.int (iz k)), some (.int (iz t)), some (.int (iz (sm (fnd F k t) o))), some (.int (iz o))] [] (zk g F L im c) := by
    intro j
    induction j with
    | zero =>
      intro o ho
      refine z_iload (pc := 5) rfl dX1_needOfAll_5 ?_
      refine z_iconst (pc := 7) dX1_needOfAll_7 ?_
      refine z_icmp_ge (pc := 8) ⟨by omega, by omega⟩ ⟨by omega, by omega⟩ 28 (by decide) dX1_needOfAll_8 (fun hq => ?_) (fun hq => ?_)
      refine z_iload_n (pc := 28) rfl dX1_needOfAll_28 ?_
      exact z_reti (pc := 29) rfl (by decide) (by decide) dX1_needOfAll_29 ⟨by rw [show o = 4 by omega]; rfl, rfl⟩
      omega
    | succ j ih =>
      intro o ho
      refine z_iload (pc := 5) rfl dX1_needOfAll_5 ?_
      refine z_iconst (pc := 7) dX1_needOfAll_7 ?_
      refine z_icmp_ge (pc := 8) ⟨by omega, by omega⟩ ⟨by omega, by omega⟩ 28 (by decide) dX1_needOfAll_8 (fun hq => ?_) (fun hq => ?_)
      · omega
      refine z_iload_n (pc := 11) rfl dX1_needOfAll_11 ?_
      refine z_aload_n (pc := 12) rfl dX1_needOfAll_12 ?_
      refine z_iload (pc := 13) rfl dX1_needOfAll_13 ?_
      refine z_iload_n (pc := 15) rfl dX1_needOfAll_15 ?_
      refine z_iload_n (pc := 16) rfl dX1_needOfAll_16 ?_
      refine z_V3 (pc := 17) (c_needOf (o := o) (by omega) hk ht) lk_X1_60 iv_X1_needOf rfl rfl ⟨by decide, by decide⟩ (Nat.le_of_ble_eq_true rfl) ⟨by decide, by decide⟩ dX1_needOfAll_17 (fun r h9 hq => ?_)
      obtain ⟨rfl, rfl⟩ := hq
      refine z_r1 ?_
      refine z_iadd (pc := 20) dX1_needOfAll_20 ?_
      refine z_is3 (pc := 21) (by decide) rfl dX1_needOfAll_21 ?_
      refine z_ii4 (pc := 22) (by decide) rfl dX1_needOfAll_22 ?_
      refine z_goto (pc := 25) 5 (by decide) dX1_needOfAll_25 ?_
      exact ih (o + 1) (by omega)
  refine z_iconst (pc := 0) dX1_needOfAll_0 ?_
  refine z_is3 (pc := 1) (by decide) rfl dX1_needOfAll_1 ?_
  refine z_iconst (pc := 2) dX1_needOfAll_2 ?_
  refine z_is4 (pc := 3) (by decide) rfl dX1_needOfAll_3 ?_
  exact loop 4 0 rfl
end BOOK
