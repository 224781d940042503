/-! ===== the reference: needs, blind, images ===== -/
theorem shr_eq (a : Int32) (s : Nat) (hs : s ≤ 28) (h3 : ((BitVec.ofNat 32 s).smod 32#32).toNat = s) : (a.toUInt32 >>> (UInt32.ofNat s)).toInt32 &&& 15 = (a >>> Int32.ofNat s) &&& 15 := by
  apply Int32.toBitVec_inj.mp
  have hs2 : s % 4294967296 % 32 = s := by omega
  simp only [Int32.toBitVec_and, Int32.toBitVec_shiftRight]
  apply BitVec.eq_of_getLsbD_eq
  intro i hi
  simp only [BitVec.getLsbD_and]
  by_cases h4 : i < 4
  · congr 1
    simp [BitVec.getLsbD_sshiftRight, hs2]
    rw [h3, if_pos (by omega), show decide (32 ≤ i) = false by simp; omega]
    rfl
  · have : (15 : Int32).toBitVec.getLsbD i = false := by
      have e : (15 : Int32).toBitVec = 15#32 := rfl
      rw [e, BitVec.getLsbD_ofNat]
      have : (15 : Nat).testBit i = false := Nat.testBit_lt_two_pow (Nat.lt_of_lt_of_le (by decide : 15 < 2^4) (Nat.pow_le_pow_right (by decide) (by omega)))
      simp [this]
    rw [this]; simp
theorem and15 (a : Int32) : 0 ≤ (a &&& 15).toInt ∧ (a &&& 15).toInt ≤ 15 := by
  have h9 : (a.toBitVec &&& 15#32).toNat ≤ 15 := by rw [BitVec.toNat_and]; exact Nat.and_le_right
  have e : (a &&& 15).toInt = ((a.toBitVec &&& 15#32).toNat : Int) := by
    show (a.toBitVec &&& 15#32).toInt = _
    apply BitVec.toInt_eq_toNat_of_lt
    omega
  omega
theorem hbu (a : Int32) {k : Nat} (hk : k < 8) : (a.toUInt32 >>> ((iz (28 - 4 * (k : Int))).toUInt32 &&& Int32.toUInt32 31)).toInt32 &&& iz 15 = a >>> (iz (28 - 4 * (k : Int)) &&& 31) &&& iz 15 := by
  have hh : ∀ s : Nat, s ≤ 28 → ((BitVec.ofNat 32 s).smod 32#32).toNat = s → (iz (28 - 4 * (k : Int))).toUInt32 &&& Int32.toUInt32 31 = UInt32.ofNat s → iz (28 - 4 * (k : Int)) &&& 31 = Int32.ofNat s → (a.toUInt32 >>> ((iz (28 - 4 * (k : Int))).toUInt32 &&& Int32.toUInt32 31)).toInt32 &&& iz 15 = a >>> (iz (28 - 4 * (k : Int)) &&& 31) &&& iz 15 := by
    intro s h1 h2 h3 h4
    rw [h3, h4]
    exact shr_eq a s h1 h2
  match k, hk, hh with
  | 0, _, hh => exact hh 28 (by decide) (by decide) (by decide) (by decide)
  | 1, _, hh => exact hh 24 (by decide) (by decide) (by decide) (by decide)
  | 2, _, hh => exact hh 20 (by decide) (by decide) (by decide) (by decide)
  | 3, _, hh => exact hh 16 (by decide) (by decide) (by decide) (by decide)
  | 4, _, hh => exact hh 12 (by decide) (by decide) (by decide) (by decide)
  | 5, _, hh => exact hh 8 (by decide) (by decide) (by decide) (by decide)
  | 6, _, hh => exact hh 4 (by decide) (by decide) (by decide) (by decide)
  | 7, _, hh => exact hh 0 (by decide) (by decide) (by decide) (by decide)
/-- the half byte of an int, the highest first -/
def hb (x : Int) (k : Nat) : Int := (iz x >>> (iz (28 - 4 * (k : Int)) &&& 31) &&& iz 15).toInt
theorem hb_iz (x : Int) (k : Nat) : iz x >>> (iz (28 - 4 * (k : Int)) &&& 31) &&& iz 15 = iz (hb x k) := iz_of _
theorem hb_bd (x : Int) (k : Nat) : 0 ≤ hb x k ∧ hb x k ≤ 15 := and15 _
def A8 (x : Int) : Prop := ∀ j, j < 8 → hb x j < 10
/-- a row with n cells from b on taken from v -/
def put (f : Nat → Int) (b : Nat) (v : Nat → Int) (n : Nat) : Nat → Int := fun j => if b ≤ j ∧ j < b + n then v (j - b) else f j
theorem put_0 (f : Nat → Int) (b : Nat) (v : Nat → Int) : put f b v 0 = f := by funext j; unfold put; rw [if_neg (by omega)]
theorem put_s (f : Nat → Int) (b : Nat) (v : Nat → Int) (n : Nat) : vf_upd (put f b v n) (b + n) (v n) = put f b v (n + 1) := by
  funext j
  unfold vf_upd put
  by_cases h : j = b + n
  · rw [if_pos h, if_pos (by omega), show j - b = n by omega]
  · rw [if_neg h]
    by_cases h2 : b ≤ j ∧ j < b + n
    · rw [if_pos h2, if_pos (by omega)]
    · rw [if_neg h2, if_neg (by omega)]
theorem put_out (f : Nat → Int) {b j n : Nat} (v : Nat → Int) (h : j < b ∨ b + n ≤ j) : put f b v n j = f j := by unfold put; rw [if_neg (by omega)]
theorem put_in (f : Nat → Int) {b j n : Nat} (v : Nat → Int) (h : j < n) : put f b v n (b + j) = v j := by unfold put; rw [if_pos (by omega), show b + j - b = j by omega]
theorem upd_id (f : Nat → Int) (j : Nat) : vf_upd f j (f j) = f := by
  funext q
  unfold vf_upd
  by_cases h : q = j
  · rw [if_pos h, h]
  · rw [if_neg h]
theorem upd_upd (f : Nat → Int) (j : Nat) (a b : Int) : vf_upd (vf_upd f j a) j b = vf_upd f j b := by
  funext q
  unfold vf_upd
  by_cases h : q = j
  · rw [if_pos h, if_pos h]
  · rw [if_neg h, if_neg h, if_neg h]
theorem upd_at (f : Nat → Int) (j : Nat) (a : Int) : vf_upd f j a j = a := by unfold vf_upd; rw [if_pos rfl]
/-- the reference's slot 0 is the Book, but for what was bought -/
def rq (F : Nat → Nat → Int) : Prop := F 24 0 = F 1 0 ∧ F 25 0 = F 1 1 ∧ F 27 0 = F 1 2 ∧ (∀ j, j < 3 → F 26 j = F 2 j) ∧ (∀ j, j < 6 → F 28 j = F 3 j ∧ F 29 j = F 4 j ∧ F 30 j = F 5 j) ∧ ∀ o k t, o < 4 → k < 3 → t < 40 → F 31 (40 * (3 * o + k) + t) = fnd F k t o
theorem rq_rl {F : Nat → Nat → Int} (h : rl F 1 0) : rq F := ⟨h.1, h.2.1, h.2.2.1, fun _ hj => rl_rate h hj, fun _ hj => rl_off h hj, fun _ _ _ ho hk ht => rl_need h ho hk ht⟩
theorem rl_rq {F : Nat → Nat → Int} (h : rq F) (hb : ∀ o t, o < 6 → t < 40 → F 32 (40 * o + t) = bt F o t) : rl F 1 0 := by
  refine ⟨h.1, h.2.1, h.2.2.1, fun j hj => ?_, fun j hj => ?_, fun o k t ho hk ht => ?_, fun o t ho ht => ?_⟩
  · rw [Nat.mul_zero, Nat.zero_add]; exact h.2.2.2.1 j hj
  · rw [Nat.mul_zero, Nat.zero_add]; exact h.2.2.2.2.1 j hj
  · rw [Nat.mul_zero, Nat.zero_add]; exact h.2.2.2.2.2 o k t ho hk ht
  · rw [Nat.mul_zero, Nat.zero_add]; exact hb o t ho ht
theorem rb_rq {F : Nat → Nat → Int} (B : bi F 1) (h : rq F) : rb F := ⟨by rw [h.1]; exact bi_hours B, by rw [h.2.1]; exact bi_kinds B, by rw [h.2.2.1]; exact bi_offers B⟩
/-! the rule that sees no hour ahead: nd needs, T term, C cost, Rt rate, hh hours -/
def wfs (T : Int) (t : Nat) : Nat := (max 0 ((t : Int) - T + 1)).toNat
def wen (hh T : Int) (t : Nat) : Nat := (min hh ((t : Int) + T)).toNat
def spn (nd : Nat → Int) (a t : Nat) (cnt : Nat → Int) : Int := sm (fun u => if a ≤ u ∧ cnt u < nd u then 1 else 0) (t + 1)
abbrev spc (nd : Nat → Int) (T C Rt : Int) (t : Nat) (cnt : Nat → Int) : Prop := 0 < C ∧ C ≤ spn nd (wfs T t) t cnt * Rt
def cwi (cnt : Nat → Int) (a b : Nat) (v : Int) : Nat → Int := fun j => if a ≤ j ∧ j < b then cnt j + v else cnt j
def nby (nd : Nat → Int) (T C Rt hh : Int) (t : Nat) (cnt : Nat → Int) : Nat → Nat → Nat
  | x, 0 => x
  | x, f + 1 => if spc nd T C Rt t (cwi cnt (wfs T t) (wen hh T t) x) then nby nd T C Rt hh t cnt (x + 1) f else x
def cnb (nd : Nat → Int) (T C Rt hh : Int) : Nat → Nat → Int
  | 0 => fun _ => 0
  | t + 1 => cwi (cnb nd T C Rt hh t) (wfs T t) (wen hh T t) (nby nd T C Rt hh t (cnb nd T C Rt hh t) 0 60 : Nat)
def bln (nd : Nat → Int) (T C Rt hh : Int) (t : Nat) : Int := ((nby nd T C Rt hh t (cnb nd T C Rt hh t) 0 60 : Nat) : Int)
theorem nby_le (nd : Nat → Int) (T C Rt hh : Int) (t : Nat) (cnt : Nat → Int) : ∀ f x, nby nd T C Rt hh t cnt x f ≤ x + f
  | 0, x => Nat.le_refl _
  | f + 1, x => by
    unfold nby
    split
    · have := nby_le nd T C Rt hh t cnt f (x + 1); omega
    · omega
theorem bln_bd (nd : Nat → Int) (T C Rt hh : Int) (t : Nat) : 0 ≤ bln nd T C Rt hh t ∧ bln nd T C Rt hh t ≤ 60 := by
  have := nby_le nd T C Rt hh t (cnb nd T C Rt hh t) 60 0
  unfold bln
  omega
theorem cnb_bd (nd : Nat → Int) (T C Rt hh : Int) : ∀ t u, 0 ≤ cnb nd T C Rt hh t u ∧ cnb nd T C Rt hh t u ≤ 60 * t
  | 0, u => ⟨Int.le_refl 0, Int.le_refl 0⟩
  | t + 1, u => by
    have h1 := cnb_bd nd T C Rt hh t u
    have h2 := bln_bd nd T C Rt hh t
    show 0 ≤ cwi (cnb nd T C Rt hh t) (wfs T t) (wen hh T t) (bln nd T C Rt hh t) u ∧ cwi (cnb nd T C Rt hh t) (wfs T t) (wen hh T t) (bln nd T C Rt hh t) u ≤ _
    unfold cwi
    split <;> omega
theorem spn_bd (nd : Nat → Int) (a t : Nat) (cnt : Nat → Int) : 0 ≤ spn nd a t cnt ∧ spn nd a t cnt ≤ t + 1 := by
  have := sm_bd (f := fun u => if a ≤ u ∧ cnt u < nd u then (1 : Int) else 0) (a := 0) (b := 1) (n := t + 1) (fun j _ => by show 0 ≤ (if a ≤ j ∧ cnt j < nd j then (1 : Int) else 0) ∧ (if a ≤ j ∧ cnt j < nd j then (1 : Int) else 0) ≤ 1; split <;> omega)
  unfold spn
  omega
theorem mul_rg {a b x y : Int} (h1 : 0 ≤ a) (h2 : a ≤ x) (h3 : 0 ≤ b) (h4 : b ≤ y) : 0 ≤ a * b ∧ a * b ≤ x * y := ⟨Int.mul_nonneg h1 h3, Int.mul_le_mul h2 h4 h3 (by omega)⟩
theorem spn_0 {nd : Nat → Int} {a t : Nat} {cnt : Nat → Int} (h : ∀ u, a ≤ u → u ≤ t → nd u ≤ cnt u) : spn nd a t cnt = 0 := sm_zero (fun j hj => by show (if a ≤ j ∧ cnt j < nd j then (1 : Int) else 0) = 0; rw [if_neg (fun q => by have := h j q.1 (by omega); omega)])
def cwq (cnt : Nat → Int) (a b : Nat) (v : Int) (p : Nat) : Nat → Int := fun j => if a ≤ j ∧ j < p then cnt j + (v + 1) else if a ≤ j ∧ j < b then cnt j + v else cnt j
theorem cwq_0 (cnt : Nat → Int) (a b : Nat) (v : Int) : cwq cnt a b v a = cwi cnt a b v := by funext j; unfold cwq cwi; rw [if_neg (by omega)]
theorem cwq_b (cnt : Nat → Int) (a b : Nat) (v : Int) : cwq cnt a b v b = cwi cnt a b (v + 1) := by
  funext j
  unfold cwq cwi
  by_cases h : a ≤ j ∧ j < b
  · rw [if_pos h, if_pos h]
  · rw [if_neg h, if_neg h, if_neg h]
theorem cwq_s (cnt : Nat → Int) {a b p : Nat} (v : Int) (h1 : a ≤ p) (h2 : p < b) : vf_upd (cwq cnt a b v p) p (cwq cnt a b v p p + 1) = cwq cnt a b v (p + 1) := by
  funext j
  unfold vf_upd
  by_cases h : j = p
  · subst h
    rw [if_pos rfl]
    unfold cwq
    rw [if_neg (by omega), if_pos (by omega), if_pos (by omega)]
    omega
  · rw [if_neg h]
    unfold cwq
    by_cases h3 : a ≤ j ∧ j < p
    · rw [if_pos h3, if_pos (by omega)]
    · rw [if_neg h3, if_neg (show ¬ (a ≤ j ∧ j < p + 1) by omega)]
theorem cwi_0 (cnt : Nat → Int) (a b : Nat) : cwi cnt a b 0 = cnt := by funext j; unfold cwi; split <;> omega
abbrev Bs (F : Nat → Nat → Int) (a b : Nat → Int) : Nat → Nat → Int := va_up (va_up F 32 a) 39 b
theorem Bs32 (F : Nat → Nat → Int) (a b a2 : Nat → Int) : va_up (Bs F a b) 32 a2 = Bs F a2 b := by
  funext q
  unfold Bs va_up
  by_cases h : q = 32
  · subst h; rfl
  · rw [if_neg h]
    by_cases h2 : q = 39
    · rw [if_pos h2, if_pos h2]
    · rw [if_neg h2, if_neg h2, if_neg h, if_neg h]
section REF11
variable {l : Launch} {g : zG} {F : Nat → Nat → Int} {L : Nat → Int} {im : Nat → Option Nat} {c : Nat}
theorem g_needOf {k t : Nat} (hk : k < 3) (ht : t < 40) (hn : ∀ o, o < 4 → F 31 (40 * (3 * o + k) + t) = fnd F k t o) : zM l g yX5_needOf cX5_needOf 5 (some .int) 1 0 0 [.ref (g.2.1 + 23), .int (iz k), .int (iz t)] (zk g F L im c) (fun r h => r = some (.int (iz (nda F k t))) ∧ h = zk g F L im c) := by
  refine zM_of 2 (by decide) rfl ?_
  show zJ l g RX5 cX5_needOf 5 (some .int) "needOf" (zRm 1 0 0) 0 0 _ 0 0 0 [some (.ref (g.2.1 + 23)), some (.int (iz k)), some (.int (iz t)), none, none] [] _
  have loop : ∀ (j o : Nat), o + j = 4 → zJ l g RX5 cX5_needOf 5 (some .int) "needOf" (zRm 1 0 0) 0 0 (fun r h => r = some (.int (iz (nda F k t))) ∧ h = zk g F L im c) 0 0 5 [some (.ref (g.2.1 + 23)), some (.int (iz k)), some (.int (iz t)), some (.int (iz (sm (fnd F k t) o))), some (.int (iz o))] [] (zk g F L im c) := by
    intro j
    induction j with
    | zero =>
      intro o ho
      refine z_iload (pc := 5) rfl dX5_needOf_5 ?_
      refine z_iconst (pc := 7) dX5_needOf_7 ?_
      refine z_icmp_ge (pc := 8) ⟨by omega, by omega⟩ ⟨by omega, by omega⟩ 32 (by decide) dX5_needOf_8 (fun hq => ?_) (fun hq => ?_)
      · refine z_iload_n (pc := 32) rfl dX5_needOf_32 ?_
        exact z_reti (pc := 33) rfl (by decide) (by decide) dX5_needOf_33 ⟨by rw [show o = 4 by omega]; rfl, rfl⟩
      omega
    | succ j ih =>
      intro o ho
      refine z_iload (pc := 5) rfl dX5_needOf_5 ?_
      refine z_iconst (pc := 7) dX5_needOf_7 ?_
      refine z_icmp_ge (pc := 8) ⟨by omega, by omega⟩ ⟨by omega, by omega⟩ 32 (by decide) dX5_needOf_8 (fun hq => ?_) (fun hq => ?_)
      · omega
      refine z_iload_n (pc := 11) rfl dX5_needOf_11 ?_
      refine z_aload_n (pc := 12) rfl dX5_needOf_12 ?_
      refine zf_X5_31 (pc := 13) rfl rfl dX5_needOf_13 ?_
      refine z_iload (pc := 16) rfl dX5_needOf_16 ?_
      refine z_iload_n (pc := 18) rfl dX5_needOf_18 ?_
      refine z_iload_n (pc := 19) rfl dX5_needOf_19 ?_
      refine z_S3 (pc := 20) (m_cell (a := o) (b := k) (e := t)) lk_X5_95 st_X5_cell ⟨by decide, by decide⟩ (Nat.le_of_ble_eq_true rfl) ⟨by decide, by decide⟩ dX5_needOf_20 (fun r h9 hq => ?_)
      obtain ⟨rfl, e9⟩ := hq
      rw [e9]
      clear e9 h9
      refine z_r1 ?_
      refine z_iald (pc := 23) rfl (by decide) (by omega) (by omega) dX5_needOf_23 ?_
      rw [show (40 * (3 * (o : Int) + k) + t).toNat = 40 * (3 * o + k) + t by omega, hn o (by omega)]
      refine z_iadd (pc := 24) dX5_needOf_24 ?_
      refine z_is3 (pc := 25) (by decide) rfl dX5_needOf_25 ?_
      refine z_ii4 (pc := 26) (by decide) rfl dX5_needOf_26 ?_
      refine z_goto (pc := 29) 5 (by decide) dX5_needOf_29 ?_
      exact ih (o + 1) (by omega)
  refine z_iconst (pc := 0) dX5_needOf_0 ?_
  refine z_is3 (pc := 1) (by decide) rfl dX5_needOf_1 ?_
  refine z_iconst (pc := 2) dX5_needOf_2 ?_
  refine z_is4 (pc := 3) (by decide) rfl dX5_needOf_3 ?_
  exact loop 4 0 rfl
theorem m_needs (rB : rb F) (h23 : F 23 0 = 0) {o z y x : Int} (ho : ir o) (hz : ir z) (hy : ir y) (hx : ir x) : zM l g yX5_needs cX5_needs 7 (some .boolean) 2 0 0 [.ref (g.2.1 + 23), .int (iz o), .int (iz z), .int (iz y), .int (iz x)] (zk g F L im c) (fun r h => (((0 ≤ o ∧ o ≤ 3 ∧ 0 ≤ z ∧ z < F 25 0 ∧ 0 ≤ y ∧ y ≤ F 24 0 - 8) ∧ A8 x) ∧ r = some (.int (iz 1)) ∧ h = zk g (va_up F 31 (put (F 31) (40 * (3 * o + z) + y).toNat (hb x) 8)) L im c) ∨ (¬ ((0 ≤ o ∧ o ≤ 3 ∧ 0 ≤ z ∧ z < F 25 0 ∧ 0 ≤ y ∧ y ≤ F 24 0 - 8) ∧ A8 x) ∧ r = some (.int (iz 0)) ∧ h = zk g F L im c)) := by
  refine zM_of 2 (by decide) rfl ?_
  show zJ l g RX5 cX5_needs 7 (some .boolean) "needs" (zRm 2 0 0) 0 0 _ 0 0 0 [some (.ref (g.2.1 + 23)), some (.int (iz o)), some (.int (iz z)), some (.int (iz y)), some (.int (iz x)), none, none] [] _
  have h1 := rB.1
  have h2 := rB.2.1
  have lp2 : (0 ≤ o ∧ o ≤ 3 ∧ 0 ≤ z ∧ z < F 25 0 ∧ 0 ≤ y ∧ y ≤ F 24 0 - 8) → A8 x → ∀ (j k : Nat), k + j = 8 → zJ l g RX5 cX5_needs 7 (some .boolean) "needs" (zRm 2 0 0) 0 0 (fun r h => (((0 ≤ o ∧ o ≤ 3 ∧ 0 ≤ z ∧ z < F 25 0 ∧ 0 ≤ y ∧ y ≤ F 24 0 - 8) ∧ A8 x) ∧ r = some (.int (iz 1)) ∧ h = zk g (va_up F 31 (put (F 31) (40 * (3 * o + z) + y).toNat (hb x) 8)) L im c) ∨ (¬ ((0 ≤ o ∧ o ≤ 3 ∧ 0 ≤ z ∧ z < F 25 0 ∧ 0 ≤ y ∧ y ≤ F 24 0 - 8) ∧ A8 x) ∧ r = some (.int (iz 0)) ∧ h = zk g F L im c)) 0 0 95 [some (.ref (g.2.1 + 23)), some (.int (iz o)), some (.int (iz z)), some (.int (iz y)), some (.int (iz x)), some (.int (iz 1)), some (.int (iz k))] [] (zk g (va_up F 31 (put (F 31) (40 * (3 * o + z) + y).toNat (hb x) k)) L im c) := by
    intro p0 p8 j
    induction j with
    | zero =>
      intro k hk
      refine z_iload (pc := 95) rfl dX5_needs_95 ?_
      refine z_bipush (pc := 97) (by decide) dX5_needs_97 ?_
      refine z_icmp_ge (pc := 99) ⟨by omega, by omega⟩ ⟨by omega, by omega⟩ 140 (by decide) dX5_needs_99 (fun hq => ?_) (fun hq => ?_)
      · refine z_iload (pc := 140) rfl dX5_needs_140 ?_
        exact z_retz (pc := 142) rfl (Or.inr rfl) (by decide) (by decide) dX5_needs_142 (Or.inl ⟨⟨p0, p8⟩, rfl, by rw [show k = 8 by omega]⟩)
      omega
    | succ j ih =>
      intro k hk
      have e8 := p8 k (by omega)
      refine z_iload (pc := 95) rfl dX5_needs_95 ?_
      refine z_bipush (pc := 97) (by decide) dX5_needs_97 ?_
      refine z_icmp_ge (pc := 99) ⟨by omega, by omega⟩ ⟨by omega, by omega⟩ 140 (by decide) dX5_needs_99 (fun hq => ?_) (fun hq => ?_)
      · omega
      refine z_iload (pc := 102) rfl dX5_needs_102 ?_
      refine z_if_eq (pc := 104) ⟨by omega, by omega⟩ 140 (by decide) dX5_needs_104 (fun hq => ?_) (fun hq => ?_)
      · omega
      refine z_aload_n (pc := 107) rfl dX5_needs_107 ?_
      refine zf_X5_31 (pc := 108) rfl rfl dX5_needs_108 ?_
      refine z_iload_n (pc := 111) rfl dX5_needs_111 ?_
      refine z_iload_n (pc := 112) rfl dX5_needs_112 ?_
      refine z_iload_n (pc := 113) rfl dX5_needs_113 ?_
      refine z_iload (pc := 114) rfl dX5_needs_114 ?_
      refine z_iadd (pc := 116) dX5_needs_116 ?_
      refine z_S3 (pc := 117) (m_cell (a := o) (b := z) (e := y + k)) lk_X5_95 st_X5_cell ⟨by decide, by decide⟩ (Nat.le_of_ble_eq_true rfl) ⟨by decide, by decide⟩ dX5_needs_117 (fun r h9 hq => ?_)
      obtain ⟨rfl, e9⟩ := hq
      rw [e9]
      clear e9 h9
      refine z_r1 ?_
      refine z_iload (pc := 120) rfl dX5_needs_120 ?_
      refine z_bipush (pc := 122) (by decide) dX5_needs_122 ?_
      refine z_iconst (pc := 124) dX5_needs_124 ?_
      refine z_iload (pc := 125) rfl dX5_needs_125 ?_
      refine z_imul (pc := 127) dX5_needs_127 ?_
      refine z_isub (pc := 128) dX5_needs_128 ?_
      refine z_ishr (pc := 129) dX5_needs_129 ?_
      refine z_bipush (pc := 130) (by decide) dX5_needs_130 ?_
      refine z_iand (pc := 132) dX5_needs_132 ?_
      refine z_top (hb_iz x k) ?_
      refine z_iast (pc := 133) rfl (by decide) (by omega) (by omega) dX5_needs_133 ?_
      refine z_hp zs_31 ?_
      rw [up_up, show (40 * (3 * o + z) + (y + (k : Int))).toNat = (40 * (3 * o + z) + y).toNat + k by omega]
      refine z_hp (congrArg (fun f => zk g (va_up F 31 f) L im c) (put_s (F 31) (40 * (3 * o + z) + y).toNat (hb x) k)) ?_
      refine z_ii6 (pc := 134) (by decide) rfl dX5_needs_134 ?_
      refine z_goto (pc := 137) 95 (by decide) dX5_needs_137 ?_
      exact ih (k + 1) (by omega)
  have lp1 : ∀ (j k : Nat) (v : Int), k + j = 8 → ((v = 1 ∧ (0 ≤ o ∧ o ≤ 3 ∧ 0 ≤ z ∧ z < F 25 0 ∧ 0 ≤ y ∧ y ≤ F 24 0 - 8) ∧ ∀ q, q < k → hb x q < 10) ∨ (v = 0 ∧ ¬ ((0 ≤ o ∧ o ≤ 3 ∧ 0 ≤ z ∧ z < F 25 0 ∧ 0 ≤ y ∧ y ≤ F 24 0 - 8) ∧ A8 x))) → zJ l g RX5 cX5_needs 7 (some .boolean) "needs" (zRm 2 0 0) 0 0 (fun r h => (((0 ≤ o ∧ o ≤ 3 ∧ 0 ≤ z ∧ z < F 25 0 ∧ 0 ≤ y ∧ y ≤ F 24 0 - 8) ∧ A8 x) ∧ r = some (.int (iz 1)) ∧ h = zk g (va_up F 31 (put (F 31) (40 * (3 * o + z) + y).toNat (hb x) 8)) L im c) ∨ (¬ ((0 ≤ o ∧ o ≤ 3 ∧ 0 ≤ z ∧ z < F 25 0 ∧ 0 ≤ y ∧ y ≤ F 24 0 - 8) ∧ A8 x) ∧ r = some (.int (iz 0)) ∧ h = zk g F L im c)) 0 0 49 [some (.ref (g.2.1 + 23)), some (.int (iz o)), some (.int (iz z)), some (.int (iz y)), some (.int (iz x)), some (.int (iz v)), some (.int (iz k))] [] (zk g F L im c) := by
    intro j
    induction j with
    | zero =>
      intro k v hk hv
      refine z_iload (pc := 49) rfl dX5_needs_49 ?_
      refine z_bipush (pc := 51) (by decide) dX5_needs_51 ?_
      refine z_icmp_ge (pc := 53) ⟨by omega, by omega⟩ ⟨by omega, by omega⟩ 92 (by decide) dX5_needs_53 (fun hq => ?_) (fun hq => ?_)
      rotate_left
      · omega
      refine z_iconst (pc := 92) dX5_needs_92 ?_
      refine z_is6 (pc := 93) (by decide) rfl dX5_needs_93 ?_
      rcases hv with ⟨rfl, p0, p8⟩ | ⟨rfl, hp⟩
      · have := lp2 p0 (fun q hq => p8 q (by omega)) 8 0 rfl
        rw [put_0, up_id] at this
        exact this
      · refine z_iload (pc := 95) rfl dX5_needs_95 ?_
        refine z_bipush (pc := 97) (by decide) dX5_needs_97 ?_
        refine z_icmp_ge (pc := 99) ⟨by omega, by omega⟩ ⟨by omega, by omega⟩ 140 (by decide) dX5_needs_99 (fun hq => ?_) (fun hq => ?_)
        · omega
        refine z_iload (pc := 102) rfl dX5_needs_102 ?_
        refine z_if_eq (pc := 104) ⟨by omega, by omega⟩ 140 (by decide) dX5_needs_104 (fun hq => ?_) (fun hq => ?_)
        · refine z_iload (pc := 140) rfl dX5_needs_140 ?_
          exact z_retz (pc := 142) rfl (Or.inl rfl) (by decide) (by decide) dX5_needs_142 (Or.inr ⟨hp, rfl, rfl⟩)
        omega
    | succ j ih =>
      intro k v hk hv
      have e8 := hb_bd x k
      have vr : v = 0 ∨ v = 1 := by rcases hv with h | h; exact Or.inr h.1; exact Or.inl h.1
      refine z_iload (pc := 49) rfl dX5_needs_49 ?_
      refine z_bipush (pc := 51) (by decide) dX5_needs_51 ?_
      refine z_icmp_ge (pc := 53) ⟨by omega, by omega⟩ ⟨by omega, by omega⟩ 92 (by decide) dX5_needs_53 (fun hq => ?_) (fun hq => ?_)
      · omega
      refine z_iload (pc := 56) rfl dX5_needs_56 ?_
      refine z_if_eq (pc := 58) ⟨by omega, by omega⟩ 83 (by decide) dX5_needs_58 (fun hq => ?_) (fun hq => ?_)
      · refine z_iconst (pc := 83) dX5_needs_83 ?_
        refine z_is5 (pc := 84) (by decide) rfl dX5_needs_84 ?_
        refine z_ii6 (pc := 86) (by decide) rfl dX5_needs_86 ?_
        refine z_goto (pc := 89) 49 (by decide) dX5_needs_89 ?_
        exact ih (k + 1) 0 (by omega) (Or.inr ⟨rfl, by rcases hv with h | h; (exfalso; omega); exact h.2⟩)
      refine z_iload (pc := 61) rfl dX5_needs_61 ?_
      refine z_bipush (pc := 63) (by decide) dX5_needs_63 ?_
      refine z_iconst (pc := 65) dX5_needs_65 ?_
      refine z_iload (pc := 66) rfl dX5_needs_66 ?_
      refine z_imul (pc := 68) dX5_needs_68 ?_
      refine z_isub (pc := 69) dX5_needs_69 ?_
      refine z_ishr (pc := 70) dX5_needs_70 ?_
      refine z_bipush (pc := 71) (by decide) dX5_needs_71 ?_
      refine z_iand (pc := 73) dX5_needs_73 ?_
      refine z_top (hb_iz x k) ?_
      refine z_bipush (pc := 74) (by decide) dX5_needs_74 ?_
      refine z_icmp_ge (pc := 76) ⟨by omega, by omega⟩ ⟨by omega, by omega⟩ 83 (by decide) dX5_needs_76 (fun hq => ?_) (fun hq => ?_)
      · refine z_iconst (pc := 83) dX5_needs_83 ?_
        refine z_is5 (pc := 84) (by decide) rfl dX5_needs_84 ?_
        refine z_ii6 (pc := 86) (by decide) rfl dX5_needs_86 ?_
        refine z_goto (pc := 89) 49 (by decide) dX5_needs_89 ?_
        exact ih (k + 1) 0 (by omega) (Or.inr ⟨rfl, fun h => by have := h.2 k (by omega); omega⟩)
      refine z_iconst (pc := 79) dX5_needs_79 ?_
      refine z_goto (pc := 80) 84 (by decide) dX5_needs_80 ?_
      refine z_is5 (pc := 84) (by decide) rfl dX5_needs_84 ?_
      refine z_ii6 (pc := 86) (by decide) rfl dX5_needs_86 ?_
      refine z_goto (pc := 89) 49 (by decide) dX5_needs_89 ?_
      refine ih (k + 1) 1 (by omega) (Or.inl ⟨rfl, ?_⟩)
      rcases hv with h | h
      · refine ⟨h.2.1, fun q hq => ?_⟩
        by_cases e : q = k
        · subst e; assumption
        · exact h.2.2 q (by omega)
      · exfalso; omega
  have f43 : ¬ (0 ≤ o ∧ o ≤ 3 ∧ 0 ≤ z ∧ z < F 25 0 ∧ 0 ≤ y ∧ y ≤ F 24 0 - 8) → zJ l g RX5 cX5_needs 7 (some .boolean) "needs" (zRm 2 0 0) 0 0 (fun r h => (((0 ≤ o ∧ o ≤ 3 ∧ 0 ≤ z ∧ z < F 25 0 ∧ 0 ≤ y ∧ y ≤ F 24 0 - 8) ∧ A8 x) ∧ r = some (.int (iz 1)) ∧ h = zk g (va_up F 31 (put (F 31) (40 * (3 * o + z) + y).toNat (hb x) 8)) L im c) ∨ (¬ ((0 ≤ o ∧ o ≤ 3 ∧ 0 ≤ z ∧ z < F 25 0 ∧ 0 ≤ y ∧ y ≤ F 24 0 - 8) ∧ A8 x) ∧ r = some (.int (iz 0)) ∧ h = zk g F L im c)) 0 0 43 [some (.ref (g.2.1 + 23)), some (.int (iz o)), some (.int (iz z)), some (.int (iz y)), some (.int (iz x)), none, none] [] (zk g F L im c) := by
    intro hno
    refine z_iconst (pc := 43) dX5_needs_43 ?_
    refine z_is5 (pc := 44) (by decide) rfl dX5_needs_44 ?_
    refine z_iconst (pc := 46) dX5_needs_46 ?_
    refine z_is6 (pc := 47) (by decide) rfl dX5_needs_47 ?_
    exact lp1 8 0 0 rfl (Or.inr ⟨rfl, fun h => hno h.1⟩)
  refine z_aload_n (pc := 0) rfl dX5_needs_0 ?_
  refine z_iconst (pc := 1) dX5_needs_1 ?_
  refine zp_X5_72 (pc := 2) rfl (Nat.le_of_ble_eq_true rfl) dX5_needs_2 ?_
  refine z_hp (show _ = zk g F L im c from zs_23_0.trans (congrArg (fun f => zk g f L im c) (up23 h23))) ?_
  refine z_iload_n (pc := 5) rfl dX5_needs_5 ?_
  refine z_iconst (pc := 6) dX5_needs_6 ?_
  refine z_iconst (pc := 7) dX5_needs_7 ?_
  refine z_S3 (pc := 8) (m_in (a := o) (b := 0) (e := 3) (by assumption) ⟨by omega, by omega⟩ ⟨by omega, by omega⟩) lk_X5_80 st_X5_in ⟨by decide, by decide⟩ (Nat.le_of_ble_eq_true rfl) ⟨by decide, by decide⟩ dX5_needs_8 (fun r h9 hq => ?_)
  obtain ⟨rfl, e9⟩ := hq
  rw [e9]
  clear e9 h9
  refine z_r1 ?_
  by_cases hc0 : 0 ≤ o ∧ o ≤ 3
  rotate_left
  · rw [if_neg hc0]
    refine z_if_eq (pc := 11) ⟨by omega, by omega⟩ 43 (by decide) dX5_needs_11 (fun hq => ?_) (fun hq => ?_)
    · exact f43 (by omega)
    omega
  rw [if_pos hc0]
  refine z_if_eq (pc := 11) ⟨by omega, by omega⟩ 43 (by decide) dX5_needs_11 (fun hq => ?_) (fun hq => ?_)
  · omega
  refine z_aload_n (pc := 14) rfl dX5_needs_14 ?_
  refine z_iload_n (pc := 15) rfl dX5_needs_15 ?_
  refine z_V1 (pc := 16) (g_isKind rB hz) lk_X5_84 iv_X5_isKind rfl rfl ⟨by decide, by decide⟩ (Nat.le_of_ble_eq_true rfl) ⟨by decide, by decide⟩ dX5_needs_16 (fun r h9 hq => ?_)
  obtain ⟨rfl, e9⟩ := hq
  rw [e9]
  clear e9 h9
  refine z_r1 ?_
  by_cases hc1 : 0 ≤ z ∧ z < F 25 0
  rotate_left
  · rw [if_neg hc1]
    refine z_if_eq (pc := 19) ⟨by omega, by omega⟩ 43 (by decide) dX5_needs_19 (fun hq => ?_) (fun hq => ?_)
    · exact f43 (by omega)
    omega
  rw [if_pos hc1]
  refine z_if_eq (pc := 19) ⟨by omega, by omega⟩ 43 (by decide) dX5_needs_19 (fun hq => ?_) (fun hq => ?_)
  · omega
  refine z_iload_n (pc := 22) rfl dX5_needs_22 ?_
  refine z_iconst (pc := 23) dX5_needs_23 ?_
  refine z_aload_n (pc := 24) rfl dX5_needs_24 ?_
  refine zf_X5_7 (pc := 25) rfl rfl dX5_needs_25 ?_
  refine z_iconst (pc := 28) dX5_needs_28 ?_
  refine z_iald (pc := 29) rfl (by decide) (by omega) (by omega) dX5_needs_29 ?_
  rw [show F 24 (0 : Int).toNat = F 24 0 from rfl]
  refine z_bipush (pc := 30) (by decide) dX5_needs_30 ?_
  refine z_isub (pc := 32) dX5_needs_32 ?_
  refine z_S3 (pc := 33) (m_in (a := y) (b := 0) (e := F 24 0 - 8) (by assumption) ⟨by omega, by omega⟩ ⟨by omega, by omega⟩) lk_X5_80 st_X5_in ⟨by decide, by decide⟩ (Nat.le_of_ble_eq_true rfl) ⟨by decide, by decide⟩ dX5_needs_33 (fun r h9 hq => ?_)
  obtain ⟨rfl, e9⟩ := hq
  rw [e9]
  clear e9 h9
  refine z_r1 ?_
  by_cases hc2 : 0 ≤ y ∧ y ≤ F 24 0 - 8
  rotate_left
  · rw [if_neg hc2]
    refine z_if_eq (pc := 36) ⟨by omega, by omega⟩ 43 (by decide) dX5_needs_36 (fun hq => ?_) (fun hq => ?_)
    · exact f43 (by omega)
    omega
  rw [if_pos hc2]
  refine z_if_eq (pc := 36) ⟨by omega, by omega⟩ 43 (by decide) dX5_needs_36 (fun hq => ?_) (fun hq => ?_)
  · omega
  refine z_iconst (pc := 39) dX5_needs_39 ?_
  refine z_goto (pc := 40) 44 (by decide) dX5_needs_40 ?_
  refine z_is5 (pc := 44) (by decide) rfl dX5_needs_44 ?_
  refine z_iconst (pc := 46) dX5_needs_46 ?_
  refine z_is6 (pc := 47) (by decide) rfl dX5_needs_47 ?_
  exact lp1 8 0 1 rfl (Or.inl ⟨rfl, by omega, fun q hq => absurd hq (Nat.not_lt_zero q)⟩)
theorem m_spent (B : bi F 1) (hq : rq F) {k a t : Nat} (hk : k < 3) (ht : t < 40) (ha : a ≤ t + 1) (hc : ∀ u, 0 ≤ F 39 u ∧ F 39 u ≤ 10000) : zM l g yX5_spent cX5_spent 6 (some .int) 2 0 0 [.ref (g.2.1 + 23), .int (iz k), .int (iz a), .int (iz t)] (zk g F L im c) (fun r h => r = some (.int (iz (spn (nda F k) a t (F 39)))) ∧ h = zk g F L im c) := by
  refine zM_of 2 (by decide) rfl ?_
  show zJ l g RX5 cX5_spent 6 (some .int) "spent" (zRm 2 0 0) 0 0 _ 0 0 0 [some (.ref (g.2.1 + 23)), some (.int (iz k)), some (.int (iz a)), some (.int (iz t)), none, none] [] _
  have lp : ∀ (j u : Nat), u + j = t + 1 → a ≤ u → zJ l g RX5 cX5_spent 6 (some .int) "spent" (zRm 2 0 0) 0 0 (fun r h => r = some (.int (iz (spn (nda F k) a t (F 39)))) ∧ h = zk g F L im c) 0 0 6 [some (.ref (g.2.1 + 23)), some (.int (iz k)), some (.int (iz a)), some (.int (iz t)), some (.int (iz (sm (fun u => if a ≤ u ∧ F 39 u < nda F k u then 1 else 0) u))), some (.int (iz u))] [] (zk g F L im c) := by
    intro j
    induction j with
    | zero =>
      intro u hu hau
      refine z_iload (pc := 6) rfl dX5_spent_6 ?_
      refine z_iload_n (pc := 8) rfl dX5_spent_8 ?_
      refine z_icmp_gt (pc := 9) ⟨by omega, by omega⟩ ⟨by omega, by omega⟩ 45 (by decide) dX5_spent_9 (fun hq0 => ?_) (fun hq0 => ?_)
      · refine z_iload (pc := 45) rfl dX5_spent_45 ?_
        exact z_reti (pc := 47) rfl (by decide) (by decide) dX5_spent_47 ⟨by rw [show u = t + 1 by omega]; rfl, rfl⟩
      omega
    | succ j ih =>
      intro u hu hau
      have c1 := hc u
      have c2 := nda_bd B k u
      refine z_iload (pc := 6) rfl dX5_spent_6 ?_
      refine z_iload_n (pc := 8) rfl dX5_spent_8 ?_
      refine z_icmp_gt (pc := 9) ⟨by omega, by omega⟩ ⟨by omega, by omega⟩ 45 (by decide) dX5_spent_9 (fun hq0 => ?_) (fun hq0 => ?_)
      · omega
      refine z_iload (pc := 12) rfl dX5_spent_12 ?_
      refine z_aload_n (pc := 14) rfl dX5_spent_14 ?_
      refine z_iload_n (pc := 15) rfl dX5_spent_15 ?_
      refine z_iload (pc := 16) rfl dX5_spent_16 ?_
      refine z_V2 (pc := 18) (g_needOf hk (t := u) (by omega) (fun o ho => hq.2.2.2.2.2 o k u ho hk (by omega))) lk_X5_103 iv_X5_needOf rfl rfl ⟨by decide, by decide⟩ (Nat.le_of_ble_eq_true rfl) ⟨by decide, by decide⟩ dX5_spent_18 (fun r h9 hq0 => ?_)
      obtain ⟨rfl, e9⟩ := hq0
      rw [e9]
      clear e9 h9
      refine z_r1 ?_
      refine z_aload_n (pc := 21) rfl dX5_spent_21 ?_
      refine zf_X5_55 (pc := 22) rfl rfl dX5_spent_22 ?_
      refine z_iload (pc := 25) rfl dX5_spent_25 ?_
      refine z_iald (pc := 27) rfl (by decide) (by omega) (by omega) dX5_spent_27 ?_
      rw [Int.toNat_natCast]
      refine z_icmp_le (pc := 28) ⟨by omega, by omega⟩ ⟨by omega, by omega⟩ 35 (by decide) dX5_spent_28 (fun hq0 => ?_) (fun hq0 => ?_)
      · refine z_iconst (pc := 35) dX5_spent_35 ?_
        refine z_iadd (pc := 36) dX5_spent_36 ?_
        have e : sm (fun u => if a ≤ u ∧ F 39 u < nda F k u then 1 else 0) u + 0 = sm (fun u => if a ≤ u ∧ F 39 u < nda F k u then 1 else 0) (u + 1) := by
          show _ = sm (fun u => if a ≤ u ∧ F 39 u < nda F k u then 1 else 0) u + (if a ≤ u ∧ F 39 u < nda F k u then 1 else 0)
          rw [if_neg (by omega)]
        rw [e]
        refine z_is4 (pc := 37) (by decide) rfl dX5_spent_37 ?_
        refine z_ii5 (pc := 39) (by decide) rfl dX5_spent_39 ?_
        refine z_goto (pc := 42) 6 (by decide) dX5_spent_42 ?_
        exact ih (u + 1) (by omega) (by omega)
      · refine z_iconst (pc := 31) dX5_spent_31 ?_
        refine z_goto (pc := 32) 36 (by decide) dX5_spent_32 ?_
        refine z_iadd (pc := 36) dX5_spent_36 ?_
        have e : sm (fun u => if a ≤ u ∧ F 39 u < nda F k u then 1 else 0) u + 1 = sm (fun u => if a ≤ u ∧ F 39 u < nda F k u then 1 else 0) (u + 1) := by
          show _ = sm (fun u => if a ≤ u ∧ F 39 u < nda F k u then 1 else 0) u + (if a ≤ u ∧ F 39 u < nda F k u then 1 else 0)
          rw [if_pos ⟨hau, by assumption⟩]
        rw [e]
        refine z_is4 (pc := 37) (by decide) rfl dX5_spent_37 ?_
        refine z_ii5 (pc := 39) (by decide) rfl dX5_spent_39 ?_
        refine z_goto (pc := 42) 6 (by decide) dX5_spent_42 ?_
        exact ih (u + 1) (by omega) (by omega)
  have e0 : sm (fun u => if a ≤ u ∧ F 39 u < nda F k u then 1 else 0) a = 0 := sm_zero (fun j hj => by show (if a ≤ j ∧ F 39 j < nda F k j then (1 : Int) else 0) = 0; rw [if_neg (by omega)])
  refine z_iconst (pc := 0) dX5_spent_0 ?_
  rw [← e0]
  refine z_is4 (pc := 1) (by decide) rfl dX5_spent_1 ?_
  refine z_iload_n (pc := 3) rfl dX5_spent_3 ?_
  refine z_is5 (pc := 4) (by decide) rfl dX5_spent_4 ?_
  exact lp (t + 1 - a) a (by omega) (Nat.le_refl a)
theorem m_blind_no (rB : rb F) (h23 : F 23 0 = 0) {z : Int} (hz : ir z) (hno : ¬ (0 ≤ z ∧ z < F 27 0)) : zM l g yX5_blind cX5_blind 7 (some .long) 4 0 0 [.ref (g.2.1 + 23), .int (iz z)] (zk g F L im c) (fun r h => r = some (.long (lz (-1))) ∧ h = zk g F L im c) := by
  refine zM_of 5 (by decide) rfl ?_
  show zJ l g RX5 cX5_blind 7 (some .long) "blind" (zRm 4 0 0) 0 0 _ 0 0 0 [some (.ref (g.2.1 + 23)), some (.int (iz z)), none, none, none, none, none] [] _
  have h3 := rB.2.2
  refine z_aload_n (pc := 0) rfl dX5_blind_0 ?_
  refine z_iconst (pc := 1) dX5_blind_1 ?_
  refine zp_X5_72 (pc := 2) rfl (Nat.le_of_ble_eq_true rfl) dX5_blind_2 ?_
  refine z_hp (show _ = zk g F L im c from zs_23_0.trans (congrArg (fun f => zk g f L im c) (up23 h23))) ?_
  refine z_aload_n (pc := 5) rfl dX5_blind_5 ?_
  refine z_iload_n (pc := 6) rfl dX5_blind_6 ?_
  refine z_V1 (pc := 7) (g_isOffer rB hz) lk_X5_89 iv_X5_isOffer rfl rfl ⟨by decide, by decide⟩ (Nat.le_of_ble_eq_true rfl) ⟨by decide, by decide⟩ dX5_blind_7 (fun r h9 hq => ?_)
  obtain ⟨rfl, e9⟩ := hq
  rw [e9]
  clear e9 h9
  refine z_r1 ?_
  rw [if_neg hno]
  refine z_if_ne (pc := 10) ⟨by omega, by omega⟩ 17 (by decide) dX5_blind_10 (fun hq => ?_) (fun hq => ?_)
  · omega
  refine z_ldc2 (pc := 13) kl_X5_120 dX5_blind_13 ?_
  exact z_retl (pc := 16) rfl (by decide) (by decide) dX5_blind_16 ⟨rfl, rfl⟩
theorem m_blind (B : bi F 1) (hq : rq F) (h23 : F 23 0 = 0) {o k : Nat} (ho : (o : Int) < F 1 2) (hko : F 3 o = k) (h7 : ∀ o2 t, o2 < 6 → t < 40 → put (nobR F k (F 27 0).toNat) (40 * o) (bln (nda F k) (F 4 o) (F 5 o) (F 2 k) (F 1 0)) (F 1 0).toNat (40 * o2 + t) = bt F o2 t) : zM l g yX5_blind cX5_blind 7 (some .long) 4 0 0 [.ref (g.2.1 + 23), .int (iz o)] (zk g F L im c) (fun r h => r = some (.long (lz (plc F k))) ∧ h = zk g (Bs F (put (nobR F k (F 27 0).toNat) (40 * o) (bln (nda F k) (F 4 o) (F 5 o) (F 2 k) (F 1 0)) (F 1 0).toNat) (cnb (nda F k) (F 4 o) (F 5 o) (F 2 k) (F 1 0) (F 1 0).toNat)) L im c) := by
  refine zM_of 5 (by decide) rfl ?_
  show zJ l g RX5 cX5_blind 7 (some .long) "blind" (zRm 4 0 0) 0 0 _ 0 0 0 [some (.ref (g.2.1 + 23)), some (.int (iz o)), none, none, none, none, none] [] _
  have rB := rb_rq B hq
  have b1 := bi_hours B
  have b3 := bi_offers B
  have b2 := bi_kinds B
  have e28 := hq.2.2.2.2.1 o (by omega)
  have hk : k < 3 := by have := bi_kindOf B o; omega
  have bT := bi_terms B o
  have bT1 := bi_term1 B o ho
  have bC := bi_costs B o
  have bR := bi_rates B k
  have hof : ∀ j, j < 6 → 0 ≤ F 28 j ∧ F 28 j ≤ 2 := fun j hj => by rw [(hq.2.2.2.2.1 j hj).1]; exact bi_kindOf B j
  have e24 : F 24 0 = F 1 0 := hq.1
  have e27 : F 27 0 = F 1 2 := hq.2.2.1
  have e26 := hq.2.2.2.1 k hk
  have lpT : ∀ (j t : Nat) (y4 y5 y6 : Option Value), t + j = (F 1 0).toNat → zJ l g RX5 cX5_blind 7 (some .long) "blind" (zRm 4 0 0) 0 0 (fun r h => r = some (.long (lz (plc F k))) ∧ h = zk g (Bs F (put (nobR F k (F 27 0).toNat) (40 * o) (bln (nda F k) (F 4 o) (F 5 o) (F 2 k) (F 1 0)) (F 1 0).toNat) (cnb (nda F k) (F 4 o) (F 5 o) (F 2 k) (F 1 0) (F 1 0).toNat)) L im c) 0 0 52 [some (.ref (g.2.1 + 23)), some (.int (iz o)), some (.int (iz k)), some (.int (iz t)), y4, y5, y6] [] (zk g (Bs F (put (nobR F k (F 27 0).toNat) (40 * o) (bln (nda F k) (F 4 o) (F 5 o) (F 2 k) (F 1 0)) t) (cnb (nda F k) (F 4 o) (F 5 o) (F 2 k) (F 1 0) t)) L im c) := by
    intro j
    induction j with
    | zero =>
      intro t y4 y5 y6 ht
      refine z_iload_n (pc := 52) rfl dX5_blind_52 ?_
      refine z_aload_n (pc := 53) rfl dX5_blind_53 ?_
      refine zf_X5_7 (pc := 54) rfl rfl dX5_blind_54 ?_
      refine z_iconst (pc := 57) dX5_blind_57 ?_
      refine z_iald (pc := 58) rfl (by decide) (by omega) (by omega) dX5_blind_58 ?_
      rw [show Bs F (put (nobR F k (F 27 0).toNat) (40 * o) (bln (nda F k) (F 4 o) (F 5 o) (F 2 k) (F 1 0)) t) (cnb (nda F k) (F 4 o) (F 5 o) (F 2 k) (F 1 0) t) 24 (0 : Int).toNat = F 1 0 from e24]
      refine z_icmp_ge (pc := 59) ⟨by omega, by omega⟩ ⟨by omega, by omega⟩ 220 (by decide) dX5_blind_59 (fun hq0 => ?_) (fun hq0 => ?_)
      rotate_left
      · omega
      rw [show t = (F 1 0).toNat by omega]
      refine z_aload_n (pc := 220) rfl dX5_blind_220 ?_
      refine z_iload_n (pc := 221) rfl dX5_blind_221 ?_
      refine z_V1 (pc := 222) (m_planCost (F := Bs F (put (nobR F k (F 27 0).toNat) (40 * o) (bln (nda F k) (F 4 o) (F 5 o) (F 2 k) (F 1 0)) (F 1 0).toNat) (cnb (nda F k) (F 4 o) (F 5 o) (F 2 k) (F 1 0) (F 1 0).toNat)) (k := k) B (rl_rq (F := Bs F (put (nobR F k (F 27 0).toNat) (40 * o) (bln (nda F k) (F 4 o) (F 5 o) (F 2 k) (F 1 0)) (F 1 0).toNat) (cnb (nda F k) (F 4 o) (F 5 o) (F 2 k) (F 1 0) (F 1 0).toNat)) hq h7) hk) lk_X5_117 iv_X5_planCost rfl rfl ⟨by decide, by decide⟩ (Nat.le_of_ble_eq_true rfl) ⟨by decide, by decide⟩ dX5_blind_222 (fun r h9 hq0 => ?_)
      obtain ⟨rfl, e9⟩ := hq0
      rw [e9]
      clear e9 h9
      refine z_r1 ?_
      exact z_retl (pc := 225) rfl (by decide) (by decide) dX5_blind_225 ⟨rfl, rfl⟩
    | succ j ih =>
      intro t y4 y5 y6 ht
      have cb := cnb_bd (nda F k) (F 4 o) (F 5 o) (F 2 k) (F 1 0) t
      have bb := bln_bd (nda F k) (F 4 o) (F 5 o) (F 2 k) (F 1 0) t
      have eA : ((wfs (F 4 o) t) : Int) = max 0 ((t : Int) - F 4 o + 1) := by unfold wfs; omega
      have eE : ((wen (F 1 0) (F 4 o) t) : Int) = min (F 1 0) ((t : Int) + F 4 o) := by unfold wen; omega
      have ou : ∀ (x : Nat) (y6 : Option Value), (x : Int) = bln (nda F k) (F 4 o) (F 5 o) (F 2 k) (F 1 0) t → zJ l g RX5 cX5_blind 7 (some .long) "blind" (zRm 4 0 0) 0 0 (fun r h => r = some (.long (lz (plc F k))) ∧ h = zk g (Bs F (put (nobR F k (F 27 0).toNat) (40 * o) (bln (nda F k) (F 4 o) (F 5 o) (F 2 k) (F 1 0)) (F 1 0).toNat) (cnb (nda F k) (F 4 o) (F 5 o) (F 2 k) (F 1 0) (F 1 0).toNat)) L im c) 0 0 214 [some (.ref (g.2.1 + 23)), some (.int (iz o)), some (.int (iz k)), some (.int (iz t)), some (.int (iz (wfs (F 4 o) t))), some (.int (iz (((wen (F 1 0) (F 4 o) t) : Int) - 1))), y6] [] (zk g (Bs F (vf_upd (put (nobR F k (F 27 0).toNat) (40 * o) (bln (nda F k) (F 4 o) (F 5 o) (F 2 k) (F 1 0)) t) (40 * o + t) (x : Int)) (cwi (cnb (nda F k) (F 4 o) (F 5 o) (F 2 k) (F 1 0) t) (wfs (F 4 o) t) (wen (F 1 0) (F 4 o) t) (x : Int))) L im c) := by
        intro x y6 hx
        have e1 : vf_upd (put (nobR F k (F 27 0).toNat) (40 * o) (bln (nda F k) (F 4 o) (F 5 o) (F 2 k) (F 1 0)) t) (40 * o + t) (x : Int) = put (nobR F k (F 27 0).toNat) (40 * o) (bln (nda F k) (F 4 o) (F 5 o) (F 2 k) (F 1 0)) (t + 1) := by rw [hx]; exact put_s (nobR F k (F 27 0).toNat) (40 * o) (bln (nda F k) (F 4 o) (F 5 o) (F 2 k) (F 1 0)) t
        have e2 : cwi (cnb (nda F k) (F 4 o) (F 5 o) (F 2 k) (F 1 0) t) (wfs (F 4 o) t) (wen (F 1 0) (F 4 o) t) (x : Int) = cnb (nda F k) (F 4 o) (F 5 o) (F 2 k) (F 1 0) (t + 1) := by rw [hx]; rfl
        rw [e1, e2]
        refine z_ii3 (pc := 214) (by decide) rfl dX5_blind_214 ?_
        refine z_goto (pc := 217) 52 (by decide) dX5_blind_217 ?_
        exact ih (t + 1) _ _ _ (by omega)
      have lpW : ∀ (f x : Nat) (y6 : Option Value), x + f = 60 → ((nby (nda F k) (F 4 o) (F 5 o) (F 2 k) (F 1 0) t (cnb (nda F k) (F 4 o) (F 5 o) (F 2 k) (F 1 0) t) x f : Nat) : Int) = bln (nda F k) (F 4 o) (F 5 o) (F 2 k) (F 1 0) t → zJ l g RX5 cX5_blind 7 (some .long) "blind" (zRm 4 0 0) 0 0 (fun r h => r = some (.long (lz (plc F k))) ∧ h = zk g (Bs F (put (nobR F k (F 27 0).toNat) (40 * o) (bln (nda F k) (F 4 o) (F 5 o) (F 2 k) (F 1 0)) (F 1 0).toNat) (cnb (nda F k) (F 4 o) (F 5 o) (F 2 k) (F 1 0) (F 1 0).toNat)) L im c) 0 0 135 [some (.ref (g.2.1 + 23)), some (.int (iz o)), some (.int (iz k)), some (.int (iz t)), some (.int (iz (wfs (F 4 o) t))), some (.int (iz (((wen (F 1 0) (F 4 o) t) : Int) - 1))), y6] [] (zk g (Bs F (vf_upd (put (nobR F k (F 27 0).toNat) (40 * o) (bln (nda F k) (F 4 o) (F 5 o) (F 2 k) (F 1 0)) t) (40 * o + t) (x : Int)) (cwi (cnb (nda F k) (F 4 o) (F 5 o) (F 2 k) (F 1 0) t) (wfs (F 4 o) t) (wen (F 1 0) (F 4 o) t) (x : Int))) L im c) := by
        intro f
        induction f with
        | zero =>
          intro x y6 hx hn
          have s0 : spn (nda F k) (wfs (F 4 o) t) t (cwi (cnb (nda F k) (F 4 o) (F 5 o) (F 2 k) (F 1 0) t) (wfs (F 4 o) t) (wen (F 1 0) (F 4 o) t) (x : Int)) = 0 := spn_0 (fun u h1 h2 => by
            have := nda_bd B k u
            have := cb u
            unfold cwi
            rw [if_pos (by omega)]
            omega)
          refine z_aload_n (pc := 135) rfl dX5_blind_135 ?_
          refine zf_X5_28 (pc := 136) rfl rfl dX5_blind_136 ?_
          refine z_iload_n (pc := 139) rfl dX5_blind_139 ?_
          refine z_iald (pc := 140) rfl (by decide) (by omega) (by omega) dX5_blind_140 ?_
          rw [Int.toNat_natCast, show Bs F (vf_upd (put (nobR F k (F 27 0).toNat) (40 * o) (bln (nda F k) (F 4 o) (F 5 o) (F 2 k) (F 1 0)) t) (40 * o + t) (x : Int)) (cwi (cnb (nda F k) (F 4 o) (F 5 o) (F 2 k) (F 1 0) t) (wfs (F 4 o) t) (wen (F 1 0) (F 4 o) t) (x : Int)) 30 o = F 5 o from e28.2.2]
          refine z_if_le (pc := 141) ⟨by omega, by omega⟩ 214 (by decide) dX5_blind_141 (fun hq0 => ?_) (fun hq0 => ?_)
          · exact ou x _ hn
          refine z_aload_n (pc := 144) rfl dX5_blind_144 ?_
          refine z_iload_n (pc := 145) rfl dX5_blind_145 ?_
          refine z_iload (pc := 146) rfl dX5_blind_146 ?_
          refine z_iload_n (pc := 148) rfl dX5_blind_148 ?_
          refine z_V3 (pc := 149) (m_spent (F := Bs F (vf_upd (put (nobR F k (F 27 0).toNat) (40 * o) (bln (nda F k) (F 4 o) (F 5 o) (F 2 k) (F 1 0)) t) (40 * o + t) (x : Int)) (cwi (cnb (nda F k) (F 4 o) (F 5 o) (F 2 k) (F 1 0) t) (wfs (F 4 o) t) (wen (F 1 0) (F 4 o) t) (x : Int))) (k := k) (a := (wfs (F 4 o) t)) (t := t) B hq hk (by omega) (by omega) (fun u => by have := cb u; show 0 ≤ cwi (cnb (nda F k) (F 4 o) (F 5 o) (F 2 k) (F 1 0) t) (wfs (F 4 o) t) (wen (F 1 0) (F 4 o) t) (x : Int) u ∧ cwi (cnb (nda F k) (F 4 o) (F 5 o) (F 2 k) (F 1 0) t) (wfs (F 4 o) t) (wen (F 1 0) (F 4 o) t) (x : Int) u ≤ 10000; unfold cwi; split <;> omega)) lk_X5_148 iv_X5_spent rfl rfl ⟨by decide, by decide⟩ (Nat.le_of_ble_eq_true rfl) ⟨by decide, by decide⟩ dX5_blind_149 (fun r h9 hq0 => ?_)
          obtain ⟨rfl, e9⟩ := hq0
          rw [e9]
          clear e9 h9
          refine z_r1 ?_
          refine z_top (congrArg iz (show _ = (0 : Int) from s0)) ?_
          refine z_aload_n (pc := 152) rfl dX5_blind_152 ?_
          refine zf_X5_16 (pc := 153) rfl rfl dX5_blind_153 ?_
          refine z_iload_n (pc := 156) rfl dX5_blind_156 ?_
          refine z_iald (pc := 157) rfl (by decide) (by omega) (by omega) dX5_blind_157 ?_
          refine z_imul (pc := 158) dX5_blind_158 ?_
          refine z_aload_n (pc := 159) rfl dX5_blind_159 ?_
          refine zf_X5_28 (pc := 160) rfl rfl dX5_blind_160 ?_
          refine z_iload_n (pc := 163) rfl dX5_blind_163 ?_
          refine z_iald (pc := 164) rfl (by decide) (by omega) (by omega) dX5_blind_164 ?_
          rw [Int.toNat_natCast, show Bs F (vf_upd (put (nobR F k (F 27 0).toNat) (40 * o) (bln (nda F k) (F 4 o) (F 5 o) (F 2 k) (F 1 0)) t) (40 * o + t) (x : Int)) (cwi (cnb (nda F k) (F 4 o) (F 5 o) (F 2 k) (F 1 0) t) (wfs (F 4 o) t) (wen (F 1 0) (F 4 o) t) (x : Int)) 30 o = F 5 o from e28.2.2, Int.zero_mul]
          refine z_icmp_lt (pc := 165) ⟨by omega, by omega⟩ ⟨by omega, by omega⟩ 214 (by decide) dX5_blind_165 (fun hq0 => ?_) (fun hq0 => ?_)
          · exact ou x _ hn
          omega
        | succ f ihf =>
          intro x y6 hx hn
          have sb := spn_bd (nda F k) (wfs (F 4 o) t) t (cwi (cnb (nda F k) (F 4 o) (F 5 o) (F 2 k) (F 1 0) t) (wfs (F 4 o) t) (wen (F 1 0) (F 4 o) t) (x : Int))
          have sr := mul_rg sb.1 (Int.le_trans sb.2 (show (t : Int) + 1 ≤ 41 by omega)) bR.1 bR.2
          refine z_aload_n (pc := 135) rfl dX5_blind_135 ?_
          refine zf_X5_28 (pc := 136) rfl rfl dX5_blind_136 ?_
          refine z_iload_n (pc := 139) rfl dX5_blind_139 ?_
          refine z_iald (pc := 140) rfl (by decide) (by omega) (by omega) dX5_blind_140 ?_
          rw [Int.toNat_natCast, show Bs F (vf_upd (put (nobR F k (F 27 0).toNat) (40 * o) (bln (nda F k) (F 4 o) (F 5 o) (F 2 k) (F 1 0)) t) (40 * o + t) (x : Int)) (cwi (cnb (nda F k) (F 4 o) (F 5 o) (F 2 k) (F 1 0) t) (wfs (F 4 o) t) (wen (F 1 0) (F 4 o) t) (x : Int)) 30 o = F 5 o from e28.2.2]
          refine z_if_le (pc := 141) ⟨by omega, by omega⟩ 214 (by decide) dX5_blind_141 (fun hq0 => ?_) (fun hq0 => ?_)
          · refine ou x _ ?_
            rw [← hn]
            unfold nby
            rw [if_neg (fun h => by have := h.1; omega)]
          refine z_aload_n (pc := 144) rfl dX5_blind_144 ?_
          refine z_iload_n (pc := 145) rfl dX5_blind_145 ?_
          refine z_iload (pc := 146) rfl dX5_blind_146 ?_
          refine z_iload_n (pc := 148) rfl dX5_blind_148 ?_
          refine z_V3 (pc := 149) (m_spent (F := Bs F (vf_upd (put (nobR F k (F 27 0).toNat) (40 * o) (bln (nda F k) (F 4 o) (F 5 o) (F 2 k) (F 1 0)) t) (40 * o + t) (x : Int)) (cwi (cnb (nda F k) (F 4 o) (F 5 o) (F 2 k) (F 1 0) t) (wfs (F 4 o) t) (wen (F 1 0) (F 4 o) t) (x : Int))) (k := k) (a := (wfs (F 4 o) t)) (t := t) B hq hk (by omega) (by omega) (fun u => by have := cb u; show 0 ≤ cwi (cnb (nda F k) (F 4 o) (F 5 o) (F 2 k) (F 1 0) t) (wfs (F 4 o) t) (wen (F 1 0) (F 4 o) t) (x : Int) u ∧ cwi (cnb (nda F k) (F 4 o) (F 5 o) (F 2 k) (F 1 0) t) (wfs (F 4 o) t) (wen (F 1 0) (F 4 o) t) (x : Int) u ≤ 10000; unfold cwi; split <;> omega)) lk_X5_148 iv_X5_spent rfl rfl ⟨by decide, by decide⟩ (Nat.le_of_ble_eq_true rfl) ⟨by decide, by decide⟩ dX5_blind_149 (fun r h9 hq0 => ?_)
          obtain ⟨rfl, e9⟩ := hq0
          rw [e9]
          clear e9 h9
          refine z_r1 ?_
          refine z_top (congrArg iz (show _ = spn (nda F k) (wfs (F 4 o) t) t (cwi (cnb (nda F k) (F 4 o) (F 5 o) (F 2 k) (F 1 0) t) (wfs (F 4 o) t) (wen (F 1 0) (F 4 o) t) (x : Int)) from rfl)) ?_
          refine z_aload_n (pc := 152) rfl dX5_blind_152 ?_
          refine zf_X5_16 (pc := 153) rfl rfl dX5_blind_153 ?_
          refine z_iload_n (pc := 156) rfl dX5_blind_156 ?_
          refine z_iald (pc := 157) rfl (by decide) (by omega) (by omega) dX5_blind_157 ?_
          rw [Int.toNat_natCast, show Bs F (vf_upd (put (nobR F k (F 27 0).toNat) (40 * o) (bln (nda F k) (F 4 o) (F 5 o) (F 2 k) (F 1 0)) t) (40 * o + t) (x : Int)) (cwi (cnb (nda F k) (F 4 o) (F 5 o) (F 2 k) (F 1 0) t) (wfs (F 4 o) t) (wen (F 1 0) (F 4 o) t) (x : Int)) 26 k = F 2 k from e26]
          refine z_imul (pc := 158) dX5_blind_158 ?_
          refine z_aload_n (pc := 159) rfl dX5_blind_159 ?_
          refine zf_X5_28 (pc := 160) rfl rfl dX5_blind_160 ?_
          refine z_iload_n (pc := 163) rfl dX5_blind_163 ?_
          refine z_iald (pc := 164) rfl (by decide) (by omega) (by omega) dX5_blind_164 ?_
          rw [Int.toNat_natCast, show Bs F (vf_upd (put (nobR F k (F 27 0).toNat) (40 * o) (bln (nda F k) (F 4 o) (F 5 o) (F 2 k) (F 1 0)) t) (40 * o + t) (x : Int)) (cwi (cnb (nda F k) (F 4 o) (F 5 o) (F 2 k) (F 1 0) t) (wfs (F 4 o) t) (wen (F 1 0) (F 4 o) t) (x : Int)) 30 o = F 5 o from e28.2.2]
          refine z_icmp_lt (pc := 165) ⟨by omega, by omega⟩ ⟨by omega, by omega⟩ 214 (by decide) dX5_blind_165 (fun hq0 => ?_) (fun hq0 => ?_)
          · refine ou x _ ?_
            rw [← hn]
            unfold nby
            rw [if_neg (fun h => by have := h.2; omega)]
          have hn2 : ((nby (nda F k) (F 4 o) (F 5 o) (F 2 k) (F 1 0) t (cnb (nda F k) (F 4 o) (F 5 o) (F 2 k) (F 1 0) t) (x + 1) f : Nat) : Int) = bln (nda F k) (F 4 o) (F 5 o) (F 2 k) (F 1 0) t := by
            rw [← hn]
            conv => rhs; unfold nby
            rw [if_pos ⟨by assumption, by assumption⟩]
          refine z_aload_n (pc := 168) rfl dX5_blind_168 ?_
          refine zf_X5_34 (pc := 169) rfl rfl dX5_blind_169 ?_
          refine z_bipush (pc := 172) (by decide) dX5_blind_172 ?_
          refine z_iload_n (pc := 174) rfl dX5_blind_174 ?_
          refine z_imul (pc := 175) dX5_blind_175 ?_
          refine z_iload_n (pc := 176) rfl dX5_blind_176 ?_
          refine z_iadd (pc := 177) dX5_blind_177 ?_
          refine z_dup2 (pc := 178) rfl rfl dX5_blind_178 ?_
          refine z_iald (pc := 179) rfl (by decide) (by omega) (by omega) dX5_blind_179 ?_
          rw [show (40 * (o : Int) + t).toNat = 40 * o + t by omega, show Bs F (vf_upd (put (nobR F k (F 27 0).toNat) (40 * o) (bln (nda F k) (F 4 o) (F 5 o) (F 2 k) (F 1 0)) t) (40 * o + t) (x : Int)) (cwi (cnb (nda F k) (F 4 o) (F 5 o) (F 2 k) (F 1 0) t) (wfs (F 4 o) t) (wen (F 1 0) (F 4 o) t) (x : Int)) 32 (40 * o + t) = (x : Int) from upd_at _ _ _]
          refine z_iconst (pc := 180) dX5_blind_180 ?_
          refine z_iadd (pc := 181) dX5_blind_181 ?_
          refine z_iast (pc := 182) rfl (by decide) (by omega) (by omega) dX5_blind_182 ?_
          refine z_hp zs_32 ?_
          rw [show (40 * (o : Int) + t).toNat = 40 * o + t by omega, Bs32]
          refine z_hp (congrArg (fun f => zk g (Bs F f (cwi (cnb (nda F k) (F 4 o) (F 5 o) (F 2 k) (F 1 0) t) (wfs (F 4 o) t) (wen (F 1 0) (F 4 o) t) (x : Int))) L im c) (upd_upd (put (nobR F k (F 27 0).toNat) (40 * o) (bln (nda F k) (F 4 o) (F 5 o) (F 2 k) (F 1 0)) t) (40 * o + t) (x : Int) ((x : Int) + 1))) ?_
          have inn : ∀ (j2 p : Nat), p + j2 = (wen (F 1 0) (F 4 o) t) → (wfs (F 4 o) t) ≤ p → zJ l g RX5 cX5_blind 7 (some .long) "blind" (zRm 4 0 0) 0 0 (fun r h => r = some (.long (lz (plc F k))) ∧ h = zk g (Bs F (put (nobR F k (F 27 0).toNat) (40 * o) (bln (nda F k) (F 4 o) (F 5 o) (F 2 k) (F 1 0)) (F 1 0).toNat) (cnb (nda F k) (F 4 o) (F 5 o) (F 2 k) (F 1 0) (F 1 0).toNat)) L im c) 0 0 187 [some (.ref (g.2.1 + 23)), some (.int (iz o)), some (.int (iz k)), some (.int (iz t)), some (.int (iz (wfs (F 4 o) t))), some (.int (iz (((wen (F 1 0) (F 4 o) t) : Int) - 1))), some (.int (iz p))] [] (zk g (Bs F (vf_upd (put (nobR F k (F 27 0).toNat) (40 * o) (bln (nda F k) (F 4 o) (F 5 o) (F 2 k) (F 1 0)) t) (40 * o + t) ((x : Int) + 1)) (cwq (cnb (nda F k) (F 4 o) (F 5 o) (F 2 k) (F 1 0) t) (wfs (F 4 o) t) (wen (F 1 0) (F 4 o) t) (x : Int) p)) L im c) := by
            intro j2
            induction j2 with
            | zero =>
              intro p hp ha
              refine z_iload (pc := 187) rfl dX5_blind_187 ?_
              refine z_iload (pc := 189) rfl dX5_blind_189 ?_
              refine z_icmp_gt (pc := 191) ⟨by omega, by omega⟩ ⟨by omega, by omega⟩ 211 (by decide) dX5_blind_191 (fun hq0 => ?_) (fun hq0 => ?_)
              rotate_left
              · omega
              refine z_goto (pc := 211) 135 (by decide) dX5_blind_211 ?_
              rw [show p = (wen (F 1 0) (F 4 o) t) by omega, cwq_b]
              have := ihf (x + 1) (some (.int (iz ((wen (F 1 0) (F 4 o) t) : Int)))) (by omega) hn2
              rw [show (((x + 1 : Nat)) : Int) = (x : Int) + 1 by omega] at this
              exact this
            | succ j2 ih2 =>
              intro p hp ha
              refine z_iload (pc := 187) rfl dX5_blind_187 ?_
              refine z_iload (pc := 189) rfl dX5_blind_189 ?_
              refine z_icmp_gt (pc := 191) ⟨by omega, by omega⟩ ⟨by omega, by omega⟩ 211 (by decide) dX5_blind_191 (fun hq0 => ?_) (fun hq0 => ?_)
              · omega
              refine z_aload_n (pc := 194) rfl dX5_blind_194 ?_
              refine zf_X5_55 (pc := 195) rfl rfl dX5_blind_195 ?_
              refine z_iload (pc := 198) rfl dX5_blind_198 ?_
              refine z_dup2 (pc := 200) rfl rfl dX5_blind_200 ?_
              refine z_iald (pc := 201) rfl (by decide) (by omega) (by omega) dX5_blind_201 ?_
              refine z_iconst (pc := 202) dX5_blind_202 ?_
              refine z_iadd (pc := 203) dX5_blind_203 ?_
              refine z_iast (pc := 204) rfl (by decide) (by omega) (by omega) dX5_blind_204 ?_
              refine z_hp zs_39 ?_
              rw [Int.toNat_natCast, up_up]
              refine z_hp (congrArg (fun f => zk g (Bs F (vf_upd (put (nobR F k (F 27 0).toNat) (40 * o) (bln (nda F k) (F 4 o) (F 5 o) (F 2 k) (F 1 0)) t) (40 * o + t) ((x : Int) + 1)) f) L im c) (cwq_s (cnb (nda F k) (F 4 o) (F 5 o) (F 2 k) (F 1 0) t) (x : Int) ha (show p < (wen (F 1 0) (F 4 o) t) by omega))) ?_
              refine z_ii6 (pc := 205) (by decide) rfl dX5_blind_205 ?_
              refine z_goto (pc := 208) 187 (by decide) dX5_blind_208 ?_
              exact ih2 (p + 1) (by omega) (by omega)
          refine z_iload (pc := 183) rfl dX5_blind_183 ?_
          refine z_is6 (pc := 185) (by decide) rfl dX5_blind_185 ?_
          have := inn ((wen (F 1 0) (F 4 o) t) - (wfs (F 4 o) t)) (wfs (F 4 o) t) (by omega) (Nat.le_refl _)
          rw [cwq_0] at this
          exact this
      have c133 : zJ l g RX5 cX5_blind 7 (some .long) "blind" (zRm 4 0 0) 0 0 (fun r h => r = some (.long (lz (plc F k))) ∧ h = zk g (Bs F (put (nobR F k (F 27 0).toNat) (40 * o) (bln (nda F k) (F 4 o) (F 5 o) (F 2 k) (F 1 0)) (F 1 0).toNat) (cnb (nda F k) (F 4 o) (F 5 o) (F 2 k) (F 1 0) (F 1 0).toNat)) L im c) 0 0 133 [some (.ref (g.2.1 + 23)), some (.int (iz o)), some (.int (iz k)), some (.int (iz t)), some (.int (iz (wfs (F 4 o) t))), y5, y6] [.int (iz (((wen (F 1 0) (F 4 o) t) : Int) - 1))] (zk g (Bs F (put (nobR F k (F 27 0).toNat) (40 * o) (bln (nda F k) (F 4 o) (F 5 o) (F 2 k) (F 1 0)) t) (cnb (nda F k) (F 4 o) (F 5 o) (F 2 k) (F 1 0) t)) L im c) := by
        refine z_is5 (pc := 133) (by decide) rfl dX5_blind_133 ?_
        have h0 : vf_upd (put (nobR F k (F 27 0).toNat) (40 * o) (bln (nda F k) (F 4 o) (F 5 o) (F 2 k) (F 1 0)) t) (40 * o + t) ((0 : Nat) : Int) = (put (nobR F k (F 27 0).toNat) (40 * o) (bln (nda F k) (F 4 o) (F 5 o) (F 2 k) (F 1 0)) t) := by
          have e0 : (put (nobR F k (F 27 0).toNat) (40 * o) (bln (nda F k) (F 4 o) (F 5 o) (F 2 k) (F 1 0)) t) (40 * o + t) = 0 := by
            rw [put_out _ _ (Or.inr (Nat.le_refl _))]
            unfold nobR
            rw [if_pos ⟨by omega, by rw [show (40 * o + t) / 40 = o by omega, e28.1]; exact hko⟩]
          have := upd_id (put (nobR F k (F 27 0).toNat) (40 * o) (bln (nda F k) (F 4 o) (F 5 o) (F 2 k) (F 1 0)) t) (40 * o + t)
          rw [e0] at this
          exact this
        have := lpW 60 0 y6 rfl rfl
        rw [h0, show (((0 : Nat)) : Int) = 0 from rfl, cwi_0] at this
        exact this
      have c89 : zJ l g RX5 cX5_blind 7 (some .long) "blind" (zRm 4 0 0) 0 0 (fun r h => r = some (.long (lz (plc F k))) ∧ h = zk g (Bs F (put (nobR F k (F 27 0).toNat) (40 * o) (bln (nda F k) (F 4 o) (F 5 o) (F 2 k) (F 1 0)) (F 1 0).toNat) (cnb (nda F k) (F 4 o) (F 5 o) (F 2 k) (F 1 0) (F 1 0).toNat)) L im c) 0 0 89 [some (.ref (g.2.1 + 23)), some (.int (iz o)), some (.int (iz k)), some (.int (iz t)), y4, y5, y6] [.int (iz (wfs (F 4 o) t))] (zk g (Bs F (put (nobR F k (F 27 0).toNat) (40 * o) (bln (nda F k) (F 4 o) (F 5 o) (F 2 k) (F 1 0)) t) (cnb (nda F k) (F 4 o) (F 5 o) (F 2 k) (F 1 0) t)) L im c) := by
        refine z_is4 (pc := 89) (by decide) rfl dX5_blind_89 ?_
        refine z_iload_n (pc := 91) rfl dX5_blind_91 ?_
        refine z_aload_n (pc := 92) rfl dX5_blind_92 ?_
        refine zf_X5_25 (pc := 93) rfl rfl dX5_blind_93 ?_
        refine z_iload_n (pc := 96) rfl dX5_blind_96 ?_
        refine z_iald (pc := 97) rfl (by decide) (by omega) (by omega) dX5_blind_97 ?_
        rw [Int.toNat_natCast, show Bs F (put (nobR F k (F 27 0).toNat) (40 * o) (bln (nda F k) (F 4 o) (F 5 o) (F 2 k) (F 1 0)) t) (cnb (nda F k) (F 4 o) (F 5 o) (F 2 k) (F 1 0) t) 29 o = F 4 o from e28.2.1]
        refine z_iadd (pc := 98) dX5_blind_98 ?_
        refine z_iconst (pc := 99) dX5_blind_99 ?_
        refine z_isub (pc := 100) dX5_blind_100 ?_
        refine z_aload_n (pc := 101) rfl dX5_blind_101 ?_
        refine zf_X5_7 (pc := 102) rfl rfl dX5_blind_102 ?_
        refine z_iconst (pc := 105) dX5_blind_105 ?_
        refine z_iald (pc := 106) rfl (by decide) (by omega) (by omega) dX5_blind_106 ?_
        rw [show Bs F (put (nobR F k (F 27 0).toNat) (40 * o) (bln (nda F k) (F 4 o) (F 5 o) (F 2 k) (F 1 0)) t) (cnb (nda F k) (F 4 o) (F 5 o) (F 2 k) (F 1 0) t) 24 (0 : Int).toNat = F 1 0 from e24]
        refine z_iconst (pc := 107) dX5_blind_107 ?_
        refine z_isub (pc := 108) dX5_blind_108 ?_
        refine z_icmp_ge (pc := 109) ⟨by omega, by omega⟩ ⟨by omega, by omega⟩ 125 (by decide) dX5_blind_109 (fun hq0 => ?_) (fun hq0 => ?_)
        · refine z_aload_n (pc := 125) rfl dX5_blind_125 ?_
          refine zf_X5_7 (pc := 126) rfl rfl dX5_blind_126 ?_
          refine z_iconst (pc := 129) dX5_blind_129 ?_
          refine z_iald (pc := 130) rfl (by decide) (by omega) (by omega) dX5_blind_130 ?_
          rw [show Bs F (put (nobR F k (F 27 0).toNat) (40 * o) (bln (nda F k) (F 4 o) (F 5 o) (F 2 k) (F 1 0)) t) (cnb (nda F k) (F 4 o) (F 5 o) (F 2 k) (F 1 0) t) 24 (0 : Int).toNat = F 1 0 from e24]
          refine z_iconst (pc := 131) dX5_blind_131 ?_
          refine z_isub (pc := 132) dX5_blind_132 ?_
          rw [show F 1 0 - 1 = ((wen (F 1 0) (F 4 o) t) : Int) - 1 by omega]
          exact c133
        · refine z_iload_n (pc := 112) rfl dX5_blind_112 ?_
          refine z_aload_n (pc := 113) rfl dX5_blind_113 ?_
          refine zf_X5_25 (pc := 114) rfl rfl dX5_blind_114 ?_
          refine z_iload_n (pc := 117) rfl dX5_blind_117 ?_
          refine z_iald (pc := 118) rfl (by decide) (by omega) (by omega) dX5_blind_118 ?_
          rw [Int.toNat_natCast, show Bs F (put (nobR F k (F 27 0).toNat) (40 * o) (bln (nda F k) (F 4 o) (F 5 o) (F 2 k) (F 1 0)) t) (cnb (nda F k) (F 4 o) (F 5 o) (F 2 k) (F 1 0) t) 29 o = F 4 o from e28.2.1]
          refine z_iadd (pc := 119) dX5_blind_119 ?_
          refine z_iconst (pc := 120) dX5_blind_120 ?_
          refine z_isub (pc := 121) dX5_blind_121 ?_
          refine z_goto (pc := 122) 133 (by decide) dX5_blind_122 ?_
          rw [show (t : Int) + F 4 o - 1 = ((wen (F 1 0) (F 4 o) t) : Int) - 1 by omega]
          exact c133
      refine z_iload_n (pc := 52) rfl dX5_blind_52 ?_
      refine z_aload_n (pc := 53) rfl dX5_blind_53 ?_
      refine zf_X5_7 (pc := 54) rfl rfl dX5_blind_54 ?_
      refine z_iconst (pc := 57) dX5_blind_57 ?_
      refine z_iald (pc := 58) rfl (by decide) (by omega) (by omega) dX5_blind_58 ?_
      rw [show Bs F (put (nobR F k (F 27 0).toNat) (40 * o) (bln (nda F k) (F 4 o) (F 5 o) (F 2 k) (F 1 0)) t) (cnb (nda F k) (F 4 o) (F 5 o) (F 2 k) (F 1 0) t) 24 (0 : Int).toNat = F 1 0 from e24]
      refine z_icmp_ge (pc := 59) ⟨by omega, by omega⟩ ⟨by omega, by omega⟩ 220 (by decide) dX5_blind_59 (fun hq0 => ?_) (fun hq0 => ?_)
      · omega
      refine z_iload_n (pc := 62) rfl dX5_blind_62 ?_
      refine z_aload_n (pc := 63) rfl dX5_blind_63 ?_
      refine zf_X5_25 (pc := 64) rfl rfl dX5_blind_64 ?_
      refine z_iload_n (pc := 67) rfl dX5_blind_67 ?_
      refine z_iald (pc := 68) rfl (by decide) (by omega) (by omega) dX5_blind_68 ?_
      rw [Int.toNat_natCast, show Bs F (put (nobR F k (F 27 0).toNat) (40 * o) (bln (nda F k) (F 4 o) (F 5 o) (F 2 k) (F 1 0)) t) (cnb (nda F k) (F 4 o) (F 5 o) (F 2 k) (F 1 0) t) 29 o = F 4 o from e28.2.1]
      refine z_isub (pc := 69) dX5_blind_69 ?_
      refine z_iconst (pc := 70) dX5_blind_70 ?_
      refine z_iadd (pc := 71) dX5_blind_71 ?_
      refine z_if_ge (pc := 72) ⟨by omega, by omega⟩ 79 (by decide) dX5_blind_72 (fun hq0 => ?_) (fun hq0 => ?_)
      · refine z_iload_n (pc := 79) rfl dX5_blind_79 ?_
        refine z_aload_n (pc := 80) rfl dX5_blind_80 ?_
        refine zf_X5_25 (pc := 81) rfl rfl dX5_blind_81 ?_
        refine z_iload_n (pc := 84) rfl dX5_blind_84 ?_
        refine z_iald (pc := 85) rfl (by decide) (by omega) (by omega) dX5_blind_85 ?_
        rw [Int.toNat_natCast, show Bs F (put (nobR F k (F 27 0).toNat) (40 * o) (bln (nda F k) (F 4 o) (F 5 o) (F 2 k) (F 1 0)) t) (cnb (nda F k) (F 4 o) (F 5 o) (F 2 k) (F 1 0) t) 29 o = F 4 o from e28.2.1]
        refine z_isub (pc := 86) dX5_blind_86 ?_
        refine z_iconst (pc := 87) dX5_blind_87 ?_
        refine z_iadd (pc := 88) dX5_blind_88 ?_
        rw [show (t : Int) - F 4 o + 1 = ((wfs (F 4 o) t) : Int) by omega]
        exact c89
      · refine z_iconst (pc := 75) dX5_blind_75 ?_
        refine z_goto (pc := 76) 89 (by decide) dX5_blind_76 ?_
        refine z_top (congrArg iz (show (0 : Int) = ((wfs (F 4 o) t) : Int) by omega)) ?_
        exact c89
  refine z_aload_n (pc := 0) rfl dX5_blind_0 ?_
  refine z_iconst (pc := 1) dX5_blind_1 ?_
  refine zp_X5_72 (pc := 2) rfl (Nat.le_of_ble_eq_true rfl) dX5_blind_2 ?_
  refine z_hp (show _ = zk g F L im c from zs_23_0.trans (congrArg (fun f => zk g f L im c) (up23 h23))) ?_
  refine z_aload_n (pc := 5) rfl dX5_blind_5 ?_
  refine z_iload_n (pc := 6) rfl dX5_blind_6 ?_
  refine z_V1 (pc := 7) (g_isOffer rB (z := o) ⟨by omega, by omega⟩) lk_X5_89 iv_X5_isOffer rfl rfl ⟨by decide, by decide⟩ (Nat.le_of_ble_eq_true rfl) ⟨by decide, by decide⟩ dX5_blind_7 (fun r h9 hq0 => ?_)
  obtain ⟨rfl, e9⟩ := hq0
  rw [e9]
  clear e9 h9
  refine z_r1 ?_
  rw [if_pos (by omega)]
  refine z_if_ne (pc := 10) ⟨by omega, by omega⟩ 17 (by decide) dX5_blind_10 (fun hq0 => ?_) (fun hq0 => ?_)
  rotate_left
  · omega
  refine z_aload_n (pc := 17) rfl dX5_blind_17 ?_
  refine zf_X5_22 (pc := 18) rfl rfl dX5_blind_18 ?_
  refine z_iload_n (pc := 21) rfl dX5_blind_21 ?_
  refine z_iald (pc := 22) rfl (by decide) (by omega) (by omega) dX5_blind_22 ?_
  rw [Int.toNat_natCast, e28.1, hko]
  refine z_is2 (pc := 23) (by decide) rfl dX5_blind_23 ?_
  refine z_aload_n (pc := 24) rfl dX5_blind_24 ?_
  refine z_iload_n (pc := 25) rfl dX5_blind_25 ?_
  refine z_V1 (pc := 26) (m_clearKind rB hof hk) lk_X5_99 iv_X5_clearKind rfl rfl ⟨by decide, by decide⟩ (Nat.le_of_ble_eq_true rfl) ⟨by decide, by decide⟩ dX5_blind_26 (fun r h9 hq0 => ?_)
  obtain ⟨rfl, e9⟩ := hq0
  rw [e9]
  clear e9 h9
  refine z_r0 ?_
  have lpC : ∀ (j t : Nat), t + j = 40 → zJ l g RX5 cX5_blind 7 (some .long) "blind" (zRm 4 0 0) 0 0 (fun r h => r = some (.long (lz (plc F k))) ∧ h = zk g (Bs F (put (nobR F k (F 27 0).toNat) (40 * o) (bln (nda F k) (F 4 o) (F 5 o) (F 2 k) (F 1 0)) (F 1 0).toNat) (cnb (nda F k) (F 4 o) (F 5 o) (F 2 k) (F 1 0) (F 1 0).toNat)) L im c) 0 0 31 [some (.ref (g.2.1 + 23)), some (.int (iz o)), some (.int (iz k)), some (.int (iz t)), none, none, none] [] (zk g (Bs F (nobR F k (F 27 0).toNat) (fl (F 39) 0 t 0)) L im c) := by
    intro j
    induction j with
    | zero =>
      intro t ht
      refine z_iload_n (pc := 31) rfl dX5_blind_31 ?_
      refine z_bipush (pc := 32) (by decide) dX5_blind_32 ?_
      refine z_icmp_ge (pc := 34) ⟨by omega, by omega⟩ ⟨by omega, by omega⟩ 50 (by decide) dX5_blind_34 (fun hq0 => ?_) (fun hq0 => ?_)
      rotate_left
      · omega
      refine z_iconst (pc := 50) dX5_blind_50 ?_
      refine z_is3 (pc := 51) (by decide) rfl dX5_blind_51 ?_
      refine z_cell (q := 39) (N := 40) (f := fl (F 39) 0 t 0) (f2 := fun _ => 0) rfl (fun j hj => by unfold fl; rw [if_pos (by omega)]) ?_
      refine z_hp zs_39 ?_
      rw [up_up]
      have := lpT (F 1 0).toNat 0 none none none (by omega)
      rw [put_0] at this
      exact this
    | succ j ih =>
      intro t ht
      refine z_iload_n (pc := 31) rfl dX5_blind_31 ?_
      refine z_bipush (pc := 32) (by decide) dX5_blind_32 ?_
      refine z_icmp_ge (pc := 34) ⟨by omega, by omega⟩ ⟨by omega, by omega⟩ 50 (by decide) dX5_blind_34 (fun hq0 => ?_) (fun hq0 => ?_)
      · omega
      refine z_aload_n (pc := 37) rfl dX5_blind_37 ?_
      refine zf_X5_55 (pc := 38) rfl rfl dX5_blind_38 ?_
      refine z_iload_n (pc := 41) rfl dX5_blind_41 ?_
      refine z_iconst (pc := 42) dX5_blind_42 ?_
      refine z_iast (pc := 43) rfl (by decide) (by omega) (by omega) dX5_blind_43 ?_
      refine z_hp zs_39 ?_
      rw [Int.toNat_natCast, up_up]
      refine z_hp (congrArg (fun f => zk g (Bs F (nobR F k (F 27 0).toNat) f) L im c) (fl_s (F 39) (a := 0) (b := t) 0 (by omega))) ?_
      refine z_ii3 (pc := 44) (by decide) rfl dX5_blind_44 ?_
      refine z_goto (pc := 47) 31 (by decide) dX5_blind_47 ?_
      exact ih (t + 1) (by omega)
  refine z_iconst (pc := 29) dX5_blind_29 ?_
  refine z_is3 (pc := 30) (by decide) rfl dX5_blind_30 ?_
  have := lpC 40 0 rfl
  rw [fl_0] at this
  rw [show Bs F (nobR F k (F 27 0).toNat) (F 39) = va_up F 32 (nobR F k (F 27 0).toNat) from up_id (va_up F 32 (nobR F k (F 27 0).toNat)) 39] at this
  exact this
end REF11
