/-! ===== sums ===== -/
def sm (f : Nat → Int) : Nat → Int
  | 0 => 0
  | n + 1 => sm f n + f n
theorem sm_cong {f g : Nat → Int} : ∀ {n : Nat}, (∀ j, j < n → f j = g j) → sm f n = sm g n
  | 0, _ => rfl
  | n + 1, h => by
    show sm f n + f n = sm g n + g n
    rw [sm_cong (fun j hj => h j (by omega)), h n (by omega)]
theorem sm_add (f g : Nat → Int) : ∀ n, sm (fun j => f j + g j) n = sm f n + sm g n
  | 0 => rfl
  | n + 1 => by
    show sm (fun j => f j + g j) n + (f n + g n) = (sm f n + f n) + (sm g n + g n)
    rw [sm_add f g n]; omega
theorem sm_mulr (f : Nat → Int) (a : Int) : ∀ n, sm (fun j => f j * a) n = sm f n * a
  | 0 => by show (0 : Int) = 0 * a; rw [Int.zero_mul]
  | n + 1 => by
    show sm (fun j => f j * a) n + f n * a = (sm f n + f n) * a
    rw [sm_mulr f a n, Int.add_mul]
theorem sm_le {f g : Nat → Int} : ∀ {n : Nat}, (∀ j, j < n → f j ≤ g j) → sm f n ≤ sm g n
  | 0, _ => Int.le_refl 0
  | n + 1, h => Int.add_le_add (sm_le (fun j hj => h j (by omega))) (h n (by omega))
theorem sm_zero {f : Nat → Int} : ∀ {n : Nat}, (∀ j, j < n → f j = 0) → sm f n = 0
  | 0, _ => rfl
  | n + 1, h => by
    show sm f n + f n = 0
    rw [sm_zero (fun j hj => h j (by omega)), h n (by omega)]; rfl
theorem sm_bd {f : Nat → Int} {a b : Int} : ∀ {n : Nat}, (∀ j, j < n → a ≤ f j ∧ f j ≤ b) → n * a ≤ sm f n ∧ sm f n ≤ n * b
  | 0, _ => by simp [sm]
  | n + 1, h => by
    have h1 := sm_bd (n := n) (fun j hj => h j (by omega))
    have h2 := h n (by omega)
    have e : ∀ x : Int, ((n + 1 : Nat) : Int) * x = n * x + x := fun x => by rw [Int.natCast_add, Int.add_mul]; simp
    rw [e, e]
    exact ⟨Int.add_le_add h1.1 h2.1, Int.add_le_add h1.2 h2.2⟩
theorem sm_upd {f : Nat → Int} {i : Nat} {v : Int} : ∀ {n : Nat}, i < n → sm (vf_upd f i v) n = sm f n - f i + v
  | 0, h => absurd h (Nat.not_lt_zero i)
  | n + 1, h => by
    show sm (vf_upd f i v) n + vf_upd f i v n = sm f n + f n - f i + v
    by_cases hi : i = n
    · subst hi
      rw [sm_cong (g := f) (fun j hj => by unfold vf_upd; rw [if_neg (by omega)])]
      unfold vf_upd; rw [if_pos rfl]; omega
    · rw [sm_upd (by omega : i < n)]
      unfold vf_upd; rw [if_neg (fun e => hi e.symm)]; omega
/-- the greatest of f 0 .. f (n - 1), and 0 -/
def mxs (f : Nat → Int) : Nat → Int
  | 0 => 0
  | n + 1 => max (mxs f n) (f n)
/-! ===== what a Book says ===== -/
def fnd (F : Nat → Nat → Int) (k t o : Nat) : Int := F 6 ((k * 4 + o) * 40 + t)
def nda (F : Nat → Nat → Int) (k t : Nat) : Int := sm (fnd F k t) 4
def bt (F : Nat → Nat → Int) (o t : Nat) : Int := F 7 (o * 40 + t)
def ahs (F : Nat → Nat → Int) (t o : Nat) : Int := sm (fun j => if (t : Int) < j + F 4 o then bt F o j else 0) (t + 1)
def ahd (F : Nat → Nat → Int) (k t : Nat) : Int := sm (fun o => if F 3 o = k then ahs F t o else 0) (F 1 2).toNat
def nah (F : Nat → Nat → Int) (k t : Nat) : Int := max 0 (nda F k t - ahd F k t)
def ofc (F : Nat → Nat → Int) (k : Nat) : Int := sm (fun o => if F 3 o = k then sm (bt F o) (F 1 0).toNat * F 5 o else 0) (F 1 2).toNat
def plc (F : Nat → Nat → Int) (k : Nat) : Int := ofc F k + sm (fun t => nah F k t * F 2 k) (F 1 0).toNat
/-- what holds of a Book at place p -/
def bi (F : Nat → Nat → Int) (p : Nat) : Prop := (1 ≤ F p 0 ∧ F p 0 ≤ 40) ∧ (0 ≤ F p 1 ∧ F p 1 ≤ 3) ∧ (0 ≤ F p 2 ∧ F p 2 ≤ 6) ∧ (∀ j, 0 ≤ F (p + 1) j ∧ F (p + 1) j ≤ 1000) ∧ (∀ j : Nat, (j : Int) < F p 1 → 1 ≤ F (p + 1) j) ∧ (∀ j, 0 ≤ F (p + 2) j ∧ F (p + 2) j ≤ 2) ∧ (∀ j : Nat, (j : Int) < F p 2 → F (p + 2) j < F p 1) ∧ (∀ j, 0 ≤ F (p + 3) j ∧ F (p + 3) j ≤ 40) ∧ (∀ j : Nat, (j : Int) < F p 2 → 1 ≤ F (p + 3) j) ∧ (∀ j, 0 ≤ F (p + 4) j ∧ F (p + 4) j ≤ 100000) ∧ (∀ j, 0 ≤ F (p + 5) j ∧ F (p + 5) j ≤ 9) ∧ (∀ j, 0 ≤ F (p + 6) j ∧ F (p + 6) j ≤ 60) ∧ ∀ o t : Nat, o < 6 → t < 40 → F p 0 ≤ t → F (p + 6) (o * 40 + t) = 0
section BI
variable {F : Nat → Nat → Int} (B : bi F 1)
theorem bi_hours (B : bi F 1) : 1 ≤ F 1 0 ∧ F 1 0 ≤ 40 := B.1
theorem bi_kinds (B : bi F 1) : 0 ≤ F 1 1 ∧ F 1 1 ≤ 3 := B.2.1
theorem bi_offers (B : bi F 1) : 0 ≤ F 1 2 ∧ F 1 2 ≤ 6 := B.2.2.1
theorem bi_rates (B : bi F 1) : ∀ j, 0 ≤ F 2 j ∧ F 2 j ≤ 1000 := B.2.2.2.1
theorem bi_rate1 (B : bi F 1) : ∀ j : Nat, (j : Int) < F 1 1 → 1 ≤ F 2 j := B.2.2.2.2.1
theorem bi_kindOf (B : bi F 1) : ∀ j, 0 ≤ F 3 j ∧ F 3 j ≤ 2 := B.2.2.2.2.2.1
theorem bi_kindIn (B : bi F 1) : ∀ j : Nat, (j : Int) < F 1 2 → F 3 j < F 1 1 := B.2.2.2.2.2.2.1
theorem bi_terms (B : bi F 1) : ∀ j, 0 ≤ F 4 j ∧ F 4 j ≤ 40 := B.2.2.2.2.2.2.2.1
theorem bi_term1 (B : bi F 1) : ∀ j : Nat, (j : Int) < F 1 2 → 1 ≤ F 4 j := B.2.2.2.2.2.2.2.2.1
theorem bi_costs (B : bi F 1) : ∀ j, 0 ≤ F 5 j ∧ F 5 j ≤ 100000 := B.2.2.2.2.2.2.2.2.2.1
theorem bi_needs (B : bi F 1) : ∀ j, 0 ≤ F 6 j ∧ F 6 j ≤ 9 := B.2.2.2.2.2.2.2.2.2.2.1
theorem bi_bought (B : bi F 1) : ∀ j, 0 ≤ F 7 j ∧ F 7 j ≤ 60 := B.2.2.2.2.2.2.2.2.2.2.2.1
theorem nda_bd (B : bi F 1) (k t : Nat) : 0 ≤ nda F k t ∧ nda F k t ≤ 36 := by
  have := sm_bd (f := fnd F k t) (a := 0) (b := 9) (n := 4) (fun j _ => bi_needs B _)
  unfold nda; omega
theorem ahs_bd (B : bi F 1) (t o : Nat) : 0 ≤ ahs F t o ∧ ahs F t o ≤ 60 * (t + 1) := by
  have := sm_bd (f := fun j => if (t : Int) < j + F 4 o then bt F o j else 0) (a := 0) (b := 60) (n := t + 1) (fun j _ => by have := bi_bought B (o * 40 + j); show 0 ≤ ite _ (F 7 (o * 40 + j)) _ ∧ ite _ (F 7 (o * 40 + j)) _ ≤ 60; split <;> omega)
  unfold ahs; omega
theorem ahd_bd (B : bi F 1) {t : Nat} (ht : t < 40) (k : Nat) : 0 ≤ ahd F k t ∧ ahd F k t ≤ 14400 := by
  have h1 := bi_offers B
  have := sm_bd (f := fun o => if F 3 o = k then ahs F t o else 0) (a := 0) (b := 2400) (n := (F 1 2).toNat) (fun j _ => by have := ahs_bd B t j; show 0 ≤ ite _ _ _ ∧ ite _ _ _ ≤ (2400 : Int); split <;> omega)
  unfold ahd; omega
theorem nah_bd (B : bi F 1) {t : Nat} (ht : t < 40) (k : Nat) : 0 ≤ nah F k t ∧ nah F k t ≤ 36 := by
  have h1 := nda_bd B k t
  have h2 := ahd_bd B ht k
  unfold nah; omega
theorem bts_bd (B : bi F 1) (o : Nat) : 0 ≤ sm (bt F o) (F 1 0).toNat ∧ sm (bt F o) (F 1 0).toNat ≤ 2400 := by
  have h1 := bi_hours B
  have := sm_bd (f := bt F o) (a := 0) (b := 60) (n := (F 1 0).toNat) (fun j _ => bi_bought B _)
  omega
end BI
section BOOK
variable {l : Launch} {g : zG} {F : Nat → Nat → Int} {L : Nat → Int} {im : Nat → Option Nat} {c : Nat}
def fl (f : Nat → Int) (a b : Nat) (v : Int) : Nat → Int := fun j => if a ≤ j ∧ j < b then v else f j
theorem fl_0 (f : Nat → Int) (a : Nat) (v : Int) : fl f a a v = f := by funext j; unfold fl; rw [if_neg (by omega)]
theorem fl_s (f : Nat → Int) {a b : Nat} (v : Int) (h : a ≤ b) : vf_upd (fl f a b v) b v = fl f a (b + 1) v := by
  funext j
  unfold vf_upd fl
  by_cases h1 : j = b
  · rw [if_pos h1, if_pos (by omega)]
  · rw [if_neg h1]
    by_cases h2 : a ≤ j ∧ j < b
    · rw [if_pos h2, if_pos (by omega)]
    · rw [if_neg h2, if_neg (by omega)]
theorem set_id {h : List va_E} {q : Nat} {e : va_E} (he : h[q]? = some e) : h.set q e = h := by
  apply List.ext_getElem?
  intro j
  by_cases hj : q = j
  · subst hj
    rw [List.getElem?_set_self (List.getElem?_eq_some_iff.mp he).1, he]
  · rw [List.getElem?_set_ne hj]
theorem set_at {h : List va_E} {q : Nat} {e e2 : va_E} (he : h[q]? = some e) : (h.set q e2)[q]? = some e2 := List.getElem?_set_self (List.getElem?_eq_some_iff.mp he).1
theorem c_rangeCheck {h : List va_E} {n a b : Nat} (hn : n ≤ 100000) (hab : a ≤ b) (hbn : b ≤ n) : zM l g yJ7_rangeCheck_23922 cJ7_rangeCheck_23922 3 none 0 0 0 [.int (iz n), .int (iz a), .int (iz b)] (h) (fun r h2 => r = none ∧ h2 = h) := by
  refine zM_of 0 (by decide) rfl ?_
  show zJ l g RJ7 cJ7_rangeCheck_23922 3 none "rangeCheck" (zRm 0 0 0) 0 0 _ 0 0 0 [some (.int (iz n)), some (.int (iz a)), some (.int (iz b))] [] _
  refine z_iload_n (pc := 0) rfl dJ7_rangeCheck_23922_0 ?_
  refine z_iload_n (pc := 1) rfl dJ7_rangeCheck_23922_1 ?_
  refine z_icmp_le (pc := 2) ⟨by omega, by omega⟩ ⟨by omega, by omega⟩ 46 (by decide) dJ7_rangeCheck_23922_2 (fun hq => ?_) (fun hq => ?_)
  · refine z_iload_n (pc := 46) rfl dJ7_rangeCheck_23922_46 ?_
    refine z_if_ge (pc := 47) ⟨by omega, by omega⟩ 59 (by decide) dJ7_rangeCheck_23922_47 (fun hq => ?_) (fun hq => ?_)
    · refine z_iload_n (pc := 59) rfl dJ7_rangeCheck_23922_59 ?_
      refine z_iload_n (pc := 60) rfl dJ7_rangeCheck_23922_60 ?_
      refine z_icmp_le (pc := 61) ⟨by omega, by omega⟩ ⟨by omega, by omega⟩ 73 (by decide) dJ7_rangeCheck_23922_61 (fun hq => ?_) (fun hq => ?_)
      · exact z_retv (pc := 73) rfl (by decide) (by decide) dJ7_rangeCheck_23922_73 ⟨rfl, rfl⟩
      omega
    omega
  omega
theorem c_fill4 {h : List va_E} {q n a b : Nat} {f : Nat → Int} {v : Int} (he : h[q]? = some (zA g n f)) (hn : n ≤ 100000) (hab : a ≤ b) (hbn : b ≤ n) : zM l g yJ7_fill_fda19 cJ7_fill_fda19 5 none 1 0 0 [.ref (g.2.1 + q), .int (iz a), .int (iz b), .int (iz v)] (h) (fun r h2 => r = none ∧ h2 = h.set q (zA g n (fl f a b v))) := by
  refine zM_of 1 (by decide) rfl ?_
  show zJ l g RJ7 cJ7_fill_fda19 5 none "fill" (zRm 1 0 0) 0 0 _ 0 0 0 [some (.ref (g.2.1 + q)), some (.int (iz a)), some (.int (iz b)), some (.int (iz v)), none] [] _
  have loop : ∀ (j x : Nat), x + j = b → a ≤ x → zJ l g RJ7 cJ7_fill_fda19 5 none "fill" (zRm 1 0 0) 0 0 (fun r h2 => r = none ∧ h2 = h.set q (zA g n (fl f a b v))) 0 0 10 [some (.ref (g.2.1 + q)), some (.int (iz a)), some (.int (iz b)), some (.int (iz v)), some (.int (iz x))] [] (h.set q (zA g n (fl f a x v))) := by
    intro j
    induction j with
    | zero =>
      intro x hx hax
      refine z_iload (pc := 10) rfl dJ7_fill_fda19_10 ?_
      refine z_iload_n (pc := 12) rfl dJ7_fill_fda19_12 ?_
      refine z_icmp_ge (pc := 13) ⟨by omega, by omega⟩ ⟨by omega, by omega⟩ 27 (by decide) dJ7_fill_fda19_13 (fun hq => ?_) (fun hq => ?_)
      · rw [show x = b by omega]
        exact z_retv (pc := 27) rfl (by decide) (by decide) dJ7_fill_fda19_27 ⟨rfl, rfl⟩
      omega
    | succ j ih =>
      intro x hx hax
      refine z_iload (pc := 10) rfl dJ7_fill_fda19_10 ?_
      refine z_iload_n (pc := 12) rfl dJ7_fill_fda19_12 ?_
      refine z_icmp_ge (pc := 13) ⟨by omega, by omega⟩ ⟨by omega, by omega⟩ 27 (by decide) dJ7_fill_fda19_13 (fun hq => ?_) (fun hq => ?_)
      · omega
      refine z_aload_n (pc := 16) rfl dJ7_fill_fda19_16 ?_
      refine z_iload (pc := 17) rfl dJ7_fill_fda19_17 ?_
      refine z_iload_n (pc := 19) rfl dJ7_fill_fda19_19 ?_
      refine z_iast (pc := 20) (set_at he) (by omega) (by omega) (by omega) dJ7_fill_fda19_20 ?_
      refine z_hp (show _ = h.set q (zA g n (fl f a (x + 1) v)) by rw [List.set_set, Int.toNat_natCast, fl_s f v hax]) ?_
      refine z_ii4 (pc := 21) (by decide) rfl dJ7_fill_fda19_21 ?_
      refine z_goto (pc := 24) 10 (by decide) dJ7_fill_fda19_24 ?_
      exact ih (x + 1) (by omega) (by omega)
  refine z_aload_n (pc := 0) rfl dJ7_fill_fda19_0 ?_
  refine z_alen (pc := 1) he dJ7_fill_fda19_1 ?_
  refine z_iload_n (pc := 2) rfl dJ7_fill_fda19_2 ?_
  refine z_iload_n (pc := 3) rfl dJ7_fill_fda19_3 ?_
  refine z_S3 (pc := 4) (c_rangeCheck (n := n) hn hab hbn) lk_J7_13 st_J7_rangeCheck_23922 ⟨by decide, by decide⟩ (Nat.le_of_ble_eq_true rfl) ⟨by decide, by decide⟩ dJ7_fill_fda19_4 (fun r h9 hq => ?_)
  obtain ⟨rfl, e9⟩ := hq
  rw [e9]
  clear e9 h9
  refine z_r0 ?_
  refine z_iload_n (pc := 7) rfl dJ7_fill_fda19_7 ?_
  refine z_is4 (pc := 8) (by decide) rfl dJ7_fill_fda19_8 ?_
  refine z_hp (show h = h.set q (zA g n (fl f a a v)) by rw [fl_0, set_id he]) ?_
  exact loop (b - a) a (by omega) (by omega)
theorem c_fill2 {h : List va_E} {q n : Nat} {f : Nat → Int} {v : Int} (he : h[q]? = some (zA g n f)) (hn : n ≤ 100000) : zM l g yJ7_fill_53178 cJ7_fill_53178 4 none 0 0 0 [.ref (g.2.1 + q), .int (iz v)] (h) (fun r h2 => r = none ∧ h2 = h.set q (zA g n (fl f 0 n v))) := by
  refine zM_of 2 (by decide) rfl ?_
  show zJ l g RJ7 cJ7_fill_53178 4 none "fill" (zRm 0 0 0) 0 0 _ 0 0 0 [some (.ref (g.2.1 + q)), some (.int (iz v)), none, none] [] _
  have loop : ∀ (j x : Nat), x + j = n → zJ l g RJ7 cJ7_fill_53178 4 none "fill" (zRm 0 0 0) 0 0 (fun r h2 => r = none ∧ h2 = h.set q (zA g n (fl f 0 n v))) 0 0 5 [some (.ref (g.2.1 + q)), some (.int (iz v)), some (.int (iz x)), some (.int (iz n))] [] (h.set q (zA g n (fl f 0 x v))) := by
    intro j
    induction j with
    | zero =>
      intro x hx
      refine z_iload_n (pc := 5) rfl dJ7_fill_53178_5 ?_
      refine z_iload_n (pc := 6) rfl dJ7_fill_53178_6 ?_
      refine z_icmp_ge (pc := 7) ⟨by omega, by omega⟩ ⟨by omega, by omega⟩ 20 (by decide) dJ7_fill_53178_7 (fun hq => ?_) (fun hq => ?_)
      · rw [show x = n by omega]
        exact z_retv (pc := 20) rfl (by decide) (by decide) dJ7_fill_53178_20 ⟨rfl, rfl⟩
      omega
    | succ j ih =>
      intro x hx
      refine z_iload_n (pc := 5) rfl dJ7_fill_53178_5 ?_
      refine z_iload_n (pc := 6) rfl dJ7_fill_53178_6 ?_
      refine z_icmp_ge (pc := 7) ⟨by omega, by omega⟩ ⟨by omega, by omega⟩ 20 (by decide) dJ7_fill_53178_7 (fun hq => ?_) (fun hq => ?_)
      · omega
      refine z_aload_n (pc := 10) rfl dJ7_fill_53178_10 ?_
      refine z_iload_n (pc := 11) rfl dJ7_fill_53178_11 ?_
      refine z_iload_n (pc := 12) rfl dJ7_fill_53178_12 ?_
      refine z_iast (pc := 13) (set_at he) (by omega) (by omega) (by omega) dJ7_fill_53178_13 ?_
      refine z_hp (show _ = h.set q (zA g n (fl f 0 (x + 1) v)) by rw [List.set_set, Int.toNat_natCast, fl_s f v (Nat.zero_le x)]) ?_
      refine z_ii2 (pc := 14) (by decide) rfl dJ7_fill_53178_14 ?_
      refine z_goto (pc := 17) 5 (by decide) dJ7_fill_53178_17 ?_
      exact ih (x + 1) (by omega)
  refine z_iconst (pc := 0) dJ7_fill_53178_0 ?_
  refine z_is2 (pc := 1) (by decide) rfl dJ7_fill_53178_1 ?_
  refine z_aload_n (pc := 2) rfl dJ7_fill_53178_2 ?_
  refine z_alen (pc := 3) he dJ7_fill_53178_3 ?_
  refine z_is3 (pc := 4) (by decide) rfl dJ7_fill_53178_4 ?_
  refine z_hp (show h = h.set q (zA g n (fl f 0 0 v)) by rw [fl_0, set_id he]) ?_
  exact loop n 0 (by omega)
theorem c_hasHour (B : bi F 1) {z : Int} (hz : ir z) : zM l g yX1_hasHour cX1_hasHour 2 (some .boolean) 0 0 0 [.ref (g.2.1 + 1), .int (iz z)] (zk g F L im c) (fun r h => r = some (.int (iz (if 0 ≤ z ∧ z < F 1 0 then 1 else 0))) ∧ h = zk g F L im c) := by
  refine zM_of 0 (by decide) rfl ?_
  show zJ l g RX1 cX1_hasHour 2 (some .boolean) "hasHour" (zRm 0 0 0) 0 0 _ 0 0 0 [some (.ref (g.2.1 + 1)), some (.int (iz z))] [] _
  have hF : ir (F 1 0) := by have h1 := bi_hours B; have h2 := bi_kinds B; have h3 := bi_offers B; exact ⟨by omega, by omega⟩
  refine z_iload_n (pc := 0) rfl dX1_hasHour_0 ?_
  refine z_if_lt (pc := 1) hz 16 (by decide) dX1_hasHour_1 (fun hq => ?_) (fun hq => ?_)
  · rw [if_neg (by omega)]
    refine z_iconst (pc := 16) dX1_hasHour_16 ?_
    exact z_retz (pc := 17) rfl (Or.inl rfl) (by decide) (by decide) dX1_hasHour_17 ⟨rfl, rfl⟩
  refine z_iload_n (pc := 4) rfl dX1_hasHour_4 ?_
  refine z_aload_n (pc := 5) rfl dX1_hasHour_5 ?_
  refine zf_X1_9 (pc := 6) rfl rfl dX1_hasHour_6 ?_
  refine z_icmp_ge (pc := 9) hz hF 16 (by decide) dX1_hasHour_9 (fun hq => ?_) (fun hq => ?_)
  · rw [if_neg (by omega)]
    refine z_iconst (pc := 16) dX1_hasHour_16 ?_
    exact z_retz (pc := 17) rfl (Or.inl rfl) (by decide) (by decide) dX1_hasHour_17 ⟨rfl, rfl⟩
  rw [if_pos (by omega)]
  refine z_iconst (pc := 12) dX1_hasHour_12 ?_
  refine z_goto (pc := 13) 17 (by decide) dX1_hasHour_13 ?_
  exact z_retz (pc := 17) rfl (Or.inr rfl) (by decide) (by decide) dX1_hasHour_17 ⟨rfl, rfl⟩
theorem c_hasKind (B : bi F 1) {z : Int} (hz : ir z) : zM l g yX1_hasKind cX1_hasKind 2 (some .boolean) 0 0 0 [.ref (g.2.1 + 1), .int (iz z)] (zk g F L im c) (fun r h => r = some (.int (iz (if 0 ≤ z ∧ z < F 1 1 then 1 else 0))) ∧ h = zk g F L im c) := by
  refine zM_of 0 (by decide) rfl ?_
  show zJ l g RX1 cX1_hasKind 2 (some .boolean) "hasKind" (zRm 0 0 0) 0 0 _ 0 0 0 [some (.ref (g.2.1 + 1)), some (.int (iz z))] [] _
  have hF : ir (F 1 1) := by have h1 := bi_hours B; have h2 := bi_kinds B; have h3 := bi_offers B; exact ⟨by omega, by omega⟩
  refine z_iload_n (pc := 0) rfl dX1_hasKind_0 ?_
  refine z_if_lt (pc := 1) hz 16 (by decide) dX1_hasKind_1 (fun hq => ?_) (fun hq => ?_)
  · rw [if_neg (by omega)]
    refine z_iconst (pc := 16) dX1_hasKind_16 ?_
    exact z_retz (pc := 17) rfl (Or.inl rfl) (by decide) (by decide) dX1_hasKind_17 ⟨rfl, rfl⟩
  refine z_iload_n (pc := 4) rfl dX1_hasKind_4 ?_
  refine z_aload_n (pc := 5) rfl dX1_hasKind_5 ?_
  refine zf_X1_34 (pc := 6) rfl rfl dX1_hasKind_6 ?_
  refine z_icmp_ge (pc := 9) hz hF 16 (by decide) dX1_hasKind_9 (fun hq => ?_) (fun hq => ?_)
  · rw [if_neg (by omega)]
    refine z_iconst (pc := 16) dX1_hasKind_16 ?_
    exact z_retz (pc := 17) rfl (Or.inl rfl) (by decide) (by decide) dX1_hasKind_17 ⟨rfl, rfl⟩
  rw [if_pos (by omega)]
  refine z_iconst (pc := 12) dX1_hasKind_12 ?_
  refine z_goto (pc := 13) 17 (by decide) dX1_hasKind_13 ?_
  exact z_retz (pc := 17) rfl (Or.inr rfl) (by decide) (by decide) dX1_hasKind_17 ⟨rfl, rfl⟩
theorem c_hasOffer (B : bi F 1) {z : Int} (hz : ir z) : zM l g yX1_hasOffer cX1_hasOffer 2 (some .boolean) 0 0 0 [.ref (g.2.1 + 1), .int (iz z)] (zk g F L im c) (fun r h => r = some (.int (iz (if 0 ≤ z ∧ z < F 1 2 then 1 else 0))) ∧ h = zk g F L im c) := by
  refine zM_of 0 (by decide) rfl ?_
  show zJ l g RX1 cX1_hasOffer 2 (some .boolean) "hasOffer" (zRm 0 0 0) 0 0 _ 0 0 0 [some (.ref (g.2.1 + 1)), some (.int (iz z))] [] _
  have hF : ir (F 1 2) := by have h1 := bi_hours B; have h2 := bi_kinds B; have h3 := bi_offers B; exact ⟨by omega, by omega⟩
  refine z_iload_n (pc := 0) rfl dX1_hasOffer_0 ?_
  refine z_if_lt (pc := 1) hz 16 (by decide) dX1_hasOffer_1 (fun hq => ?_) (fun hq => ?_)
  · rw [if_neg (by omega)]
    refine z_iconst (pc := 16) dX1_hasOffer_16 ?_
    exact z_retz (pc := 17) rfl (Or.inl rfl) (by decide) (by decide) dX1_hasOffer_17 ⟨rfl, rfl⟩
  refine z_iload_n (pc := 4) rfl dX1_hasOffer_4 ?_
  refine z_aload_n (pc := 5) rfl dX1_hasOffer_5 ?_
  refine zf_X1_37 (pc := 6) rfl rfl dX1_hasOffer_6 ?_
  refine z_icmp_ge (pc := 9) hz hF 16 (by decide) dX1_hasOffer_9 (fun hq => ?_) (fun hq => ?_)
  · rw [if_neg (by omega)]
    refine z_iconst (pc := 16) dX1_hasOffer_16 ?_
    exact z_retz (pc := 17) rfl (Or.inl rfl) (by decide) (by decide) dX1_hasOffer_17 ⟨rfl, rfl⟩
  rw [if_pos (by omega)]
  refine z_iconst (pc := 12) dX1_hasOffer_12 ?_
  refine z_goto (pc := 13) 17 (by decide) dX1_hasOffer_13 ?_
  exact z_retz (pc := 17) rfl (Or.inr rfl) (by decide) (by decide) dX1_hasOffer_17 ⟨rfl, rfl⟩
theorem c_isOfferOf (B : bi F 1) {z : Int} (hz : ir z) {k : Nat} (hk : k < 3) : zM l g yX1_isOfferOf cX1_isOfferOf 3 (some .boolean) 1 0 0 [.ref (g.2.1 + 1), .int (iz z), .int (iz k)] (zk g F L im c) (fun r h => r = some (.int (iz (if 0 ≤ z ∧ z < F 1 2 ∧ F 3 z.toNat = k then 1 else 0))) ∧ h = zk g F L im c) := by
  refine zM_of 0 (by decide) rfl ?_
  show zJ l g RX1 cX1_isOfferOf 3 (some .boolean) "isOfferOf" (zRm 1 0 0) 0 0 _ 0 0 0 [some (.ref (g.2.1 + 1)), some (.int (iz z)), some (.int (iz k))] [] _
  have h3 := bi_offers B
  refine z_aload_n (pc := 0) rfl dX1_isOfferOf_0 ?_
  refine z_iload_n (pc := 1) rfl dX1_isOfferOf_1 ?_
  refine z_V1 (pc := 2) (c_hasOffer B hz) lk_X1_46 iv_X1_hasOffer rfl rfl ⟨by decide, by decide⟩ (Nat.le_of_ble_eq_true rfl) ⟨by decide, by decide⟩ dX1_isOfferOf_2 (fun r h9 hq => ?_)
  obtain ⟨rfl, e9⟩ := hq
  rw [e9]
  clear e9 h9
  refine z_r1 ?_
  by_cases hc : 0 ≤ z ∧ z < F 1 2
  · rw [if_pos hc]
    refine z_if_eq (pc := 5) ⟨by omega, by omega⟩ 22 (by decide) dX1_isOfferOf_5 (fun hq => ?_) (fun hq => ?_)
    · omega
    have hko := bi_kindOf B z.toNat
    refine z_aload_n (pc := 8) rfl dX1_isOfferOf_8 ?_
    refine zf_X1_19 (pc := 9) rfl rfl dX1_isOfferOf_9 ?_
    refine z_iload_n (pc := 12) rfl dX1_isOfferOf_12 ?_
    refine z_iald (pc := 13) rfl (by decide) (by omega) (by omega) dX1_isOfferOf_13 ?_
    refine z_iload_n (pc := 14) rfl dX1_isOfferOf_14 ?_
    refine z_icmp_ne (pc := 15) ⟨by omega, by omega⟩ ⟨by omega, by omega⟩ 22 (by decide) dX1_isOfferOf_15 (fun hq => ?_) (fun hq => ?_)
    · rw [if_neg (by omega)]
      refine z_iconst (pc := 22) dX1_isOfferOf_22 ?_
      exact z_retz (pc := 23) rfl (Or.inl rfl) (by decide) (by decide) dX1_isOfferOf_23 ⟨rfl, rfl⟩
    rw [if_pos (by omega)]
    refine z_iconst (pc := 18) dX1_isOfferOf_18 ?_
    refine z_goto (pc := 19) 23 (by decide) dX1_isOfferOf_19 ?_
    exact z_retz (pc := 23) rfl (Or.inr rfl) (by decide) (by decide) dX1_isOfferOf_23 ⟨rfl, rfl⟩
  · rw [if_neg hc]
    refine z_if_eq (pc := 5) ⟨by omega, by omega⟩ 22 (by decide) dX1_isOfferOf_5 (fun hq => ?_) (fun hq => ?_)
    · rw [if_neg (by omega)]
      refine z_iconst (pc := 22) dX1_isOfferOf_22 ?_
      exact z_retz (pc := 23) rfl (Or.inl rfl) (by decide) (by decide) dX1_isOfferOf_23 ⟨rfl, rfl⟩
    omega
theorem c_needOf {o k t : Nat} (ho : o < 4) (hk : k < 3) (ht : t < 40) : zM l g yX1_needOf cX1_needOf 4 (some .int) 0 0 0 [.ref (g.2.1 + 1), .int (iz o), .int (iz k), .int (iz t)] (zk g F L im c) (fun r h => r = some (.int (iz (fnd F k t o))) ∧ h = zk g F L im c) := by
  refine zM_of 0 (by decide) rfl ?_
  show zJ l g RX1 cX1_needOf 4 (some .int) "needOf" (zRm 0 0 0) 0 0 _ 0 0 0 [some (.ref (g.2.1 + 1)), some (.int (iz o)), some (.int (iz k)), some (.int (iz t))] [] _
  refine z_aload_n (pc := 0) rfl dX1_needOf_0 ?_
  refine zf_X1_28 (pc := 1) rfl rfl dX1_needOf_1 ?_
  refine z_iload_n (pc := 4) rfl dX1_needOf_4 ?_
  refine z_iconst (pc := 5) dX1_needOf_5 ?_
  refine z_imul (pc := 6) dX1_needOf_6 ?_
  refine z_iload_n (pc := 7) rfl dX1_needOf_7 ?_
  refine z_iadd (pc := 8) dX1_needOf_8 ?_
  refine z_bipush (pc := 9) (by decide) dX1_needOf_9 ?_
  refine z_imul (pc := 11) dX1_needOf_11 ?_
  refine z_iload_n (pc := 12) rfl dX1_needOf_12 ?_
  refine z_iadd (pc := 13) dX1_needOf_13 ?_
  refine z_iald (pc := 14) rfl (by decide) (by omega) (by omega) dX1_needOf_14 ?_
  exact z_reti (pc := 15) rfl (by decide) (by decide) dX1_needOf_15 ⟨congrArg (fun x => some (Value.int (iz (F 6 x)))) (by omega), rfl⟩
theorem c_needOfAll {k t : Nat} (hk : k < 3) (ht : t < 40) : zM l g yX1_needOfAll cX1_needOfAll 5 (some .int) 1 0 0 [.ref (g.2.1 + 1), .int (iz k), .int (iz t)] (zk g F L im c) (fun r h => r = some (.int (iz (nda F k t))) ∧ h = zk g F L im c) := by
  refine zM_of 2 (by decide) rfl ?_
  show zJ l g RX1 cX1_needOfAll 5 (some .int) "needOfAll" (zRm 1 0 0) 0 0 _ 0 0 0 [some (.ref (g.2.1 + 1)), some (.int (iz k)), some (.int (iz t)), none, none] [] _
  have loop : ∀ (j i : Nat), i + j = 4 → zJ l g RX1 cX1_needOfAll 5 (some .int) "needOfAll" (zRm 1 0 0) 0 0 (fun r h => r = some (.int (iz (nda F k t))) ∧ h = zk g F L im c) 0 0 5 [some (.ref (g.2.1 + 1)), some (.int (iz k)), some (.int (iz t)), some (.int (iz (sm (fnd F k t) i))), some (.int (iz i))] [] (zk g F L im c) := by
    intro j
    induction j with
    | zero =>
      intro i hi
      refine z_iload (pc := 5) rfl dX1_needOfAll_5 ?_
      refine z_iconst (pc := 7) dX1_needOfAll_7 ?_
      refine z_icmp_ge (pc := 8) ⟨by omega, by omega⟩ ⟨by omega, by omega⟩ 28 (by decide) dX1_needOfAll_8 (fun hq => ?_) (fun hq => ?_)
      · refine z_iload_n (pc := 28) rfl dX1_needOfAll_28 ?_
        exact z_reti (pc := 29) rfl (by decide) (by decide) dX1_needOfAll_29 ⟨by rw [show i = 4 by omega]; rfl, rfl⟩
      omega
    | succ j ih =>
      intro i hi
      refine z_iload (pc := 5) rfl dX1_needOfAll_5 ?_
      refine z_iconst (pc := 7) dX1_needOfAll_7 ?_
      refine z_icmp_ge (pc := 8) ⟨by omega, by omega⟩ ⟨by omega, by omega⟩ 28 (by decide) dX1_needOfAll_8 (fun hq => ?_) (fun hq => ?_)
      · omega
      refine z_iload_n (pc := 11) rfl dX1_needOfAll_11 ?_
      refine z_aload_n (pc := 12) rfl dX1_needOfAll_12 ?_
      refine z_iload (pc := 13) rfl dX1_needOfAll_13 ?_
      refine z_iload_n (pc := 15) rfl dX1_needOfAll_15 ?_
      refine z_iload_n (pc := 16) rfl dX1_needOfAll_16 ?_
      refine z_V3 (pc := 17) (c_needOf (o := i) (by omega) hk ht) lk_X1_60 iv_X1_needOf rfl rfl ⟨by decide, by decide⟩ (Nat.le_of_ble_eq_true rfl) ⟨by decide, by decide⟩ dX1_needOfAll_17 (fun r h9 hq => ?_)
      obtain ⟨rfl, e9⟩ := hq
      rw [e9]
      clear e9 h9
      refine z_r1 ?_
      refine z_iadd (pc := 20) dX1_needOfAll_20 ?_
      refine z_is3 (pc := 21) (by decide) rfl dX1_needOfAll_21 ?_
      refine z_ii4 (pc := 22) (by decide) rfl dX1_needOfAll_22 ?_
      refine z_goto (pc := 25) 5 (by decide) dX1_needOfAll_25 ?_
      exact ih (i + 1) (by omega)
  refine z_iconst (pc := 0) dX1_needOfAll_0 ?_
  refine z_is3 (pc := 1) (by decide) rfl dX1_needOfAll_1 ?_
  refine z_iconst (pc := 2) dX1_needOfAll_2 ?_
  refine z_is4 (pc := 3) (by decide) rfl dX1_needOfAll_3 ?_
  exact loop 4 0 rfl
theorem c_needInAll (B : bi F 1) {k : Nat} (hk : k < 3) : zM l g yX1_needInAll cX1_needInAll 4 (some .int) 2 0 0 [.ref (g.2.1 + 1), .int (iz k)] (zk g F L im c) (fun r h => r = some (.int (iz (sm (nda F k) (F 1 0).toNat))) ∧ h = zk g F L im c) := by
  refine zM_of 2 (by decide) rfl ?_
  show zJ l g RX1 cX1_needInAll 4 (some .int) "needInAll" (zRm 2 0 0) 0 0 _ 0 0 0 [some (.ref (g.2.1 + 1)), some (.int (iz k)), none, none] [] _
  have h1 := bi_hours B
  have h3 := bi_offers B
  have loop : ∀ (j i : Nat), i + j = (F 1 0).toNat → zJ l g RX1 cX1_needInAll 4 (some .int) "needInAll" (zRm 2 0 0) 0 0 (fun r h => r = some (.int (iz (sm (nda F k) (F 1 0).toNat))) ∧ h = zk g F L im c) 0 0 4 [some (.ref (g.2.1 + 1)), some (.int (iz k)), some (.int (iz (sm (nda F k) i))), some (.int (iz i))] [] (zk g F L im c) := by
    intro j
    induction j with
    | zero =>
      intro i hi
      refine z_iload_n (pc := 4) rfl dX1_needInAll_4 ?_
      refine z_aload_n (pc := 5) rfl dX1_needInAll_5 ?_
      refine zf_X1_9 (pc := 6) rfl rfl dX1_needInAll_6 ?_
      refine z_icmp_ge (pc := 9) ⟨by omega, by omega⟩ ⟨by omega, by omega⟩ 27 (by decide) dX1_needInAll_9 (fun hq => ?_) (fun hq => ?_)
      · refine z_iload_n (pc := 27) rfl dX1_needInAll_27 ?_
        exact z_reti (pc := 28) rfl (by decide) (by decide) dX1_needInAll_28 ⟨by rw [show i = (F 1 0).toNat by omega], rfl⟩
      omega
    | succ j ih =>
      intro i hi
      refine z_iload_n (pc := 4) rfl dX1_needInAll_4 ?_
      refine z_aload_n (pc := 5) rfl dX1_needInAll_5 ?_
      refine zf_X1_9 (pc := 6) rfl rfl dX1_needInAll_6 ?_
      refine z_icmp_ge (pc := 9) ⟨by omega, by omega⟩ ⟨by omega, by omega⟩ 27 (by decide) dX1_needInAll_9 (fun hq => ?_) (fun hq => ?_)
      · omega
      refine z_iload_n (pc := 12) rfl dX1_needInAll_12 ?_
      refine z_aload_n (pc := 13) rfl dX1_needInAll_13 ?_
      refine z_iload_n (pc := 14) rfl dX1_needInAll_14 ?_
      refine z_iload_n (pc := 15) rfl dX1_needInAll_15 ?_
      refine z_V2 (pc := 16) (c_needOfAll (t := i) hk (by omega)) lk_X1_64 iv_X1_needOfAll rfl rfl ⟨by decide, by decide⟩ (Nat.le_of_ble_eq_true rfl) ⟨by decide, by decide⟩ dX1_needInAll_16 (fun r h9 hq => ?_)
      obtain ⟨rfl, e9⟩ := hq
      rw [e9]
      clear e9 h9
      refine z_r1 ?_
      refine z_iadd (pc := 19) dX1_needInAll_19 ?_
      refine z_is2 (pc := 20) (by decide) rfl dX1_needInAll_20 ?_
      refine z_ii3 (pc := 21) (by decide) rfl dX1_needInAll_21 ?_
      refine z_goto (pc := 24) 4 (by decide) dX1_needInAll_24 ?_
      exact ih (i + 1) (by omega)
  refine z_iconst (pc := 0) dX1_needInAll_0 ?_
  refine z_is2 (pc := 1) (by decide) rfl dX1_needInAll_1 ?_
  refine z_iconst (pc := 2) dX1_needInAll_2 ?_
  refine z_is3 (pc := 3) (by decide) rfl dX1_needInAll_3 ?_
  exact loop (F 1 0).toNat 0 (by omega)
theorem mxs_bd {f : Nat → Int} {b : Int} (hb : 0 ≤ b) : ∀ {n : Nat}, (∀ j, j < n → f j ≤ b) → 0 ≤ mxs f n ∧ mxs f n ≤ b
  | 0, _ => ⟨Int.le_refl 0, hb⟩
  | n + 1, h => by
    have h1 := mxs_bd (n := n) hb (fun j hj => h j (by omega))
    have h2 := h n (by omega)
    show 0 ≤ max (mxs f n) (f n) ∧ max (mxs f n) (f n) ≤ b
    omega
theorem c_mostNeed (B : bi F 1) {k : Nat} (hk : k < 3) : zM l g yX1_mostNeed cX1_mostNeed 4 (some .int) 2 0 0 [.ref (g.2.1 + 1), .int (iz k)] (zk g F L im c) (fun r h => r = some (.int (iz (mxs (nda F k) (F 1 0).toNat))) ∧ h = zk g F L im c) := by
  refine zM_of 2 (by decide) rfl ?_
  show zJ l g RX1 cX1_mostNeed 4 (some .int) "mostNeed" (zRm 2 0 0) 0 0 _ 0 0 0 [some (.ref (g.2.1 + 1)), some (.int (iz k)), none, none] [] _
  have h1 := bi_hours B
  have loop : ∀ (j i : Nat), i + j = (F 1 0).toNat → zJ l g RX1 cX1_mostNeed 4 (some .int) "mostNeed" (zRm 2 0 0) 0 0 (fun r h => r = some (.int (iz (mxs (nda F k) (F 1 0).toNat))) ∧ h = zk g F L im c) 0 0 4 [some (.ref (g.2.1 + 1)), some (.int (iz k)), some (.int (iz (mxs (nda F k) i))), some (.int (iz i))] [] (zk g F L im c) := by
    intro j
    induction j with
    | zero =>
      intro i hi
      refine z_iload_n (pc := 4) rfl dX1_mostNeed_4 ?_
      refine z_aload_n (pc := 5) rfl dX1_mostNeed_5 ?_
      refine zf_X1_9 (pc := 6) rfl rfl dX1_mostNeed_6 ?_
      refine z_icmp_ge (pc := 9) ⟨by omega, by omega⟩ ⟨by omega, by omega⟩ 29 (by decide) dX1_mostNeed_9 (fun hq => ?_) (fun hq => ?_)
      · refine z_iload_n (pc := 29) rfl dX1_mostNeed_29 ?_
        exact z_reti (pc := 30) rfl (by decide) (by decide) dX1_mostNeed_30 ⟨by rw [show i = (F 1 0).toNat by omega], rfl⟩
      omega
    | succ j ih =>
      intro i hi
      refine z_iload_n (pc := 4) rfl dX1_mostNeed_4 ?_
      refine z_aload_n (pc := 5) rfl dX1_mostNeed_5 ?_
      refine zf_X1_9 (pc := 6) rfl rfl dX1_mostNeed_6 ?_
      refine z_icmp_ge (pc := 9) ⟨by omega, by omega⟩ ⟨by omega, by omega⟩ 29 (by decide) dX1_mostNeed_9 (fun hq => ?_) (fun hq => ?_)
      · omega
      have h5 := nda_bd B k i
      have h6 := mxs_bd (f := nda F k) (b := 36) (by omega) (n := i) (fun j _ => (nda_bd B k j).2)
      refine z_iload_n (pc := 12) rfl dX1_mostNeed_12 ?_
      refine z_aload_n (pc := 13) rfl dX1_mostNeed_13 ?_
      refine z_iload_n (pc := 14) rfl dX1_mostNeed_14 ?_
      refine z_iload_n (pc := 15) rfl dX1_mostNeed_15 ?_
      refine z_V2 (pc := 16) (c_needOfAll (t := i) hk (by omega)) lk_X1_64 iv_X1_needOfAll rfl rfl ⟨by decide, by decide⟩ (Nat.le_of_ble_eq_true rfl) ⟨by decide, by decide⟩ dX1_mostNeed_16 (fun r h9 hq => ?_)
      obtain ⟨rfl, e9⟩ := hq
      rw [e9]
      clear e9 h9
      refine z_r1 ?_
      refine z_mmax (pc := 19) lk_X1_68 ⟨by omega, by omega⟩ ⟨by omega, by omega⟩ ⟨by decide, by decide⟩ (Nat.le_of_ble_eq_true rfl) ⟨by decide, by decide⟩ dX1_mostNeed_19 ?_
      refine z_is2 (pc := 22) (by decide) rfl dX1_mostNeed_22 ?_
      refine z_ii3 (pc := 23) (by decide) rfl dX1_mostNeed_23 ?_
      refine z_goto (pc := 26) 4 (by decide) dX1_mostNeed_26 ?_
      exact ih (i + 1) (by omega)
  refine z_iconst (pc := 0) dX1_mostNeed_0 ?_
  refine z_is2 (pc := 1) (by decide) rfl dX1_mostNeed_1 ?_
  refine z_iconst (pc := 2) dX1_mostNeed_2 ?_
  refine z_is3 (pc := 3) (by decide) rfl dX1_mostNeed_3 ?_
  exact loop (F 1 0).toNat 0 (by omega)
theorem c_offersOf (B : bi F 1) {k : Nat} (hk : k < 3) : zM l g yX1_offersOf cX1_offersOf 4 (some .int) 0 0 0 [.ref (g.2.1 + 1), .int (iz k)] (zk g F L im c) (fun r h => r = some (.int (iz (sm (fun o => if F 3 o = k then 1 else 0) (F 1 2).toNat))) ∧ h = zk g F L im c) := by
  refine zM_of 2 (by decide) rfl ?_
  show zJ l g RX1 cX1_offersOf 4 (some .int) "offersOf" (zRm 0 0 0) 0 0 _ 0 0 0 [some (.ref (g.2.1 + 1)), some (.int (iz k)), none, none] [] _
  have h3 := bi_offers B
  have loop : ∀ (j i : Nat), i + j = (F 1 2).toNat → zJ l g RX1 cX1_offersOf 4 (some .int) "offersOf" (zRm 0 0 0) 0 0 (fun r h => r = some (.int (iz (sm (fun o => if F 3 o = k then 1 else 0) (F 1 2).toNat))) ∧ h = zk g F L im c) 0 0 4 [some (.ref (g.2.1 + 1)), some (.int (iz k)), some (.int (iz (sm (fun o => if F 3 o = k then 1 else 0) i))), some (.int (iz i))] [] (zk g F L im c) := by
    intro j
    induction j with
    | zero =>
      intro i hi
      refine z_iload_n (pc := 4) rfl dX1_offersOf_4 ?_
      refine z_aload_n (pc := 5) rfl dX1_offersOf_5 ?_
      refine zf_X1_37 (pc := 6) rfl rfl dX1_offersOf_6 ?_
      refine z_icmp_ge (pc := 9) ⟨by omega, by omega⟩ ⟨by omega, by omega⟩ 36 (by decide) dX1_offersOf_9 (fun hq => ?_) (fun hq => ?_)
      · refine z_iload_n (pc := 36) rfl dX1_offersOf_36 ?_
        exact z_reti (pc := 37) rfl (by decide) (by decide) dX1_offersOf_37 ⟨by rw [show i = (F 1 2).toNat by omega], rfl⟩
      omega
    | succ j ih =>
      intro i hi
      refine z_iload_n (pc := 4) rfl dX1_offersOf_4 ?_
      refine z_aload_n (pc := 5) rfl dX1_offersOf_5 ?_
      refine zf_X1_37 (pc := 6) rfl rfl dX1_offersOf_6 ?_
      refine z_icmp_ge (pc := 9) ⟨by omega, by omega⟩ ⟨by omega, by omega⟩ 36 (by decide) dX1_offersOf_9 (fun hq => ?_) (fun hq => ?_)
      · omega
      refine z_iload_n (pc := 12) rfl dX1_offersOf_12 ?_
      refine z_aload_n (pc := 13) rfl dX1_offersOf_13 ?_
      refine zf_X1_19 (pc := 14) rfl rfl dX1_offersOf_14 ?_
      refine z_iload_n (pc := 17) rfl dX1_offersOf_17 ?_
      refine z_iald (pc := 18) rfl (by decide) (by omega) (by omega) dX1_offersOf_18 ?_
      refine z_iload_n (pc := 19) rfl dX1_offersOf_19 ?_
      have h5 := bi_kindOf B i
      have e : sm (fun o => if F 3 o = k then 1 else 0) (i + 1) = sm (fun o => if F 3 o = k then 1 else 0) i + (if F 3 i = k then 1 else 0) := rfl
      refine z_icmp_ne (pc := 20) (by rw [Int.toNat_natCast]; exact ⟨by omega, by omega⟩) ⟨by omega, by omega⟩ 27 (by decide) dX1_offersOf_20 (fun hq => ?_) (fun hq => ?_)
      · rw [Int.toNat_natCast] at hq
        rw [if_neg hq] at e
        refine z_iconst (pc := 27) dX1_offersOf_27 ?_
        refine z_iadd (pc := 28) dX1_offersOf_28 ?_
        rw [← e]
        refine z_is2 (pc := 29) (by decide) rfl dX1_offersOf_29 ?_
        refine z_ii3 (pc := 30) (by decide) rfl dX1_offersOf_30 ?_
        refine z_goto (pc := 33) 4 (by decide) dX1_offersOf_33 ?_
        exact ih (i + 1) (by omega)
      rw [Int.toNat_natCast] at hq
      rw [if_pos hq] at e
      refine z_iconst (pc := 23) dX1_offersOf_23 ?_
      refine z_goto (pc := 24) 28 (by decide) dX1_offersOf_24 ?_
      refine z_iadd (pc := 28) dX1_offersOf_28 ?_
      rw [← e]
      refine z_is2 (pc := 29) (by decide) rfl dX1_offersOf_29 ?_
      refine z_ii3 (pc := 30) (by decide) rfl dX1_offersOf_30 ?_
      refine z_goto (pc := 33) 4 (by decide) dX1_offersOf_33 ?_
      exact ih (i + 1) (by omega)
  refine z_iconst (pc := 0) dX1_offersOf_0 ?_
  refine z_is2 (pc := 1) (by decide) rfl dX1_offersOf_1 ?_
  refine z_iconst (pc := 2) dX1_offersOf_2 ?_
  refine z_is3 (pc := 3) (by decide) rfl dX1_offersOf_3 ?_
  exact loop (F 1 2).toNat 0 (by omega)
theorem c_boughtAt {o t : Nat} (ho : o < 6) (ht : t < 40) : zM l g yX1_boughtAt cX1_boughtAt 3 (some .int) 0 0 0 [.ref (g.2.1 + 1), .int (iz o), .int (iz t)] (zk g F L im c) (fun r h => r = some (.int (iz (bt F o t))) ∧ h = zk g F L im c) := by
  refine zM_of 0 (by decide) rfl ?_
  show zJ l g RX1 cX1_boughtAt 3 (some .int) "boughtAt" (zRm 0 0 0) 0 0 _ 0 0 0 [some (.ref (g.2.1 + 1)), some (.int (iz o)), some (.int (iz t))] [] _
  refine z_aload_n (pc := 0) rfl dX1_boughtAt_0 ?_
  refine zf_X1_31 (pc := 1) rfl rfl dX1_boughtAt_1 ?_
  refine z_iload_n (pc := 4) rfl dX1_boughtAt_4 ?_
  refine z_bipush (pc := 5) (by decide) dX1_boughtAt_5 ?_
  refine z_imul (pc := 7) dX1_boughtAt_7 ?_
  refine z_iload_n (pc := 8) rfl dX1_boughtAt_8 ?_
  refine z_iadd (pc := 9) dX1_boughtAt_9 ?_
  refine z_iald (pc := 10) rfl (by decide) (by omega) (by omega) dX1_boughtAt_10 ?_
  exact z_reti (pc := 11) rfl (by decide) (by decide) dX1_boughtAt_11 ⟨congrArg (fun x => some (Value.int (iz (F 7 x)))) (by omega), rfl⟩
def bwi (F : Nat → Nat → Int) (o a n : Nat) : Int := sm (fun j => if a ≤ j then bt F o j else 0) n
theorem c_boughtWithin {o a b : Nat} {z : Int} (hz : z = (b : Int) - 1) (ho : o < 6) (hab : a ≤ b) (hb : b ≤ 40) : zM l g yX1_boughtWithin cX1_boughtWithin 6 (some .int) 1 0 0 [.ref (g.2.1 + 1), .int (iz o), .int (iz a), .int (iz z)] (zk g F L im c) (fun r h => r = some (.int (iz (bwi F o a b))) ∧ h = zk g F L im c) := by
  refine zM_of 2 (by decide) rfl ?_
  show zJ l g RX1 cX1_boughtWithin 6 (some .int) "boughtWithin" (zRm 1 0 0) 0 0 _ 0 0 0 [some (.ref (g.2.1 + 1)), some (.int (iz o)), some (.int (iz a)), some (.int (iz z)), none, none] [] _
  subst hz
  have e0 : bwi F o a a = 0 := sm_zero (fun j hj => if_neg (by omega))
  have es : ∀ x, a ≤ x → bwi F o a (x + 1) = bwi F o a x + bt F o x := fun x hx => by
    show _ + ite _ _ _ = _
    rw [if_pos hx]; rfl
  have loop : ∀ (j x : Nat), x + j = b → a ≤ x → zJ l g RX1 cX1_boughtWithin 6 (some .int) "boughtWithin" (zRm 1 0 0) 0 0 (fun r h => r = some (.int (iz (bwi F o a b))) ∧ h = zk g F L im c) 0 0 6 [some (.ref (g.2.1 + 1)), some (.int (iz o)), some (.int (iz a)), some (.int (iz ((b : Int) - 1))), some (.int (iz (bwi F o a x))), some (.int (iz x))] [] (zk g F L im c) := by
    intro j
    induction j with
    | zero =>
      intro x hx hax
      refine z_iload (pc := 6) rfl dX1_boughtWithin_6 ?_
      refine z_iload_n (pc := 8) rfl dX1_boughtWithin_8 ?_
      refine z_icmp_gt (pc := 9) ⟨by omega, by omega⟩ ⟨by omega, by omega⟩ 30 (by decide) dX1_boughtWithin_9 (fun hq => ?_) (fun hq => ?_)
      · refine z_iload (pc := 30) rfl dX1_boughtWithin_30 ?_
        exact z_reti (pc := 32) rfl (by decide) (by decide) dX1_boughtWithin_32 ⟨by rw [show x = b by omega], rfl⟩
      omega
    | succ j ih =>
      intro x hx hax
      refine z_iload (pc := 6) rfl dX1_boughtWithin_6 ?_
      refine z_iload_n (pc := 8) rfl dX1_boughtWithin_8 ?_
      refine z_icmp_gt (pc := 9) ⟨by omega, by omega⟩ ⟨by omega, by omega⟩ 30 (by decide) dX1_boughtWithin_9 (fun hq => ?_) (fun hq => ?_)
      · omega
      refine z_iload (pc := 12) rfl dX1_boughtWithin_12 ?_
      refine z_aload_n (pc := 14) rfl dX1_boughtWithin_14 ?_
      refine z_iload_n (pc := 15) rfl dX1_boughtWithin_15 ?_
      refine z_iload (pc := 16) rfl dX1_boughtWithin_16 ?_
      refine z_V2 (pc := 18) (c_boughtAt (o := o) (t := x) ho (by omega)) lk_X1_90 iv_X1_boughtAt rfl rfl ⟨by decide, by decide⟩ (Nat.le_of_ble_eq_true rfl) ⟨by decide, by decide⟩ dX1_boughtWithin_18 (fun r h9 hq => ?_)
      obtain ⟨rfl, e9⟩ := hq
      rw [e9]
      clear e9 h9
      refine z_r1 ?_
      refine z_iadd (pc := 21) dX1_boughtWithin_21 ?_
      rw [← es x hax]
      refine z_is4 (pc := 22) (by decide) rfl dX1_boughtWithin_22 ?_
      refine z_ii5 (pc := 24) (by decide) rfl dX1_boughtWithin_24 ?_
      refine z_goto (pc := 27) 6 (by decide) dX1_boughtWithin_27 ?_
      exact ih (x + 1) (by omega) (by omega)
  refine z_iconst (pc := 0) dX1_boughtWithin_0 ?_
  rw [← e0]
  refine z_is4 (pc := 1) (by decide) rfl dX1_boughtWithin_1 ?_
  refine z_iload_n (pc := 3) rfl dX1_boughtWithin_3 ?_
  refine z_is5 (pc := 4) (by decide) rfl dX1_boughtWithin_4 ?_
  exact loop (b - a) a (by omega) (by omega)
theorem c_boughtInAll (B : bi F 1) {o : Nat} (ho : o < 6) : zM l g yX1_boughtInAll cX1_boughtInAll 2 (some .int) 2 0 0 [.ref (g.2.1 + 1), .int (iz o)] (zk g F L im c) (fun r h => r = some (.int (iz (sm (bt F o) (F 1 0).toNat))) ∧ h = zk g F L im c) := by
  refine zM_of 0 (by decide) rfl ?_
  show zJ l g RX1 cX1_boughtInAll 2 (some .int) "boughtInAll" (zRm 2 0 0) 0 0 _ 0 0 0 [some (.ref (g.2.1 + 1)), some (.int (iz o))] [] _
  have h1 := bi_hours B
  refine z_aload_n (pc := 0) rfl dX1_boughtInAll_0 ?_
  refine z_iload_n (pc := 1) rfl dX1_boughtInAll_1 ?_
  refine z_iconst (pc := 2) dX1_boughtInAll_2 ?_
  refine z_aload_n (pc := 3) rfl dX1_boughtInAll_3 ?_
  refine zf_X1_9 (pc := 4) rfl rfl dX1_boughtInAll_4 ?_
  refine z_iconst (pc := 7) dX1_boughtInAll_7 ?_
  refine z_isub (pc := 8) dX1_boughtInAll_8 ?_
  refine z_V3 (pc := 9) (c_boughtWithin (o := o) (a := 0) (b := (F 1 0).toNat) (by omega) ho (by omega) (by omega)) lk_X1_73 iv_X1_boughtWithin rfl rfl ⟨by decide, by decide⟩ (Nat.le_of_ble_eq_true rfl) ⟨by decide, by decide⟩ dX1_boughtInAll_9 (fun r h9 hq => ?_)
  obtain ⟨rfl, e9⟩ := hq
  rw [e9]
  clear e9 h9
  refine z_r1 ?_
  exact z_reti (pc := 12) rfl (by decide) (by decide) dX1_boughtInAll_12 ⟨by rw [show bwi F o 0 (F 1 0).toNat = sm (bt F o) (F 1 0).toNat from sm_cong (fun j _ => if_pos (Nat.zero_le j))], rfl⟩
end BOOK
