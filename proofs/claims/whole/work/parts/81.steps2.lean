/-! ===== blind, image, again on both sides ===== -/
section STP2
variable {l : Launch} {g : zG} {F : Nat → Nat → Int} {L : Nat → Int} {im : Nat → Option Nat} {c : Nat}
abbrev blA (F : Nat → Nat → Int) (o k : Nat) : Nat → Int := put (noby F k (F 1 2).toNat) (o * 40) (bln (nda F k) (F 4 o) (F 5 o) (F 2 k) (F 1 0)) (F 1 0).toNat
abbrev blR (F : Nat → Nat → Int) (o k : Nat) : Nat → Int := put (nobR F k (F 27 0).toNat) (40 * o) (bln (nda F k) (F 4 o) (F 5 o) (F 2 k) (F 1 0)) (F 1 0).toNat
theorem bl_eq (h : Rl g F im c) {o k o2 t : Nat} (ho : o2 < 6) (ht : t < 40) : blR F o k (40 * o2 + t) = blA F o k (o2 * 40 + t) := by
  have e := nob_eq h (k := k) ho ht
  show put _ _ _ _ _ = put _ _ _ _ _
  unfold put
  rw [e, show 40 * o = o * 40 by omega, show 40 * o2 = o2 * 40 by omega]
theorem st_blind {o k : Nat} {b b2 : Nat → Int} (h : Rl g F im c) (ho : (o : Int) < F 1 2) : Rl g (Bs (Cs F (blA F o k) b) (blR F o k) b2) im c := by
  have b1 := bi_hours h.1
  have b3 := bi_offers h.1
  have e27 : F 27 0 = F 1 2 := (rq_rl h.2.1).2.2.1
  have h1 : Rl g (va_up (va_up F 7 (blA F o k)) 32 (blR F o k)) im c := by
    refine st_boughtR h (fun j => ?_) (fun o2 t ho2 ht hh => ?_) (fun o2 t ho2 ht => bl_eq h ho2 ht) (fun j hj => ?_)
    · show 0 ≤ put _ _ _ _ j ∧ put _ _ _ _ j ≤ 60
      unfold put
      split
      · exact bln_bd _ _ _ _ _ _
      · unfold noby
        split
        · exact ⟨Int.le_refl 0, by decide⟩
        · exact bi_bought h.1 j
    · show put _ _ _ _ _ = 0
      rw [put_out _ _ (by omega)]
      unfold noby
      split
      · rfl
      · exact h.1.2.2.2.2.2.2.2.2.2.2.2.2 o2 t ho2 ht hh
    · show put _ _ _ _ _ = F 32 j
      rw [put_out _ _ (by omega)]
      unfold nobR
      rw [if_neg (by omega)]
  refine Rl_same (fun q hq => ?_) (fr0_cong (fun q _ _ => ?_) h.2.2.1) h1
  · unfold Bs Cs va_up
    by_cases e32 : q = 32
    · rw [if_neg (by omega), if_pos e32, if_pos e32]
    · rw [if_neg (by omega), if_neg e32, if_neg e32, if_neg (by omega)]
  · unfold Bs Cs va_up
    rw [if_neg (by omega), if_neg (by omega), if_neg (by omega), if_neg (by omega)]
theorem sp_blind (hR : Rl g F im c) {z : Int} (hz : ir z) : Bth l g yX4_blind cX4_blind 3 yX5_blind cX5_blind 7 (some .long) 5 4 0 0 vl [.int (iz z)] F L im c := by
  have e27 : F 27 0 = F 1 2 := (rq_rl hR.2.1).2.2.1
  by_cases hno : 0 ≤ z ∧ z < F 1 2
  · obtain ⟨h0, h1⟩ := hno
    obtain ⟨o, rfl⟩ := Int.eq_ofNat_of_zero_le h0
    obtain ⟨k, hk⟩ := Int.eq_ofNat_of_zero_le (bi_kindOf hR.1 o).1
    refine zM_mono (c_blind hR.1 h1 hk) (fun r h hq => ?_)
    obtain ⟨rfl, rfl⟩ := hq
    have B1 := bi_blind hR.1 (k := k) h1
    have q1 : rq (Cs F (blA F o k) (cnb (nda F k) (F 4 o) (F 5 o) (F 2 k) (F 1 0) (F 1 0).toNat)) := (show rq F from rq_rl hR.2.1)
    refine ⟨_, _, im, c, rfl, rfl, zM_mono (m_blind (F := Cs F (blA F o k) (cnb (nda F k) (F 4 o) (F 5 o) (F 2 k) (F 1 0) (F 1 0).toNat)) B1 q1 hR.2.2.2.1 h1 hk (fun o2 t ho2 ht => bl_eq hR ho2 ht)) (fun r h hq => ?_)⟩
    obtain ⟨rfl, rfl⟩ := hq
    exact ⟨rfl, _, _, rfl, st_blind hR h1⟩
  · refine zM_mono (c_blind_no hR.1 hz hno) (fun r h hq => ?_)
    obtain ⟨rfl, rfl⟩ := hq
    refine ⟨_, _, im, c, rfl, rfl, zM_mono (m_blind_no (show rb F from Rl_rb hR) hR.2.2.2.1 hz (by rw [e27]; exact hno)) (fun r h hq => ?_)⟩
    obtain ⟨rfl, rfl⟩ := hq
    exact ⟨rfl, _, _, rfl, hR⟩
/-! images -/
theorem tko_out (F : Nat → Nat → Int) {p q x : Nat} (h : x < p ∨ p + 7 ≤ x) : tko F p q x = F x := by
  unfold tko va_up
  rw [if_neg (by omega), if_neg (by omega), if_neg (by omega), if_neg (by omega), if_neg (by omega), if_neg (by omega), if_neg (by omega)]
theorem nbk_out (F : Nat → Nat → Int) {p x : Nat} (h : x < p ∨ p + 7 ≤ x) : nbk F p x = F x := by
  unfold nbk va_up
  rw [if_neg (by omega), if_neg (by omega), if_neg (by omega), if_neg (by omega), if_neg (by omega), if_neg (by omega), if_neg (by omega)]
theorem tko_0 (F : Nat → Nat → Int) {p q x : Nat} (h : x < 3) : tko F p q p x = F q x := by
  unfold tko va_up
  rw [if_neg (by omega), if_neg (by omega), if_neg (by omega), if_neg (by omega), if_neg (by omega), if_neg (by omega), if_pos rfl]
  unfold vf_upd
  by_cases h2 : x = 2
  · rw [if_pos h2, h2]
  · rw [if_neg h2]
    by_cases h1 : x = 1
    · rw [if_pos h1, h1]
    · rw [if_neg h1, if_pos (by omega), show x = 0 by omega]
theorem tko_i (F : Nat → Nat → Int) {p q i : Nat} (h1 : 1 ≤ i) (h6 : i ≤ 6) : tko F p q (p + i) = F (q + i) := by
  unfold tko va_up
  by_cases e6 : i = 6
  · rw [if_pos (by omega), e6]
  rw [if_neg (by omega)]
  by_cases e5 : i = 5
  · rw [if_pos (by omega), e5]
  rw [if_neg (by omega)]
  by_cases e4 : i = 4
  · rw [if_pos (by omega), e4]
  rw [if_neg (by omega)]
  by_cases e3 : i = 3
  · rw [if_pos (by omega), e3]
  rw [if_neg (by omega)]
  by_cases e2 : i = 2
  · rw [if_pos (by omega), e2]
  rw [if_neg (by omega), if_pos (by omega), show i = 1 by omega]
theorem cpy_out (F : Nat → Nat → Int) {a b q : Nat} (h : q < 24 ∨ 33 ≤ q) : cpy F a b q = F q := by
  unfold cpy va_up
  rw [if_neg (by omega), if_neg (by omega), if_neg (by omega), if_neg (by omega), if_neg (by omega), if_neg (by omega), if_neg (by omega), if_neg (by omega), if_neg (by omega)]
theorem mv_out (F : Nat → Nat → Int) {q s a b x : Nat} (h : x < s * b ∨ s * b + s ≤ x) : mv F q s a b x = F q x := put_out _ _ h
theorem mv_in (F : Nat → Nat → Int) {q s a b x : Nat} (h : x < s) : mv F q s a b (s * b + x) = F q (s * a + x) := put_in _ _ h
/-- what the class's image leaves: the Book at 44 + 7 j is a copy, k's image is that Book -/
def imC (g : zG) (F : Nat → Nat → Int) (im : Nat → Option Nat) (c k : Nat) (F1 : Nat → Nat → Int) (im1 : Nat → Option Nat) (c1 : Nat) : Prop :=
  ∃ j, (∀ q, q < 44 → F1 q = F q) ∧ (∀ x, x < 3 → F1 (44 + 7 * j) x = F 1 x) ∧ (∀ i, 1 ≤ i → i ≤ 6 → F1 (44 + 7 * j + i) = F (1 + i)) ∧ (∀ q, 44 ≤ q → q < 44 + 7 * j ∨ 44 + 7 * j + 7 ≤ q → F1 q = F q) ∧ j < c1 ∧ c ≤ c1 ∧ c1 = nn (im1 0) + nn (im1 1) + nn (im1 2) ∧ im1 k = some (g.2.1 + (44 + 7 * j)) ∧ ∀ k2, k2 < 3 → k2 ≠ k → im1 k2 = im k2 ∧ im k2 ≠ some (g.2.1 + (44 + 7 * j))
theorem st_image {k : Nat} {F1 : Nat → Nat → Int} {im1 : Nat → Option Nat} {c1 : Nat} (h : Rl g F im c) (hk : k < 3) (hI : imC g F im c k F1 im1 c1) : Rl g (va_up (cpy F1 0 (k + 1)) 43 (vf_upd (F1 43) k 1)) im1 c1 := by
  obtain ⟨j, e44, ep0, epi, eo, hj, hc, hn, hi, ho⟩ := hI
  obtain ⟨B, hr, h0, h23, hc0, hIm, hinj⟩ := h
  have q0 := rq_rl hr
  have e2 : ∀ q, q < 24 ∨ (33 ≤ q ∧ q < 43) ∨ 44 ≤ q → va_up (cpy F1 0 (k + 1)) 43 (vf_upd (F1 43) k 1) q = F1 q := fun q hq => by
    rw [va_up_ne _ _ (by omega), cpy_out _ (by omega)]
  generalize hF2 : va_up (cpy F1 0 (k + 1)) 43 (vf_upd (F1 43) k 1) = F2 at e2 ⊢
  have m24 : F2 24 = mv F1 24 1 0 (k + 1) := by rw [← hF2]; rfl
  have m25 : F2 25 = mv F1 25 1 0 (k + 1) := by rw [← hF2]; rfl
  have m26 : F2 26 = mv F1 26 3 0 (k + 1) := by rw [← hF2]; rfl
  have m27 : F2 27 = mv F1 27 1 0 (k + 1) := by rw [← hF2]; rfl
  have m28 : F2 28 = mv F1 28 6 0 (k + 1) := by rw [← hF2]; rfl
  have m29 : F2 29 = mv F1 29 6 0 (k + 1) := by rw [← hF2]; rfl
  have m30 : F2 30 = mv F1 30 6 0 (k + 1) := by rw [← hF2]; rfl
  have m31 : F2 31 = mv F1 31 480 0 (k + 1) := by rw [← hF2]; rfl
  have m32 : F2 32 = mv F1 32 240 0 (k + 1) := by rw [← hF2]; rfl
  have m43 : F2 43 = vf_upd (F1 43) k 1 := by rw [← hF2]; rfl
  clear hF2
  have eq : ∀ q, q < 24 → F2 q = F q := fun q hq => by rw [e2 q (by omega), e44 q (by omega)]
  refine ⟨bi_cong (fun q hq => eq q (by omega)) B, ?_, fr0_cong (fun q _ _ => eq q (by omega)) h0, by rw [eq 23 (by omega)]; exact h23, hn, fun k2 hk2 => ?_, fun a b ha hb hna hab => ?_⟩
  · refine rl_rq ⟨?_, ?_, ?_, fun x hx => ?_, fun x hx => ⟨?_, ?_, ?_⟩, fun o kk t ho hkk ht => ?_⟩ (fun o t ho ht => ?_)
    · rw [m24, mv_out _ (by omega), e44 24 (by omega), eq 1 (by omega)]; exact q0.1
    · rw [m25, mv_out _ (by omega), e44 25 (by omega), eq 1 (by omega)]; exact q0.2.1
    · rw [m27, mv_out _ (by omega), e44 27 (by omega), eq 1 (by omega)]; exact q0.2.2.1
    · rw [m26, mv_out _ (by omega), e44 26 (by omega), eq 2 (by omega)]; exact q0.2.2.2.1 x hx
    · rw [m28, mv_out _ (by omega), e44 28 (by omega), eq 3 (by omega)]; exact (q0.2.2.2.2.1 x hx).1
    · rw [m29, mv_out _ (by omega), e44 29 (by omega), eq 4 (by omega)]; exact (q0.2.2.2.2.1 x hx).2.1
    · rw [m30, mv_out _ (by omega), e44 30 (by omega), eq 5 (by omega)]; exact (q0.2.2.2.2.1 x hx).2.2
    · unfold fnd
      rw [m31, mv_out _ (by omega), e44 31 (by omega), eq 6 (by omega)]; exact q0.2.2.2.2.2 o kk t ho hkk ht
    · unfold bt
      rw [m32, mv_out _ (by omega), e44 32 (by omega), eq 7 (by omega)]; exact rl_bt hr ho ht
  · by_cases ek : k2 = k
    · subst ek
      refine Or.inr ⟨j, hj, hi, by rw [m43, upd_at], bi_at B (fun x hx => by rw [e2 _ (by omega)]; exact ep0 x hx) (fun i h1 h6 => by rw [e2 _ (by omega)]; exact epi i h1 h6), ?_, ?_, ?_, fun x hx => ?_, fun x hx => ⟨?_, ?_, ?_⟩, fun o kk t ho hkk ht => ?_, fun o t ho ht => ?_⟩
      · have := mv_in F1 (q := 24) (s := 1) (a := 0) (b := k2 + 1) (x := 0) (by omega)
        rw [Nat.one_mul, Nat.add_zero] at this
        rw [m24, this, e44 24 (by omega), e2 _ (by omega), ep0 0 (by omega)]; exact q0.1
      · have := mv_in F1 (q := 25) (s := 1) (a := 0) (b := k2 + 1) (x := 0) (by omega)
        rw [Nat.one_mul, Nat.add_zero] at this
        rw [m25, this, e44 25 (by omega), e2 _ (by omega), ep0 1 (by omega)]; exact q0.2.1
      · have := mv_in F1 (q := 27) (s := 1) (a := 0) (b := k2 + 1) (x := 0) (by omega)
        rw [Nat.one_mul, Nat.add_zero] at this
        rw [m27, this, e44 27 (by omega), e2 _ (by omega), ep0 2 (by omega)]; exact q0.2.2.1
      · rw [m26, mv_in _ hx, e44 26 (by omega), e2 _ (by omega), epi 1 (by omega) (by omega), Nat.mul_zero, Nat.zero_add]; exact q0.2.2.2.1 x hx
      · rw [m28, mv_in _ hx, e44 28 (by omega), e2 _ (by omega), epi 2 (by omega) (by omega), Nat.mul_zero, Nat.zero_add]; exact (q0.2.2.2.2.1 x hx).1
      · rw [m29, mv_in _ hx, e44 29 (by omega), e2 _ (by omega), epi 3 (by omega) (by omega), Nat.mul_zero, Nat.zero_add]; exact (q0.2.2.2.2.1 x hx).2.1
      · rw [m30, mv_in _ hx, e44 30 (by omega), e2 _ (by omega), epi 4 (by omega) (by omega), Nat.mul_zero, Nat.zero_add]; exact (q0.2.2.2.2.1 x hx).2.2
      · rw [m31, mv_in _ (by omega), e44 31 (by omega), e2 _ (by omega), epi 5 (by omega) (by omega), Nat.mul_zero, Nat.zero_add]; exact q0.2.2.2.2.2 o kk t ho hkk ht
      · rw [m32, mv_in _ (by omega), e44 32 (by omega), e2 _ (by omega), epi 6 (by omega) (by omega), Nat.mul_zero, Nat.zero_add]; exact rl_bt hr ho ht
    · obtain ⟨g1, g2⟩ := ho k2 hk2 ek
      have e43 : F2 43 k2 = F 43 k2 := by rw [m43, upd_ne _ _ ek, e44 43 (by omega)]
      rcases hIm k2 hk2 with ⟨a1, a2⟩ | ⟨j2, hj2, a1, a2, a3, a4⟩
      · exact Or.inl ⟨g1.trans a1, e43.trans a2⟩
      · have hjj : j2 ≠ j := fun e => g2 (by rw [a1, e])
        have eb : ∀ i, i ≤ 6 → F2 (44 + 7 * j2 + i) = F (44 + 7 * j2 + i) := fun i hi => by rw [e2 _ (by omega), eo _ (by omega) (by omega)]
        have eb0 : F2 (44 + 7 * j2) = F (44 + 7 * j2) := eb 0 (by omega)
        obtain ⟨r1, r2, r3, r4, r5, r6, r7⟩ := a4
        refine Or.inr ⟨j2, by omega, g1.trans a1, e43.trans a2, bi_at a3 (fun x _ => by rw [eb0]) (fun i h1 h6 => eb i h6), ?_, ?_, ?_, fun x hx => ?_, fun x hx => ⟨?_, ?_, ?_⟩, fun o kk t ho hkk ht => ?_, fun o t ho ht => ?_⟩
        · rw [m24, mv_out _ (by omega), e44 24 (by omega), eb0]; exact r1
        · rw [m25, mv_out _ (by omega), e44 25 (by omega), eb0]; exact r2
        · rw [m27, mv_out _ (by omega), e44 27 (by omega), eb0]; exact r3
        · rw [m26, mv_out _ (by omega), e44 26 (by omega), eb 1 (by omega)]; exact r4 x hx
        · rw [m28, mv_out _ (by omega), e44 28 (by omega), eb 2 (by omega)]; exact (r5 x hx).1
        · rw [m29, mv_out _ (by omega), e44 29 (by omega), eb 3 (by omega)]; exact (r5 x hx).2.1
        · rw [m30, mv_out _ (by omega), e44 30 (by omega), eb 4 (by omega)]; exact (r5 x hx).2.2
        · rw [m31, mv_out _ (by omega), e44 31 (by omega), eb 5 (by omega)]; exact r6 o kk t ho hkk ht
        · rw [m32, mv_out _ (by omega), e44 32 (by omega), eb 6 (by omega)]; exact r7 o t ho ht
  · by_cases ea : a = k
    · by_cases eb : b = k
      · rw [ea, eb]
      · obtain ⟨g1, g2⟩ := ho b hb eb
        rw [ea, hi, g1] at hab
        exact absurd hab.symm g2
    · obtain ⟨g1, g2⟩ := ho a ha ea
      by_cases eb : b = k
      · rw [eb, hi, g1] at hab
        exact absurd hab g2
      · obtain ⟨g3, -⟩ := ho b hb eb
        rw [g1] at hna
        rw [g1, g3] at hab
        exact hinj a b ha hb hna hab
theorem im_old {k j : Nat} (h : Rl g F im c) (hk : k < 3) (hj : j < c) (him : im k = some (g.2.1 + (44 + 7 * j))) : imC g F im c k (tko F (44 + 7 * j) 1) im c := by
  refine ⟨j, fun q hq => tko_out _ (by omega), fun x hx => tko_0 _ hx, fun i h1 h6 => tko_i _ h1 h6, fun q _ hq => tko_out _ hq, hj, Nat.le_refl c, h.2.2.2.2.1, him, fun k2 hk2 hne => ⟨rfl, fun e => ?_⟩⟩
  exact hne (h.2.2.2.2.2.2 k2 k hk2 hk (by rw [e]; exact fun q => by cases q) (e.trans him.symm))
theorem im_new {k : Nat} (h : Rl g F im c) (hk : k < 3) (him : im k = none) : imC g F im c k (tko (nbk F (44 + 7 * c)) (44 + 7 * c) 1) (vf_upd im k (some (g.2.1 + (44 + 7 * c)))) (c + 1) := by
  refine ⟨c, fun q hq => (tko_out _ (by omega)).trans (nbk_out _ (by omega)), fun x hx => (tko_0 _ hx).trans (by rw [nbk_out _ (by omega)]), fun i h1 h6 => (tko_i _ h1 h6).trans (nbk_out _ (by omega)), fun q _ hq => (tko_out _ hq).trans (nbk_out _ hq), Nat.lt_succ_self c, Nat.le_succ c, ?_, by unfold vf_upd; rw [if_pos rfl], fun k2 hk2 hne => ⟨by unfold vf_upd; rw [if_neg hne], fun e => ?_⟩⟩
  · have hc := h.2.2.2.2.1
    have e0 : nn (im k) = 0 := by rw [him]; rfl
    rcases (show k = 0 ∨ k = 1 ∨ k = 2 by omega) with rfl | rfl | rfl
    · show c + 1 = 1 + nn (im 1) + nn (im 2); omega
    · show c + 1 = nn (im 0) + 1 + nn (im 2); omega
    · show c + 1 = nn (im 0) + nn (im 1) + 1; omega
  · rcases h.2.2.2.2.2.1 k2 hk2 with ⟨a1, -⟩ | ⟨j2, hj2, a1, -⟩
    · rw [a1] at e; cases e
    · rw [a1] at e
      have := Option.some.inj e
      omega
theorem nn_le (x : Option Nat) : nn x ≤ 1 := by cases x <;> simp [nn]
theorem C_image (h : Rl g F im c) {k : Nat} (hk : k < 3) : zM l g yX4_image cX4_image 2 (some .boolean) 2 7 750 [.ref (g.2.1 + 0), .int (iz k)] (zk g F L im c) (fun r h2 => r = some (vi 1) ∧ ∃ (F1 : Nat → Nat → Int) (im1 : Nat → Option Nat) (c1 : Nat), h2 = zk g F1 L im1 c1 ∧ imC g F im c k F1 im1 c1) := by
  have hc := h.2.2.2.2.1
  have n0 := nn_le (im 0)
  have n1 := nn_le (im 1)
  have n2 := nn_le (im 2)
  rcases h.2.2.2.2.2.1 k hk with ⟨him, -⟩ | ⟨j, hj, him, -⟩
  · have e0 : nn (im k) = 0 := by rw [him]; rfl
    have hc3 : c < 3 := by rcases (show k = 0 ∨ k = 1 ∨ k = 2 by omega) with rfl | rfl | rfl <;> omega
    have hI := im_new h hk him
    clear hc
    rcases (show c = 0 ∨ c = 1 ∨ c = 2 by omega) with rfl | rfl | rfl
    · exact zM_mono (c_image_new_0 hk him) (fun r h2 hq => ⟨hq.1, _, _, _, hq.2, hI⟩)
    · exact zM_mono (c_image_new_1 hk him) (fun r h2 hq => ⟨hq.1, _, _, _, hq.2, hI⟩)
    · exact zM_mono (c_image_new_2 hk him) (fun r h2 hq => ⟨hq.1, _, _, _, hq.2, hI⟩)
  · have hI := im_old h hk hj him
    have hc3 : c ≤ 3 := by omega
    clear hc
    rcases (show (c = 1 ∧ j = 0) ∨ (c = 2 ∧ j = 0) ∨ (c = 2 ∧ j = 1) ∨ (c = 3 ∧ j = 0) ∨ (c = 3 ∧ j = 1) ∨ (c = 3 ∧ j = 2) by omega) with ⟨rfl, rfl⟩ | ⟨rfl, rfl⟩ | ⟨rfl, rfl⟩ | ⟨rfl, rfl⟩ | ⟨rfl, rfl⟩ | ⟨rfl, rfl⟩
    · exact zM_mono (c_image_old_1_0 hk him) (fun r h2 hq => ⟨hq.1, _, _, _, hq.2, hI⟩)
    · exact zM_mono (c_image_old_2_0 hk him) (fun r h2 hq => ⟨hq.1, _, _, _, hq.2, hI⟩)
    · exact zM_mono (c_image_old_2_1 hk him) (fun r h2 hq => ⟨hq.1, _, _, _, hq.2, hI⟩)
    · exact zM_mono (c_image_old_3_0 hk him) (fun r h2 hq => ⟨hq.1, _, _, _, hq.2, hI⟩)
    · exact zM_mono (c_image_old_3_1 hk him) (fun r h2 hq => ⟨hq.1, _, _, _, hq.2, hI⟩)
    · exact zM_mono (c_image_old_3_2 hk him) (fun r h2 hq => ⟨hq.1, _, _, _, hq.2, hI⟩)
theorem sp_image (hR : Rl g F im c) {z : Int} (hz : ir z) : Bth l g yX4_image cX4_image 2 yX5_image cX5_image 2 (some .boolean) 2 2 7 750 vi [.int (iz z)] F L im c := by
  by_cases hno : 0 ≤ z ∧ z ≤ 2
  · obtain ⟨h0, h1⟩ := hno
    obtain ⟨k, rfl⟩ := Int.eq_ofNat_of_zero_le h0
    have hk : k < 3 := by omega
    refine zM_mono (C_image hR hk) (fun r h hq => ?_)
    obtain ⟨rfl, F1, im1, c1, rfl, hI⟩ := hq
    have h23 : F1 23 0 = 0 := by obtain ⟨j, e44, -⟩ := hI; rw [e44 23 (by omega)]; exact hR.2.2.2.1
    refine ⟨1, F1, im1, c1, rfl, rfl, zM_mono (m_image h23 hz) (fun r h hq => ?_)⟩
    rcases hq with ⟨-, rfl, rfl⟩ | ⟨h2, -, -⟩
    · exact ⟨rfl, _, _, rfl, st_image hR hk hI⟩
    · exact absurd ⟨h0, h1⟩ h2
  · refine zM_mono (c_image_no hz hno) (fun r h hq => ?_)
    obtain ⟨rfl, rfl⟩ := hq
    refine ⟨0, _, im, c, rfl, rfl, zM_mono (m_image hR.2.2.2.1 hz) (fun r h hq => ?_)⟩
    rcases hq with ⟨h2, -, -⟩ | ⟨-, rfl, rfl⟩
    · exact absurd h2 hno
    · exact ⟨rfl, _, _, rfl, hR⟩
theorem st_again {k j : Nat} (h : Rl g F im c) (hk : k < 3) (hb : bi F (44 + 7 * j)) (hl : rl F (44 + 7 * j) (k + 1)) : Rl g (cpy (tko F 1 (44 + 7 * j)) (k + 1) 0) im c := by
  obtain ⟨B, hr, h0, h23, hI⟩ := h
  have t0 : ∀ q, 8 ≤ q → tko F 1 (44 + 7 * j) q = F q := fun q hq => tko_out _ (by omega)
  have t1 : ∀ x, x < 3 → tko F 1 (44 + 7 * j) 1 x = F (44 + 7 * j) x := fun x hx => tko_0 _ hx
  have ti : ∀ i, 1 ≤ i → i ≤ 6 → tko F 1 (44 + 7 * j) (1 + i) = F (44 + 7 * j + i) := fun i h1 h6 => tko_i _ h1 h6
  generalize tko F 1 (44 + 7 * j) = F1 at t0 t1 ti ⊢
  have e2 : ∀ q, q < 24 ∨ 33 ≤ q → cpy F1 (k + 1) 0 q = F1 q := fun q hq => cpy_out _ hq
  generalize hF2 : cpy F1 (k + 1) 0 = F2 at e2 ⊢
  have m24 : F2 24 = mv F1 24 1 (k + 1) 0 := by rw [← hF2]; rfl
  have m25 : F2 25 = mv F1 25 1 (k + 1) 0 := by rw [← hF2]; rfl
  have m26 : F2 26 = mv F1 26 3 (k + 1) 0 := by rw [← hF2]; rfl
  have m27 : F2 27 = mv F1 27 1 (k + 1) 0 := by rw [← hF2]; rfl
  have m28 : F2 28 = mv F1 28 6 (k + 1) 0 := by rw [← hF2]; rfl
  have m29 : F2 29 = mv F1 29 6 (k + 1) 0 := by rw [← hF2]; rfl
  have m30 : F2 30 = mv F1 30 6 (k + 1) 0 := by rw [← hF2]; rfl
  have m31 : F2 31 = mv F1 31 480 (k + 1) 0 := by rw [← hF2]; rfl
  have m32 : F2 32 = mv F1 32 240 (k + 1) 0 := by rw [← hF2]; rfl
  clear hF2
  have min : ∀ q s x : Nat, x < s → mv F1 q s (k + 1) 0 x = F1 q (s * (k + 1) + x) := fun q s x hx => by
    have := mv_in F1 (q := q) (s := s) (a := k + 1) (b := 0) hx
    rwa [Nat.mul_zero, Nat.zero_add] at this
  obtain ⟨r1, r2, r3, r4, r5, r6, r7⟩ := hl
  have i1 := ti 1 (by omega) (by omega)
  have i2 := ti 2 (by omega) (by omega)
  have i3 := ti 3 (by omega) (by omega)
  have i4 := ti 4 (by omega) (by omega)
  have i5 := ti 5 (by omega) (by omega)
  have i6 := ti 6 (by omega) (by omega)
  refine Rl_mk (bi_at hb (fun x hx => by rw [e2 1 (by omega)]; exact t1 x hx) (fun i h1 h6 => by rw [e2 _ (by omega)]; exact ti i h1 h6)) ⟨?_, ?_, ?_, fun x hx => ?_, fun x hx => ⟨?_, ?_, ?_⟩, fun o kk t ho hkk ht => ?_⟩ (fun o t ho ht => ?_) (fr0_cong (fun q _ _ => by rw [e2 q (by omega), t0 q (by omega)]) h0) (by rw [e2 23 (by omega), t0 23 (by omega)]; exact h23) (IMs_cong (fun q hq => by rw [e2 q (by omega), t0 q (by omega)]) (fun s h1 h3 => ⟨?_, ?_, ?_, fun x hx => ?_, fun x hx => ⟨?_, ?_, ?_⟩, fun x hx => ?_, fun x hx => ?_⟩) hI)
  · rw [m24, min _ _ _ (by omega), t0 24 (by omega), e2 1 (by omega), t1 0 (by omega), Nat.one_mul]; exact r1
  · rw [m25, min _ _ _ (by omega), t0 25 (by omega), e2 1 (by omega), t1 1 (by omega), Nat.one_mul]; exact r2
  · rw [m27, min _ _ _ (by omega), t0 27 (by omega), e2 1 (by omega), t1 2 (by omega), Nat.one_mul]; exact r3
  · rw [m26, min _ _ _ hx, t0 26 (by omega), e2 2 (by omega), i1]; exact r4 x hx
  · rw [m28, min _ _ _ hx, t0 28 (by omega), e2 3 (by omega), i2]; exact (r5 x hx).1
  · rw [m29, min _ _ _ hx, t0 29 (by omega), e2 4 (by omega), i3]; exact (r5 x hx).2.1
  · rw [m30, min _ _ _ hx, t0 30 (by omega), e2 5 (by omega), i4]; exact (r5 x hx).2.2
  · unfold fnd
    rw [m31, min _ _ _ (by omega), t0 31 (by omega), e2 6 (by omega), i5]; exact r6 o kk t ho hkk ht
  · unfold bt
    rw [m32, min _ _ _ (by omega), t0 32 (by omega), e2 7 (by omega), i6]; exact r7 o t ho ht
  · rw [m24, mv_out _ (by omega), t0 24 (by omega)]
  · rw [m25, mv_out _ (by omega), t0 25 (by omega)]
  · rw [m27, mv_out _ (by omega), t0 27 (by omega)]
  · rw [m26, mv_out _ (by omega), t0 26 (by omega)]
  · rw [m28, mv_out _ (by omega), t0 28 (by omega)]
  · rw [m29, mv_out _ (by omega), t0 29 (by omega)]
  · rw [m30, mv_out _ (by omega), t0 30 (by omega)]
  · rw [m31, mv_out _ (by omega), t0 31 (by omega)]
  · rw [m32, mv_out _ (by omega), t0 32 (by omega)]
theorem C_again (h : Rl g F im c) {k j : Nat} (hk : k < 3) (hj : j < c) (him : im k = some (g.2.1 + (44 + 7 * j))) : zM l g yX4_again cX4_again 2 (some .boolean) 2 0 0 [.ref (g.2.1 + 0), .int (iz k)] (zk g F L im c) (fun r h2 => r = some (vi 1) ∧ h2 = zk g (tko F 1 (44 + 7 * j)) L im c) := by
  have hc := h.2.2.2.2.1
  have n0 := nn_le (im 0)
  have n1 := nn_le (im 1)
  have n2 := nn_le (im 2)
  have hc3 : c ≤ 3 := by omega
  clear hc h
  rcases (show (c = 1 ∧ j = 0) ∨ (c = 2 ∧ j = 0) ∨ (c = 2 ∧ j = 1) ∨ (c = 3 ∧ j = 0) ∨ (c = 3 ∧ j = 1) ∨ (c = 3 ∧ j = 2) by omega) with ⟨rfl, rfl⟩ | ⟨rfl, rfl⟩ | ⟨rfl, rfl⟩ | ⟨rfl, rfl⟩ | ⟨rfl, rfl⟩ | ⟨rfl, rfl⟩
  · exact c_again_1_0 hk him
  · exact c_again_2_0 hk him
  · exact c_again_2_1 hk him
  · exact c_again_3_0 hk him
  · exact c_again_3_1 hk him
  · exact c_again_3_2 hk him
theorem sp_again (hR : Rl g F im c) {z : Int} (hz : ir z) : Bth l g yX4_again cX4_again 2 yX5_again cX5_again 2 (some .boolean) 2 2 0 0 vi [.int (iz z)] F L im c := by
  have h43 : ∀ k, k < 3 → F 43 k = 0 ∨ F 43 k = 1 := fun k hk => by
    rcases hR.2.2.2.2.2.1 k hk with ⟨-, a⟩ | ⟨j, -, -, a, -⟩
    · exact Or.inl a
    · exact Or.inr a
  by_cases hno : 0 ≤ z ∧ z ≤ 2 ∧ im z.toNat ≠ none
  · obtain ⟨h0, h1, hne⟩ := hno
    obtain ⟨k, rfl⟩ := Int.eq_ofNat_of_zero_le h0
    have hk : k < 3 := by omega
    rcases hR.2.2.2.2.2.1 k hk with ⟨a1, -⟩ | ⟨j, hj, him, ha, hb, hl⟩
    · exact absurd a1 hne
    · refine zM_mono (C_again hR hk hj him) (fun r h hq => ?_)
      obtain ⟨rfl, rfl⟩ := hq
      have t0 : ∀ q, 8 ≤ q → tko F 1 (44 + 7 * j) q = F q := fun q hq => tko_out _ (by omega)
      refine ⟨1, _, im, c, rfl, rfl, zM_mono (m_again (F := tko F 1 (44 + 7 * j)) (by rw [t0 43 (by omega)]; exact h43) (by rw [t0 23 (by omega)]; exact hR.2.2.2.1) hz) (fun r h hq => ?_)⟩
      rw [t0 43 (by omega)] at hq
      rcases hq with ⟨-, rfl, rfl⟩ | ⟨h2, -, -⟩
      · exact ⟨rfl, _, _, rfl, st_again hR hk hb hl⟩
      · exact absurd ⟨h0, h1, ha⟩ h2
  · refine zM_mono (c_again_no hz hno) (fun r h hq => ?_)
    obtain ⟨rfl, rfl⟩ := hq
    refine ⟨0, _, im, c, rfl, rfl, zM_mono (m_again h43 hR.2.2.2.1 hz) (fun r h hq => ?_)⟩
    rcases hq with ⟨⟨b1, b2, b3⟩, -, -⟩ | ⟨-, rfl, rfl⟩
    · refine absurd ⟨b1, b2, fun e => ?_⟩ hno
      rcases hR.2.2.2.2.2.1 z.toNat (by omega) with ⟨-, a⟩ | ⟨j, -, a, -⟩
      · rw [a] at b3; exact absurd b3 (by decide)
      · rw [a] at e; cases e
    · exact ⟨rfl, _, _, rfl, hR⟩
end STP2
