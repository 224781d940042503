/-! ===== what holds between the class and the reference, call for call ===== -/
def nn : Option Nat → Nat
  | none => 0
  | some _ => 1
def IMs (g : zG) (F : Nat → Nat → Int) (im : Nat → Option Nat) (c : Nat) : Prop := c = nn (im 0) + nn (im 1) + nn (im 2) ∧ (∀ k, k < 3 → (im k = none ∧ F 43 k = 0) ∨ (∃ j, j < c ∧ im k = some (g.2.1 + (44 + 7 * j)) ∧ F 43 k = 1 ∧ bi F (44 + 7 * j) ∧ rl F (44 + 7 * j) (k + 1))) ∧ ∀ k k2 : Nat, k < 3 → k2 < 3 → im k ≠ none → im k = im k2 → k = k2
def Rl (g : zG) (F : Nat → Nat → Int) (im : Nat → Option Nat) (c : Nat) : Prop := bi F 1 ∧ rl F 1 0 ∧ fr0 F ∧ F 23 0 = 0 ∧ IMs g F im c
/-- the reference's slots of images are as they were -/
def sl (F F2 : Nat → Nat → Int) : Prop := ∀ s, 1 ≤ s → s ≤ 3 → F2 24 s = F 24 s ∧ F2 25 s = F 25 s ∧ F2 27 s = F 27 s ∧ (∀ j, j < 3 → F2 26 (3 * s + j) = F 26 (3 * s + j)) ∧ (∀ j, j < 6 → F2 28 (6 * s + j) = F 28 (6 * s + j) ∧ F2 29 (6 * s + j) = F 29 (6 * s + j) ∧ F2 30 (6 * s + j) = F 30 (6 * s + j)) ∧ (∀ j, j < 480 → F2 31 (480 * s + j) = F 31 (480 * s + j)) ∧ ∀ j, j < 240 → F2 32 (240 * s + j) = F 32 (240 * s + j)
theorem rl_cong {F F2 : Nat → Nat → Int} {p p2 s : Nat} (h : rl F p s) (e0 : ∀ x, x < 3 → F2 p2 x = F p x) (ei : ∀ i, 1 ≤ i → i ≤ 6 → F2 (p2 + i) = F (p + i)) (er : ∀ q, 24 ≤ q → q ≤ 32 → F2 q = F q) : rl F2 p2 s := by
  obtain ⟨h1, h2, h3, h4, h5, h6, h7⟩ := h
  unfold rl
  rw [er 24 (by omega) (by omega), er 25 (by omega) (by omega), er 26 (by omega) (by omega), er 27 (by omega) (by omega), er 28 (by omega) (by omega), er 29 (by omega) (by omega), er 30 (by omega) (by omega), er 31 (by omega) (by omega), er 32 (by omega) (by omega), ei 1 (by omega) (by omega), ei 2 (by omega) (by omega), ei 3 (by omega) (by omega), ei 4 (by omega) (by omega), ei 5 (by omega) (by omega), ei 6 (by omega) (by omega), e0 0 (by omega), e0 1 (by omega), e0 2 (by omega)]
  exact ⟨h1, h2, h3, h4, h5, h6, h7⟩
theorem rl_sl {F F2 : Nat → Nat → Int} {p s : Nat} (hp : 43 ≤ p) (h : rl F p s) (hs : sl F F2) (h1 : 1 ≤ s) (h3 : s ≤ 3) (e : ∀ q, 43 ≤ q → F2 q = F q) : rl F2 p s := by
  obtain ⟨a1, a2, a3, a4, a5, a6, a7⟩ := h
  obtain ⟨b1, b2, b3, b4, b5, b6, b7⟩ := hs s h1 h3
  unfold rl
  rw [e p (by omega), e (p + 1) (by omega), e (p + 2) (by omega), e (p + 3) (by omega), e (p + 4) (by omega), e (p + 5) (by omega), e (p + 6) (by omega), b1, b2, b3]
  exact ⟨a1, a2, a3, fun j hj => by rw [b4 j hj]; exact a4 j hj, fun j hj => by rw [(b5 j hj).1, (b5 j hj).2.1, (b5 j hj).2.2]; exact a5 j hj, fun o k t ho hk ht => by rw [b6 _ (by omega)]; exact a6 o k t ho hk ht, fun o t ho ht => by rw [b7 _ (by omega)]; exact a7 o t ho ht⟩
theorem bi_at {F F2 : Nat → Nat → Int} {p p2 : Nat} (h : bi F p) (e0 : ∀ x, x < 3 → F2 p2 x = F p x) (ei : ∀ i, 1 ≤ i → i ≤ 6 → F2 (p2 + i) = F (p + i)) : bi F2 p2 := by
  unfold bi at h ⊢
  rw [ei 1 (by omega) (by omega), ei 2 (by omega) (by omega), ei 3 (by omega) (by omega), ei 4 (by omega) (by omega), ei 5 (by omega) (by omega), ei 6 (by omega) (by omega), e0 0 (by omega), e0 1 (by omega), e0 2 (by omega)]
  exact h
theorem IMs_cong {g : zG} {F F2 : Nat → Nat → Int} {im : Nat → Option Nat} {c : Nat} (e : ∀ q, 43 ≤ q → F2 q = F q) (hs : sl F F2) (h : IMs g F im c) : IMs g F2 im c := by
  refine ⟨h.1, fun k hk => ?_, h.2.2⟩
  rcases h.2.1 k hk with ⟨h1, h2⟩ | ⟨j, hj, h1, h2, h3, h4⟩
  · exact Or.inl ⟨h1, by rw [e 43 (by omega)]; exact h2⟩
  · exact Or.inr ⟨j, hj, h1, by rw [e 43 (by omega)]; exact h2, bi_at h3 (fun x _ => by rw [e _ (by omega)]) (fun i _ _ => by rw [e _ (by omega)]), rl_sl (by omega) h4 hs (by omega) (by omega) e⟩
theorem fr0_cong {F F2 : Nat → Nat → Int} (e : ∀ q, 9 ≤ q → q ≤ 16 → F2 q = F q) (h : fr0 F) : fr0 F2 := by
  unfold fr0 at h ⊢
  rw [e 10 (by omega) (by omega), e 11 (by omega) (by omega), e 14 (by omega) (by omega), e 15 (by omega) (by omega), e 16 (by omega) (by omega)]
  exact h
theorem Rl_same {g : zG} {F F2 : Nat → Nat → Int} {im : Nat → Option Nat} {c : Nat} (e : ∀ q, q < 9 ∨ (23 ≤ q ∧ q < 33) ∨ 43 ≤ q → F2 q = F q) (h0 : fr0 F2) (h : Rl g F im c) : Rl g F2 im c := by
  obtain ⟨B, hr, -, h23, hI⟩ := h
  refine ⟨bi_cong (fun q hq => e q (by omega)) B, rl_cong hr (fun x _ => by rw [e 1 (by omega)]) (fun i _ _ => e _ (by omega)) (fun q _ _ => e q (by omega)), h0, by rw [e 23 (by omega)]; exact h23, IMs_cong (fun q hq => e q (by omega)) (fun s _ _ => ?_) hI⟩
  rw [e 24 (by omega), e 25 (by omega), e 26 (by omega), e 27 (by omega), e 28 (by omega), e 29 (by omega), e 30 (by omega), e 31 (by omega), e 32 (by omega)]
  exact ⟨rfl, rfl, rfl, fun _ _ => rfl, fun _ _ => ⟨rfl, rfl, rfl⟩, fun _ _ => rfl, fun _ _ => rfl⟩
theorem Rl_mk {g : zG} {F : Nat → Nat → Int} {im : Nat → Option Nat} {c : Nat} (B : bi F 1) (q : rq F) (b : ∀ o t, o < 6 → t < 40 → F 32 (40 * o + t) = bt F o t) (h0 : fr0 F) (h23 : F 23 0 = 0) (hI : IMs g F im c) : Rl g F im c := ⟨B, rl_rq q b, h0, h23, hI⟩
theorem upd_ne (f : Nat → Int) {i j : Nat} (v : Int) (h : j ≠ i) : vf_upd f i v j = f j := by unfold vf_upd; rw [if_neg h]
theorem upd_bd {f : Nat → Int} {a b v : Int} {i : Nat} (h : ∀ j, a ≤ f j ∧ f j ≤ b) (hv : a ≤ v ∧ v ≤ b) (j : Nat) : a ≤ vf_upd f i v j ∧ vf_upd f i v j ≤ b := by unfold vf_upd; split; exact hv; exact h j
theorem cut_bd {f : Nat → Int} {b : Int} (hb : 0 ≤ b) (h : ∀ j, 0 ≤ f j ∧ f j ≤ b) (t n j : Nat) : 0 ≤ cut0 f t n j ∧ cut0 f t n j ≤ b := by unfold cut0; split; exact ⟨Int.le_refl 0, hb⟩; exact h j
section STEPS
variable {g : zG} {F : Nat → Nat → Int} {im : Nat → Option Nat} {c : Nat}
abbrev Fhr (F : Nat → Nat → Int) (z : Int) : Nat → Nat → Int := va_up (va_up (va_up F 6 (cut0 (F 6) z.toNat 480)) 7 (cut0 (F 7) z.toNat 240)) 1 (vf_upd (F 1) 0 z)
theorem st_hours {z : Int} (h : Rl g F im c) (hz : 1 ≤ z ∧ z ≤ 40) : Rl g (Hs (Fhr F z) z (cut0 (F 31) z.toNat 480) (cut0 (F 32) z.toNat 240)) im c := by
  obtain ⟨B, hr, h0, h23, hI⟩ := h
  obtain ⟨B1, B2, B3, B4, B5, B6, B7, B8, B9, B10, B11, B12, B13⟩ := B
  have q := rq_rl hr
  refine Rl_mk ⟨hz, B2, B3, B4, B5, B6, B7, B8, B9, B10, cut_bd (by decide) B11 _ _, cut_bd (by decide) B12 _ _, fun o t ho ht hh => ?_⟩ ⟨rfl, q.2.1, q.2.2.1, q.2.2.2.1, q.2.2.2.2.1, fun o k t ho hk ht => ?_⟩ (fun o t ho ht => ?_) (fr0_cong (fun q h1 h2 => ?_) h0) h23 (IMs_cong (F := F) (fun q hq => ?_) (fun s h1 h2 => ⟨?_, rfl, rfl, fun _ _ => rfl, fun _ _ => ⟨rfl, rfl, rfl⟩, fun j hj => ?_, fun j hj => ?_⟩) hI)
  · show cut0 (F 7) z.toNat 240 (o * 40 + t) = 0
    have hh2 : z ≤ t := hh
    unfold cut0
    rw [if_pos (by omega)]
  · show cut0 (F 31) z.toNat 480 (40 * (3 * o + k) + t) = cut0 (F 6) z.toNat 480 ((k * 4 + o) * 40 + t)
    have e := q.2.2.2.2.2 o k t ho hk ht
    unfold fnd at e
    unfold cut0
    rw [e]
    by_cases ht2 : z.toNat ≤ t
    · rw [if_pos (by omega), if_pos (by omega)]
    · rw [if_neg (by omega), if_neg (by omega)]
  · show cut0 (F 32) z.toNat 240 (40 * o + t) = cut0 (F 7) z.toNat 240 (o * 40 + t)
    have e := rl_bt hr ho ht
    unfold bt at e
    unfold cut0
    rw [e]
    by_cases ht2 : z.toNat ≤ t
    · rw [if_pos (by omega), if_pos (by omega)]
    · rw [if_neg (by omega), if_neg (by omega)]
  · unfold Hs Fhr va_up
    rw [if_neg (by omega), if_neg (by omega), if_neg (by omega), if_neg (by omega), if_neg (by omega), if_neg (by omega)]
  · unfold Hs Fhr va_up
    rw [if_neg (by omega), if_neg (by omega), if_neg (by omega), if_neg (by omega), if_neg (by omega), if_neg (by omega)]
  · show vf_upd (F 24) 0 z s = F 24 s
    exact upd_ne _ _ (by omega)
  · show cut0 (F 31) z.toNat 480 (480 * s + j) = F 31 (480 * s + j)
    unfold cut0
    rw [if_neg (by omega)]
  · show cut0 (F 32) z.toNat 240 (240 * s + j) = F 32 (240 * s + j)
    unfold cut0
    rw [if_neg (by omega)]
abbrev Fkd (F : Nat → Nat → Int) (z : Int) : Nat → Nat → Int := va_up (va_up F 2 (vf_upd (F 2) (F 1 1).toNat z)) 1 (vf_upd (F 1) 1 (F 1 1 + 1))
theorem st_kind {z : Int} (h : Rl g F im c) (hz : F 1 1 < 3 ∧ 1 ≤ z ∧ z ≤ 1000) : Rl g (va_up (va_up (Fkd F z) 26 (vf_upd (F 26) (F 25 0).toNat z)) 25 (vf_upd (F 25) 0 (F 25 0 + 1))) im c := by
  obtain ⟨B, hr, h0, h23, hI⟩ := h
  have q := rq_rl hr
  have e25 : F 25 0 = F 1 1 := q.2.1
  obtain ⟨B1, B2, B3, B4, B5, B6, B7, B8, B9, B10, B11, B12, B13⟩ := B
  refine Rl_mk ⟨B1, ⟨?_, ?_⟩, B3, upd_bd B4 ⟨by omega, hz.2.2⟩, fun j hj => ?_, B6, fun j hj => ?_, B8, B9, B10, B11, B12, B13⟩ ⟨q.1, ?_, q.2.2.1, fun j hj => ?_, q.2.2.2.2.1, q.2.2.2.2.2⟩ (fun o t ho ht => rl_bt hr ho ht) (fr0_cong (fun q h1 h2 => ?_) h0) h23 (IMs_cong (F := F) (fun q hq => ?_) (fun s h1 h2 => ⟨rfl, ?_, rfl, fun j hj => ?_, fun _ _ => ⟨rfl, rfl, rfl⟩, fun _ _ => rfl, fun _ _ => rfl⟩) hI)
  · show 0 ≤ F 1 1 + 1; omega
  · show F 1 1 + 1 ≤ 3; omega
  · have hj2 : (j : Int) < F 1 1 + 1 := hj
    show 1 ≤ vf_upd (F 2) (F 1 1).toNat z j
    by_cases e : j = (F 1 1).toNat
    · rw [e, upd_at]; exact hz.2.1
    · rw [upd_ne _ _ e]; exact B5 j (show (j : Int) < F 1 1 by omega)
  · have := B7 j hj
    show F 3 j < F 1 1 + 1
    have h9 : F 3 j < F 1 1 := this
    omega
  · show F 25 0 + 1 = F 1 1 + 1; omega
  · show vf_upd (F 26) (F 25 0).toNat z j = vf_upd (F 2) (F 1 1).toNat z j
    rw [e25]
    unfold vf_upd
    rw [q.2.2.2.1 j hj]
  · unfold Fkd va_up
    rw [if_neg (by omega), if_neg (by omega), if_neg (by omega), if_neg (by omega)]
  · unfold Fkd va_up
    rw [if_neg (by omega), if_neg (by omega), if_neg (by omega), if_neg (by omega)]
  · show vf_upd (F 25) 0 (F 25 0 + 1) s = F 25 s
    exact upd_ne _ _ (by omega)
  · show vf_upd (F 26) (F 25 0).toNat z (3 * s + j) = F 26 (3 * s + j)
    exact upd_ne _ _ (by omega)
abbrev Fof (F : Nat → Nat → Int) (z y x : Int) : Nat → Nat → Int := va_up (va_up (va_up (va_up F 3 (vf_upd (F 3) (F 1 2).toNat z)) 4 (vf_upd (F 4) (F 1 2).toNat y)) 5 (vf_upd (F 5) (F 1 2).toNat x)) 1 (vf_upd (F 1) 2 (F 1 2 + 1))
theorem st_offer {z y x : Int} (h : Rl g F im c) (hz : F 1 2 < 6 ∧ 0 ≤ z ∧ z < F 1 1 ∧ 1 ≤ y ∧ y ≤ 40 ∧ 0 ≤ x ∧ x ≤ 100000) : Rl g (va_up (va_up (va_up (va_up (Fof F z y x) 27 (vf_upd (F 27) 0 (F 27 0 + 1))) 28 (vf_upd (F 28) (F 27 0).toNat z)) 29 (vf_upd (F 29) (F 27 0).toNat y)) 30 (vf_upd (F 30) (F 27 0).toNat x)) im c := by
  obtain ⟨B, hr, h0, h23, hI⟩ := h
  have q := rq_rl hr
  have e27 : F 27 0 = F 1 2 := q.2.2.1
  obtain ⟨B1, B2, B3, B4, B5, B6, B7, B8, B9, B10, B11, B12, B13⟩ := B
  have hk3 : F 1 1 ≤ 3 := B2.2
  have ho0 : 0 ≤ F 1 2 := B3.1
  refine Rl_mk ⟨B1, B2, ⟨?_, ?_⟩, B4, B5, upd_bd B6 ⟨hz.2.1, by omega⟩, fun j hj => ?_, upd_bd B8 ⟨by omega, hz.2.2.2.2.1⟩, fun j hj => ?_, upd_bd B10 ⟨hz.2.2.2.2.2.1, hz.2.2.2.2.2.2⟩, B11, B12, B13⟩ ⟨q.1, q.2.1, ?_, q.2.2.2.1, fun j hj => ⟨?_, ?_, ?_⟩, q.2.2.2.2.2⟩ (fun o t ho ht => rl_bt hr ho ht) (fr0_cong (fun q h1 h2 => ?_) h0) h23 (IMs_cong (F := F) (fun q hq => ?_) (fun s h1 h2 => ⟨rfl, rfl, ?_, fun _ _ => rfl, fun j hj => ⟨?_, ?_, ?_⟩, fun _ _ => rfl, fun _ _ => rfl⟩) hI)
  · show 0 ≤ F 1 2 + 1; omega
  · show F 1 2 + 1 ≤ 6; omega
  · have hj2 : (j : Int) < F 1 2 + 1 := hj
    show vf_upd (F 3) (F 1 2).toNat z j < F 1 1
    by_cases e : j = (F 1 2).toNat
    · rw [e, upd_at]; exact hz.2.2.1
    · rw [upd_ne _ _ e]; exact B7 j (show (j : Int) < F 1 2 by omega)
  · have hj2 : (j : Int) < F 1 2 + 1 := hj
    show 1 ≤ vf_upd (F 4) (F 1 2).toNat y j
    by_cases e : j = (F 1 2).toNat
    · rw [e, upd_at]; exact hz.2.2.2.1
    · rw [upd_ne _ _ e]; exact B9 j (show (j : Int) < F 1 2 by omega)
  · show F 27 0 + 1 = F 1 2 + 1; omega
  · show vf_upd (F 28) (F 27 0).toNat z j = vf_upd (F 3) (F 1 2).toNat z j
    rw [e27]; unfold vf_upd; rw [(q.2.2.2.2.1 j hj).1]
  · show vf_upd (F 29) (F 27 0).toNat y j = vf_upd (F 4) (F 1 2).toNat y j
    rw [e27]; unfold vf_upd; rw [(q.2.2.2.2.1 j hj).2.1]
  · show vf_upd (F 30) (F 27 0).toNat x j = vf_upd (F 5) (F 1 2).toNat x j
    rw [e27]; unfold vf_upd; rw [(q.2.2.2.2.1 j hj).2.2]
  · unfold Fof va_up
    rw [if_neg (by omega), if_neg (by omega), if_neg (by omega), if_neg (by omega), if_neg (by omega), if_neg (by omega), if_neg (by omega), if_neg (by omega)]
  · unfold Fof va_up
    rw [if_neg (by omega), if_neg (by omega), if_neg (by omega), if_neg (by omega), if_neg (by omega), if_neg (by omega), if_neg (by omega), if_neg (by omega)]
  · show vf_upd (F 27) 0 (F 27 0 + 1) s = F 27 s
    exact upd_ne _ _ (by omega)
  · show vf_upd (F 28) (F 27 0).toNat z (6 * s + j) = F 28 (6 * s + j)
    exact upd_ne _ _ (by omega)
  · show vf_upd (F 29) (F 27 0).toNat y (6 * s + j) = F 29 (6 * s + j)
    exact upd_ne _ _ (by omega)
  · show vf_upd (F 30) (F 27 0).toNat x (6 * s + j) = F 30 (6 * s + j)
    exact upd_ne _ _ (by omega)
theorem st_reprice {z y : Int} (h : Rl g F im c) (hz : 0 ≤ z ∧ z < F 1 2 ∧ 0 ≤ y ∧ y ≤ 100000) : Rl g (va_up (va_up F 5 (vf_upd (F 5) z.toNat y)) 30 (vf_upd (F 30) z.toNat y)) im c := by
  obtain ⟨B, hr, h0, h23, hI⟩ := h
  have q := rq_rl hr
  obtain ⟨B1, B2, B3, B4, B5, B6, B7, B8, B9, B10, B11, B12, B13⟩ := B
  have ho6 : F 1 2 ≤ 6 := B3.2
  refine Rl_mk ⟨B1, B2, B3, B4, B5, B6, B7, B8, B9, upd_bd B10 hz.2.2, B11, B12, B13⟩ ⟨q.1, q.2.1, q.2.2.1, q.2.2.2.1, fun j hj => ⟨(q.2.2.2.2.1 j hj).1, (q.2.2.2.2.1 j hj).2.1, ?_⟩, q.2.2.2.2.2⟩ (fun o t ho ht => rl_bt hr ho ht) (fr0_cong (fun q h1 h2 => ?_) h0) h23 (IMs_cong (F := F) (fun q hq => ?_) (fun s h1 h2 => ⟨rfl, rfl, rfl, fun _ _ => rfl, fun j hj => ⟨rfl, rfl, ?_⟩, fun _ _ => rfl, fun _ _ => rfl⟩) hI)
  · show vf_upd (F 30) z.toNat y j = vf_upd (F 5) z.toNat y j
    unfold vf_upd; rw [(q.2.2.2.2.1 j hj).2.2]
  · unfold va_up
    rw [if_neg (by omega), if_neg (by omega)]
  · unfold va_up
    rw [if_neg (by omega), if_neg (by omega)]
  · show vf_upd (F 30) z.toNat y (6 * s + j) = F 30 (6 * s + j)
    exact upd_ne _ _ (by omega)
/-- rows of needs changed alike on both sides -/
theorem st_needR {f6 f31 : Nat → Int} (h : Rl g F im c) (b6 : ∀ j, 0 ≤ f6 j ∧ f6 j ≤ 9) (e : ∀ o k t, o < 4 → k < 3 → t < 40 → f31 (40 * (3 * o + k) + t) = f6 ((k * 4 + o) * 40 + t)) (hs : ∀ j, 480 ≤ j → f31 j = F 31 j) : Rl g (va_up (va_up F 6 f6) 31 f31) im c := by
  obtain ⟨B, hr, h0, h23, hI⟩ := h
  have q := rq_rl hr
  obtain ⟨B1, B2, B3, B4, B5, B6, B7, B8, B9, B10, B11, B12, B13⟩ := B
  refine Rl_mk ⟨B1, B2, B3, B4, B5, B6, B7, B8, B9, B10, b6, B12, B13⟩ ⟨q.1, q.2.1, q.2.2.1, q.2.2.2.1, q.2.2.2.2.1, e⟩ (fun o t ho ht => rl_bt hr ho ht) (fr0_cong (fun q h1 h2 => ?_) h0) h23 (IMs_cong (F := F) (fun q hq => ?_) (fun s h1 h2 => ⟨rfl, rfl, rfl, fun _ _ => rfl, fun _ _ => ⟨rfl, rfl, rfl⟩, fun j hj => ?_, fun _ _ => rfl⟩) hI)
  · unfold va_up
    rw [if_neg (by omega), if_neg (by omega)]
  · unfold va_up
    rw [if_neg (by omega), if_neg (by omega)]
  · exact hs _ (by omega)
/-- rows of what was bought changed alike on both sides -/
theorem st_boughtR {f7 f32 : Nat → Int} (h : Rl g F im c) (b7 : ∀ j, 0 ≤ f7 j ∧ f7 j ≤ 60) (b0 : ∀ o t : Nat, o < 6 → t < 40 → F 1 0 ≤ t → f7 (o * 40 + t) = 0) (e : ∀ o t, o < 6 → t < 40 → f32 (40 * o + t) = f7 (o * 40 + t)) (hs : ∀ j, 240 ≤ j → f32 j = F 32 j) : Rl g (va_up (va_up F 7 f7) 32 f32) im c := by
  obtain ⟨B, hr, h0, h23, hI⟩ := h
  have q := rq_rl hr
  obtain ⟨B1, B2, B3, B4, B5, B6, B7, B8, B9, B10, B11, B12, B13⟩ := B
  refine Rl_mk ⟨B1, B2, B3, B4, B5, B6, B7, B8, B9, B10, B11, b7, b0⟩ ⟨q.1, q.2.1, q.2.2.1, q.2.2.2.1, q.2.2.2.2.1, q.2.2.2.2.2⟩ e (fr0_cong (fun q h1 h2 => ?_) h0) h23 (IMs_cong (F := F) (fun q hq => ?_) (fun s h1 h2 => ⟨rfl, rfl, rfl, fun _ _ => rfl, fun _ _ => ⟨rfl, rfl, rfl⟩, fun _ _ => rfl, fun j hj => ?_⟩) hI)
  · unfold va_up
    rw [if_neg (by omega), if_neg (by omega)]
  · unfold va_up
    rw [if_neg (by omega), if_neg (by omega)]
  · exact hs _ (by omega)
theorem st_need {o z y x : Int} (h : Rl g F im c) (hz : 0 ≤ o ∧ o < 4 ∧ 0 ≤ z ∧ z < F 1 1 ∧ 0 ≤ y ∧ y < F 1 0 ∧ 0 ≤ x ∧ x ≤ 9) : Rl g (va_up (va_up F 6 (vf_upd (F 6) ((z.toNat * 4 + o.toNat) * 40 + y.toNat) x)) 31 (vf_upd (F 31) (40 * (3 * o + z) + y).toNat x)) im c := by
  have b1 := bi_hours h.1
  have b2 := bi_kinds h.1
  have hr := h.2.1
  refine st_needR h (upd_bd (bi_needs h.1) ⟨by omega, by omega⟩) (fun o2 k t ho hk ht => ?_) (fun j hj => upd_ne _ _ (by omega))
  have e := rl_need hr ho hk ht
  unfold fnd at e
  unfold vf_upd
  rw [e]
  by_cases hi : 40 * (3 * o2 + k) + t = (40 * (3 * o + z) + y).toNat
  · rw [if_pos hi, if_pos (by omega)]
  · rw [if_neg hi, if_neg (by omega)]
theorem st_needs {o z y x : Int} (h : Rl g F im c) (hz : (0 ≤ o ∧ o < 4 ∧ 0 ≤ z ∧ z < F 1 1 ∧ 0 ≤ y ∧ y ≤ F 1 0 - 8) ∧ A8 x) : Rl g (va_up (va_up F 6 (put (F 6) ((z.toNat * 4 + o.toNat) * 40 + y.toNat) (hb x) 8)) 31 (put (F 31) (40 * (3 * o + z) + y).toNat (hb x) 8)) im c := by
  have b1 := bi_hours h.1
  have b2 := bi_kinds h.1
  have hr := h.2.1
  obtain ⟨h1, h8⟩ := hz
  refine st_needR h (fun j => ?_) (fun o2 k t ho hk ht => ?_) (fun j hj => put_out _ _ (by omega))
  · unfold put
    by_cases hi : (z.toNat * 4 + o.toNat) * 40 + y.toNat ≤ j ∧ j < (z.toNat * 4 + o.toNat) * 40 + y.toNat + 8
    · rw [if_pos hi]
      have h2 := hb_bd x (j - ((z.toNat * 4 + o.toNat) * 40 + y.toNat))
      have h3 := h8 (j - ((z.toNat * 4 + o.toNat) * 40 + y.toNat)) (by omega)
      omega
    · rw [if_neg hi]; exact bi_needs h.1 j
  · have e := rl_need hr ho hk ht
    unfold fnd at e
    unfold put
    rw [e]
    by_cases hi : (40 * (3 * o + z) + y).toNat ≤ 40 * (3 * o2 + k) + t ∧ 40 * (3 * o2 + k) + t < (40 * (3 * o + z) + y).toNat + 8
    · rw [if_pos hi, if_pos (by omega)]
      congr 1
      omega
    · rw [if_neg hi, if_neg (by omega)]
theorem st_buy {z y x : Int} (h : Rl g F im c) (hz : 0 ≤ z ∧ z < F 1 2 ∧ 0 ≤ y ∧ y < F 1 0 ∧ 0 ≤ x ∧ x ≤ 60) : Rl g (va_up (va_up F 7 (vf_upd (F 7) (z.toNat * 40 + y.toNat) x)) 32 (vf_upd (F 32) (40 * z + y).toNat x)) im c := by
  have b1 := bi_hours h.1
  have b3 := bi_offers h.1
  have hr := h.2.1
  refine st_boughtR h (upd_bd (bi_bought h.1) ⟨by omega, by omega⟩) (fun o t ho ht hh => ?_) (fun o t ho ht => ?_) (fun j hj => upd_ne _ _ (by omega))
  · rw [upd_ne _ _ (by omega)]; exact h.1.2.2.2.2.2.2.2.2.2.2.2.2 o t ho ht hh
  · have e := rl_bt hr ho ht
    unfold bt at e
    unfold vf_upd
    rw [e]
    by_cases hi : 40 * o + t = (40 * z + y).toNat
    · rw [if_pos hi, if_pos (by omega)]
    · rw [if_neg hi, if_neg (by omega)]
theorem nob_eq (h : Rl g F im c) {k : Nat} {o t : Nat} (ho : o < 6) (ht : t < 40) : nobR F k (F 27 0).toNat (40 * o + t) = noby F k (F 1 2).toNat (o * 40 + t) := by
  have q := rq_rl h.2.1
  have e := rl_bt h.2.1 ho ht
  unfold bt at e
  unfold nobR noby
  rw [e, q.2.2.1, show (40 * o + t) / 40 = o by omega, show (o * 40 + t) / 40 = o by omega, (q.2.2.2.2.1 o ho).1]
theorem st_clear {k : Nat} (h : Rl g F im c) : Rl g (va_up (va_up F 7 (noby F k (F 1 2).toNat)) 32 (nobR F k (F 27 0).toNat)) im c := by
  have b3 := bi_offers h.1
  have q := rq_rl h.2.1
  have e27 := q.2.2.1
  refine st_boughtR h (fun j => ?_) (fun o t ho ht hh => ?_) (fun o t ho ht => nob_eq h ho ht) (fun j hj => ?_)
  · unfold noby; split; exact ⟨Int.le_refl 0, by decide⟩; exact bi_bought h.1 j
  · unfold noby
    split
    · rfl
    · exact h.1.2.2.2.2.2.2.2.2.2.2.2.2 o t ho ht hh
  · unfold nobR
    rw [if_neg (by omega)]
end STEPS
