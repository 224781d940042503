/-! ===== the reference's best is the best ===== -/
theorem sm_eqall {a b : Nat → Int} : ∀ {N : Nat}, (∀ j, j < N → a j ≤ b j) → sm a N = sm b N → ∀ j, j < N → a j = b j
  | 0, _, _, j, h => absurd h (Nat.not_lt_zero j)
  | N + 1, hab, hs, j, hj => by
    have h1 := sm_le (f := a) (g := b) (n := N) (fun j hj => hab j (by omega))
    have h2 := hab N (by omega)
    have hs' : sm a N + a N = sm b N + b N := hs
    by_cases e : j = N
    · subst e; omega
    · exact sm_eqall (N := N) (fun j hj => hab j (by omega)) (by omega) j (by omega)
def mnb (s g : Nat → Int) : Nat → Int
  | 0 => 1000000000000
  | n + 1 => if s n < 0 then min (mnb s g n) (g n) else mnb s g n
theorem mnb_le {s g : Nat → Int} : ∀ {N b : Nat}, b < N → s b < 0 → mnb s g N ≤ g b
  | 0, b, h, _ => absurd h (Nat.not_lt_zero b)
  | N + 1, b, h, hs => by
    unfold mnb
    by_cases e : b = N
    · subst e; rw [if_pos hs]; omega
    · have := mnb_le (s := s) (g := g) (N := N) (b := b) (by omega) hs
      split <;> omega
theorem mnb_at {s g : Nat → Int} : ∀ N : Nat, mnb s g N = 1000000000000 ∨ ∃ b, b < N ∧ s b < 0 ∧ mnb s g N = g b
  | 0 => Or.inl rfl
  | N + 1 => by
    have ih := mnb_at (s := s) (g := g) N
    unfold mnb
    by_cases hs : s N < 0
    · rw [if_pos hs]
      by_cases hm : g N ≤ mnb s g N
      · exact Or.inr ⟨N, by omega, hs, by omega⟩
      · rw [show min (mnb s g N) (g N) = mnb s g N by omega]
        rcases ih with h | ⟨b, h1, h2, h3⟩
        · exact Or.inl h
        · exact Or.inr ⟨b, by omega, h2, h3⟩
    · rw [if_neg hs]
      rcases ih with h | ⟨b, h1, h2, h3⟩
      · exact Or.inl h
      · exact Or.inr ⟨b, by omega, h2, h3⟩
section REFOPT
variable {F : Nat → Nat → Int} {k : Nat} {d u s f φ : Nat → Int}
theorem wys_W (B : bi F 1) (h : wys F k u) {w : Nat → Int} (hw : ∀ a b, a ≤ (F 1 0).toNat → b ≤ (F 1 0).toNat → w a - w b ≤ u (41 * a + b)) : wPF F k w := by
  have b1 := bi_hours B
  refine ⟨fun t ht => ?_, fun o ho hk t ht => ?_⟩
  · have q1 := hw t (t + 1) (by omega) (by omega)
    have q2 := hw (t + 1) t (by omega) (by omega)
    have q3 := h.2.2.1 t ht
    omega
  · have b4 := bi_terms B o
    have q1 := hw t (min ((t : Int) + F 4 o) (((F 1 0).toNat : Nat) : Int)).toNat (by omega) (by omega)
    have q2 := h.2.2.2 o ho hk t ht
    omega
theorem BO_le (hO : BO F k d u s f φ) {w : Nat → Int} (hw : wPF F k w) : ∀ j, j < 1681 → f j * (w (j / 41) - w (j % 41)) ≤ f j * u j := by
  intro j hj
  by_cases hx : 0 < f j
  · obtain ⟨a, b, h1, h2, h3, h4, h5⟩ := hO.2.2.2.2.1 j hx
    have q := hO.1.1.2.2 w hw (j / 41) (j % 41) (by omega) (by omega)
    rw [show 41 * (j / 41) + j % 41 = j by omega] at q
    exact Int.mul_le_mul_of_nonneg_left q (Int.le_of_lt hx)
  · have h0 : f j = 0 := by have := (hO.2.2.2.1 j).1; omega
    rw [h0, Int.zero_mul, Int.zero_mul]
    exact Int.le_refl 0
theorem ref_opt (B : bi F 1) (hO : BO F k d u s f φ) : optV (wPF F k) d (F 1 0).toNat (sm (fun j => f j * u j) 1681) := by
  have b1 := bi_hours B
  have b2 := bi_rates B k
  have ub := wys_bd B hO.1
  have up : ∀ w, wPF F k w → dv d w (F 1 0).toNat ≤ sm (fun j => f j * u j) 1681 := fun w hw => by
    rw [← hO.2.2.2.2.2 w]
    exact sm_le (BO_le hO hw)
  refine ⟨?_, up⟩
  by_cases hsink : ∃ b, b < (F 1 0).toNat + 1 ∧ s b < 0
  · obtain ⟨b0, hb0, hs0⟩ := hsink
    have at0 : ∀ v, v ≤ (F 1 0).toNat → ∃ b, b < (F 1 0).toNat + 1 ∧ s b < 0 ∧ mnb s (fun b => u (41 * v + b) - φ b) ((F 1 0).toNat + 1) = u (41 * v + b) - φ b := fun v hv => by
      rcases mnb_at (s := s) (g := fun b => u (41 * v + b) - φ b) ((F 1 0).toNat + 1) with h | h
      · have q : mnb s (fun b => u (41 * v + b) - φ b) ((F 1 0).toNat + 1) ≤ u (41 * v + b0) - φ b0 := mnb_le hb0 hs0
        have q2 := ub v b0 hv (by omega)
        have q3 := hO.2.2.1 b0 (by omega)
        omega
      · exact h
    generalize hwdef : (fun v => mnb s (fun b => u (41 * v + b) - φ b) ((F 1 0).toNat + 1)) = w
    have wv : ∀ v, w v = mnb s (fun b => u (41 * v + b) - φ b) ((F 1 0).toNat + 1) := fun v => by rw [← hwdef]
    have wle : ∀ v b, b < (F 1 0).toNat + 1 → s b < 0 → w v ≤ u (41 * v + b) - φ b := fun v b h1 h2 => by rw [wv v]; exact mnb_le (g := fun b => u (41 * v + b) - φ b) h1 h2
    have wat : ∀ v, v ≤ (F 1 0).toNat → ∃ b, b < (F 1 0).toNat + 1 ∧ s b < 0 ∧ w v = u (41 * v + b) - φ b := fun v hv => by rw [wv v]; exact at0 v hv
    have hW : wPF F k w := wys_W B hO.1 (fun a b ha hb => by
      obtain ⟨b1, q1, q2, q3⟩ := wat b hb
      have q4 := wle a b1 q1 q2
      have q5 := hO.1.2.1 b hb a b1 ha (by omega)
      omega)
    refine ⟨w, hW, ?_⟩
    have h1 := up w hW
    have h2 : sm (fun j => f j * u j) 1681 ≤ Ey f w := by
      refine sm_le (fun j hj => ?_)
      by_cases hx : 0 < f j
      · obtain ⟨a, b, g1, g2, g3, g4, g5⟩ := hO.2.2.2.2.1 j hx
        have ea : j / 41 = a := by omega
        have eb : j % 41 = b := by omega
        rw [ea, eb]
        refine Int.mul_le_mul_of_nonneg_left ?_ (Int.le_of_lt hx)
        obtain ⟨c, q1, q2, q3⟩ := wat a g1
        have q4 := wle b b (by omega) g5
        have q5 := hO.1.1.2.1 b g2
        have q6 := hO.2.1 a c ⟨g1, by omega, Or.inl ⟨g4, q2⟩⟩
        have q7 := hO.2.1 b a ⟨g2, g1, Or.inr ⟨g5, g4, by rw [← g3]; exact hx⟩⟩
        unfold cst at q6 q7
        rw [if_pos g4] at q6
        rw [if_neg (by omega)] at q7
        rw [g3]
        omega
      · have h0 : f j = 0 := by have := (hO.2.2.2.1 j).1; omega
        rw [h0, Int.zero_mul, Int.zero_mul]
        exact Int.le_refl 0
    rw [hO.2.2.2.2.2 w] at h2
    omega
  · have f0 : ∀ j, f j = 0 := fun j => by
      have h0 := (hO.2.2.2.1 j).1
      refine Classical.byContradiction fun hc => ?_
      obtain ⟨a, b, g1, g2, g3, g4, g5⟩ := hO.2.2.2.2.1 j (by omega)
      exact hsink ⟨b, by omega, g5⟩
    refine ⟨fun _ => 0, ⟨fun t ht => ⟨by show (0 : Int) ≤ 0 - 0; omega, by show (0 : Int) - 0 ≤ _; omega⟩, fun o ho hk t ht => by show (0 : Int) - 0 ≤ _; have := bi_costs B o; omega⟩, ?_⟩
    rw [sm_zero (f := fun j => f j * u j) (fun j _ => by rw [f0 j, Int.zero_mul])]
    exact sm_zero (fun j _ => by show d j * (0 - 0) = 0; rw [Int.sub_self, Int.mul_zero])
/-- a row of sums that is worth the best is tight where something is sent -/
theorem ref_tight (hO : BO F k d u s f φ) {w : Nat → Int} (hw : wPF F k w) (hv : dv d w (F 1 0).toNat = sm (fun j => f j * u j) 1681) {a b : Nat} (ha : a ≤ 40) (hb : b ≤ 40) (hx : 0 < f (41 * a + b)) : w a - w b = u (41 * a + b) := by
  rw [← hO.2.2.2.2.2 w] at hv
  have q := sm_eqall (BO_le hO hw) hv (41 * a + b) (by omega)
  have q2 : f (41 * a + b) * (w ((41 * a + b) / 41) - w ((41 * a + b) % 41)) = f (41 * a + b) * u (41 * a + b) := q
  rw [show (41 * a + b) / 41 = a by omega, show (41 * a + b) % 41 = b by omega] at q2
  exact Int.eq_of_mul_eq_mul_left (by omega) q2
/-- distances at rest are the greatest sums -/
theorem ref_top (B : bi F 1) (hO : BO F k d u s f φ) {far : Nat → Int} (h0 : far (F 1 0).toNat ≤ 0) (h1 : ∀ a b, a ≤ (F 1 0).toNat → b ≤ (F 1 0).toNat → far a ≤ u (41 * a + b) + far b ∧ (0 < f (41 * b + a) → far a ≤ -u (41 * b + a) + far b)) (h2 : ∀ w, wPF F k w → w (F 1 0).toNat = 0 → dv d w (F 1 0).toNat = sm (fun j => f j * u j) 1681 → ∀ t, t ≤ (F 1 0).toNat → w t ≤ far t) : topP (wPF F k) d (F 1 0).toNat (sm (fun j => f j * u j) 1681) far := by
  have b1 := bi_hours B
  obtain ⟨w0, hw0, hd0⟩ := (ref_opt B hO).1
  have q := h2 (fun t => w0 t - w0 (F 1 0).toNat) (wP_shift _ hw0) (by show w0 _ - w0 _ = 0; omega) (by rw [dv_shift]; exact hd0) (F 1 0).toNat (Nat.le_refl _)
  have q2 : w0 (F 1 0).toNat - w0 (F 1 0).toNat ≤ far (F 1 0).toNat := q
  have hW : wPF F k far := wys_W B hO.1 (fun a b ha hb => by have := (h1 a b ha hb).1; omega)
  refine ⟨hW, by omega, ?_, h2⟩
  rw [← hO.2.2.2.2.2 far]
  refine sm_cong (fun j hj => ?_)
  by_cases hx : 0 < f j
  · obtain ⟨a, b, g1, g2, g3, g4, g5⟩ := hO.2.2.2.2.1 j hx
    have ea : j / 41 = a := by omega
    have eb : j % 41 = b := by omega
    rw [ea, eb]
    have p1 := (h1 a b g1 g2).1
    have p2 := (h1 b a g2 g1).2 (by rw [← g3]; exact hx)
    rw [show far a - far b = u j by rw [g3]; omega]
  · have h0 : f j = 0 := by have := (hO.2.2.2.1 j).1; omega
    rw [h0, Int.zero_mul, Int.zero_mul]
end REFOPT
