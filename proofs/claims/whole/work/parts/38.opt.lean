/-! ===== the best, and the greatest prices: numbers that two searches must agree on ===== -/
def wP (n : Nat) (r : Int) (m : Nat) (kf tf cf : Nat → Int) (k : Nat) (w : Nat → Int) : Prop := (∀ t, t < n → 0 ≤ w t - w (t + 1) ∧ w t - w (t + 1) ≤ r) ∧ ∀ o, o < m → kf o = (k : Int) → ∀ t : Nat, t < n → w t - w (min ((t : Int) + tf o) (n : Int)).toNat ≤ cf o
def optV (P : (Nat → Int) → Prop) (d : Nat → Int) (n : Nat) (V : Int) : Prop := (∃ w, P w ∧ dv d w n = V) ∧ ∀ w, P w → dv d w n ≤ V
def topP (P : (Nat → Int) → Prop) (d : Nat → Int) (n : Nat) (V : Int) (p : Nat → Int) : Prop := P p ∧ p n = 0 ∧ dv d p n = V ∧ ∀ w, P w → w n = 0 → dv d w n = V → ∀ t, t ≤ n → w t ≤ p t
theorem optV_one {P : (Nat → Int) → Prop} {d : Nat → Int} {n : Nat} {V V2 : Int} (h : optV P d n V) (h2 : optV P d n V2) : V = V2 := by
  obtain ⟨⟨w, a, b⟩, c⟩ := h
  obtain ⟨⟨w2, a2, b2⟩, c2⟩ := h2
  have := c w2 a2
  have := c2 w a
  omega
theorem topP_one {P : (Nat → Int) → Prop} {d : Nat → Int} {n : Nat} {V : Int} {p p2 : Nat → Int} (h : topP P d n V p) (h2 : topP P d n V p2) {t : Nat} (ht : t ≤ n) : p t = p2 t := by
  have a := h.2.2.2 p2 h2.1 h2.2.1 h2.2.2.1 t ht
  have b := h2.2.2.2 p h.1 h.2.1 h.2.2.1 t ht
  omega
theorem dv_shift (d w : Nat → Int) (a : Int) (n : Nat) : dv d (fun t => w t - a) n = dv d w n := sm_cong (fun j _ => by show d j * (w j - a - (w (j + 1) - a)) = d j * (w j - w (j + 1)); rw [show w j - a - (w (j + 1) - a) = w j - w (j + 1) by omega])
theorem wP_shift {n : Nat} {r : Int} {m : Nat} {kf tf cf : Nat → Int} {k : Nat} {w : Nat → Int} (a : Int) (h : wP n r m kf tf cf k w) : wP n r m kf tf cf k (fun t => w t - a) := by
  refine ⟨fun t ht => ?_, fun o ho hk t ht => ?_⟩
  · have := h.1 t ht
    show 0 ≤ w t - a - (w (t + 1) - a) ∧ w t - a - (w (t + 1) - a) ≤ r
    omega
  · have := h.2 o ho hk t ht
    show w t - a - (w _ - a) ≤ _
    omega
/-- sums fall from hour to hour, by rate at most -/
theorem fall_mono {n : Nat} {r : Int} {w : Nat → Int} (h : ∀ t, t < n → 0 ≤ w t - w (t + 1) ∧ w t - w (t + 1) ≤ r) {a : Nat} : ∀ q, a + q ≤ n → 0 ≤ w a - w (a + q) ∧ w a - w (a + q) ≤ q * r
  | 0, _ => by simp
  | q + 1, hq => by
    have h1 := fall_mono h (a := a) q (by omega)
    have h2 := h (a + q) (by omega)
    have e : ((q + 1 : Nat) : Int) * r = q * r + r := by rw [Int.natCast_add, Int.add_mul]; simp
    rw [e]
    have e2 : a + (q + 1) = a + q + 1 := by omega
    rw [e2]
    omega
abbrev wPF (F : Nat → Nat → Int) (k : Nat) : (Nat → Int) → Prop := wP (F 1 0).toNat (F 2 k) (F 1 2).toNat (F 3) (F 4) (F 5) k
section CLASS
variable {F F' Fw : Nat → Nat → Int} {k : Nat}
/-- the place where an offer ends -/
theorem end_at (B : bi F 1) {o t : Nat} (ho : (o : Int) < F 1 2) (ht : t < (F 1 0).toNat) (hl : (t : Int) + olen F o ≤ F 1 0) : (min ((t : Int) + F 4 o) (((F 1 0).toNat : Nat) : Int)).toNat = ((t : Int) + olen F o).toNat := by
  have b1 := bi_hours B
  have b4 := bi_terms B o
  unfold olen at hl ⊢
  omega
theorem class_W (B : bi F 1) (hkk : (k : Int) < F 1 1) (hW : WY F Fw k (F 1 2).toNat) (e9 : F' 9 = Fw 9) (e10 : F' 10 = Fw 10) (e11 : F' 11 = Fw 11) (R : fr F') (T : ftF F') : wPF F k (F' 13) := by
  have b1 := bi_hours B
  have b3 := bi_offers B
  have q := hW.2.2.2.2.2.1
  have g2 := bi_rates B k
  have g1 := bi_rate1 B k hkk
  have N : nb F' := by
    unfold nb
    rw [e10, e11]
    exact ⟨q.1, q.2.1, q.2.2.1, by rw [q.2.2.2]; exact g1, by rw [q.2.2.2]; exact g2.2⟩
  have enN : nN F' = (F 1 0).toNat := by unfold nN; rw [e9, hW.2.1]
  have eW := nW_eq R
  have r2 := R.2.1
  have e111 : F' 11 1 = F 2 k := by rw [e11]; exact q.2.2.2
  have fall : ∀ t, t < (F 1 0).toNat → 0 ≤ F' 13 t - F' 13 (t + 1) ∧ F' 13 t - F' 13 (t + 1) ≤ F 2 k := fun t ht => by
    have := nb_fall R T N (p := t) (by omega)
    rw [e111] at this
    exact this
  have main : ∀ o : Nat, (o : Int) < F 1 2 → F 3 o = k → ∀ t : Nat, (t : Int) + olen F o ≤ F 1 0 → F' 13 t - F' 13 ((t : Int) + olen F o).toNat ≤ F 5 o := by
    intro o ho hk t ht
    have b4 := bi_terms B o
    have b41 := bi_term1 B o ho
    have hol : 1 ≤ olen F o ∧ olen F o ≤ 40 := by unfold olen; omega
    by_cases hc : F 5 o < olen F o * F 2 k
    · obtain ⟨v, v1, v2, v3, v4⟩ := hW.2.2.2.2.2.2.2 o (by omega) hk hc
      rw [← e9] at v2
      rw [← e10] at v3
      rw [← e11] at v4
      have a := T.1 v t ((t : Int) + olen F o).toNat ⟨by omega, by omega, Or.inl ⟨by omega, by rw [v3]; omega⟩⟩
      unfold fb at a
      rw [if_pos (by omega), v4] at a
      exact a
    · have a := (fall_mono fall (a := t) (olen F o).toNat (by omega)).2
      rw [show ((t : Int) + olen F o).toNat = t + (olen F o).toNat by omega]
      have e : (((olen F o).toNat : Nat) : Int) = olen F o := by omega
      rw [e] at a
      omega
  refine ⟨fall, fun o ho hk t ht => ?_⟩
  have b4 := bi_terms B o
  have b41 := bi_term1 B o (by omega)
  have hol : 1 ≤ olen F o ∧ olen F o ≤ F 1 0 := by unfold olen; omega
  by_cases hl : (t : Int) + olen F o ≤ F 1 0
  · rw [end_at B (by omega) ht hl]
    exact main o (by omega) hk t hl
  · have e : (min ((t : Int) + F 4 o) (((F 1 0).toNat : Nat) : Int)).toNat = (F 1 0).toNat := by unfold olen at hl; omega
    rw [e]
    have a := main o (by omega) hk (F 1 0 - olen F o).toNat (by omega)
    rw [show ((((F 1 0 - olen F o).toNat : Nat) : Int) + olen F o).toNat = (F 1 0).toNat by omega] at a
    have a2 := (fall_mono fall (a := (F 1 0 - olen F o).toNat) (t - (F 1 0 - olen F o).toNat) (by omega)).1
    rw [show (F 1 0 - olen F o).toNat + (t - (F 1 0 - olen F o).toNat) = t by omega] at a2
    omega
theorem class_arc (B : bi F 1) (hW : WY F Fw k (F 1 2).toNat) (e9 : F' 9 = Fw 9) (e10 : F' 10 = Fw 10) (e11 : F' 11 = Fw 11) {w : Nat → Int} (hw : wPF F k w) : ∀ v p, v < nW F' → p ≤ nN F' → 0 ≤ (p : Int) + F' 10 v → (p : Int) + F' 10 v ≤ nN F' → w p - w (tgt (F' 10) v p) ≤ F' 11 v := by
  have b1 := bi_hours B
  have b3 := bi_offers B
  have enN : nN F' = (F 1 0).toNat := by unfold nN; rw [e9, hW.2.1]
  have q := hW.2.2.2.2.2.1
  have w2 := hW.2.2.1
  have eW : nW F' = (Fw 9 1).toNat := by unfold nW; rw [e9]
  intro v p hv hp h0 h1
  rw [e10, e11] at *
  unfold tgt
  by_cases v0 : v = 0
  · subst v0
    rw [q.1] at h0 ⊢
    rw [q.2.1]
    have := hw.1 (p - 1) (by omega)
    rw [show p - 1 + 1 = p by omega] at this
    rw [show ((p : Int) + -1).toNat = p - 1 by omega]
    omega
  by_cases v1 : v = 1
  · subst v1
    rw [q.2.2.1] at h1 ⊢
    rw [q.2.2.2]
    have := hw.1 p (by omega)
    rw [show ((p : Int) + 1).toNat = p + 1 by omega]
    exact this.2
  · obtain ⟨o, c1, c2, c3, c4⟩ := hW.2.2.2.2.2.2.1 v (by omega) (by omega)
    have b4 := bi_terms B o
    have b41 := bi_term1 B o (by omega)
    have hol : 1 ≤ olen F o ∧ olen F o ≤ F 1 0 := by unfold olen; omega
    rw [c3] at h1 ⊢
    rw [c4]
    have a := hw.2 o c1 c2 p (by omega)
    rw [end_at B (by omega) (by omega) (by omega)] at a
    exact a
theorem class_opt (B : bi F 1) (hkk : (k : Int) < F 1 1) {d : Nat → Int} (h : lsS F F' k d) : optV (wPF F k) d (F 1 0).toNat (Ex (F' 10) (F' 12) (F' 13)) := by
  obtain ⟨-, R, T, ⟨Fw, hW, e9, e10, e11⟩, hE⟩ := h
  have hW8 : nW F' ≤ 8 := by have := R.2.1; show (F' 9 1).toNat ≤ 8; omega
  refine ⟨⟨F' 13, class_W B hkk hW e9 e10 e11 R T, (hE _).symm⟩, fun w hw => ?_⟩
  rw [← hE w]
  exact Ex_le T hW8 (class_arc B hW e9 e10 e11 hw)
theorem class_top {F2 : Nat → Nat → Int} {t : Nat → Nat} (B : bi F 1) (hkk : (k : Int) < F 1 1) {d : Nat → Int} (h : lsS F F' k d) (hR : RW F' F2 (nN F') (-1) t) : topP (wPF F k) d (F 1 0).toNat (Ex (F' 10) (F' 12) (F' 13)) (fun u => F2 13 u - F2 13 (F 1 0).toNat) := by
  obtain ⟨-, R, T, ⟨Fw, hW, e9, e10, e11⟩, hE⟩ := h
  obtain ⟨w1, R2, T2, w4, w5, w6, w7⟩ := hR
  have f9 := w1 9 (by decide) (by decide) (by decide) (by decide)
  have f10 := w1 10 (by decide) (by decide) (by decide) (by decide)
  have f11 := w1 11 (by decide) (by decide) (by decide) (by decide)
  have f12 := w1 12 (by decide) (by decide) (by decide) (by decide)
  have hW8 : nW F' ≤ 8 := by have := R.2.1; show (F' 9 1).toNat ≤ 8; omega
  have hW82 : nW F2 ≤ 8 := by have := R2.2.1; show (F2 9 1).toNat ≤ 8; omega
  have b1 := bi_hours B
  have enN : nN F' = (F 1 0).toNat := by unfold nN; rw [e9, hW.2.1]
  have hall : ∀ u, u ≤ nN F' → F2 16 u = 1 := by
    rcases w7 with h | ⟨s, h1, -⟩
    · exact h.2
    · omega
  refine ⟨wP_shift _ (class_W B hkk hW (f9.trans e9) (f10.trans e10) (f11.trans e11) R2 T2), by show F2 13 _ - F2 13 _ = 0; omega, ?_, ?_⟩
  · rw [dv_shift, ← hE]
    have h1 := Ex_tight T2 hW82
    have h2 := Ex_tight T hW8
    rw [f10, f11, f12] at h1
    rw [h1, h2]
  · intro w hw hw0 hV
    have arc := class_arc B hW e9 e10 e11 hw
    rw [← hE w] at hV
    have key : ∀ q u, t u ≤ q → u ≤ nN F' → w u - w (nN F') ≤ F2 13 u - F2 13 (nN F') := by
      intro q
      induction q with
      | zero =>
        intro u hq hu
        by_cases hug : u = nN F'
        · rw [hug]; omega
        · obtain ⟨b, v, k1, k2, k3, k4, k5⟩ := (w6 u hu (hall u hu)).2 hug
          omega
      | succ q ih =>
        intro u hq hu
        by_cases hug : u = nN F'
        · rw [hug]; omega
        · obtain ⟨b, v, k1, k2, k3, k4, k5⟩ := (w6 u hu (hall u hu)).2 hug
          have a := ih v (by omega) k1.2.1
          have a2 : w u - w v ≤ fb (F' 11) b := by
            have hu1 := k1.1
            have hv1 := k1.2.1
            unfold fb
            rcases k1.2.2 with h | h
            · rw [if_pos (by omega)]
              have a3 := arc b u h.1 hu (by omega) (by omega)
              rw [show tgt (F' 10) b u = v by unfold tgt; omega] at a3
              exact a3
            · rw [if_neg (by omega)]
              have en2 := R.1
              have eN := nN_eq R
              have a3 := Ex_eq T hW8 arc hV (v := b - 8) (p := v) (by omega) (by omega) h.2.2.2
              rw [show tgt (F' 10) (b - 8) v = u by unfold tgt; omega] at a3
              omega
          omega
    intro u hu
    have a := key (t u) u (Nat.le_refl _) (by omega)
    rw [enN] at a
    show w u ≤ F2 13 u - F2 13 _
    omega
end CLASS
