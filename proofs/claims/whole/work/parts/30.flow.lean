/-! ===== Flow: its network, what is left open, potentials (F 9: last, ways; 10 lengths, 11 fees, 12 carried, 13 worth, 14 far, 15 step, 16 settled) ===== -/
def tgt (ln : Nat → Int) (v p : Nat) : Nat := ((p : Int) + ln v).toNat
/-- an open arc by the code b from u to v: along way b, or (b ≥ 8) against way b - 8 on which something is carried from v to u -/
def rs (n W : Nat) (ln x : Nat → Int) (b u v : Nat) : Prop := u ≤ n ∧ v ≤ n ∧ ((b < W ∧ (v : Int) = u + ln b) ∨ (8 ≤ b ∧ b - 8 < W ∧ (u : Int) = v + ln (b - 8) ∧ 0 < x ((b - 8) * 41 + v)))
def fb (fe : Nat → Int) (b : Nat) : Int := if b < 8 then fe b else -fe (b - 8)
/-- nothing is open at less than the fall of worth; what is carried runs within the points -/
def ft (n W : Nat) (ln fe x π : Nat → Int) : Prop := (∀ b u v, rs n W ln x b u v → π u - π v ≤ fb fe b) ∧ (∀ v p, 0 < x (v * 41 + p) → p < 41 → v < W ∧ p ≤ n ∧ 0 ≤ (p : Int) + ln v ∧ (p : Int) + ln v ≤ n) ∧ ∀ j, 0 ≤ x j
def ph (ln w : Nat → Int) (j : Nat) : Int := w (j % 41) - w (tgt ln (j / 41) (j % 41))
def Ex (ln x w : Nat → Int) : Int := sm (fun j => x j * ph ln w j) 328
theorem Ex_upd {ln x w : Nat → Int} {j : Nat} {v : Int} (hj : j < 328) : Ex ln (vf_upd x j v) w = Ex ln x w + (v - x j) * ph ln w j := by
  unfold Ex
  have e : (fun i => vf_upd x j v i * ph ln w i) = vf_upd (fun i => x i * ph ln w i) j (v * ph ln w j) := by
    funext i
    unfold vf_upd
    by_cases h : i = j
    · rw [if_pos h, if_pos h, h]
    · rw [if_neg h, if_neg h]
  rw [e, sm_upd hj, Int.sub_mul]
  show _ - x j * ph ln w j + v * ph ln w j = _
  omega
theorem Ex_0 {ln w : Nat → Int} {x : Nat → Int} (h : ∀ j, j < 328 → x j = 0) : Ex ln x w = 0 := sm_zero (fun j hj => by show x j * _ = 0; rw [h j hj, Int.zero_mul])
section FT
variable {n W : Nat} {ln fe x π : Nat → Int}
theorem ft_tight (h : ft n W ln fe x π) (hW : W ≤ 8) {v p : Nat} (hp : p < 41) (hx : 0 < x (v * 41 + p)) : π p - π (tgt ln v p) = fe v := by
  obtain ⟨h1, h2, h3, h4⟩ := h.2.1 v p hx hp
  have ht : ((tgt ln v p : Nat) : Int) = p + ln v := by unfold tgt; omega
  have a1 := h.1 v p (tgt ln v p) ⟨h2, by omega, Or.inl ⟨h1, ht⟩⟩
  have a2 := h.1 (v + 8) (tgt ln v p) p ⟨by omega, h2, Or.inr ⟨by omega, by rw [Nat.add_sub_cancel]; exact h1, by rw [Nat.add_sub_cancel]; exact ht, by rw [Nat.add_sub_cancel]; exact hx⟩⟩
  unfold fb at a1 a2
  rw [if_pos (by omega)] at a1
  rw [if_neg (by omega), Nat.add_sub_cancel] at a2
  omega
theorem Ex_tight (h : ft n W ln fe x π) (hW : W ≤ 8) : Ex ln x π = sm (fun j => x j * fe (j / 41)) 328 := by
  refine sm_cong (fun j hj => ?_)
  by_cases hx : 0 < x j
  · have e : j = j / 41 * 41 + j % 41 := by omega
    have h2 := ft_tight h hW (v := j / 41) (p := j % 41) (by omega) (by rw [← e]; exact hx)
    show x j * (π (j % 41) - π (tgt ln (j / 41) (j % 41))) = _
    rw [h2]
  · have h0 : x j = 0 := by have := h.2.2 j; omega
    show x j * _ = x j * _
    rw [h0, Int.zero_mul, Int.zero_mul]
/-- a row of sums that keeps to all fees is worth no more than what is carried costs -/
theorem Ex_le (h : ft n W ln fe x π) (hW : W ≤ 8) {w : Nat → Int} (hw : ∀ v p, v < W → p ≤ n → 0 ≤ (p : Int) + ln v → (p : Int) + ln v ≤ n → w p - w (tgt ln v p) ≤ fe v) : Ex ln x w ≤ Ex ln x π := by
  rw [Ex_tight h hW]
  refine sm_le (fun j hj => ?_)
  by_cases hx : 0 < x j
  · have e : j = j / 41 * 41 + j % 41 := by omega
    obtain ⟨h1, h2, h3, h4⟩ := h.2.1 (j / 41) (j % 41) (by rw [← e]; exact hx) (by omega)
    exact Int.mul_le_mul_of_nonneg_left (hw _ _ h1 h2 h3 h4) (Int.le_of_lt hx)
  · have h0 : x j = 0 := by have := h.2.2 j; omega
    show x j * _ ≤ x j * _
    rw [h0, Int.zero_mul, Int.zero_mul]
    exact Int.le_refl 0
/-- and if it is worth as much, it is tight where something is carried -/
theorem Ex_eq (h : ft n W ln fe x π) (hW : W ≤ 8) {w : Nat → Int} (hw : ∀ v p, v < W → p ≤ n → 0 ≤ (p : Int) + ln v → (p : Int) + ln v ≤ n → w p - w (tgt ln v p) ≤ fe v) (he : Ex ln x w = Ex ln x π) {v p : Nat} (hp : p < 41) (hv : v < 8) (hx : 0 < x (v * 41 + p)) : w p - w (tgt ln v p) = fe v := by
  rw [Ex_tight h hW] at he
  have hj : v * 41 + p < 328 := by omega
  have key : ∀ (a b : Nat → Int) (N : Nat), (∀ j, j < N → a j ≤ b j) → sm a N = sm b N → ∀ j, j < N → a j = b j := by
    intro a b N
    induction N with
    | zero => intro _ _ j hj; omega
    | succ N ih =>
      intro hab hs j hj
      have h1 := sm_le (f := a) (g := b) (n := N) (fun j hj => hab j (by omega))
      have h2 := hab N (by omega)
      have hs' : sm a N + a N = sm b N + b N := hs
      by_cases e : j = N
      · subst e; omega
      · exact ih (fun j hj => hab j (by omega)) (by omega) j (by omega)
  have h1 := key _ _ 328 (fun j hj => by
    by_cases hx : 0 < x j
    · have e : j = j / 41 * 41 + j % 41 := by omega
      obtain ⟨h1, h2, h3, h4⟩ := h.2.1 (j / 41) (j % 41) (by rw [← e]; exact hx) (by omega)
      exact Int.mul_le_mul_of_nonneg_left (hw _ _ h1 h2 h3 h4) (Int.le_of_lt hx)
    · have h0 : x j = 0 := by have := h.2.2 j; omega
      show x j * _ ≤ x j * _
      rw [h0, Int.zero_mul, Int.zero_mul]
      exact Int.le_refl 0) he (v * 41 + p) hj
  have h2 : x (v * 41 + p) * (w ((v * 41 + p) % 41) - w (tgt ln ((v * 41 + p) / 41) ((v * 41 + p) % 41))) = x (v * 41 + p) * fe ((v * 41 + p) / 41) := h1
  rw [show (v * 41 + p) % 41 = p by omega, show (v * 41 + p) / 41 = v by omega] at h2
  exact Int.eq_of_mul_eq_mul_left (by omega) h2
end FT
/-- the worths are raised by far, but by m at most -/
theorem ft_raise {n W : Nat} {ln fe x π far : Nat → Int} {m : Int} (h : ft n W ln fe x π) (done : Nat → Prop) (h1 : ∀ b u v, rs n W ln x b u v → done v → far u ≤ far v + (fb fe b - π u + π v)) (h2 : ∀ u, u ≤ n → ¬ done u → m ≤ far u) : ft n W ln fe x (fun p => π p + min (far p) m) := by
  refine ⟨fun b u v hr => ?_, h.2⟩
  have a := h.1 b u v hr
  show π u + min (far u) m - (π v + min (far v) m) ≤ fb fe b
  by_cases hd : done v
  · have := h1 b u v hr hd
    omega
  · have := h2 v hr.2.1 hd
    omega
