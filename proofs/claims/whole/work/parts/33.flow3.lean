/-! ===== Flow.raiseWorth ===== -/
theorem adj_ex {f : Nat → Int} {n a b : Nat} (hf : ∀ u, f u = 0 ∨ f u = 1) (ha : a ≤ n) (hb : b ≤ n) (h1 : f a = 1) (h0 : f b = 0) : ∃ i, i < n ∧ ((f i = 1 ∧ f (i + 1) = 0) ∨ (f i = 0 ∧ f (i + 1) = 1)) := by
  refine Classical.byContradiction fun hn => ?_
  have key : ∀ i, i ≤ n → f i = f 0 := by
    intro i
    induction i with
    | zero => intro _; rfl
    | succ i ih =>
      intro hi
      have e := ih (by omega)
      rw [← e]
      refine Classical.byContradiction fun hne => hn ⟨i, by omega, ?_⟩
      have h2 := hf i
      have h3 := hf (i + 1)
      omega
  have k1 := key a ha
  have k2 := key b hb
  omega
theorem cnt_le {f : Nat → Int} (hf : ∀ u, f u = 0 ∨ f u = 1) : ∀ n, 0 ≤ sm f n ∧ sm f n ≤ n
  | 0 => ⟨Int.le_refl 0, Int.le_refl 0⟩
  | n + 1 => by
    have h1 := cnt_le hf n
    have h2 := hf n
    show 0 ≤ sm f n + f n ∧ sm f n + f n ≤ ((n + 1 : Nat) : Int)
    omega
theorem cnt_all {f : Nat → Int} (hf : ∀ u, f u = 0 ∨ f u = 1) : ∀ {n : Nat}, sm f n = n → ∀ u, u < n → f u = 1
  | 0, _, u, h => absurd h (Nat.not_lt_zero u)
  | n + 1, hs, u, h => by
    have h1 := cnt_le hf n
    have h2 := hf n
    have hs' : sm f n + f n = ((n + 1 : Nat) : Int) := hs
    by_cases e : u = n
    · subst e; omega
    · exact cnt_all hf (n := n) (by omega) u (by omega)
theorem cnt_yes {f : Nat → Int} : ∀ {n : Nat}, (∀ u, u < n → f u = 1) → sm f n = n
  | 0, _ => rfl
  | n + 1, h => by
    show sm f n + f n = ((n + 1 : Nat) : Int)
    rw [cnt_yes (fun u hu => h u (by omega)), h n (by omega)]
    omega
theorem ft_cong {n W : Nat} {ln fe x π π2 : Nat → Int} (h : ft n W ln fe x π) (e : ∀ p, p ≤ n → π2 p = π p) : ft n W ln fe x π2 := by
  refine ⟨fun b u v hr => ?_, h.2⟩
  rw [e u hr.1, e v hr.2.1]
  exact h.1 b u v hr
/-- the first two ways: back for nothing, forth by rate -/
def nb (F : Nat → Nat → Int) : Prop := F 10 0 = -1 ∧ F 11 0 = 0 ∧ F 10 1 = 1 ∧ 1 ≤ F 11 1 ∧ F 11 1 ≤ 1000
theorem nb_fall {F : Nat → Nat → Int} (R : fr F) (T : ftF F) (N : nb F) {p : Nat} (hp : p < nN F) : 0 ≤ F 13 p - F 13 (p + 1) ∧ F 13 p - F 13 (p + 1) ≤ F 11 1 := by
  have eW := nW_eq R
  have r2 := R.2.1
  have a1 := T.1 0 (p + 1) p ⟨by omega, by omega, Or.inl ⟨by omega, by rw [N.1]; omega⟩⟩
  have a2 := T.1 1 p (p + 1) ⟨by omega, by omega, Or.inl ⟨by omega, by rw [N.2.2.1]; omega⟩⟩
  have f0 : fb (F 11) 0 = F 11 0 := rfl
  have f1 : fb (F 11) 1 = F 11 1 := rfl
  have := N.2.1
  omega
/-- how far the search has come: r points are settled, goal first; t says when -/
def DI (F F1 : Nat → Nat → Int) (goal r : Nat) (t : Nat → Nat) : Prop :=
  (∀ k, k ≠ 14 → k ≠ 15 → k ≠ 16 → F1 k = F k) ∧ fr F1 ∧ sm (F1 16) (nN F + 1) = r ∧
  (∀ b u v, rsF F b u v → F1 16 v = 1 → F1 14 u ≤ F1 14 v + rcF F b u v) ∧
  (∀ u v, u ≤ nN F → v ≤ nN F → F1 16 v = 1 → F1 16 u = 0 → F1 14 v ≤ F1 14 u) ∧
  (∀ u, u ≤ nN F → u ≠ goal → F1 14 u < 1000000000 → ∃ b v, rsF F b u v ∧ F1 15 u = (b : Int) ∧ F1 16 v = 1 ∧ F1 14 u = F1 14 v + rcF F b u v ∧ (F1 16 u = 1 → t v < t u)) ∧
  (∀ u, u ≤ nN F → F1 16 u = 1 → t u < r ∧ F1 14 u ≤ 1000 * t u) ∧ F1 14 goal = 0
/-- the point p is next -/
def NX (F F1 : Nat → Nat → Int) (goal r p : Nat) : Prop := p ≤ nN F ∧ F1 16 p = 0 ∧ (∀ u, u ≤ nN F → F1 16 u = 0 → F1 14 p ≤ F1 14 u) ∧ F1 14 p ≤ 1000 * r ∧ (r = 0 → p = goal) ∧ (0 < r → F1 16 goal = 1)
theorem DI_sat {F F1 : Nat → Nat → Int} {goal r p : Nat} {t : Nat → Nat} (R : fr F) (D : DI F F1 goal r t) (X : NX F F1 goal r p) : r ≤ nN F := by
  refine Classical.byContradiction fun hn => ?_
  have h1 := cnt_le D.2.1.2.2.2.2.2.2.2.2 (nN F + 1)
  have h2 := D.2.2.1
  have := cnt_all D.2.1.2.2.2.2.2.2.2.2 (n := nN F + 1) (by omega) p (by have := X.1; omega)
  have := X.2.1
  omega
/-- behind the settling of p: what is told of it and of the others -/
theorem DI_set {F F1 : Nat → Nat → Int} {goal r p : Nat} {t : Nat → Nat} (R : fr F) (T : ftF F) (N : nb F) (D : DI F F1 goal r t) (X : NX F F1 goal r p) (F2 : Nat → Nat → Int) (hF2 : F2 = va_up F1 16 (vf_upd (F1 16) p 1)) :
    fr F2 ∧ ftF F2 ∧ F2 16 p = 1 ∧ (∀ u, u ≠ p → F2 16 u = F1 16 u) ∧ (∀ k, k ≠ 16 → F2 k = F1 k) ∧ sm (F2 16) (nN F + 1) = r + 1 := by
  have e16 : F2 16 = vf_upd (F1 16) p 1 := by rw [hF2]; rfl
  have ek : ∀ k, k ≠ 16 → F2 k = F1 k := fun k hk => by rw [hF2]; unfold va_up; rw [if_neg hk]
  have eF : ∀ k, k ≠ 14 → k ≠ 15 → k ≠ 16 → F2 k = F k := fun k h1 h2 h3 => (ek k h3).trans (D.1 k h1 h2 h3)
  have hp1 : F2 16 p = 1 := by rw [e16]; unfold vf_upd; rw [if_pos rfl]
  have hu : ∀ u, u ≠ p → F2 16 u = F1 16 u := fun u h => by rw [e16]; unfold vf_upd; rw [if_neg h]
  have Rr := D.2.1
  refine ⟨?_, ?_, hp1, hu, ek, ?_⟩
  · unfold fr
    rw [ek 9 (by decide), ek 10 (by decide), ek 11 (by decide), ek 12 (by decide), ek 13 (by decide), ek 14 (by decide), ek 15 (by decide)]
    refine ⟨Rr.1, Rr.2.1, Rr.2.2.1, Rr.2.2.2.1, Rr.2.2.2.2.1, Rr.2.2.2.2.2.1, Rr.2.2.2.2.2.2.1, Rr.2.2.2.2.2.2.2.1, fun u => ?_⟩
    by_cases h : u = p
    · right; rw [h]; exact hp1
    · rw [hu u h]; exact Rr.2.2.2.2.2.2.2.2 u
  · unfold ftF nN nW
    rw [eF 9 (by decide) (by decide) (by decide), eF 10 (by decide) (by decide) (by decide), eF 11 (by decide) (by decide) (by decide), eF 12 (by decide) (by decide) (by decide), eF 13 (by decide) (by decide) (by decide)]
    exact T
  · have hX := X.1
    rw [e16, sm_upd (by omega), D.2.2.1, X.2.1]
    omega
theorem DI_next {F F1 F3 : Nat → Nat → Int} {goal r p : Nat} {t : Nat → Nat} (R : fr F) (T : ftF F) (N : nb F) (D : DI F F1 goal r t) (X : NX F F1 goal r p) {F2 : Nat → Nat → Int} (hF2 : F2 = va_up F1 16 (vf_upd (F1 16) p 1)) (hI : RI F2 F3 p) (hC : ∀ b u, rsF F2 b u p → F2 16 u = 0 → F3 14 u ≤ F2 14 p + rcF F2 b u p) : DI F F3 goal (r + 1) (fun u => if u = p then r else t u) ∧ F3 16 goal = 1 ∧ (∀ q : Nat, q ≤ nN F → F3 16 q = 0 → (∀ u, u ≤ nN F → F3 16 u = 0 → F3 14 q ≤ F3 14 u) → NX F F3 goal (r + 1) q) ∧ (∀ u, F3 16 u = 0 → F1 16 u = 0) ∧ ∀ u, u ≠ p → F1 16 u = 0 → F3 16 u = 0 := by
  obtain ⟨S1, S2, hp1, hu, ek, hcnt⟩ := DI_set R T N D X F2 hF2
  have kD := D.1
  have eF : ∀ k, k ≠ 14 → k ≠ 15 → k ≠ 16 → F2 k = F k := fun k h1 h2 h3 => (ek k h3).trans (kD k h1 h2 h3)
  have q9 := eF 9 (by decide) (by decide) (by decide)
  have q10 := eF 10 (by decide) (by decide) (by decide)
  have q11 := eF 11 (by decide) (by decide) (by decide)
  have q12 := eF 12 (by decide) (by decide) (by decide)
  have q13 := eF 13 (by decide) (by decide) (by decide)
  have ers : ∀ b u v, rsF F2 b u v ↔ rsF F b u v := fun b u v => by unfold rsF nN nW; rw [q9, q10, q12]
  have erc : ∀ b u v, rcF F2 b u v = rcF F b u v := fun b u v => by unfold rcF; rw [q11, q13]
  have enN : nN F2 = nN F := by unfold nN; rw [q9]
  have e14 : F2 14 = F1 14 := ek 14 (by decide)
  have e15 : F2 15 = F1 15 := ek 15 (by decide)
  have f16 : F3 16 = F2 16 := hI.1 16 (by decide) (by decide)
  have hle : ∀ u, F3 14 u ≤ F1 14 u := fun u => by
    rcases hI.2 u with h1 | h1
    · rw [h1.1, e14]; exact Int.le_refl _
    · rw [← e14]; exact Int.le_of_lt h1.2.2.1
  have hst : ∀ u, F2 16 u = 1 → F3 14 u = F1 14 u ∧ F3 15 u = F1 15 u := fun u h => by
    have := RI_q hI h
    rw [e14, e15] at this
    exact this
  have h16 := D.2.1.2.2.2.2.2.2.2.2
  have hnn : ∀ b u v, rsF F b u v → 0 ≤ rcF F b u v := fun b u v h => by
    have := T.1 b u v h
    show 0 ≤ fb (F 11) b - F 13 u + F 13 v
    omega
  have hold : ∀ u, u ≠ p → (F2 16 u = 1 ↔ F1 16 u = 1) := fun u h => by rw [hu u h]
  have hnew : ∀ u, F2 16 u = 0 → u ≠ p ∧ F1 16 u = 0 := fun u h => by
    have h1 : u ≠ p := fun e => by rw [e] at h; omega
    exact ⟨h1, by rw [← hu u h1]; exact h⟩
  have hup : ∀ u, u ≤ nN F → F2 16 u = 0 → (F3 14 u = F1 14 u ∧ F3 15 u = F1 15 u) ∨ ∃ b, rsF F b u p ∧ F3 15 u = (b : Int) ∧ F3 14 u = F1 14 p + rcF F b u p := fun u _ h0 => by
    rcases hI.2 u with h1 | ⟨h1, h2, h3, b, h4, h5, h6⟩
    · left; rw [e14, e15] at h1; exact h1
    · right
      refine ⟨b, (ers b u p).mp h4, h5, ?_⟩
      rw [h6, e14, erc]
  have hsp := hst p hp1
  have hgoal : F3 16 goal = 1 := by
    rw [f16]
    by_cases hr : r = 0
    · rw [← X.2.2.2.2.1 hr]; exact hp1
    · by_cases hgp : goal = p
      · rw [hgp]; exact hp1
      · rw [hu goal hgp]; exact X.2.2.2.2.2 (by omega)
  have D2 : ∀ b u v, rsF F b u v → F3 16 v = 1 → F3 14 u ≤ F3 14 v + rcF F b u v := by
    intro b u v hr hv
    rw [f16] at hv
    have hn := hnn b u v hr
    by_cases hvp : v = p
    · subst hvp
      rcases h16 u with h0 | h1
      · by_cases hup2 : u = v
        · subst hup2; omega
        · have h2 : F2 16 u = 0 := by rw [hu u hup2]; exact h0
          have h3 := hC b u ((ers b u v).mpr hr) h2
          rw [erc, e14] at h3
          rw [hsp.1]; exact h3
      · have h2 := D.2.2.2.2.1 v u X.1 hr.1 h1 X.2.1
        have h3 := hle u
        rw [hsp.1]
        omega
    · have h1 := (hold v hvp).mp hv
      have h2 := D.2.2.2.1 b u v hr h1
      have h3 := hle u
      rw [(hst v hv).1]
      omega
  have DD : DI F F3 goal (r + 1) (fun u => if u = p then r else t u) := by
    refine ⟨fun k h1 h2 h3 => (hI.1 k h1 h2).trans (eF k h1 h2 h3), RI_fr S1 S2 hI, ?_, D2, ?_, ?_, ?_, ?_⟩
    · rw [f16, hcnt]; omega
    · intro u v hun hvn hv hu0
      rw [f16] at hv hu0
      have hu1 := hnew u hu0
      have hpu := X.2.2.1 u hun hu1.2
      have hvp : F1 14 v ≤ F1 14 p := by
        by_cases e : v = p
        · rw [e]; exact Int.le_refl _
        · exact D.2.2.2.2.1 p v X.1 hvn ((hold v e).mp hv) X.2.1
      rw [(hst v hv).1]
      rcases hup u hun hu0 with h1 | ⟨b, h1, h2, h3⟩
      · rw [h1.1]; omega
      · have := hnn b u p h1
        rw [h3]; omega
    · intro u hun hug hfar
      by_cases h1 : F2 16 u = 1
      · have hs := hst u h1
        rw [hs.1] at hfar
        obtain ⟨b, v, k1, k2, k3, k4, k5⟩ := D.2.2.2.2.2.1 u hun hug hfar
        have hvp : v ≠ p := fun e => by rw [e] at k3; have := X.2.1; omega
        have hv1 := (hold v hvp).mpr k3
        refine ⟨b, v, k1, by rw [hs.2]; exact k2, by rw [f16]; exact hv1, by rw [hs.1, (hst v hv1).1]; exact k4, fun _ => ?_⟩
        show (if v = p then r else t v) < (if u = p then r else t u)
        rw [if_neg hvp]
        by_cases hupp : u = p
        · rw [if_pos hupp]; exact (D.2.2.2.2.2.2.1 v k1.2.1 k3).1
        · rw [if_neg hupp]; exact k5 ((hold u hupp).mp h1)
      · have h0 : F2 16 u = 0 := by have := S1.2.2.2.2.2.2.2.2 u; omega
        have hu1 := hnew u h0
        rcases hup u hun h0 with h2 | ⟨b, h2, h3, h4⟩
        · rw [h2.1] at hfar
          obtain ⟨b, v, k1, k2, k3, k4, k5⟩ := D.2.2.2.2.2.1 u hun hug hfar
          have hvp : v ≠ p := fun e => by rw [e] at k3; have := X.2.1; omega
          have hv1 := (hold v hvp).mpr k3
          exact ⟨b, v, k1, by rw [h2.2]; exact k2, by rw [f16]; exact hv1, by rw [h2.1, (hst v hv1).1]; exact k4, fun h5 => by rw [f16] at h5; omega⟩
        · exact ⟨b, p, h2, h3, by rw [f16]; exact hp1, by rw [h4, hsp.1], fun h5 => by rw [f16] at h5; omega⟩
    · intro u hun h1
      rw [f16] at h1
      rw [(hst u h1).1]
      by_cases hupp : u = p
      · dsimp only
        rw [if_pos hupp, hupp]
        exact ⟨by omega, X.2.2.2.1⟩
      · dsimp only
        rw [if_neg hupp]
        have := D.2.2.2.2.2.2.1 u hun ((hold u hupp).mp h1)
        exact ⟨by omega, this.2⟩
    · by_cases h1 : F2 16 goal = 1
      · rw [(hst goal h1).1]; exact D.2.2.2.2.2.2.2
      · rw [f16] at hgoal; exact absurd hgoal h1
  refine ⟨DD, hgoal, ?_, fun u h => (hnew u (by rw [← f16]; exact h)).2, fun u h1 h2 => by rw [f16, hu u h1]; exact h2⟩
  intro q hq hq0 hqm
  refine ⟨hq, hq0, hqm, ?_, fun h => by omega, fun _ => hgoal⟩
  have h3 := DD.2.1.2.2.2.2.2.2.2.2
  have hgn : p ≤ nN F := X.1
  obtain ⟨a, ha, hcase⟩ := adj_ex h3 hgn hq (by rw [f16]; exact hp1) hq0
  have fall := nb_fall R T N ha
  have eW := nW_eq R
  have r2 := R.2.1
  have nb1 := N.2.2.2.2
  rcases hcase with ⟨c1, c0⟩ | ⟨c0, c1⟩
  · have k := D2 0 (a + 1) a ⟨by omega, by omega, Or.inl ⟨by omega, by rw [N.1]; omega⟩⟩ c1
    have k2 := hqm (a + 1) (by omega) c0
    have k3 := DD.2.2.2.2.2.2.1 a (by omega) c1
    have k4 : rcF F 0 (a + 1) a = F 11 0 - F 13 (a + 1) + F 13 a := rfl
    have := N.2.1
    omega
  · have k := D2 1 a (a + 1) ⟨by omega, by omega, Or.inl ⟨by omega, by rw [N.2.2.1]; omega⟩⟩ c1
    have k2 := hqm a (by omega) c0
    have k3 := DD.2.2.2.2.2.2.1 (a + 1) (by omega) c1
    have k4 : rcF F 1 a (a + 1) = F 11 1 - F 13 a + F 13 (a + 1) := rfl
    omega
/-- the end of the search -/
def FC (F F2 : Nat → Nat → Int) (goal : Nat) (st m : Int) (t : Nat → Nat) : Prop :=
  (∀ k, k ≠ 14 → k ≠ 15 → k ≠ 16 → F2 k = F k) ∧ fr F2 ∧ (∀ b u v, rsF F b u v → (F2 16 v = 1 ∧ (v : Int) ≠ st) → F2 14 u ≤ F2 14 v + rcF F b u v) ∧ (∀ u : Nat, u ≤ nN F → ¬ (F2 16 u = 1 ∧ (u : Int) ≠ st) → m ≤ F2 14 u) ∧ (∀ u, u ≤ nN F → F2 16 u = 1 → F2 14 u ≤ m ∧ F2 14 u ≤ 1000 * t u ∧ t u ≤ nN F) ∧
  (∀ u, u ≤ nN F → F2 16 u = 1 → u ≠ goal → ∃ b v, rsF F b u v ∧ F2 15 u = (b : Int) ∧ F2 16 v = 1 ∧ F2 14 u = F2 14 v + rcF F b u v ∧ t v < t u) ∧ F2 14 goal = 0 ∧ F2 16 goal = 1 ∧ ((st = -1 ∧ m = 1000000000 ∧ ∀ u, u ≤ nN F → F2 16 u = 1) ∨ ∃ s : Nat, st = s ∧ s ≤ nN F ∧ F2 16 s = 1 ∧ m = F2 14 s)
/-- what raiseWorth does -/
def RW (F F' : Nat → Nat → Int) (goal : Nat) (st : Int) (t : Nat → Nat) : Prop :=
  (∀ k, k ≠ 13 → k ≠ 14 → k ≠ 15 → k ≠ 16 → F' k = F k) ∧ fr F' ∧ ftF F' ∧ F' 13 goal = F 13 goal ∧ (∀ u, F 13 u ≤ F' 13 u ∧ F' 13 u ≤ F 13 u + 41000) ∧
  (∀ u, u ≤ nN F → F' 16 u = 1 → t u ≤ nN F ∧ (u ≠ goal → ∃ b v, rsF F b u v ∧ F' 15 u = (b : Int) ∧ F' 16 v = 1 ∧ F' 13 u - F' 13 v = fb (F 11) b ∧ t v < t u)) ∧
  ((st = -1 ∧ ∀ u, u ≤ nN F → F' 16 u = 1) ∨ ∃ s : Nat, st = s ∧ s ≤ nN F ∧ F' 16 s = 1 ∧ ∀ u, F' 13 u ≤ F 13 u + (F' 13 s - F' 13 goal) - (F 13 s - F 13 goal))
theorem FC_RW {F F2 F' : Nat → Nat → Int} {goal : Nat} {st m : Int} {t : Nat → Nat} (R : fr F) (T : ftF F) (hP : ∀ u, F 13 u ≤ 100000) (hg : goal ≤ nN F) (C : FC F F2 goal st m t) (e13 : F' 13 = fun p => if p ≤ nN F then F 13 p + min (F2 14 p) m else F 13 p) (ek : ∀ k, k ≠ 13 → F' k = F2 k) : RW F F' goal st t := by
  obtain ⟨c1, c2, c3, c4, c5, c6, c7, c8, c9⟩ := C
  have eF : ∀ k, k ≠ 13 → k ≠ 14 → k ≠ 15 → k ≠ 16 → F' k = F k := fun k h1 h2 h3 h4 => (ek k h1).trans (c1 k h2 h3 h4)
  have eN := nN_eq R
  have r1 := R.1
  have hm0 : 0 ≤ m := by
    rcases c9 with h | ⟨s, h1, h2, h3, h4⟩
    · omega
    · have := c2.2.2.2.2.2.2.1 s
      omega
  have hmin : ∀ u, u ≤ nN F → 0 ≤ min (F2 14 u) m ∧ min (F2 14 u) m ≤ 41000 := fun u hu => by
    have := c2.2.2.2.2.2.2.1 u
    by_cases h : F2 16 u = 1
    · have := c5 u hu h
      omega
    · rcases c9 with h9 | ⟨s, h1, h2, h3, h4⟩
      · exact absurd (h9.2.2 u hu) h
      · have := c5 s h2 h3
        omega
  have v13 : ∀ u, u ≤ nN F → F' 13 u = F 13 u + min (F2 14 u) m := fun u hu => by rw [e13]; show (if _ then _ else _) = _; rw [if_pos hu]
  have hb : ∀ u, F 13 u ≤ F' 13 u ∧ F' 13 u ≤ F 13 u + 41000 := fun u => by
    by_cases hu : u ≤ nN F
    · rw [v13 u hu]
      have := hmin u hu
      omega
    · rw [e13]
      show F 13 u ≤ (if _ then _ else _) ∧ (if _ then _ else _) ≤ _
      rw [if_neg hu]
      omega
  have gmin : min (F2 14 goal) m = 0 := by rw [c7]; omega
  refine ⟨eF, ?_, ?_, by rw [v13 goal hg, gmin]; omega, hb, ?_, ?_⟩
  · unfold fr
    rw [ek 9 (by decide), ek 10 (by decide), ek 11 (by decide), ek 12 (by decide), ek 14 (by decide), ek 15 (by decide), ek 16 (by decide)]
    refine ⟨c2.1, c2.2.1, c2.2.2.1, c2.2.2.2.1, c2.2.2.2.2.1, fun u => ?_, c2.2.2.2.2.2.2.1, c2.2.2.2.2.2.2.2.1, c2.2.2.2.2.2.2.2.2⟩
    have h1 := hb u
    have h2 := hP u
    have h3 := R.2.2.2.2.2.1 u
    omega
  · have k := ft_cong (ft_raise (far := F2 14) (m := m) T (fun v => F2 16 v = 1 ∧ (v : Int) ≠ st) c3 c4) v13
    unfold ftF nN nW
    rw [eF 9 (by decide) (by decide) (by decide) (by decide), eF 10 (by decide) (by decide) (by decide) (by decide), eF 11 (by decide) (by decide) (by decide) (by decide), eF 12 (by decide) (by decide) (by decide) (by decide)]
    exact k
  · intro u hu h1
    rw [ek 16 (by decide)] at h1
    refine ⟨(c5 u hu h1).2.2, fun hug => ?_⟩
    obtain ⟨b, v, k1, k2, k3, k4, k5⟩ := c6 u hu h1 hug
    refine ⟨b, v, k1, by rw [ek 15 (by decide)]; exact k2, by rw [ek 16 (by decide)]; exact k3, ?_, k5⟩
    have a1 := (c5 u hu h1).1
    have a2 := (c5 v k1.2.1 k3).1
    have a3 : F2 14 u = F2 14 v + (fb (F 11) b - F 13 u + F 13 v) := k4
    rw [v13 u hu, v13 v k1.2.1]
    omega
  · rcases c9 with h9 | ⟨s, h1, h2, h3, h4⟩
    · exact Or.inl ⟨h9.1, fun u hu => by rw [ek 16 (by decide)]; exact h9.2.2 u hu⟩
    · refine Or.inr ⟨s, h1, h2, by rw [ek 16 (by decide)]; exact h3, fun u => ?_⟩
      have a1 := v13 s h2
      have a2 := v13 goal hg
      rw [gmin] at a2
      by_cases hu : u ≤ nN F
      · have a3 := v13 u hu
        omega
      · have a3 : F' 13 u = F 13 u := by rw [e13]; show (if _ then _ else _) = _; rw [if_neg hu]
        omega
section FLOW3
variable {l : Launch} {g : zG} {F : Nat → Nat → Int} {L : Nat → Int} {im : Nat → Option Nat} {c : Nat}
theorem c_raiseWorth (R : fr F) (T : ftF F) (N : nb F) (hP : ∀ u, F 13 u ≤ 100000) {goal : Nat} {st : Int} (hg : goal ≤ nN F) (hst : st = -1 ∨ ∃ s : Nat, st = s ∧ s ≤ nN F ∧ s ≠ goal) : zM l g yX2_raiseWorth cX2_raiseWorth 6 none 2 0 0 [.ref (g.2.1 + 9), .int (iz goal), .int (iz st)] (zk g F L im c) (fun r h => r = none ∧ ∃ (F' : Nat → Nat → Int) (t : Nat → Nat), h = zk g F' L im c ∧ RW F F' goal st t) := by
  refine zM_of 3 (by decide) rfl ?_
  show zJ l g RX2 cX2_raiseWorth 6 none "raiseWorth" (zRm 2 0 0) 0 0 _ 0 0 0 [some (.ref (g.2.1 + 9)), some (.int (iz goal)), some (.int (iz st)), none, none, none] [] _
  have eN := nN_eq R
  have r1 := R.1
  have hsr : ir st := by rcases hst with h | ⟨s, h1, h2, h3⟩ <;> exact ⟨by omega, by omega⟩
  -- the last loop
  have fin : ∀ (F2 : Nat → Nat → Int) (t : Nat → Nat) (m : Int), FC F F2 goal st m t → ∀ (a3 a4 : Int) (j x : Nat), x + j = nN F + 1 → zJ l g RX2 cX2_raiseWorth 6 none "raiseWorth" (zRm 2 0 0) 0 0 (fun r h => r = none ∧ ∃ (F' : Nat → Nat → Int) (t : Nat → Nat), h = zk g F' L im c ∧ RW F F' goal st t) 0 0 109 [some (.ref (g.2.1 + 9)), some (.int (iz goal)), some (.int (iz st)), some (.int (iz a3)), some (.int (iz m)), some (.int (iz x))] [] (zk g (va_up F2 13 (fun p => if p < x then F 13 p + min (F2 14 p) m else F 13 p)) L im c) := by
    intro F2 t m C a3 a4 j
    have k9 : F2 9 = F 9 := C.1 9 (by decide) (by decide) (by decide)
    have k13 : F2 13 = F 13 := C.1 13 (by decide) (by decide) (by decide)
    have hmr : ir m := by
      rcases C.2.2.2.2.2.2.2.2 with h9 | ⟨s, h1, h2, h3, h4⟩
      · exact ⟨by omega, by omega⟩
      · have := C.2.1.2.2.2.2.2.2.1 s
        exact ⟨by omega, by omega⟩
    induction j with
    | zero =>
      intro x hx
      refine z_iload (pc := 109) rfl dX2_raiseWorth_109 ?_
      refine z_aload_n (pc := 111) rfl dX2_raiseWorth_111 ?_
      refine zf_X2_44 (pc := 112) rfl rfl dX2_raiseWorth_112 ?_
      refine z_icmp_gt (pc := 115) ⟨by omega, by omega⟩ (show ir (F2 9 0) by rw [k9]; exact ⟨by omega, by omega⟩) 146 (by decide) dX2_raiseWorth_115 (fun hq => ?_) (fun hq => ?_)
      · refine z_retv (pc := 146) rfl (by decide) (by decide) dX2_raiseWorth_146 ⟨rfl, _, t, rfl, FC_RW R T hP hg C ?_ (fun k hk => by unfold va_up; rw [if_neg hk])⟩
        rw [show x = nN F + 1 by omega]
        show (fun p => if p < nN F + 1 then F 13 p + min (F2 14 p) m else F 13 p) = _
        funext p
        by_cases hp : p ≤ nN F
        · rw [if_pos hp, if_pos (by omega)]
        · rw [if_neg hp, if_neg (by omega)]
      have hq2 : (x : Int) ≤ F2 9 0 := hq
      rw [k9] at hq2
      omega
    | succ j ih =>
      intro x hx
      have b14 := C.2.1.2.2.2.2.2.2.1 x
      refine z_iload (pc := 109) rfl dX2_raiseWorth_109 ?_
      refine z_aload_n (pc := 111) rfl dX2_raiseWorth_111 ?_
      refine zf_X2_44 (pc := 112) rfl rfl dX2_raiseWorth_112 ?_
      refine z_icmp_gt (pc := 115) ⟨by omega, by omega⟩ (show ir (F2 9 0) by rw [k9]; exact ⟨by omega, by omega⟩) 146 (by decide) dX2_raiseWorth_115 (fun hq => ?_) (fun hq => ?_)
      · have hq2 : F2 9 0 < (x : Int) := hq
        rw [k9] at hq2
        omega
      refine z_aload_n (pc := 118) rfl dX2_raiseWorth_118 ?_
      refine zf_X2_21 (pc := 119) rfl rfl dX2_raiseWorth_119 ?_
      refine z_iload (pc := 122) rfl dX2_raiseWorth_122 ?_
      refine z_dup2 (pc := 124) rfl rfl dX2_raiseWorth_124 ?_
      refine z_iald (pc := 125) rfl (by decide) (by omega) (by omega) dX2_raiseWorth_125 ?_
      refine z_aload_n (pc := 126) rfl dX2_raiseWorth_126 ?_
      refine zf_X2_24 (pc := 127) rfl rfl dX2_raiseWorth_127 ?_
      refine z_iload (pc := 130) rfl dX2_raiseWorth_130 ?_
      refine z_iald (pc := 132) rfl (by decide) (by omega) (by omega) dX2_raiseWorth_132 ?_
      refine z_iload (pc := 133) rfl dX2_raiseWorth_133 ?_
      refine z_mmin (pc := 135) lk_X2_84 (show ir (F2 14 ((x : Int).toNat)) by rw [Int.toNat_natCast]; exact ⟨by omega, by omega⟩) hmr ⟨by decide, by decide⟩ (Nat.le_of_ble_eq_true rfl) ⟨by decide, by decide⟩ dX2_raiseWorth_135 ?_
      refine z_iadd (pc := 138) dX2_raiseWorth_138 ?_
      refine z_iast (pc := 139) rfl (by decide) (by omega) (by omega) dX2_raiseWorth_139 ?_
      refine z_hp (show _ = zk g (va_up F2 13 (fun p => if p < x + 1 then F 13 p + min (F2 14 p) m else F 13 p)) L im c from zs_13.trans (congrArg (fun f => zk g f L im c) ?_)) ?_
      · rw [Int.toNat_natCast, bx_uu]
        refine congrArg (va_up F2 13) ?_
        funext p
        show vf_upd (fun p => if p < x then F 13 p + min (F2 14 p) m else F 13 p) x ((if x < x then F 13 x + min (F2 14 x) m else F 13 x) + min (F2 14 x) m) p = _
        unfold vf_upd
        by_cases hp : p = x
        · rw [if_pos hp, if_neg (by omega), if_pos (by omega), hp]
        · rw [if_neg hp]
          dsimp only
          by_cases hp2 : p < x
          · rw [if_pos hp2, if_pos (by omega)]
          · rw [if_neg hp2, if_neg (by omega)]
      refine z_ii5 (pc := 140) (by decide) rfl dX2_raiseWorth_140 ?_
      refine z_goto (pc := 143) 109 (by decide) dX2_raiseWorth_143 ?_
      exact ih (x + 1) (by omega)
  -- behind the search
  have fin0 : ∀ (F2 : Nat → Nat → Int) (t : Nat → Nat) (m : Int) (a3 a4 : Int), FC F F2 goal st m t → zJ l g RX2 cX2_raiseWorth 6 none "raiseWorth" (zRm 2 0 0) 0 0 (fun r h => r = none ∧ ∃ (F' : Nat → Nat → Int) (t : Nat → Nat), h = zk g F' L im c ∧ RW F F' goal st t) 0 0 88 [some (.ref (g.2.1 + 9)), some (.int (iz goal)), some (.int (iz st)), some (.int (iz a3)), some (.int (iz a4)), none] [] (zk g F2 L im c) := by
    intro F2 t m a3 a4 C
    have go1 := fin F2 t m C a3 a4 (nN F + 1) 0 (by omega)
    have k13 : F2 13 = F 13 := C.1 13 (by decide) (by decide) (by decide)
    have e0 : zk g F2 L im c = zk g (va_up F2 13 (fun p => if p < 0 then F 13 p + min (F2 14 p) m else F 13 p)) L im c := by
      refine congrArg (fun f => zk g f L im c) ?_
      funext k
      unfold va_up
      by_cases hk : k = 13
      · rw [if_pos hk, hk, k13]
        funext p
        rw [if_neg (by omega)]
      · rw [if_neg hk]
    refine z_iload_n (pc := 88) rfl dX2_raiseWorth_88 ?_
    refine z_iconst (pc := 89) dX2_raiseWorth_89 ?_
    refine z_icmp_ne (pc := 90) hsr ⟨by omega, by omega⟩ 98 (by decide) dX2_raiseWorth_90 (fun hq => ?_) (fun hq => ?_)
    · rcases C.2.2.2.2.2.2.2.2 with h9 | ⟨s, h1, h2, h3, h4⟩
      · exact absurd h9.1 hq
      · subst h1
        subst h4
        refine z_aload_n (pc := 98) rfl dX2_raiseWorth_98 ?_
        refine zf_X2_24 (pc := 99) rfl rfl dX2_raiseWorth_99 ?_
        refine z_iload_n (pc := 102) rfl dX2_raiseWorth_102 ?_
        refine z_iald (pc := 103) rfl (by decide) (by omega) (by omega) dX2_raiseWorth_103 ?_
        rw [Int.toNat_natCast]
        refine z_is4 (pc := 104) (by decide) rfl dX2_raiseWorth_104 ?_
        refine z_iconst (pc := 106) dX2_raiseWorth_106 ?_
        refine z_is5 (pc := 107) (by decide) rfl dX2_raiseWorth_107 ?_
        refine z_hp e0 ?_
        exact go1
    · rcases C.2.2.2.2.2.2.2.2 with h9 | ⟨s, h1, h2, h3, h4⟩
      · have hm := h9.2.1
        subst hm
        refine z_ldc (pc := 93) kc_X2_103 dX2_raiseWorth_93 ?_
        refine z_goto (pc := 95) 104 (by decide) dX2_raiseWorth_95 ?_
        refine z_is4 (pc := 104) (by decide) rfl dX2_raiseWorth_104 ?_
        refine z_iconst (pc := 106) dX2_raiseWorth_106 ?_
        refine z_is5 (pc := 107) (by decide) rfl dX2_raiseWorth_107 ?_
        refine z_hp e0 ?_
        exact go1
      · omega
  -- the search
  have loop : ∀ (j r : Nat) (F1 : Nat → Nat → Int) (p : Nat) (t : Nat → Nat), r + j = nN F + 1 → DI F F1 goal r t → NX F F1 goal r p → (∀ s : Nat, st = s → F1 16 s = 0) → zJ l g RX2 cX2_raiseWorth 6 none "raiseWorth" (zRm 2 0 0) 0 0 (fun r h => r = none ∧ ∃ (F' : Nat → Nat → Int) (t : Nat → Nat), h = zk g F' L im c ∧ RW F F' goal st t) 0 0 43 [some (.ref (g.2.1 + 9)), some (.int (iz goal)), some (.int (iz st)), some (.int (iz p)), some (.int (iz r)), none] [] (zk g F1 L im c) := by
    intro j
    induction j with
    | zero =>
      intro r F1 p t hr D X hs
      have := DI_sat R D X
      omega
    | succ j ih =>
      intro r F1 p t hr D X hs
      have hrn := DI_sat R D X
      have k9 : F1 9 = F 9 := D.1 9 (by decide) (by decide) (by decide)
      have hpn := X.1
      refine z_iload (pc := 43) rfl dX2_raiseWorth_43 ?_
      refine z_aload_n (pc := 45) rfl dX2_raiseWorth_45 ?_
      refine zf_X2_44 (pc := 46) rfl rfl dX2_raiseWorth_46 ?_
      rw [k9]
      refine z_icmp_gt (pc := 49) ⟨by omega, by omega⟩ ⟨by omega, by omega⟩ 88 (by decide) dX2_raiseWorth_49 (fun hq => ?_) (fun hq => ?_)
      · omega
      refine z_iload_n (pc := 52) rfl dX2_raiseWorth_52 ?_
      refine z_iconst (pc := 53) dX2_raiseWorth_53 ?_
      refine z_icmp_eq (pc := 54) ⟨by omega, by omega⟩ ⟨by omega, by omega⟩ 88 (by decide) dX2_raiseWorth_54 (fun hq => ?_) (fun hq => ?_)
      · omega
      refine z_aload_n (pc := 57) rfl dX2_raiseWorth_57 ?_
      refine zf_X2_30 (pc := 58) rfl rfl dX2_raiseWorth_58 ?_
      refine z_iload_n (pc := 61) rfl dX2_raiseWorth_61 ?_
      refine z_iconst (pc := 62) dX2_raiseWorth_62 ?_
      refine z_zast (pc := 63) rfl (by decide) (by omega) (by omega) (by omega) dX2_raiseWorth_63 ?_
      refine z_hp (show _ = zk g (va_up F1 16 (vf_upd (F1 16) p 1)) L im c by rw [Int.toNat_natCast]; exact zs_16) ?_
      obtain ⟨S1, S2, hp1, hu, ek, hcnt⟩ := DI_set R T N D X _ rfl
      generalize hF2 : va_up F1 16 (vf_upd (F1 16) p 1) = F2 at S1 S2 hp1 hu ek hcnt ⊢
      have enN : nN F2 = nN F := by unfold nN; rw [ek 9 (by decide), k9]
      refine z_iload_n (pc := 64) rfl dX2_raiseWorth_64 ?_
      refine z_iload_n (pc := 65) rfl dX2_raiseWorth_65 ?_
      refine z_icmp_ne (pc := 66) ⟨by omega, by omega⟩ hsr 72 (by decide) dX2_raiseWorth_66 (fun hq => ?_) (fun hq => ?_)
      rotate_left
      · -- the start is settled
        have hsp : st = p := hq.symm
        have e14 : F2 14 = F1 14 := ek 14 (by decide)
        have e15 : F2 15 = F1 15 := ek 15 (by decide)
        have hpg : p ≠ goal := by
          rcases hst with h | ⟨s, h1, h2, h3⟩
          · omega
          · intro e; exact h3 (by omega)
        have hr0 : 0 < r := by
          rcases Nat.eq_zero_or_pos r with h | h
          · exact absurd (X.2.2.2.2.1 h) hpg
          · exact h
        have hold : ∀ u, u ≠ p → (F2 16 u = 1 ↔ F1 16 u = 1) := fun u h => by rw [hu u h]
        have C : FC F F2 goal st (F2 14 p) (fun u => if u = p then r else t u) := by
          refine ⟨fun k h1 h2 h3 => (ek k h3).trans (D.1 k h1 h2 h3), S1, fun b u v hrs hv => ?_, fun u hun hnd => ?_, fun u hun h1 => ?_, fun u hun h1 hug => ?_, by rw [e14]; exact D.2.2.2.2.2.2.2, ?_, Or.inr ⟨p, hsp, hpn, hp1, rfl⟩⟩
          · have hvp : v ≠ p := fun e => hv.2 (by rw [e, hsp])
            rw [e14]
            exact D.2.2.2.1 b u v hrs ((hold v hvp).mp hv.1)
          · rw [e14]
            by_cases hup : u = p
            · rw [hup]; exact Int.le_refl _
            · have h0 : F1 16 u = 0 := by
                rcases D.2.1.2.2.2.2.2.2.2.2 u with h | h
                · exact h
                · exact absurd ⟨(hold u hup).mpr h, by omega⟩ hnd
              exact X.2.2.1 u hun h0
          · rw [e14]
            by_cases hup : u = p
            · dsimp only
              rw [if_pos hup, hup]
              exact ⟨Int.le_refl _, X.2.2.2.1, hrn⟩
            · dsimp only
              rw [if_neg hup]
              have h2 := (hold u hup).mp h1
              have h3 := D.2.2.2.2.2.2.1 u hun h2
              exact ⟨D.2.2.2.2.1 p u hpn hun h2 X.2.1, h3.2, by omega⟩
          · have hfar : F1 14 u < 1000000000 := by
              by_cases hup : u = p
              · rw [hup]; have := X.2.2.2.1; omega
              · have h3 := D.2.2.2.2.2.2.1 u hun ((hold u hup).mp h1)
                omega
            obtain ⟨b, v, k1, k2, k3, k4, k5⟩ := D.2.2.2.2.2.1 u hun hug hfar
            have hvp : v ≠ p := fun e => by rw [e] at k3; have := X.2.1; omega
            refine ⟨b, v, k1, by rw [e15]; exact k2, (hold v hvp).mpr k3, by rw [e14]; exact k4, ?_⟩
            show (if v = p then r else t v) < (if u = p then r else t u)
            rw [if_neg hvp]
            by_cases hup : u = p
            · rw [if_pos hup]; exact (D.2.2.2.2.2.2.1 v k1.2.1 k3).1
            · rw [if_neg hup]; exact k5 ((hold u hup).mp h1)
          · exact (hold goal (fun e => hpg e.symm)).mpr (X.2.2.2.2.2 hr0)
        refine z_goto (pc := 69) 88 (by decide) dX2_raiseWorth_69 ?_
        exact fin0 F2 _ _ p r C
      refine z_aload_n (pc := 72) rfl dX2_raiseWorth_72 ?_
      refine z_iload_n (pc := 73) rfl dX2_raiseWorth_73 ?_
      refine z_V1 (pc := 74) (c_reachThose S1 S2 (q := p) (by rw [enN]; exact hpn) hp1) lk_X2_104 iv_X2_reachThose rfl rfl ⟨by decide, by decide⟩ (Nat.le_of_ble_eq_true rfl) ⟨by decide, by decide⟩ dX2_raiseWorth_74 (fun r h9 hq => ?_)
      obtain ⟨rfl, F3, e8, hI, hCv⟩ := hq
      rw [e8]
      clear e8 h9
      refine z_r0 ?_
      obtain ⟨D3, g3, hnx, hback, hkeep⟩ := DI_next R T N D X hF2.symm hI hCv
      have hs3 : ∀ s : Nat, st = s → F3 16 s = 0 := fun s h => hkeep s (by omega) (hs s h)
      have k39 : F3 9 = F 9 := D3.1 9 (by decide) (by decide) (by decide)
      have enN3 : nN F3 = nN F := by unfold nN; rw [k39]
      refine z_aload_n (pc := 77) rfl dX2_raiseWorth_77 ?_
      refine z_V0 (pc := 78) (c_nearest D3.2.1) lk_X2_108 iv_X2_nearest rfl rfl ⟨by decide, by decide⟩ (Nat.le_of_ble_eq_true rfl) ⟨by decide, by decide⟩ dX2_raiseWorth_78 (fun r h9 hq => ?_)
      obtain ⟨⟨z, rfl, hz⟩, e8⟩ := hq
      rw [e8]
      clear e8 h9
      refine z_r1 ?_
      rw [enN3] at hz
      rcases hz with ⟨hz, hall⟩ | ⟨q, hz, hqn, hq0, hqm⟩
      · subst hz
        have hst1 : st = -1 := by
          rcases hst with h | ⟨s, h1, h2, h3⟩
          · exact h
          · have h4 := hs3 s h1
            have h5 := hall s h2
            omega
        have hr1 : r = nN F := by
          have h4 := cnt_yes (f := F3 16) (n := nN F + 1) (fun u hu => hall u (by omega))
          have h5 := D3.2.2.1
          omega
        have C : FC F F3 goal st 1000000000 (fun u => if u = p then r else t u) := by
          refine ⟨D3.1, D3.2.1, fun b u v hrs hv => D3.2.2.2.1 b u v hrs hv.1, fun u hun hnd => absurd ⟨hall u hun, by omega⟩ hnd, fun u hun h1 => ?_, fun u hun h1 hug => ?_, D3.2.2.2.2.2.2.2, g3, Or.inl ⟨hst1, rfl, hall⟩⟩
          · have h4 := D3.2.2.2.2.2.2.1 u hun h1
            exact ⟨by omega, h4.2, by omega⟩
          · have h4 := D3.2.2.2.2.2.2.1 u hun h1
            obtain ⟨b, v, k1, k2, k3, k4, k5⟩ := D3.2.2.2.2.2.1 u hun hug (by omega)
            exact ⟨b, v, k1, k2, k3, k4, k5 h1⟩
        refine z_is3 (pc := 81) (by decide) rfl dX2_raiseWorth_81 ?_
        refine z_ii4 (pc := 82) (by decide) rfl dX2_raiseWorth_82 ?_
        refine z_goto (pc := 85) 43 (by decide) dX2_raiseWorth_85 ?_
        refine z_iload (pc := 43) rfl dX2_raiseWorth_43 ?_
        refine z_aload_n (pc := 45) rfl dX2_raiseWorth_45 ?_
        refine zf_X2_44 (pc := 46) rfl rfl dX2_raiseWorth_46 ?_
        rw [k39]
        refine z_icmp_gt (pc := 49) ⟨by omega, by omega⟩ ⟨by omega, by omega⟩ 88 (by decide) dX2_raiseWorth_49 (fun hq => ?_) (fun hq => ?_)
        · exact fin0 F3 _ _ (-1) (r + 1) C
        omega
      · subst hz
        refine z_is3 (pc := 81) (by decide) rfl dX2_raiseWorth_81 ?_
        refine z_ii4 (pc := 82) (by decide) rfl dX2_raiseWorth_82 ?_
        refine z_goto (pc := 85) 43 (by decide) dX2_raiseWorth_85 ?_
        exact ih (r + 1) F3 q _ (by omega) D3 (hnx q hqn hq0 hqm) hs3
  -- the first loop
  have ini : ∀ (j x : Nat), x + j = nN F + 1 → zJ l g RX2 cX2_raiseWorth 6 none "raiseWorth" (zRm 2 0 0) 0 0 (fun r h => r = none ∧ ∃ (F' : Nat → Nat → Int) (t : Nat → Nat), h = zk g F' L im c ∧ RW F F' goal st t) 0 0 2 [some (.ref (g.2.1 + 9)), some (.int (iz goal)), some (.int (iz st)), some (.int (iz x)), none, none] [] (zk g (va_up (va_up F 14 (fl (F 14) 0 x 1000000000)) 16 (fl (F 16) 0 x 0)) L im c) := by
    intro j
    induction j with
    | zero =>
      intro x hx
      refine z_iload_n (pc := 2) rfl dX2_raiseWorth_2 ?_
      refine z_aload_n (pc := 3) rfl dX2_raiseWorth_3 ?_
      refine zf_X2_44 (pc := 4) rfl rfl dX2_raiseWorth_4 ?_
      refine z_icmp_gt (pc := 7) ⟨by omega, by omega⟩ (show ir (F 9 0) from ⟨by omega, by omega⟩) 31 (by decide) dX2_raiseWorth_7 (fun hq => ?_) (fun hq => ?_)
      · refine z_aload_n (pc := 31) rfl dX2_raiseWorth_31 ?_
        refine zf_X2_24 (pc := 32) rfl rfl dX2_raiseWorth_32 ?_
        refine z_iload_n (pc := 35) rfl dX2_raiseWorth_35 ?_
        refine z_iconst (pc := 36) dX2_raiseWorth_36 ?_
        refine z_iast (pc := 37) rfl (by decide) (by omega) (by omega) dX2_raiseWorth_37 ?_
        refine z_hp zs_14 ?_
        refine z_iload_n (pc := 38) rfl dX2_raiseWorth_38 ?_
        refine z_is3 (pc := 39) (by decide) rfl dX2_raiseWorth_39 ?_
        refine z_iconst (pc := 40) dX2_raiseWorth_40 ?_
        refine z_is4 (pc := 41) (by decide) rfl dX2_raiseWorth_41 ?_
        rw [show x = nN F + 1 by omega, Int.toNat_natCast]
        refine loop (nN F + 1) 0 _ goal (fun _ => 0) (by omega) ?_ ?_ ?_
        · have d16 : ∀ u, u ≤ nN F → fl (F 16) 0 (nN F + 1) 0 u = 0 := fun u hu => by unfold fl; rw [if_pos (by omega)]
          have d14 : ∀ u, u ≤ nN F → u ≠ goal → vf_upd (fl (F 14) 0 (nN F + 1) 1000000000) goal 0 u = 1000000000 := fun u hu hug => by unfold vf_upd fl; rw [if_neg hug, if_pos (by omega)]
          have dg : vf_upd (fl (F 14) 0 (nN F + 1) 1000000000) goal 0 goal = 0 := by unfold vf_upd; rw [if_pos rfl]
          refine ⟨fun k h1 h2 h3 => ?_, ?_, ?_, fun b u v hrs hv => ?_, fun u v hun hvn hv _ => ?_, fun u hun hug hfar => ?_, fun u hun hv => ?_, dg⟩
          · unfold va_up; rw [if_neg h1, if_neg h3, if_neg h1]
          · refine ⟨R.1, R.2.1, R.2.2.1, R.2.2.2.1, R.2.2.2.2.1, R.2.2.2.2.2.1, fun u => ?_, R.2.2.2.2.2.2.2.1, fun u => ?_⟩
            · show 0 ≤ vf_upd (fl (F 14) 0 (nN F + 1) 1000000000) goal 0 u ∧ vf_upd (fl (F 14) 0 (nN F + 1) 1000000000) goal 0 u ≤ 1000000000
              have h5 := R.2.2.2.2.2.2.1 u
              unfold vf_upd fl
              split
              · omega
              · split <;> omega
            · show fl (F 16) 0 (nN F + 1) 0 u = 0 ∨ fl (F 16) 0 (nN F + 1) 0 u = 1
              have h5 := R.2.2.2.2.2.2.2.2 u
              unfold fl
              split
              · exact Or.inl rfl
              · exact h5
          · exact sm_zero (fun u hu => d16 u (by omega))
          · have h5 := d16 v hrs.2.1
            have h6 : fl (F 16) 0 (nN F + 1) 0 v = 1 := hv
            omega
          · have h5 := d16 v hvn
            have h6 : fl (F 16) 0 (nN F + 1) 0 v = 1 := hv
            omega
          · have h5 := d14 u hun hug
            have h6 : vf_upd (fl (F 14) 0 (nN F + 1) 1000000000) goal 0 u < 1000000000 := hfar
            omega
          · have h5 := d16 u hun
            have h6 : fl (F 16) 0 (nN F + 1) 0 u = 1 := hv
            omega
        · have d14 : ∀ u, u ≤ nN F → u ≠ goal → vf_upd (fl (F 14) 0 (nN F + 1) 1000000000) goal 0 u = 1000000000 := fun u hu hug => by unfold vf_upd fl; rw [if_neg hug, if_pos (by omega)]
          have dg : vf_upd (fl (F 14) 0 (nN F + 1) 1000000000) goal 0 goal = 0 := by unfold vf_upd; rw [if_pos rfl]
          refine ⟨hg, ?_, fun u hun _ => ?_, ?_, fun _ => rfl, fun h => by omega⟩
          · show fl (F 16) 0 (nN F + 1) 0 goal = 0
            unfold fl; rw [if_pos (by omega)]
          · show vf_upd (fl (F 14) 0 (nN F + 1) 1000000000) goal 0 goal ≤ vf_upd (fl (F 14) 0 (nN F + 1) 1000000000) goal 0 u
            by_cases hug : u = goal
            · rw [hug]; exact Int.le_refl _
            · rw [dg, d14 u hun hug]; omega
          · show vf_upd (fl (F 14) 0 (nN F + 1) 1000000000) goal 0 goal ≤ _
            rw [dg]; omega
        · intro s hs
          show fl (F 16) 0 (nN F + 1) 0 s = 0
          rcases hst with h | ⟨s2, h1, h2, h3⟩
          · omega
          · unfold fl; rw [if_pos (by omega)]
      have hq2 : (x : Int) ≤ F 9 0 := hq
      omega
    | succ j ih =>
      intro x hx
      refine z_iload_n (pc := 2) rfl dX2_raiseWorth_2 ?_
      refine z_aload_n (pc := 3) rfl dX2_raiseWorth_3 ?_
      refine zf_X2_44 (pc := 4) rfl rfl dX2_raiseWorth_4 ?_
      refine z_icmp_gt (pc := 7) ⟨by omega, by omega⟩ (show ir (F 9 0) from ⟨by omega, by omega⟩) 31 (by decide) dX2_raiseWorth_7 (fun hq => ?_) (fun hq => ?_)
      · have hq2 : F 9 0 < (x : Int) := hq
        omega
      refine z_aload_n (pc := 10) rfl dX2_raiseWorth_10 ?_
      refine zf_X2_24 (pc := 11) rfl rfl dX2_raiseWorth_11 ?_
      refine z_iload_n (pc := 14) rfl dX2_raiseWorth_14 ?_
      refine z_ldc (pc := 15) kc_X2_103 dX2_raiseWorth_15 ?_
      refine z_iast (pc := 17) rfl (by decide) (by omega) (by omega) dX2_raiseWorth_17 ?_
      refine z_hp zs_14 ?_
      refine z_aload_n (pc := 18) rfl dX2_raiseWorth_18 ?_
      refine zf_X2_30 (pc := 19) rfl rfl dX2_raiseWorth_19 ?_
      refine z_iload_n (pc := 22) rfl dX2_raiseWorth_22 ?_
      refine z_iconst (pc := 23) dX2_raiseWorth_23 ?_
      refine z_zast (pc := 24) rfl (by decide) (by omega) (by omega) (by omega) dX2_raiseWorth_24 ?_
      refine z_hp zs_16 ?_
      rw [Int.toNat_natCast]
      refine z_hp (show _ = zk g (va_up (va_up F 14 (fl (F 14) 0 (x + 1) 1000000000)) 16 (fl (F 16) 0 (x + 1) 0)) L im c from congrArg (fun f => zk g f L im c) ?_) ?_
      · rw [← fl_s (F 14) 1000000000 (Nat.zero_le x), ← fl_s (F 16) 0 (Nat.zero_le x)]
        funext k
        unfold va_up
        by_cases h16 : k = 16
        · rw [if_pos h16, if_pos h16]; rfl
        · rw [if_neg h16, if_neg h16]
          by_cases h14 : k = 14
          · subst h14; rfl
          · rw [if_neg h14, if_neg h16, if_neg h14, if_neg h14]
      refine z_ii3 (pc := 25) (by decide) rfl dX2_raiseWorth_25 ?_
      refine z_goto (pc := 28) 2 (by decide) dX2_raiseWorth_28 ?_
      exact ih (x + 1) (by omega)
  refine z_iconst (pc := 0) dX2_raiseWorth_0 ?_
  refine z_is3 (pc := 1) (by decide) rfl dX2_raiseWorth_1 ?_
  refine z_hp (show _ = zk g (va_up (va_up F 14 (fl (F 14) 0 0 1000000000)) 16 (fl (F 16) 0 0 0)) L im c from congrArg (fun f => zk g f L im c) ?_) ?_
  · rw [fl_0, fl_0]
    funext k
    unfold va_up
    by_cases h16 : k = 16
    · rw [if_pos h16, h16]
    · rw [if_neg h16]
      by_cases h14 : k = 14
      · rw [if_pos h14, h14]
      · rw [if_neg h14]
  exact ini (nN F + 1) 0 (by omega)
end FLOW3
