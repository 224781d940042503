/-! ===== the reference: bestOf ===== -/
def Gs (F : Nat → Nat → Int) (u s lf f far fr : Nat → Int) : Nat → Nat → Int := fun q => if q = 33 then u else if q = 34 then s else if q = 35 then lf else if q = 36 then f else if q = 37 then far else if q = 38 then fr else F q
theorem Gs_37 (F : Nat → Nat → Int) (u s lf f far fr far2 fr2 : Nat → Int) : va_up (va_up (Gs F u s lf f far fr) 37 far2) 38 fr2 = Gs F u s lf f far2 fr2 := by
  funext q
  unfold va_up Gs
  by_cases h8 : q = 38
  · subst h8; rfl
  · by_cases h7 : q = 37
    · subst h7; rfl
    · simp [h8, h7]
theorem Gs_35 (F : Nat → Nat → Int) (u s lf f far fr lf2 f2 : Nat → Int) : va_up (va_up (Gs F u s lf f far fr) 35 lf2) 36 f2 = Gs F u s lf2 f2 far fr := by
  funext q
  unfold va_up Gs
  by_cases h6 : q = 36
  · subst h6; rfl
  · by_cases h5 : q = 35
    · subst h5; rfl
    · simp [h6, h5]
theorem Gs_of (F : Nat → Nat → Int) (u s lf f : Nat → Int) : va_up (va_up (va_up (va_up F 33 u) 34 s) 35 lf) 36 f = Gs F u s lf f (F 37) (F 38) := by
  funext q
  unfold va_up Gs
  by_cases h6 : q = 36
  · subst h6; rfl
  · by_cases h5 : q = 35
    · subst h5; rfl
    · by_cases h4 : q = 34
      · subst h4; rfl
      · by_cases h3 : q = 33
        · subst h3; rfl
        · by_cases h7 : q = 37
          · subst h7; rfl
          · by_cases h8 : q = 38
            · subst h8; rfl
            · simp [h6, h5, h4, h3, h7, h8]
def rst (lf : Nat → Int) (n : Nat) : Int := sm (fun v => max 0 (lf v)) (n + 1)
theorem rst_pos (lf : Nat → Int) (n : Nat) : 0 ≤ rst lf n := by
  have h1 := sm_le (f := fun _ => 0) (g := fun v => max 0 (lf v)) (n := n + 1) (fun j hj => by show (0 : Int) ≤ max 0 (lf j); omega)
  rw [sm_zero (f := fun _ => 0) (fun _ _ => rfl)] at h1
  exact h1
/-- what holds between two sendings -/
def BL (n : Nat) (s u lf f φ : Nat → Int) (Q0 : Int) : Prop := fz n s f u φ ∧ (∀ v, v ≤ n → -(40000 * (Q0 - rst lf n)) ≤ φ v ∧ φ v ≤ 40000) ∧ (∀ j, 0 ≤ f j ∧ f j ≤ Q0 - rst lf n) ∧ (∀ j, 0 < f j → ∃ a b, a ≤ n ∧ b ≤ n ∧ j = 41 * a + b ∧ 0 < s a ∧ s b < 0) ∧ (∀ w, Ey f w + sm (fun v => lf v * w v) (n + 1) = sm (fun v => s v * w v) (n + 1)) ∧ ∀ v, v ≤ n → (0 < s v → 0 ≤ lf v ∧ lf v ≤ s v) ∧ (s v < 0 → s v ≤ lf v ∧ lf v ≤ 0) ∧ (s v = 0 → lf v = 0)
theorem BL_next {F : Nat → Nat → Int} {n : Nat} {φ far fr lf2 f2 : Nat → Int} {t : Nat → Nat} {T e : Nat} {Q0 : Int} (hn : n ≤ 40) (hu : ∀ a b, a ≤ n → b ≤ n → 0 ≤ F 33 (41 * a + b) ∧ F 33 (41 * a + b) ≤ 40000) (hB : BL n (F 34) (F 33) (F 35) (F 36) φ Q0) (hN : NI n (F 34) (F 36) (F 33) (F 35) φ far fr t T) (hE : ∀ a b, ra (F 34) (F 36) n a b → far a < 1000000000 → far b ≤ far a + cst (F 34) (F 33) a b) (he : e ≤ n) (hel : F 35 e < 0) (hS : SO F n far lf2 f2 e) : BL n (F 34) (F 33) lf2 f2 (fun v => min (far v) 40000) Q0 ∧ rst lf2 n < rst (F 35) n := by
  obtain ⟨rt, m, m1, m2, m3, m4, m5, m6, m7, m8, m9⟩ := hS
  obtain ⟨h1, h2, h3, h4, h5, h6⟩ := hB
  have hne : e ≠ rt := fun h => by rw [h] at hel; omega
  have srt : 0 < F 34 rt := by
    have := h6 rt m2
    rcases Int.lt_trichotomy (F 34 rt) 0 with h | h | h
    · have := this.2.1 h; omega
    · have := this.2.2 h; omega
    · exact h
  have frt := hN.2.2.2 rt m2 m3
  have sink : ∀ b, b ≤ n → F 34 b < 0 → far b ≤ 40000 := fun b hb hs => by
    have q := hE rt b ⟨m2, hb, Or.inl ⟨srt, hs⟩⟩ (by omega)
    have q2 := hu rt b m2 hb
    unfold cst at q
    rw [if_pos srt] at q
    omega
  have reach : ∀ v, v ≤ n → far v < 1000000000 → far v ≤ 40000 := fun v hv hf => by
    rcases hN.2.1 v hv with ⟨-, h | h⟩ | ⟨a, a1, a2, a3, a4, a5, a6⟩
    · omega
    · omega
    · rcases a2.2.2 with h | h
      · exact sink v hv h.2
      · have q := hE a v a2 a3
        have q2 := hu v a hv a2.1
        have q3 := sink a a2.1 h.1
        unfold cst at q
        rw [if_neg (by omega)] at q
        omega
  have hf2 : fz n (F 34) f2 (F 33) (fun v => min (far v) 40000) := by
    intro a b hr
    show min (far b) 40000 ≤ min (far a) 40000 + cst (F 34) (F 33) a b
    have qa := hu a b hr.1 hr.2.1
    have qb := hu b a hr.2.1 hr.1
    rcases hr.2.2 with h | h
    · have k1 := sink b hr.2.1 h.2
      have kc : cst (F 34) (F 33) a b = F 33 (41 * a + b) := by unfold cst; rw [if_pos h.1]
      by_cases hfa : far a < 1000000000
      · have q := hE a b ⟨hr.1, hr.2.1, Or.inl h⟩ hfa
        have := reach a hr.1 hfa
        omega
      · omega
    · have k1 := sink a hr.1 h.1
      have kc : cst (F 34) (F 33) a b = -F 33 (41 * b + a) := by unfold cst; rw [if_neg (by omega)]
      rcases m9 _ h.2.2 with h8 | ⟨a2, b2, g1, g2, g3, g4, g5, g6⟩
      · have q := hE a b ⟨hr.1, hr.2.1, Or.inr ⟨h.1, h.2.1, h8⟩⟩ (by omega)
        omega
      · have hb := hr.2.1
        have ha := hr.1
        have e1 : a2 = b := by omega
        have e2 : b2 = a := by omega
        subst e1
        subst e2
        omega
  have hrs : rst lf2 n = rst (F 35) n - m := by
    unfold rst
    have e1 : (fun v => max 0 (lf2 v)) = vf_upd (vf_upd (fun v => max 0 (F 35 v)) rt (F 35 rt - m)) e 0 := by
      funext v
      rw [m6]
      unfold vf_upd
      by_cases q1 : v = e
      · rw [if_pos q1, if_pos q1]; omega
      · rw [if_neg q1, if_neg q1]
        by_cases q2 : v = rt
        · rw [if_pos q2, if_pos q2]; omega
        · rw [if_neg q2, if_neg q2]
    rw [e1, sm_upd (by omega), sm_upd (by omega)]
    have e2 : vf_upd (fun v => max 0 (F 35 v)) rt (F 35 rt - m) e = max 0 (F 35 e) := by unfold vf_upd; rw [if_neg hne]
    rw [e2]
    show _ - max 0 (F 35 rt) + _ - _ + 0 = _
    omega
  refine ⟨⟨hf2, fun v hv => ?_, fun j => ?_, fun j hj => ?_, fun w => ?_, fun v hv => ?_⟩, by omega⟩
  · have q1 := hN.1 v hv
    have q2 := h2 v hv
    rw [hrs]
    show -(40000 * (Q0 - (rst (F 35) n - m))) ≤ min (far v) 40000 ∧ min (far v) 40000 ≤ 40000
    have q3 := rst_pos (F 35) n
    have q4 : (h3 0).1 = (h3 0).1 := rfl
    have q5 := h3 0
    omega
  · have q1 := m8 j
    have q2 := h3 j
    rw [hrs]
    omega
  · rcases m9 j hj with h | ⟨a, b, g1, g2, g3, g4, g5, g6⟩
    · exact h4 j h
    · exact ⟨a, b, g1, g2, g3, g4, g5⟩
  · rw [m7 w]
    have e1 : (fun v => lf2 v * w v) = vf_upd (vf_upd (fun v => F 35 v * w v) rt ((F 35 rt - m) * w rt)) e ((F 35 e + m) * w e) := by
      funext v
      rw [m6]
      unfold vf_upd
      by_cases q1 : v = e
      · rw [if_pos q1, if_pos q1, q1]
      · rw [if_neg q1, if_neg q1]
        by_cases q2 : v = rt
        · rw [if_pos q2, if_pos q2, q2]
        · rw [if_neg q2, if_neg q2]
    rw [e1, sm_upd (by omega), sm_upd (by omega)]
    have e2 : vf_upd (fun v => F 35 v * w v) rt ((F 35 rt - m) * w rt) e = F 35 e * w e := by unfold vf_upd; rw [if_neg hne]
    rw [e2]
    have q := h5 w
    have g1 : (F 35 rt - m) * w rt = F 35 rt * w rt - m * w rt := Int.sub_mul _ _ _
    have g2 : (F 35 e + m) * w e = F 35 e * w e + m * w e := Int.add_mul _ _ _
    have g3 : m * (w rt - w e) = m * w rt - m * w e := Int.mul_sub _ _ _
    rw [g1, g2, g3]
    show Ey (F 36) w + (m * w rt - m * w e) + (sm (fun v => F 35 v * w v) (n + 1) - F 35 rt * w rt + (F 35 rt * w rt - m * w rt) - F 35 e * w e + (F 35 e * w e + m * w e)) = _
    omega
  · have q := h6 v hv
    rw [m6]
    unfold vf_upd
    by_cases q1 : v = e
    · rw [if_pos q1]
      subst q1
      refine ⟨fun h => ?_, fun h => ?_, fun h => ?_⟩
      · have := q.1 h; omega
      · have := q.2.1 h; omega
      · have := q.2.2 h; omega
    · rw [if_neg q1]
      by_cases q2 : v = rt
      · rw [if_pos q2]
        subst q2
        refine ⟨fun h => ?_, fun h => ?_, fun h => ?_⟩
        · have := q.1 h; omega
        · omega
        · omega
      · rw [if_neg q2]; exact q
theorem sm_all0 {f : Nat → Int} : ∀ {n : Nat}, (∀ j, j < n → f j ≤ 0) → sm f n = 0 → ∀ j, j < n → f j = 0
  | 0, _, _, j, h => absurd h (Nat.not_lt_zero j)
  | n + 1, h, hs, j, hj => by
    have h1 := sm_le (f := f) (g := fun _ => 0) (n := n) (fun j hj => h j (by omega))
    rw [sm_zero (f := fun _ => 0) (fun _ _ => rfl)] at h1
    have h2 := h n (by omega)
    have hs' : sm f n + f n = 0 := hs
    by_cases e : j = n
    · subst e; omega
    · exact sm_all0 (n := n) (fun j hj => h j (by omega)) (by omega) j (by omega)
theorem sm_neg {f : Nat → Int} : ∀ {n : Nat}, sm f n < 0 → ∃ j, j < n ∧ f j < 0
  | 0, h => absurd h (Int.lt_irrefl 0)
  | n + 1, h => by
    have h' : sm f n + f n < 0 := h
    by_cases h1 : f n < 0
    · exact ⟨n, by omega, h1⟩
    · obtain ⟨j, a, b⟩ := sm_neg (f := f) (n := n) (by omega)
      exact ⟨j, by omega, b⟩
theorem BL_end {F : Nat → Nat → Int} {n : Nat} {φ far fr d : Nat → Int} {t : Nat → Nat} {T : Nat} {Q0 : Int} (hu : ∀ a b, a ≤ n → b ≤ n → 0 ≤ F 33 (41 * a + b) ∧ F 33 (41 * a + b) ≤ 40000) (hs : ∀ v, v ≤ n → F 34 v = sdn d n v) (hB : BL n (F 34) (F 33) (F 35) (F 36) φ Q0) (hN : NI n (F 34) (F 36) (F 33) (F 35) φ far fr t T) (hE : ∀ a b, ra (F 34) (F 36) n a b → far a < 1000000000 → far b ≤ far a + cst (F 34) (F 33) a b) (hz : ∀ v, v ≤ n → F 35 v < 0 → 1000000000 ≤ far v) : ∀ w, Ey (F 36) w = dv d w n := by
  obtain ⟨h1, h2, h3, h4, h5, h6⟩ := hB
  have hsd : ∀ w : Nat → Int, sm (fun v => F 34 v * w v) (n + 1) = dv d w n := fun w => by
    rw [← sm_parts]
    exact sm_cong (fun j hj => by rw [hs j (by omega)])
  have hsum : sm (F 35) (n + 1) = 0 := by
    have q := h5 (fun _ => 1)
    rw [hsd] at q
    have e1 : Ey (F 36) (fun _ => 1) = 0 := sm_zero (fun j _ => by show F 36 j * (1 - 1) = 0; rw [Int.sub_self, Int.mul_zero])
    have e2 : dv d (fun _ => 1) n = 0 := sm_zero (fun j _ => by show d j * (1 - 1) = 0; rw [Int.sub_self, Int.mul_zero])
    have e3 : sm (fun v => F 35 v * 1) (n + 1) = sm (F 35) (n + 1) := sm_cong (fun j _ => Int.mul_one _)
    rw [e1, e2] at q
    rw [← e3]
    omega
  have hle : ∀ v, v ≤ n → F 35 v ≤ 0 := fun v hv => by
    refine Classical.byContradiction fun hc => ?_
    have hpos : 0 < F 35 v := by omega
    have hneg : ∃ j, j < n + 1 ∧ F 35 j < 0 := by
      refine Classical.byContradiction fun hno => ?_
      have hge : ∀ j, j < n + 1 → 0 ≤ F 35 j := fun j hj => by
        refine Classical.byContradiction fun h0 => hno ⟨j, hj, by omega⟩
      have q := sm_upd (f := F 35) (i := v) (v := 0) (n := n + 1) (by omega)
      have q2 := sm_le (f := fun _ => 0) (g := vf_upd (F 35) v 0) (n := n + 1) (fun j hj => by
        show (0 : Int) ≤ vf_upd (F 35) v 0 j
        unfold vf_upd
        split
        · exact Int.le_refl 0
        · exact hge j hj)
      rw [sm_zero (f := fun _ => 0) (fun _ _ => rfl)] at q2
      omega
    obtain ⟨b, hb1, hb2⟩ := hneg
    have sv : 0 < F 34 v := by
      have := h6 v hv
      rcases Int.lt_trichotomy (F 34 v) 0 with h | h | h
      · have := this.2.1 h; omega
      · have := this.2.2 h; omega
      · exact h
    have sb : F 34 b < 0 := by
      have := h6 b (by omega)
      rcases Int.lt_trichotomy (F 34 b) 0 with h | h | h
      · exact h
      · have := this.2.2 h; omega
      · have := this.1 h; omega
    have fv := hN.2.2.2 v hv hpos
    have q := hE v b ⟨hv, by omega, Or.inl ⟨sv, sb⟩⟩ (by omega)
    have q2 := hu v b hv (by omega)
    have q3 := hz b (by omega) hb2
    unfold cst at q
    rw [if_pos sv] at q
    omega
  have hall := sm_all0 (f := F 35) (n := n + 1) (fun j hj => hle j (by omega)) hsum
  intro w
  have q := h5 w
  rw [hsd, sm_zero (f := fun v => F 35 v * w v) (fun j hj => by show F 35 j * w j = 0; rw [hall j hj, Int.zero_mul])] at q
  omega
theorem wys_bd {F : Nat → Nat → Int} {k : Nat} {u : Nat → Int} (B : bi F 1) (h : wys F k u) : ∀ a b, a ≤ (F 1 0).toNat → b ≤ (F 1 0).toNat → 0 ≤ u (41 * a + b) ∧ u (41 * a + b) ≤ 40000 := by
  have b1 := bi_hours B
  have b2 := bi_rates B k
  have up : ∀ q a, a + q ≤ (F 1 0).toNat → u (41 * a + (a + q)) ≤ 1000 * q := by
    intro q
    induction q with
    | zero => intro a ha; have := h.1.2.1 a (by omega); show u (41 * a + a) ≤ _; omega
    | succ q ih =>
      intro a ha
      have h1 := ih a (by omega)
      have h2 := (h.2.2.1 (a + q) (by omega)).1
      have h3 := h.2.1 (a + q) (by omega) a (a + (q + 1)) (by omega) (by omega)
      rw [show a + (q + 1) = a + q + 1 by omega] at h3 ⊢
      omega
  have dn : ∀ q a, a + q ≤ (F 1 0).toNat → u (41 * (a + q) + a) ≤ 0 := by
    intro q
    induction q with
    | zero => intro a ha; have := h.1.2.1 a (by omega); show u (41 * a + a) ≤ _; omega
    | succ q ih =>
      intro a ha
      have h1 := ih a (by omega)
      have h2 := (h.2.2.1 (a + q) (by omega)).2
      have h3 := h.2.1 (a + q) (by omega) (a + (q + 1)) a (by omega) (by omega)
      rw [show a + (q + 1) = a + q + 1 by omega] at h3 ⊢
      omega
  intro a b ha hb
  refine ⟨(h.1.1 a b ha hb).1, ?_⟩
  by_cases hab : a ≤ b
  · have := up (b - a) a (by omega)
    rw [show a + (b - a) = b by omega] at this
    omega
  · have := dn (a - b) b (by omega)
    rw [show b + (a - b) = a by omega] at this
    omega
/-- what bestOf leaves -/
def BO (F : Nat → Nat → Int) (k : Nat) (d u s f φ : Nat → Int) : Prop := wys F k u ∧ fz (F 1 0).toNat s f u φ ∧ (∀ v, v ≤ (F 1 0).toNat → -1000000000 ≤ φ v ∧ φ v ≤ 40000) ∧ (∀ j, 0 ≤ f j ∧ f j ≤ 100000000) ∧ (∀ j, 0 < f j → ∃ a b, a ≤ (F 1 0).toNat ∧ b ≤ (F 1 0).toNat ∧ j = 41 * a + b ∧ 0 < s a ∧ s b < 0) ∧ ∀ w, Ey f w = dv d w (F 1 0).toNat
section REF6
variable {l : Launch} {g : zG} {F : Nat → Nat → Int} {L : Nat → Int} {im : Nat → Option Nat} {c : Nat}
theorem m_bestOf (B : bi F 1) (hr : rl F 1 0) {k : Nat} (hk : k < 3) (hkk : (k : Int) < F 1 1) {hour more : Int} (hh : ir hour) (hm : -60 ≤ more ∧ more ≤ 60) : zM l g yX5_bestOf cX5_bestOf 9 (some .long) 3 0 0 [.ref (g.2.1 + 23), .int (iz k), .int (iz hour), .int (iz more)] (zk g F L im c) (fun r h => ∃ u s lf f far fr φ : Nat → Int, r = some (.long (lz (sm (fun j => f j * u j) 1681))) ∧ h = zk g (Gs F u s lf f far fr) L im c ∧ BO F k (nd2 F k hour more) u s f φ) := by
  refine zM_of 5 (by decide) rfl ?_
  show zJ l g RX5 cX5_bestOf 9 (some .long) "bestOf" (zRm 3 0 0) 0 0 _ 0 0 0 [some (.ref (g.2.1 + 23)), some (.int (iz k)), some (.int (iz hour)), some (.int (iz more)), none, none, none, none, none] [] _
  have b1 := bi_hours B
  have h240 : F 24 0 = F 1 0 := hr.1
  have nd : ∀ t, 0 ≤ nd2 F k hour more t ∧ nd2 F k hour more t ≤ 96 := fun t => by
    have := nda_bd B k t
    unfold nd2
    split <;> omega
  have sd : ∀ v, -96 ≤ sdn (nd2 F k hour more) (F 1 0).toNat v ∧ sdn (nd2 F k hour more) (F 1 0).toNat v ≤ 96 := fun v => by
    have q1 := nd v
    have q2 := nd (v - 1)
    unfold sdn ddn
    split <;> split <;> (try split) <;> omega
  -- the sum at the end
  have tot : ∀ (u s lf f far fr φ : Nat → Int), BO F k (nd2 F k hour more) u s f φ → ∀ (j x : Nat) (w5 : Int), x + j = 1681 → zJ l g RX5 cX5_bestOf 9 (some .long) "bestOf" (zRm 3 0 0) 0 0 (fun r h => ∃ u s lf f far fr φ : Nat → Int, r = some (.long (lz (sm (fun j => f j * u j) 1681))) ∧ h = zk g (Gs F u s lf f far fr) L im c ∧ BO F k (nd2 F k hour more) u s f φ) 0 0 108 [some (.ref (g.2.1 + 23)), some (.int (iz k)), some (.int (iz hour)), some (.int (iz more)), some (.int (iz (F 1 0))), some (.int (iz w5)), some (.long (lz (sm (fun j => f j * u j) x))), none, some (.int (iz x))] [] (zk g (Gs F u s lf f far fr) L im c) := by
    intro u s lf f far fr φ hO j
    induction j with
    | zero =>
      intro x w5 hx
      refine z_iload (pc := 108) rfl dX5_bestOf_108 ?_
      refine z_sipush (pc := 110) (by decide) dX5_bestOf_110 ?_
      refine z_icmp_ge (pc := 113) ⟨by omega, by omega⟩ ⟨by omega, by omega⟩ 158 (by decide) dX5_bestOf_113 (fun hq => ?_) (fun hq => ?_)
      · refine z_lload (pc := 158) rfl dX5_bestOf_158 ?_
        exact z_retl (pc := 160) rfl (by decide) (by decide) dX5_bestOf_160 ⟨u, s, lf, f, far, fr, φ, by rw [show x = 1681 by omega], rfl, hO⟩
      omega
    | succ j ih =>
      intro x w5 hx
      have q1 := hO.2.2.2.1 x
      have nxt : ∀ v : Int, v = f x * u x → zJ l g RX5 cX5_bestOf 9 (some .long) "bestOf" (zRm 3 0 0) 0 0 (fun r h => ∃ u s lf f far fr φ : Nat → Int, r = some (.long (lz (sm (fun j => f j * u j) 1681))) ∧ h = zk g (Gs F u s lf f far fr) L im c ∧ BO F k (nd2 F k hour more) u s f φ) 0 0 149 [some (.ref (g.2.1 + 23)), some (.int (iz k)), some (.int (iz hour)), some (.int (iz more)), some (.int (iz (F 1 0))), some (.int (iz w5)), some (.long (lz (sm (fun j => f j * u j) x))), none, some (.int (iz x))] [.long (lz v), .long (lz (sm (fun j => f j * u j) x))] (zk g (Gs F u s lf f far fr) L im c) := by
        intro v hv
        subst hv
        refine z_ladd (pc := 149) dX5_bestOf_149 ?_
        refine z_ls6 (pc := 150) (by decide) rfl dX5_bestOf_150 ?_
        refine z_ii8 (pc := 152) (by decide) rfl dX5_bestOf_152 ?_
        refine z_goto (pc := 155) 108 (by decide) dX5_bestOf_155 ?_
        exact ih (x + 1) _ (by omega)
      refine z_iload (pc := 108) rfl dX5_bestOf_108 ?_
      refine z_sipush (pc := 110) (by decide) dX5_bestOf_110 ?_
      refine z_icmp_ge (pc := 113) ⟨by omega, by omega⟩ ⟨by omega, by omega⟩ 158 (by decide) dX5_bestOf_113 (fun hq => ?_) (fun hq => ?_)
      · omega
      refine z_lload (pc := 116) rfl dX5_bestOf_116 ?_
      refine z_aload_n (pc := 118) rfl dX5_bestOf_118 ?_
      refine zf_X5_46 (pc := 119) rfl rfl dX5_bestOf_119 ?_
      refine z_iload (pc := 122) rfl dX5_bestOf_122 ?_
      refine z_iald (pc := 124) rfl (by decide) (by omega) (by omega) dX5_bestOf_124 ?_
      rw [Int.toNat_natCast]
      refine z_if_le (pc := 125) (show ir (f x) from ⟨by omega, by omega⟩) 148 (by decide) dX5_bestOf_125 (fun hq => ?_) (fun hq => ?_)
      · have hq2 : f x ≤ 0 := hq
        refine z_lconst (pc := 148) (v := 0) (by decide) dX5_bestOf_148 ?_
        exact nxt 0 (by rw [show f x = 0 by omega, Int.zero_mul])
      have q2 : ir (u x) := by
        have hq2 : 0 < f x := hq
        obtain ⟨a, b, h1, h2, h3, -, -⟩ := hO.2.2.2.2.1 x hq2
        have := wys_bd B hO.1 a b h1 h2
        rw [h3]
        exact ⟨by omega, by omega⟩
      refine z_aload_n (pc := 128) rfl dX5_bestOf_128 ?_
      refine zf_X5_46 (pc := 129) rfl rfl dX5_bestOf_129 ?_
      refine z_iload (pc := 132) rfl dX5_bestOf_132 ?_
      refine z_iald (pc := 134) rfl (by decide) (by omega) (by omega) dX5_bestOf_134 ?_
      rw [Int.toNat_natCast]
      refine z_i2l (pc := 135) (show ir (f x) from ⟨by omega, by omega⟩) dX5_bestOf_135 ?_
      refine z_aload_n (pc := 136) rfl dX5_bestOf_136 ?_
      refine zf_X5_37 (pc := 137) rfl rfl dX5_bestOf_137 ?_
      refine z_iload (pc := 140) rfl dX5_bestOf_140 ?_
      refine z_iald (pc := 142) rfl (by decide) (by omega) (by omega) dX5_bestOf_142 ?_
      rw [Int.toNat_natCast]
      refine z_i2l (pc := 143) (show ir (u x) from q2) dX5_bestOf_143 ?_
      refine z_lmul (pc := 144) dX5_bestOf_144 ?_
      refine z_goto (pc := 145) 149 (by decide) dX5_bestOf_145 ?_
      exact nxt _ rfl
  refine z_aload_n (pc := 0) rfl dX5_bestOf_0 ?_
  refine zf_X5_7 (pc := 1) rfl rfl dX5_bestOf_1 ?_
  refine z_iconst (pc := 4) dX5_bestOf_4 ?_
  refine z_iald (pc := 5) rfl (by decide) (by omega) (by omega) dX5_bestOf_5 ?_
  rw [show F 24 (0 : Int).toNat = F 1 0 from h240]
  refine z_is4 (pc := 6) (by decide) rfl dX5_bestOf_6 ?_
  refine z_aload_n (pc := 8) rfl dX5_bestOf_8 ?_
  refine z_iload_n (pc := 9) rfl dX5_bestOf_9 ?_
  refine z_V1 (pc := 10) (m_findWays B hr hk hkk) lk_X5_127 iv_X5_findWays rfl rfl ⟨by decide, by decide⟩ (Nat.le_of_ble_eq_true rfl) ⟨by decide, by decide⟩ dX5_bestOf_10 (fun r h9 hq => ?_)
  obtain ⟨rfl, u, e8, hU⟩ := hq
  rw [e8]
  clear e8 h9
  refine z_r0 ?_
  refine z_aload_n (pc := 13) rfl dX5_bestOf_13 ?_
  refine z_iload_n (pc := 14) rfl dX5_bestOf_14 ?_
  refine z_iload_n (pc := 15) rfl dX5_bestOf_15 ?_
  refine z_iload_n (pc := 16) rfl dX5_bestOf_16 ?_
  refine z_V3 (pc := 17) (m_findSends (F := va_up F 33 u) (bi_cong (fun q hq => by unfold va_up; rw [if_neg (by omega)]) B) hr hk hh hm) lk_X5_130 iv_X5_findSends rfl rfl ⟨by decide, by decide⟩ (Nat.le_of_ble_eq_true rfl) ⟨by decide, by decide⟩ dX5_bestOf_17 (fun r h9 hq => ?_)
  obtain ⟨rfl, s, e8, hS⟩ := hq
  rw [e8]
  clear e8 h9
  refine z_r0 ?_
  have hS2 : ∀ t, t ≤ (F 1 0).toNat → s t = sdn (nd2 F k hour more) (F 1 0).toNat t := hS
  have ub := wys_bd B hU
  -- sending, as long as an end is found
  have send : ∀ (ρ : Nat) (lf f far fr φ : Nat → Int) (z : Int) (y6 y7 y8 : Option Value) (Q0 : Int), Q0 ≤ 4000 → rst lf (F 1 0).toNat < ρ → BL (F 1 0).toNat s u lf f φ Q0 → (∃ (t : Nat → Nat) (T : Nat), NE (Gs F u s lf f far fr) (F 1 0).toNat φ far fr t T z) → zJ l g RX5 cX5_bestOf 9 (some .long) "bestOf" (zRm 3 0 0) 0 0 (fun r h => ∃ u s lf f far fr φ : Nat → Int, r = some (.long (lz (sm (fun j => f j * u j) 1681))) ∧ h = zk g (Gs F u s lf f far fr) L im c ∧ BO F k (nd2 F k hour more) u s f φ) 0 0 81 [some (.ref (g.2.1 + 23)), some (.int (iz k)), some (.int (iz hour)), some (.int (iz more)), some (.int (iz (F 1 0))), some (.int (iz z)), y6, y7, y8] [] (zk g (Gs F u s lf f far fr) L im c) := by
    intro ρ
    induction ρ with
    | zero =>
      intro lf f far fr φ z y6 y7 y8 Q0 hQ hρ hB hNE
      have := rst_pos lf (F 1 0).toNat
      omega
    | succ ρ ih =>
      intro lf f far fr φ z y6 y7 y8 Q0 hQ hρ hB hNE
      obtain ⟨t, T, hN, hE, hz⟩ := hNE
      have rp := rst_pos lf (F 1 0).toNat
      refine z_iload (pc := 81) rfl dX5_bestOf_81 ?_
      refine z_iconst (pc := 83) dX5_bestOf_83 ?_
      rcases hz with ⟨hz1, hz2⟩ | ⟨e, hz1, hz2, hz3, hz4⟩
      · subst hz1
        refine z_icmp_eq (pc := 84) ⟨by omega, by omega⟩ ⟨by omega, by omega⟩ 102 (by decide) dX5_bestOf_84 (fun hq => ?_) (fun hq => ?_)
        · have hO : BO F k (nd2 F k hour more) u s f φ := by
            refine ⟨hU, hB.1, fun v hv => ?_, fun j => ?_, hB.2.2.2.1, BL_end (F := Gs F u s lf f far fr) ub hS2 hB hN hE hz2⟩
            · have := hB.2.1 v hv
              omega
            · have := hB.2.2.1 j
              omega
          refine z_lconst (pc := 102) (v := 0) (by decide) dX5_bestOf_102 ?_
          refine z_ls6 (pc := 103) (by decide) rfl dX5_bestOf_103 ?_
          refine z_iconst (pc := 105) dX5_bestOf_105 ?_
          refine z_is8 (pc := 106) (by decide) rfl dX5_bestOf_106 ?_
          exact tot u s lf f far fr φ hO 1681 0 _ (by omega)
        omega
      · subst hz1
        refine z_icmp_eq (pc := 84) ⟨by omega, by omega⟩ ⟨by omega, by omega⟩ 102 (by decide) dX5_bestOf_84 (fun hq => ?_) (fun hq => ?_)
        · omega
        obtain ⟨rk, hCH⟩ := NE_CH hN hE
        have Bg : bi (Gs F u s lf f far fr) 1 := bi_cong (fun q hq => by unfold Gs; rw [if_neg (by omega), if_neg (by omega), if_neg (by omega), if_neg (by omega), if_neg (by omega), if_neg (by omega)]) B
        have sb : ∀ v, v ≤ (F 1 0).toNat → -1000 ≤ s v ∧ s v ≤ 1000 := fun v hv => by rw [hS2 v hv]; have := sd v; omega
        have lb : ∀ v, v ≤ (F 1 0).toNat → -1000 ≤ lf v ∧ lf v ≤ 1000 := fun v hv => by
          have q1 := hB.2.2.2.2.2 v hv
          have q2 := sb v hv
          rcases Int.lt_trichotomy (s v) 0 with h | h | h
          · have := q1.2.1 h; omega
          · have := q1.2.2 h; omega
          · have := q1.1 h; omega
        have fb3 : ∀ j, 0 ≤ f j ∧ f j ≤ 100000000 := fun j => by have := hB.2.2.1 j; omega
        have hfrb : ∀ v, v ≤ (F 1 0).toNat → -1 ≤ fr v ∧ fr v ≤ (F 1 0).toNat := fun v hv => by
          rcases hN.2.1 v hv with h1 | ⟨a, a1, a2, -⟩
          · have : fr v = -1 := h1.1
            omega
          · have h5 : fr v = (a : Int) := a1
            have h6 := a2.1
            omega
        have hrtb : ∀ v, v ≤ (F 1 0).toNat → far v < 1000000000 → fr v = -1 → 0 < lf v := fun v hv h1 h2 => by
          rcases hN.2.1 v hv with ⟨h3, h4 | h4⟩ | ⟨a, a1, -⟩
          · exact h4.2
          · omega
          · have h6 : fr v = (a : Int) := a1
            omega
        refine z_aload_n (pc := 87) rfl dX5_bestOf_87 ?_
        refine z_iload (pc := 88) rfl dX5_bestOf_88 ?_
        refine z_V1 (pc := 90) (m_sendOn (F := Gs F u s lf f far fr) Bg (e := e) (rk := rk) sb lb fb3 hfrb hCH hrtb hz2 hz3 hz4) lk_X5_137 iv_X5_sendOn rfl rfl ⟨by decide, by decide⟩ (Nat.le_of_ble_eq_true rfl) ⟨by decide, by decide⟩ dX5_bestOf_90 (fun r h9 hq => ?_)
        obtain ⟨rfl, lf2, f2, e8, hSO⟩ := hq
        rw [e8]
        clear e8 h9
        refine z_r0 ?_
        rw [Gs_35]
        obtain ⟨hB2', hR2⟩ := BL_next (F := Gs F u s lf f far fr) (by omega) ub hB hN hE hz2 hz3 hSO
        have hB2 : BL (F 1 0).toNat s u lf2 f2 (fun v => min (far v) 40000) Q0 := hB2'
        have rp2 := rst_pos lf2 (F 1 0).toNat
        have lb2 : ∀ v, v ≤ (F 1 0).toNat → -1000 ≤ lf2 v ∧ lf2 v ≤ 1000 := fun v hv => by
          have q1 := hB2.2.2.2.2.2 v hv
          have q2 := sb v hv
          rcases Int.lt_trichotomy (s v) 0 with h | h | h
          · have := q1.2.1 h; omega
          · have := q1.2.2 h; omega
          · have := q1.1 h; omega
        have Bg2 : bi (Gs F u s lf2 f2 far fr) 1 := bi_cong (fun q hq => by unfold Gs; rw [if_neg (by omega), if_neg (by omega), if_neg (by omega), if_neg (by omega), if_neg (by omega), if_neg (by omega)]) B
        refine z_aload_n (pc := 93) rfl dX5_bestOf_93 ?_
        refine z_V0 (pc := 94) (m_nextEnd (F := Gs F u s lf2 f2 far fr) Bg2 hr (φ := fun v => min (far v) 40000) ub sb lb2 (fun j => by have := hB2.2.2.1 j; show 0 ≤ f2 j ∧ f2 j ≤ 100000000; omega) hB2.1 (fun v hv => by have q9 : -(40000 * (Q0 - rst lf2 (F 1 0).toNat)) ≤ min (far v) 40000 ∧ min (far v) 40000 ≤ 40000 := hB2.2.1 v hv; show -1000000000 ≤ min (far v) 40000 ∧ min (far v) 40000 ≤ 40000; omega)) lk_X5_133 iv_X5_nextEnd rfl rfl ⟨by decide, by decide⟩ (Nat.le_of_ble_eq_true rfl) ⟨by decide, by decide⟩ dX5_bestOf_94 (fun r h9 hq => ?_)
        obtain ⟨z2, far2, fr2, t2, T2, rfl, e8, hNE2⟩ := hq
        rw [e8]
        clear e8 h9
        refine z_r1 ?_
        rw [Gs_37]
        refine z_is5 (pc := 97) (by decide) rfl dX5_bestOf_97 ?_
        refine z_goto (pc := 99) 81 (by decide) dX5_bestOf_99 ?_
        refine ih lf2 f2 far2 fr2 _ z2 _ _ _ Q0 hQ ?_ hB2 ⟨t2, T2, hNE2⟩
        have hR3 : rst lf2 (F 1 0).toNat < rst lf (F 1 0).toNat := hR2
        omega
  -- left is what is sent
  have lp1 : ∀ (j x : Nat) (lf : Nat → Int) (y6 y7 y8 : Option Value), x + j = (F 1 0).toNat + 1 → (∀ v, v < x → lf v = s v) → zJ l g RX5 cX5_bestOf 9 (some .long) "bestOf" (zRm 3 0 0) 0 0 (fun r h => ∃ u s lf f far fr φ : Nat → Int, r = some (.long (lz (sm (fun j => f j * u j) 1681))) ∧ h = zk g (Gs F u s lf f far fr) L im c ∧ BO F k (nd2 F k hour more) u s f φ) 0 0 23 [some (.ref (g.2.1 + 23)), some (.int (iz k)), some (.int (iz hour)), some (.int (iz more)), some (.int (iz (F 1 0))), some (.int (iz x)), y6, y7, y8] [] (zk g (va_up (va_up (va_up F 33 u) 34 s) 35 lf) L im c) := by
    intro j
    induction j with
    | zero =>
      intro x lf y6 y7 y8 hx hlf
      have lp2 : ∀ (j x : Nat) (f : Nat → Int) (y6 y7 y8 : Option Value), x + j = 1681 → (∀ q, q < x → f q = 0) → zJ l g RX5 cX5_bestOf 9 (some .long) "bestOf" (zRm 3 0 0) 0 0 (fun r h => ∃ u s lf f far fr φ : Nat → Int, r = some (.long (lz (sm (fun j => f j * u j) 1681))) ∧ h = zk g (Gs F u s lf f far fr) L im c ∧ BO F k (nd2 F k hour more) u s f φ) 0 0 53 [some (.ref (g.2.1 + 23)), some (.int (iz k)), some (.int (iz hour)), some (.int (iz more)), some (.int (iz (F 1 0))), some (.int (iz x)), y6, y7, y8] [] (zk g (va_up (va_up (va_up (va_up F 33 u) 34 s) 35 lf) 36 f) L im c) := by
        intro j
        induction j with
        | zero =>
          intro x f y6 y7 y8 hx2 hf0
          refine z_iload (pc := 53) rfl dX5_bestOf_53 ?_
          refine z_sipush (pc := 55) (by decide) dX5_bestOf_55 ?_
          refine z_icmp_ge (pc := 58) ⟨by omega, by omega⟩ ⟨by omega, by omega⟩ 75 (by decide) dX5_bestOf_58 (fun hq => ?_) (fun hq => ?_)
          · refine z_cell (q := 36) (N := 1681) (f := f) (f2 := fun _ => 0) rfl (fun q hq => hf0 q (by omega)) ?_
            refine z_hp zs_36 ?_
            refine z_hp (show _ = zk g (Gs F u s lf (fun _ => 0) (F 37) (F 38)) L im c from congrArg (fun f => zk g f L im c) ((bx_uu _ _ _ _).trans (Gs_of F u s lf (fun _ => 0)))) ?_
            have Bg : bi (Gs F u s lf (fun _ => 0) (F 37) (F 38)) 1 := bi_cong (fun q hq => by unfold Gs; rw [if_neg (by omega), if_neg (by omega), if_neg (by omega), if_neg (by omega), if_neg (by omega), if_neg (by omega)]) B
            have sb : ∀ v, v ≤ (F 1 0).toNat → -1000 ≤ s v ∧ s v ≤ 1000 := fun v hv => by rw [hS2 v hv]; have := sd v; omega
            have hfz : fz (F 1 0).toNat s (fun _ => 0) u (fun _ => 0) := by
              intro a b hab
              show (0 : Int) ≤ 0 + cst s u a b
              rcases hab.2.2 with h | h
              · have := ub a b hab.1 hab.2.1
                unfold cst
                rw [if_pos h.1]
                omega
              · exact absurd h.2.2 (Int.lt_irrefl 0)
            have hR : rst lf (F 1 0).toNat ≤ 4000 := by
              have q := (sm_bd (f := fun v => max 0 (lf v)) (a := 0) (b := 96) (n := (F 1 0).toNat + 1) (fun v hv => by
                have q1 := hlf v (by omega)
                have q2 := hS2 v (by omega)
                have q3 := sd v
                show 0 ≤ max 0 (lf v) ∧ max 0 (lf v) ≤ 96
                omega)).2
              unfold rst
              omega
            have rp := rst_pos lf (F 1 0).toNat
            have hB0 : BL (F 1 0).toNat s u lf (fun _ => 0) (fun _ => 0) (rst lf (F 1 0).toNat) := by
              refine ⟨hfz, fun v hv => ⟨by rw [Int.sub_self, Int.mul_zero]; exact Int.le_refl 0, by show (0 : Int) ≤ 40000; omega⟩, fun j => ⟨Int.le_refl 0, by show (0 : Int) ≤ _; omega⟩, fun j hj => absurd hj (Int.lt_irrefl 0), fun w => ?_, fun v hv => ?_⟩
              · rw [show Ey (fun _ => 0) w = 0 from sm_zero (fun j _ => Int.zero_mul _), Int.zero_add]
                exact sm_cong (fun v hv => by rw [hlf v (by omega)])
              · rw [hlf v (by omega)]
                exact ⟨fun h => ⟨by omega, Int.le_refl _⟩, fun h => ⟨Int.le_refl _, by omega⟩, fun h => h⟩
            refine z_aload_n (pc := 75) rfl dX5_bestOf_75 ?_
            refine z_V0 (pc := 76) (m_nextEnd (F := Gs F u s lf (fun _ => 0) (F 37) (F 38)) Bg hr (φ := fun _ => 0) ub sb (fun v hv => by have hv2 : v ≤ (F 1 0).toNat := hv; show -1000 ≤ lf v ∧ lf v ≤ 1000; rw [hlf v (by omega)]; exact sb v hv2) (fun j => ⟨Int.le_refl 0, by show (0 : Int) ≤ 100000000; omega⟩) hfz (fun v hv => ⟨by show -1000000000 ≤ (0 : Int); omega, by show (0 : Int) ≤ 40000; omega⟩)) lk_X5_133 iv_X5_nextEnd rfl rfl ⟨by decide, by decide⟩ (Nat.le_of_ble_eq_true rfl) ⟨by decide, by decide⟩ dX5_bestOf_76 (fun r h9 hq => ?_)
            obtain ⟨z2, far2, fr2, t2, T2, rfl, e8, hNE2⟩ := hq
            rw [e8]
            clear e8 h9
            refine z_r1 ?_
            rw [Gs_37]
            refine z_is5 (pc := 79) (by decide) rfl dX5_bestOf_79 ?_
            exact send ((rst lf (F 1 0).toNat).toNat + 1) lf (fun _ => 0) far2 fr2 (fun _ => 0) z2 _ _ _ (rst lf (F 1 0).toNat) hR (by omega) hB0 ⟨t2, T2, hNE2⟩
          omega
        | succ j ih2 =>
          intro x f y6 y7 y8 hx2 hf0
          refine z_iload (pc := 53) rfl dX5_bestOf_53 ?_
          refine z_sipush (pc := 55) (by decide) dX5_bestOf_55 ?_
          refine z_icmp_ge (pc := 58) ⟨by omega, by omega⟩ ⟨by omega, by omega⟩ 75 (by decide) dX5_bestOf_58 (fun hq => ?_) (fun hq => ?_)
          · omega
          refine z_aload_n (pc := 61) rfl dX5_bestOf_61 ?_
          refine zf_X5_46 (pc := 62) rfl rfl dX5_bestOf_62 ?_
          refine z_iload (pc := 65) rfl dX5_bestOf_65 ?_
          refine z_iconst (pc := 67) dX5_bestOf_67 ?_
          refine z_iast (pc := 68) rfl (by decide) (by omega) (by omega) dX5_bestOf_68 ?_
          refine z_hp (show _ = zk g (va_up (va_up (va_up (va_up F 33 u) 34 s) 35 lf) 36 (vf_upd f x 0)) L im c by rw [Int.toNat_natCast]; exact zs_36.trans (congrArg (fun f => zk g f L im c) (bx_uu _ _ _ _))) ?_
          refine z_ii5 (pc := 69) (by decide) rfl dX5_bestOf_69 ?_
          refine z_goto (pc := 72) 53 (by decide) dX5_bestOf_72 ?_
          refine ih2 (x + 1) _ _ _ _ (by omega) (fun q hq => ?_)
          unfold vf_upd
          split
          · rfl
          · exact hf0 q (by omega)
      refine z_iload (pc := 23) rfl dX5_bestOf_23 ?_
      refine z_iload (pc := 25) rfl dX5_bestOf_25 ?_
      refine z_icmp_gt (pc := 27) ⟨by omega, by omega⟩ ⟨by omega, by omega⟩ 50 (by decide) dX5_bestOf_27 (fun hq => ?_) (fun hq => ?_)
      · refine z_iconst (pc := 50) dX5_bestOf_50 ?_
        refine z_is5 (pc := 51) (by decide) rfl dX5_bestOf_51 ?_
        refine z_hp (show _ = zk g (va_up (va_up (va_up (va_up F 33 u) 34 s) 35 lf) 36 (F 36)) L im c from congrArg (fun f => zk g f L im c) (by funext q; unfold va_up; split <;> simp_all)) ?_
        exact lp2 1681 0 (F 36) _ _ _ (by omega) (fun q h => by omega)
      omega
    | succ j ih =>
      intro x lf y6 y7 y8 hx hlf
      refine z_iload (pc := 23) rfl dX5_bestOf_23 ?_
      refine z_iload (pc := 25) rfl dX5_bestOf_25 ?_
      refine z_icmp_gt (pc := 27) ⟨by omega, by omega⟩ ⟨by omega, by omega⟩ 50 (by decide) dX5_bestOf_27 (fun hq => ?_) (fun hq => ?_)
      · omega
      refine z_aload_n (pc := 30) rfl dX5_bestOf_30 ?_
      refine zf_X5_43 (pc := 31) rfl rfl dX5_bestOf_31 ?_
      refine z_iload (pc := 34) rfl dX5_bestOf_34 ?_
      refine z_aload_n (pc := 36) rfl dX5_bestOf_36 ?_
      refine zf_X5_40 (pc := 37) rfl rfl dX5_bestOf_37 ?_
      refine z_iload (pc := 40) rfl dX5_bestOf_40 ?_
      refine z_iald (pc := 42) rfl (by decide) (by omega) (by omega) dX5_bestOf_42 ?_
      refine z_iast (pc := 43) rfl (by decide) (by omega) (by omega) dX5_bestOf_43 ?_
      refine z_hp (show _ = zk g (va_up (va_up (va_up F 33 u) 34 s) 35 (vf_upd lf x (s x))) L im c by rw [Int.toNat_natCast]; exact zs_35.trans (congrArg (fun f => zk g f L im c) (bx_uu _ _ _ _))) ?_
      refine z_ii5 (pc := 44) (by decide) rfl dX5_bestOf_44 ?_
      refine z_goto (pc := 47) 23 (by decide) dX5_bestOf_47 ?_
      refine ih (x + 1) _ _ _ _ (by omega) (fun v hv => ?_)
      unfold vf_upd
      split
      · rename_i e; rw [e]
      · exact hlf v (by omega)
  refine z_iconst (pc := 20) dX5_bestOf_20 ?_
  refine z_is5 (pc := 21) (by decide) rfl dX5_bestOf_21 ?_
  refine z_hp (show _ = zk g (va_up (va_up (va_up F 33 u) 34 s) 35 (F 35)) L im c from congrArg (fun f => zk g f L im c) (by funext q; unfold va_up; split <;> simp_all)) ?_
  exact lp1 ((F 1 0).toNat + 1) 0 (F 35) _ _ _ (by omega) (fun v h => by omega)
end REF6
