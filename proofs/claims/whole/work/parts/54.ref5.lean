/-! ===== the reference: sendOn ===== -/
def Ey (f w : Nat → Int) : Int := sm (fun j => f j * (w (j / 41) - w (j % 41))) 1681
theorem Ey_upd {f w : Nat → Int} {j : Nat} {v : Int} (hj : j < 1681) : Ey (vf_upd f j v) w = Ey f w + (v - f j) * (w (j / 41) - w (j % 41)) := by
  unfold Ey
  have e : (fun q => vf_upd f j v q * (w (q / 41) - w (q % 41))) = vf_upd (fun q => f q * (w (q / 41) - w (q % 41))) j (v * (w (j / 41) - w (j % 41))) := by
    funext q
    unfold vf_upd
    by_cases h : q = j
    · rw [if_pos h, if_pos h, h]
    · rw [if_neg h, if_neg h]
  rw [e, sm_upd hj, Int.sub_mul]
  show _ - f j * (w (j / 41) - w (j % 41)) + v * (w (j / 41) - w (j % 41)) = _
  omega
theorem NI_rk {n : Nat} {s f u lf φ far fr : Nat → Int} {t : Nat → Nat} {T : Nat} (h : NI n s f u lf φ far fr t T) : ∃ rk : Nat → Nat, ∀ v, v ≤ n → ∀ a : Nat, fr v = a → rk a < rk v := by
  refine ⟨fun v => (far v - φ v + 40000).toNat * (T + 1) + t v, fun v hv a ha => ?_⟩
  rcases h.2.1 v hv with h1 | ⟨p, p1, p2, p3, p4, p5, p6⟩
  · omega
  · have hpa : p = a := by omega
    subst hpa
    have q1 := h.1 p p2.1
    have q2 := h.1 v hv
    have q3 := h.2.2.1 p p2.1
    show (far p - φ p + 40000).toNat * (T + 1) + t p < (far v - φ v + 40000).toNat * (T + 1) + t v
    rcases p6 with p6 | ⟨p6, p7⟩
    · have e : (far p - φ p + 40000).toNat + 1 ≤ (far v - φ v + 40000).toNat := by omega
      have e2 := Nat.mul_le_mul_right (T + 1) e
      rw [Nat.add_mul, Nat.one_mul] at e2
      omega
    · rw [p6]; omega
def nfr (fr : Nat → Int) (v : Nat) : Nat := (fr v).toNat
/-- a chain of froms from e: tight open arcs between points within reach -/
def CH (n : Nat) (s f u far fr : Nat → Int) (rk : Nat → Nat) : Prop := ∀ v, v ≤ n → far v < 1000000000 → fr v ≠ -1 → fr v = (nfr fr v : Int) ∧ ra s f n (nfr fr v) v ∧ far (nfr fr v) < 1000000000 ∧ far v = far (nfr fr v) + cst s u (nfr fr v) v ∧ rk (nfr fr v) < rk v
theorem NE_CH {n : Nat} {s f u lf φ far fr : Nat → Int} {t : Nat → Nat} {T : Nat} (h : NI n s f u lf φ far fr t T) (hE : ∀ a b, ra s f n a b → far a < 1000000000 → far b ≤ far a + cst s u a b) : ∃ rk : Nat → Nat, CH n s f u far fr rk := by
  obtain ⟨rk, hrk⟩ := NI_rk h
  refine ⟨rk, fun v hv hf hne => ?_⟩
  rcases h.2.1 v hv with h1 | ⟨p, p1, p2, p3, p4, p5, p6⟩
  · exact absurd h1.1 hne
  · have e : nfr fr v = p := by unfold nfr; rw [p1]; omega
    rw [e]
    have q := hE p v p2 p3
    exact ⟨p1, p2, p3, by omega, hrk v hv p p1⟩
theorem CH_it {n : Nat} {s f u far fr : Nat → Int} {rk : Nat → Nat} (A : CH n s f u far fr rk) {e : Nat} (he : e ≤ n) (hf : far e < 1000000000) : ∀ k, (∀ j, j < k → fr (itr (nfr fr) e j) ≠ -1) → itr (nfr fr) e k ≤ n ∧ far (itr (nfr fr) e k) < 1000000000 ∧ rk (itr (nfr fr) e k) + k ≤ rk e
  | 0, _ => ⟨he, hf, Nat.le_refl _⟩
  | k + 1, h => by
    obtain ⟨a1, a2, a3⟩ := CH_it A he hf k (fun j hj => h j (by omega))
    obtain ⟨c1, c2, c3, c4, c5⟩ := A _ a1 a2 (h k (by omega))
    exact ⟨c2.1, c3, by show rk (nfr fr (itr (nfr fr) e k)) + (k + 1) ≤ rk e; omega⟩
def RQ (s f fr : Nat → Int) (e : Nat) (m : Int) (K : Nat) : Prop := ∀ k, k < K → (∀ j, j ≤ k → fr (itr (nfr fr) e j) ≠ -1) → s (itr (nfr fr) e (k + 1)) < 0 → m ≤ f (41 * itr (nfr fr) e k + itr (nfr fr) e (k + 1))
/-- what sendOn does -/
def SO (F : Nat → Nat → Int) (n : Nat) (far lf2 f2 : Nat → Int) (e : Nat) : Prop := ∃ (rt : Nat) (m : Int), 1 ≤ m ∧ rt ≤ n ∧ 0 < F 35 rt ∧ m ≤ F 35 rt ∧ m ≤ -F 35 e ∧ lf2 = vf_upd (vf_upd (F 35) rt (F 35 rt - m)) e (F 35 e + m) ∧ (∀ w, Ey f2 w = Ey (F 36) w + m * (w rt - w e)) ∧ (∀ j, 0 ≤ f2 j ∧ f2 j ≤ F 36 j + m) ∧ ∀ j, 0 < f2 j → 0 < F 36 j ∨ ∃ a b, a ≤ n ∧ b ≤ n ∧ j = 41 * a + b ∧ 0 < F 34 a ∧ F 34 b < 0 ∧ far b = far a + F 33 (41 * a + b)
section REF5
variable {l : Launch} {g : zG} {F : Nat → Nat → Int} {L : Nat → Int} {im : Nat → Option Nat} {c : Nat}
theorem m_sendOn (B : bi F 1) {e : Nat} {rk : Nat → Nat} (hs : ∀ v, v ≤ (F 1 0).toNat → -1000 ≤ F 34 v ∧ F 34 v ≤ 1000) (hl : ∀ v, v ≤ (F 1 0).toNat → -1000 ≤ F 35 v ∧ F 35 v ≤ 1000) (hf : ∀ j, 0 ≤ F 36 j ∧ F 36 j ≤ 100000000) (hfr : ∀ v, v ≤ (F 1 0).toNat → -1 ≤ F 38 v ∧ F 38 v ≤ (F 1 0).toNat) (A : CH (F 1 0).toNat (F 34) (F 36) (F 33) (F 37) (F 38) rk) (hroot : ∀ v, v ≤ (F 1 0).toNat → F 37 v < 1000000000 → F 38 v = -1 → 0 < F 35 v) (he : e ≤ (F 1 0).toNat) (hel : F 35 e < 0) (hef : F 37 e < 1000000000) : zM l g yX5_sendOn cX5_sendOn 5 none 0 0 0 [.ref (g.2.1 + 23), .int (iz e)] (zk g F L im c) (fun r h => r = none ∧ ∃ lf2 f2 : Nat → Int, h = zk g (va_up (va_up F 35 lf2) 36 f2) L im c ∧ SO F (F 1 0).toNat (F 37) lf2 f2 e) := by
  refine zM_of 3 (by decide) rfl ?_
  show zJ l g RX5 cX5_sendOn 5 none "sendOn" (zRm 0 0 0) 0 0 _ 0 0 0 [some (.ref (g.2.1 + 23)), some (.int (iz e)), none, none, none] [] _
  have b1 := bi_hours B
  -- the second walk
  have walk : ∀ (rt : Nat) (z : Int) (lf2 : Nat → Int), 1 ≤ z → rt ≤ (F 1 0).toNat → 0 < F 35 rt → z ≤ F 35 rt → z ≤ -F 35 e → lf2 = vf_upd (vf_upd (F 35) rt (F 35 rt - z)) e (F 35 e + z) → (∀ K, RQ (F 34) (F 36) (F 38) e z K) → (∀ k, (∀ j, j < k → F 38 (itr (nfr (F 38)) e j) ≠ -1) → F 38 (itr (nfr (F 38)) e k) = -1 → (itr (nfr (F 38)) e k) = rt) → ∀ (j k : Nat) (x : Nat → Int) (y4 : Option Value), rk (itr (nfr (F 38)) e k) ≤ j → (∀ q, q < k → F 38 (itr (nfr (F 38)) e q) ≠ -1) → (∀ w, Ey x w = Ey (F 36) w + z * (w (itr (nfr (F 38)) e k) - w e)) → (∀ q, 0 ≤ x q ∧ x q ≤ F 36 q + z) → (∀ q, rk (q / 41) ≤ rk (itr (nfr (F 38)) e k) → F 36 q ≤ x q) → (∀ q, rk (q % 41) ≤ rk (itr (nfr (F 38)) e k) → x q ≤ F 36 q) → (∀ q, 0 < x q → 0 < F 36 q ∨ ∃ a b, a ≤ (F 1 0).toNat ∧ b ≤ (F 1 0).toNat ∧ q = 41 * a + b ∧ 0 < F 34 a ∧ F 34 b < 0 ∧ F 37 b = F 37 a + F 33 (41 * a + b)) → zJ l g RX5 cX5_sendOn 5 none "sendOn" (zRm 0 0 0) 0 0 (fun r h => r = none ∧ ∃ lf2 f2 : Nat → Int, h = zk g (va_up (va_up F 35 lf2) 36 f2) L im c ∧ SO F (F 1 0).toNat (F 37) lf2 f2 e) 0 0 120 [some (.ref (g.2.1 + 23)), some (.int (iz e)), some (.int (iz z)), some (.int (iz (itr (nfr (F 38)) e k))), y4] [] (zk g (va_up (va_up F 35 lf2) 36 x) L im c) := by
    intro rt z lf2 hz1 hrt1 hrt2 hrt3 hrt4 hlf hRQ hend j
    induction j with
    | zero =>
      intro k x y4 hj hng i1 i2 i3 i4 i5
      obtain ⟨p1, p2, p3⟩ := CH_it A he hef k hng
      have q8 := hfr (itr (nfr (F 38)) e k) p1
      refine z_aload_n (pc := 120) rfl dX5_sendOn_120 ?_
      refine zf_X5_52 (pc := 121) rfl rfl dX5_sendOn_121 ?_
      refine z_iload_n (pc := 124) rfl dX5_sendOn_124 ?_
      refine z_iald (pc := 125) rfl (by decide) (by omega) (by omega) dX5_sendOn_125 ?_
      rw [Int.toNat_natCast]
      refine z_iconst (pc := 126) dX5_sendOn_126 ?_
      refine z_icmp_eq (pc := 127) (show ir (F 38 (itr (nfr (F 38)) e k)) from ⟨by omega, by omega⟩) ⟨by omega, by omega⟩ 189 (by decide) dX5_sendOn_127 (fun hq => ?_) (fun hq => ?_)
      · have hrt := hend k hng hq
        rw [hrt] at i1
        exact z_retv (pc := 189) rfl (by decide) (by decide) dX5_sendOn_189 ⟨rfl, lf2, x, rfl, rt, z, hz1, hrt1, hrt2, hrt3, hrt4, hlf, i1, i2, i5⟩
      · obtain ⟨c1, c2, c3, c4, c5⟩ := A _ p1 p2 hq
        omega
    | succ j ih =>
      intro k x y4 hj hng i1 i2 i3 i4 i5
      obtain ⟨p1, p2, p3⟩ := CH_it A he hef k hng
      have q8 := hfr (itr (nfr (F 38)) e k) p1
      refine z_aload_n (pc := 120) rfl dX5_sendOn_120 ?_
      refine zf_X5_52 (pc := 121) rfl rfl dX5_sendOn_121 ?_
      refine z_iload_n (pc := 124) rfl dX5_sendOn_124 ?_
      refine z_iald (pc := 125) rfl (by decide) (by omega) (by omega) dX5_sendOn_125 ?_
      rw [Int.toNat_natCast]
      refine z_iconst (pc := 126) dX5_sendOn_126 ?_
      refine z_icmp_eq (pc := 127) (show ir (F 38 (itr (nfr (F 38)) e k)) from ⟨by omega, by omega⟩) ⟨by omega, by omega⟩ 189 (by decide) dX5_sendOn_127 (fun hq => ?_) (fun hq => ?_)
      · have hrt := hend k hng hq
        rw [hrt] at i1
        exact z_retv (pc := 189) rfl (by decide) (by decide) dX5_sendOn_189 ⟨rfl, lf2, x, rfl, rt, z, hz1, hrt1, hrt2, hrt3, hrt4, hlf, i1, i2, i5⟩
      have hne : F 38 (itr (nfr (F 38)) e k) ≠ -1 := hq
      obtain ⟨c1, c2, c3, c4, c5⟩ := A _ p1 p2 hne
      have hng2 : ∀ q, q < k + 1 → F 38 (itr (nfr (F 38)) e q) ≠ -1 := fun q h => by
        by_cases e2 : q = k
        · rw [e2]; exact hne
        · exact hng q (by omega)
      have hpn := c2.1
      have sp := hs _ hpn
      refine z_aload_n (pc := 130) rfl dX5_sendOn_130 ?_
      refine zf_X5_52 (pc := 131) rfl rfl dX5_sendOn_131 ?_
      refine z_iload_n (pc := 134) rfl dX5_sendOn_134 ?_
      refine z_iald (pc := 135) rfl (by decide) (by omega) (by omega) dX5_sendOn_135 ?_
      rw [Int.toNat_natCast, show va_up (va_up F 35 lf2) 36 x 38 (itr (nfr (F 38)) e k) = (nfr (F 38) (itr (nfr (F 38)) e k) : Int) from c1]
      refine z_is4 (pc := 136) (by decide) rfl dX5_sendOn_136 ?_
      refine z_aload_n (pc := 138) rfl dX5_sendOn_138 ?_
      refine zf_X5_40 (pc := 139) rfl rfl dX5_sendOn_139 ?_
      refine z_iload (pc := 142) rfl dX5_sendOn_142 ?_
      refine z_iald (pc := 144) rfl (by decide) (by omega) (by omega) dX5_sendOn_144 ?_
      rw [Int.toNat_natCast]
      refine z_if_le (pc := 145) (show ir (F 34 (nfr (F 38) (itr (nfr (F 38)) e k))) from ⟨by omega, by omega⟩) 167 (by decide) dX5_sendOn_145 (fun hq => ?_) (fun hq => ?_)
      · -- taken back
        have hsa : F 34 (nfr (F 38) (itr (nfr (F 38)) e k)) < 0 ∧ 0 < F 34 (itr (nfr (F 38)) e k) := by
          have hq2 : F 34 (nfr (F 38) (itr (nfr (F 38)) e k)) ≤ 0 := hq
          rcases c2.2.2 with h | h
          · omega
          · exact ⟨h.1, h.2.1⟩
        have ecell : (41 * ((itr (nfr (F 38)) e k) : Int) + (nfr (F 38) (itr (nfr (F 38)) e k) : Int)).toNat = 41 * (itr (nfr (F 38)) e k) + nfr (F 38) (itr (nfr (F 38)) e k) := by omega
        have hroom : z ≤ F 36 (41 * (itr (nfr (F 38)) e k) + nfr (F 38) (itr (nfr (F 38)) e k)) := hRQ (k + 1) k (by omega) (fun q hq5 => hng2 q (by omega)) hsa.1
        have hcell := i3 (41 * (itr (nfr (F 38)) e k) + nfr (F 38) (itr (nfr (F 38)) e k)) (by rw [show (41 * (itr (nfr (F 38)) e k) + nfr (F 38) (itr (nfr (F 38)) e k)) / 41 = (itr (nfr (F 38)) e k) by omega]; exact Nat.le_refl _)
        refine z_aload_n (pc := 167) rfl dX5_sendOn_167 ?_
        refine zf_X5_46 (pc := 168) rfl rfl dX5_sendOn_168 ?_
        refine z_bipush (pc := 171) (by decide) dX5_sendOn_171 ?_
        refine z_iload_n (pc := 173) rfl dX5_sendOn_173 ?_
        refine z_imul (pc := 174) dX5_sendOn_174 ?_
        refine z_iload (pc := 175) rfl dX5_sendOn_175 ?_
        refine z_iadd (pc := 177) dX5_sendOn_177 ?_
        refine z_dup2 (pc := 178) rfl rfl dX5_sendOn_178 ?_
        refine z_iald (pc := 179) rfl (by decide) (by omega) (by omega) dX5_sendOn_179 ?_
        refine z_iload_n (pc := 180) rfl dX5_sendOn_180 ?_
        refine z_isub (pc := 181) dX5_sendOn_181 ?_
        rw [ecell, show va_up (va_up F 35 lf2) 36 x 36 = x from rfl]
        refine z_iast (pc := 182) rfl (by decide) (by omega) (by omega) dX5_sendOn_182 ?_
        refine z_hp (show _ = zk g (va_up (va_up F 35 lf2) 36 (vf_upd x (41 * (itr (nfr (F 38)) e k) + nfr (F 38) (itr (nfr (F 38)) e k)) (x (41 * (itr (nfr (F 38)) e k) + nfr (F 38) (itr (nfr (F 38)) e k)) - z))) L im c by rw [ecell]; exact zs_36.trans (congrArg (fun f => zk g f L im c) (bx_uu _ _ _ _))) ?_
        refine z_iload (pc := 183) rfl dX5_sendOn_183 ?_
        refine z_is3 (pc := 185) (by decide) rfl dX5_sendOn_185 ?_
        refine z_goto (pc := 186) 120 (by decide) dX5_sendOn_186 ?_
        refine ih (k + 1) _ _ (by show rk (nfr (F 38) (itr (nfr (F 38)) e k)) ≤ j; omega) hng2 (fun w => ?_) (fun q => ?_) (fun q hq5 => ?_) (fun q hq5 => ?_) (fun q hq5 => ?_)
        · rw [Ey_upd (by omega), i1 w]
          rw [show (41 * (itr (nfr (F 38)) e k) + nfr (F 38) (itr (nfr (F 38)) e k)) / 41 = (itr (nfr (F 38)) e k) by omega, show (41 * (itr (nfr (F 38)) e k) + nfr (F 38) (itr (nfr (F 38)) e k)) % 41 = nfr (F 38) (itr (nfr (F 38)) e k) by omega]
          show _ = _ + z * (w (nfr (F 38) (itr (nfr (F 38)) e k)) - w e)
          rw [show x (41 * (itr (nfr (F 38)) e k) + nfr (F 38) (itr (nfr (F 38)) e k)) - z - x (41 * (itr (nfr (F 38)) e k) + nfr (F 38) (itr (nfr (F 38)) e k)) = -z by omega]
          generalize w (itr (nfr (F 38)) e k) = x1
          generalize w (nfr (F 38) (itr (nfr (F 38)) e k)) = x2
          generalize w e = x3
          rw [Int.mul_sub, Int.mul_sub, Int.mul_sub, Int.neg_mul, Int.neg_mul]
          omega
        · have a1 := i2 q
          unfold vf_upd
          split
          · rename_i e2
            subst e2
            omega
          · exact a1
        · have hq6 : rk (q / 41) ≤ rk (nfr (F 38) (itr (nfr (F 38)) e k)) := hq5
          unfold vf_upd
          split
          · rename_i e2
            subst e2
            rw [show (41 * (itr (nfr (F 38)) e k) + nfr (F 38) (itr (nfr (F 38)) e k)) / 41 = (itr (nfr (F 38)) e k) by omega] at hq6
            omega
          · exact i3 q (by omega)
        · have hq6 : rk (q % 41) ≤ rk (nfr (F 38) (itr (nfr (F 38)) e k)) := hq5
          have a1 := i4 q (by omega)
          unfold vf_upd
          split
          · rename_i e2
            subst e2
            omega
          · exact a1
        · unfold vf_upd at hq5
          split at hq5
          · rename_i e2
            subst e2
            left; omega
          · exact i5 q hq5
      · -- sent
        have hsa : 0 < F 34 (nfr (F 38) (itr (nfr (F 38)) e k)) := hq
        have hsb : F 34 (itr (nfr (F 38)) e k) < 0 := by
          rcases c2.2.2 with h | h
          · exact h.2
          · omega
        have ecell : (41 * (nfr (F 38) (itr (nfr (F 38)) e k) : Int) + ((itr (nfr (F 38)) e k) : Int)).toNat = 41 * nfr (F 38) (itr (nfr (F 38)) e k) + (itr (nfr (F 38)) e k) := by omega
        have hcell := i4 (41 * nfr (F 38) (itr (nfr (F 38)) e k) + (itr (nfr (F 38)) e k)) (by rw [show (41 * nfr (F 38) (itr (nfr (F 38)) e k) + (itr (nfr (F 38)) e k)) % 41 = (itr (nfr (F 38)) e k) by omega]; exact Nat.le_refl _)
        refine z_aload_n (pc := 148) rfl dX5_sendOn_148 ?_
        refine zf_X5_46 (pc := 149) rfl rfl dX5_sendOn_149 ?_
        refine z_bipush (pc := 152) (by decide) dX5_sendOn_152 ?_
        refine z_iload (pc := 154) rfl dX5_sendOn_154 ?_
        refine z_imul (pc := 156) dX5_sendOn_156 ?_
        refine z_iload_n (pc := 157) rfl dX5_sendOn_157 ?_
        refine z_iadd (pc := 158) dX5_sendOn_158 ?_
        refine z_dup2 (pc := 159) rfl rfl dX5_sendOn_159 ?_
        refine z_iald (pc := 160) rfl (by decide) (by omega) (by omega) dX5_sendOn_160 ?_
        refine z_iload_n (pc := 161) rfl dX5_sendOn_161 ?_
        refine z_iadd (pc := 162) dX5_sendOn_162 ?_
        rw [ecell, show va_up (va_up F 35 lf2) 36 x 36 = x from rfl]
        refine z_iast (pc := 163) rfl (by decide) (by omega) (by omega) dX5_sendOn_163 ?_
        refine z_hp (show _ = zk g (va_up (va_up F 35 lf2) 36 (vf_upd x (41 * nfr (F 38) (itr (nfr (F 38)) e k) + (itr (nfr (F 38)) e k)) (x (41 * nfr (F 38) (itr (nfr (F 38)) e k) + (itr (nfr (F 38)) e k)) + z))) L im c by rw [ecell]; exact zs_36.trans (congrArg (fun f => zk g f L im c) (bx_uu _ _ _ _))) ?_
        refine z_goto (pc := 164) 183 (by decide) dX5_sendOn_164 ?_
        refine z_iload (pc := 183) rfl dX5_sendOn_183 ?_
        refine z_is3 (pc := 185) (by decide) rfl dX5_sendOn_185 ?_
        refine z_goto (pc := 186) 120 (by decide) dX5_sendOn_186 ?_
        refine ih (k + 1) _ _ (by show rk (nfr (F 38) (itr (nfr (F 38)) e k)) ≤ j; omega) hng2 (fun w => ?_) (fun q => ?_) (fun q hq5 => ?_) (fun q hq5 => ?_) (fun q hq5 => ?_)
        · rw [Ey_upd (by omega), i1 w]
          rw [show (41 * nfr (F 38) (itr (nfr (F 38)) e k) + (itr (nfr (F 38)) e k)) / 41 = nfr (F 38) (itr (nfr (F 38)) e k) by omega, show (41 * nfr (F 38) (itr (nfr (F 38)) e k) + (itr (nfr (F 38)) e k)) % 41 = (itr (nfr (F 38)) e k) by omega]
          show _ = _ + z * (w (nfr (F 38) (itr (nfr (F 38)) e k)) - w e)
          rw [show x (41 * nfr (F 38) (itr (nfr (F 38)) e k) + (itr (nfr (F 38)) e k)) + z - x (41 * nfr (F 38) (itr (nfr (F 38)) e k) + (itr (nfr (F 38)) e k)) = z by omega]
          generalize w (itr (nfr (F 38)) e k) = x1
          generalize w (nfr (F 38) (itr (nfr (F 38)) e k)) = x2
          generalize w e = x3
          rw [Int.mul_sub, Int.mul_sub, Int.mul_sub]
          omega
        · have a1 := i2 q
          unfold vf_upd
          split
          · rename_i e2
            subst e2
            omega
          · exact a1
        · have hq6 : rk (q / 41) ≤ rk (nfr (F 38) (itr (nfr (F 38)) e k)) := hq5
          have a1 := i3 q (by omega)
          unfold vf_upd
          split
          · rename_i e2
            subst e2
            omega
          · exact a1
        · have hq6 : rk (q % 41) ≤ rk (nfr (F 38) (itr (nfr (F 38)) e k)) := hq5
          unfold vf_upd
          split
          · rename_i e2
            subst e2
            rw [show (41 * nfr (F 38) (itr (nfr (F 38)) e k) + (itr (nfr (F 38)) e k)) % 41 = (itr (nfr (F 38)) e k) by omega] at hq6
            omega
          · exact i4 q (by omega)
        · unfold vf_upd at hq5
          split at hq5
          · rename_i e2
            right
            refine ⟨nfr (F 38) (itr (nfr (F 38)) e k), (itr (nfr (F 38)) e k), hpn, p1, e2, hsa, hsb, ?_⟩
            rw [c4]
            unfold cst
            rw [if_pos hsa]
          · exact i5 q hq5
  -- the first walk
  have look : ∀ (j k : Nat) (z : Int) (y4 : Option Value), rk (itr (nfr (F 38)) e k) ≤ j → (∀ q, q < k → F 38 (itr (nfr (F 38)) e q) ≠ -1) → 1 ≤ z → z ≤ -F 35 e → RQ (F 34) (F 36) (F 38) e z k → zJ l g RX5 cX5_sendOn 5 none "sendOn" (zRm 0 0 0) 0 0 (fun r h => r = none ∧ ∃ lf2 f2 : Nat → Int, h = zk g (va_up (va_up F 35 lf2) 36 f2) L im c ∧ SO F (F 1 0).toNat (F 37) lf2 f2 e) 0 0 10 [some (.ref (g.2.1 + 23)), some (.int (iz e)), some (.int (iz z)), some (.int (iz (itr (nfr (F 38)) e k))), y4] [] (zk g F L im c) := by
    -- at the root
    have fin : ∀ (k : Nat) (z : Int) (y4 : Option Value), (∀ q, q < k → F 38 (itr (nfr (F 38)) e q) ≠ -1) → 1 ≤ z → z ≤ -F 35 e → RQ (F 34) (F 36) (F 38) e z k → F 38 (itr (nfr (F 38)) e k) = -1 → zJ l g RX5 cX5_sendOn 5 none "sendOn" (zRm 0 0 0) 0 0 (fun r h => r = none ∧ ∃ lf2 f2 : Nat → Int, h = zk g (va_up (va_up F 35 lf2) 36 f2) L im c ∧ SO F (F 1 0).toNat (F 37) lf2 f2 e) 0 0 77 [some (.ref (g.2.1 + 23)), some (.int (iz e)), some (.int (iz z)), some (.int (iz (itr (nfr (F 38)) e k))), y4] [] (zk g F L im c) := by
      intro k z y4 hng hz1 hz2 hR hroot1
      obtain ⟨p1, p2, p3⟩ := CH_it A he hef k hng
      have hrl := hroot _ p1 p2 hroot1
      have hlr := hl _ p1
      have hle := hl e he
      have uniq : ∀ k2, (∀ j, j < k2 → F 38 (itr (nfr (F 38)) e j) ≠ -1) → F 38 (itr (nfr (F 38)) e k2) = -1 → itr (nfr (F 38)) e k2 = (itr (nfr (F 38)) e k) := by
        intro k2 h1 h2
        have : k2 = k := by
          rcases Nat.lt_trichotomy k2 k with h3 | h3 | h3
          · exact absurd h2 (hng k2 h3)
          · exact h3
          · exact absurd hroot1 (h1 k h3)
        rw [this]
      have allK : ∀ z2 : Int, z2 ≤ z → ∀ K, RQ (F 34) (F 36) (F 38) e z2 K := by
        intro z2 hz3 K k2 hk2 hall hneg
        by_cases hlt : k2 < k
        · have := hR k2 hlt hall hneg
          omega
        · exact absurd hroot1 (hall k (by omega))
      have hne : (itr (nfr (F 38)) e k) ≠ e := fun h => by rw [h] at hrl; omega
      have go : ∀ z2 : Int, 1 ≤ z2 → z2 ≤ z → z2 ≤ F 35 (itr (nfr (F 38)) e k) → zJ l g RX5 cX5_sendOn 5 none "sendOn" (zRm 0 0 0) 0 0 (fun r h => r = none ∧ ∃ lf2 f2 : Nat → Int, h = zk g (va_up (va_up F 35 lf2) 36 f2) L im c ∧ SO F (F 1 0).toNat (F 37) lf2 f2 e) 0 0 97 [some (.ref (g.2.1 + 23)), some (.int (iz e)), some (.int (iz z)), some (.int (iz (itr (nfr (F 38)) e k))), y4] [.int (iz z2)] (zk g F L im c) := by
        intro z2 h1 h2 h3
        refine z_is2 (pc := 97) (by decide) rfl dX5_sendOn_97 ?_
        refine z_aload_n (pc := 98) rfl dX5_sendOn_98 ?_
        refine zf_X5_43 (pc := 99) rfl rfl dX5_sendOn_99 ?_
        refine z_iload_n (pc := 102) rfl dX5_sendOn_102 ?_
        refine z_dup2 (pc := 103) rfl rfl dX5_sendOn_103 ?_
        refine z_iald (pc := 104) rfl (by decide) (by omega) (by omega) dX5_sendOn_104 ?_
        refine z_iload_n (pc := 105) rfl dX5_sendOn_105 ?_
        refine z_isub (pc := 106) dX5_sendOn_106 ?_
        rw [Int.toNat_natCast]
        refine z_iast (pc := 107) rfl (by decide) (by omega) (by omega) dX5_sendOn_107 ?_
        refine z_hp zs_35 ?_
        rw [Int.toNat_natCast]
        refine z_aload_n (pc := 108) rfl dX5_sendOn_108 ?_
        refine zf_X5_43 (pc := 109) rfl rfl dX5_sendOn_109 ?_
        refine z_iload_n (pc := 112) rfl dX5_sendOn_112 ?_
        refine z_dup2 (pc := 113) rfl rfl dX5_sendOn_113 ?_
        refine z_iald (pc := 114) rfl (by decide) (by omega) (by omega) dX5_sendOn_114 ?_
        refine z_iload_n (pc := 115) rfl dX5_sendOn_115 ?_
        refine z_iadd (pc := 116) dX5_sendOn_116 ?_
        rw [Int.toNat_natCast]
        refine z_iast (pc := 117) rfl (by decide) (by omega) (by omega) dX5_sendOn_117 ?_
        refine z_hp (show _ = zk g (va_up F 35 (vf_upd (vf_upd (F 35) (itr (nfr (F 38)) e k) (F 35 (itr (nfr (F 38)) e k) - z2)) e (F 35 e + z2))) L im c from zs_35.trans (congrArg (fun f => zk g f L im c) ?_)) ?_
        · rw [Int.toNat_natCast, bx_uu]
          refine congrArg (fun v => va_up F 35 (vf_upd (vf_upd (F 35) (itr (nfr (F 38)) e k) (F 35 (itr (nfr (F 38)) e k) - z2)) e v)) ?_
          show vf_upd (F 35) (itr (nfr (F 38)) e k) (F 35 (itr (nfr (F 38)) e k) - z2) e + z2 = _
          unfold vf_upd
          rw [if_neg (fun h => hne h.symm)]
        refine z_iload_n (pc := 118) rfl dX5_sendOn_118 ?_
        refine z_is3 (pc := 119) (by decide) rfl dX5_sendOn_119 ?_
        refine z_hp (show _ = zk g (va_up (va_up F 35 (vf_upd (vf_upd (F 35) (itr (nfr (F 38)) e k) (F 35 (itr (nfr (F 38)) e k) - z2)) e (F 35 e + z2))) 36 (F 36)) L im c from congrArg (fun f => zk g f L im c) (by funext q; unfold va_up; split <;> simp_all)) ?_
        exact walk (itr (nfr (F 38)) e k) z2 _ h1 p1 hrl h3 (by omega) rfl (allK z2 h2) uniq (rk e) 0 (F 36) _ (Nat.le_refl _) (fun q h => by omega) (fun w => by show _ = _ + z2 * (w e - w e); rw [Int.sub_self, Int.mul_zero, Int.add_zero]) (fun q => ⟨(hf q).1, by omega⟩) (fun q _ => Int.le_refl _) (fun q _ => Int.le_refl _) (fun q h => Or.inl h)
      refine z_aload_n (pc := 77) rfl dX5_sendOn_77 ?_
      refine zf_X5_43 (pc := 78) rfl rfl dX5_sendOn_78 ?_
      refine z_iload_n (pc := 81) rfl dX5_sendOn_81 ?_
      refine z_iald (pc := 82) rfl (by decide) (by omega) (by omega) dX5_sendOn_82 ?_
      refine z_iload_n (pc := 83) rfl dX5_sendOn_83 ?_
      rw [Int.toNat_natCast]
      refine z_icmp_ge (pc := 84) ⟨by omega, by omega⟩ ⟨by omega, by omega⟩ 96 (by decide) dX5_sendOn_84 (fun hq => ?_) (fun hq => ?_)
      · refine z_iload_n (pc := 96) rfl dX5_sendOn_96 ?_
        exact go z hz1 (Int.le_refl _) (by omega)
      refine z_aload_n (pc := 87) rfl dX5_sendOn_87 ?_
      refine zf_X5_43 (pc := 88) rfl rfl dX5_sendOn_88 ?_
      refine z_iload_n (pc := 91) rfl dX5_sendOn_91 ?_
      refine z_iald (pc := 92) rfl (by decide) (by omega) (by omega) dX5_sendOn_92 ?_
      refine z_goto (pc := 93) 97 (by decide) dX5_sendOn_93 ?_
      rw [Int.toNat_natCast]
      exact go _ (by omega) (by omega) (Int.le_refl _)
    intro j
    induction j with
    | zero =>
      intro k z y4 hj hng hz1 hz2 hR
      obtain ⟨p1, p2, p3⟩ := CH_it A he hef k hng
      have q8 := hfr (itr (nfr (F 38)) e k) p1
      refine z_aload_n (pc := 10) rfl dX5_sendOn_10 ?_
      refine zf_X5_52 (pc := 11) rfl rfl dX5_sendOn_11 ?_
      refine z_iload_n (pc := 14) rfl dX5_sendOn_14 ?_
      refine z_iald (pc := 15) rfl (by decide) (by omega) (by omega) dX5_sendOn_15 ?_
      rw [Int.toNat_natCast]
      refine z_iconst (pc := 16) dX5_sendOn_16 ?_
      refine z_icmp_eq (pc := 17) (show ir (F 38 (itr (nfr (F 38)) e k)) from ⟨by omega, by omega⟩) ⟨by omega, by omega⟩ 77 (by decide) dX5_sendOn_17 (fun hq => fin k z _ hng hz1 hz2 hR hq) (fun hq => ?_)
      obtain ⟨c1, c2, c3, c4, c5⟩ := A _ p1 p2 hq
      omega
    | succ j ih =>
      intro k z y4 hj hng hz1 hz2 hR
      obtain ⟨p1, p2, p3⟩ := CH_it A he hef k hng
      have q8 := hfr (itr (nfr (F 38)) e k) p1
      refine z_aload_n (pc := 10) rfl dX5_sendOn_10 ?_
      refine zf_X5_52 (pc := 11) rfl rfl dX5_sendOn_11 ?_
      refine z_iload_n (pc := 14) rfl dX5_sendOn_14 ?_
      refine z_iald (pc := 15) rfl (by decide) (by omega) (by omega) dX5_sendOn_15 ?_
      rw [Int.toNat_natCast]
      refine z_iconst (pc := 16) dX5_sendOn_16 ?_
      refine z_icmp_eq (pc := 17) (show ir (F 38 (itr (nfr (F 38)) e k)) from ⟨by omega, by omega⟩) ⟨by omega, by omega⟩ 77 (by decide) dX5_sendOn_17 (fun hq => fin k z _ hng hz1 hz2 hR hq) (fun hq => ?_)
      have hne : F 38 (itr (nfr (F 38)) e k) ≠ -1 := hq
      obtain ⟨c1, c2, c3, c4, c5⟩ := A _ p1 p2 hne
      have hng2 : ∀ q, q < k + 1 → F 38 (itr (nfr (F 38)) e q) ≠ -1 := fun q h => by
        by_cases e2 : q = k
        · rw [e2]; exact hne
        · exact hng q (by omega)
      have hpn := c2.1
      have sp := hs _ hpn
      refine z_aload_n (pc := 20) rfl dX5_sendOn_20 ?_
      refine zf_X5_52 (pc := 21) rfl rfl dX5_sendOn_21 ?_
      refine z_iload_n (pc := 24) rfl dX5_sendOn_24 ?_
      refine z_iald (pc := 25) rfl (by decide) (by omega) (by omega) dX5_sendOn_25 ?_
      rw [Int.toNat_natCast, c1]
      refine z_is4 (pc := 26) (by decide) rfl dX5_sendOn_26 ?_
      refine z_aload_n (pc := 28) rfl dX5_sendOn_28 ?_
      refine zf_X5_40 (pc := 29) rfl rfl dX5_sendOn_29 ?_
      refine z_iload (pc := 32) rfl dX5_sendOn_32 ?_
      refine z_iald (pc := 34) rfl (by decide) (by omega) (by omega) dX5_sendOn_34 ?_
      rw [Int.toNat_natCast]
      have nxt : ∀ z2 : Int, 1 ≤ z2 → z2 ≤ z → (F 34 (nfr (F 38) (itr (nfr (F 38)) e k)) < 0 → z2 ≤ F 36 (41 * (itr (nfr (F 38)) e k) + nfr (F 38) (itr (nfr (F 38)) e k))) → zJ l g RX5 cX5_sendOn 5 none "sendOn" (zRm 0 0 0) 0 0 (fun r h => r = none ∧ ∃ lf2 f2 : Nat → Int, h = zk g (va_up (va_up F 35 lf2) 36 f2) L im c ∧ SO F (F 1 0).toNat (F 37) lf2 f2 e) 0 0 71 [some (.ref (g.2.1 + 23)), some (.int (iz e)), some (.int (iz z2)), some (.int (iz (itr (nfr (F 38)) e k))), some (.int (iz (nfr (F 38) (itr (nfr (F 38)) e k))))] [] (zk g F L im c) := by
        intro z2 h1 h2 h3
        refine z_iload (pc := 71) rfl dX5_sendOn_71 ?_
        refine z_is3 (pc := 73) (by decide) rfl dX5_sendOn_73 ?_
        refine z_goto (pc := 74) 10 (by decide) dX5_sendOn_74 ?_
        refine ih (k + 1) z2 _ (by show rk (nfr (F 38) (itr (nfr (F 38)) e k)) ≤ j; omega) hng2 h1 (by omega) (fun k2 hk2 hall hneg => ?_)
        by_cases e2 : k2 = k
        · subst e2; exact h3 hneg
        · have := hR k2 (by omega) hall hneg
          omega
      refine z_if_ge (pc := 35) ⟨by omega, by omega⟩ 71 (by decide) dX5_sendOn_35 (fun hq => nxt z hz1 (Int.le_refl _) (fun h => by omega)) (fun hq => ?_)
      have hx : 0 < F 36 (41 * (itr (nfr (F 38)) e k) + nfr (F 38) (itr (nfr (F 38)) e k)) := by
        rcases c2.2.2 with h | h
        · omega
        · exact h.2.2
      have hfb := hf (41 * (itr (nfr (F 38)) e k) + nfr (F 38) (itr (nfr (F 38)) e k))
      have ecell : (41 * ((itr (nfr (F 38)) e k) : Int) + (nfr (F 38) (itr (nfr (F 38)) e k) : Int)).toNat = 41 * (itr (nfr (F 38)) e k) + nfr (F 38) (itr (nfr (F 38)) e k) := by omega
      have hlz := hl e he
      refine z_aload_n (pc := 38) rfl dX5_sendOn_38 ?_
      refine zf_X5_46 (pc := 39) rfl rfl dX5_sendOn_39 ?_
      refine z_bipush (pc := 42) (by decide) dX5_sendOn_42 ?_
      refine z_iload_n (pc := 44) rfl dX5_sendOn_44 ?_
      refine z_imul (pc := 45) dX5_sendOn_45 ?_
      refine z_iload (pc := 46) rfl dX5_sendOn_46 ?_
      refine z_iadd (pc := 48) dX5_sendOn_48 ?_
      refine z_iald (pc := 49) rfl (by decide) (by omega) (by omega) dX5_sendOn_49 ?_
      refine z_iload_n (pc := 50) rfl dX5_sendOn_50 ?_
      rw [ecell]
      refine z_icmp_ge (pc := 51) ⟨by omega, by omega⟩ ⟨by omega, by omega⟩ 69 (by decide) dX5_sendOn_51 (fun hq => ?_) (fun hq => ?_)
      · refine z_iload_n (pc := 69) rfl dX5_sendOn_69 ?_
        refine z_is2 (pc := 70) (by decide) rfl dX5_sendOn_70 ?_
        exact nxt z hz1 (Int.le_refl _) (fun _ => by omega)
      refine z_aload_n (pc := 54) rfl dX5_sendOn_54 ?_
      refine zf_X5_46 (pc := 55) rfl rfl dX5_sendOn_55 ?_
      refine z_bipush (pc := 58) (by decide) dX5_sendOn_58 ?_
      refine z_iload_n (pc := 60) rfl dX5_sendOn_60 ?_
      refine z_imul (pc := 61) dX5_sendOn_61 ?_
      refine z_iload (pc := 62) rfl dX5_sendOn_62 ?_
      refine z_iadd (pc := 64) dX5_sendOn_64 ?_
      refine z_iald (pc := 65) rfl (by decide) (by omega) (by omega) dX5_sendOn_65 ?_
      rw [ecell]
      refine z_goto (pc := 66) 70 (by decide) dX5_sendOn_66 ?_
      refine z_is2 (pc := 70) (by decide) rfl dX5_sendOn_70 ?_
      exact nxt _ (by omega) (by omega) (fun _ => Int.le_refl _)
  have hle := hl e he
  refine z_aload_n (pc := 0) rfl dX5_sendOn_0 ?_
  refine zf_X5_43 (pc := 1) rfl rfl dX5_sendOn_1 ?_
  refine z_iload_n (pc := 4) rfl dX5_sendOn_4 ?_
  refine z_iald (pc := 5) rfl (by decide) (by omega) (by omega) dX5_sendOn_5 ?_
  rw [Int.toNat_natCast]
  refine z_ineg (pc := 6) dX5_sendOn_6 ?_
  refine z_is2 (pc := 7) (by decide) rfl dX5_sendOn_7 ?_
  refine z_iload_n (pc := 8) rfl dX5_sendOn_8 ?_
  refine z_is3 (pc := 9) (by decide) rfl dX5_sendOn_9 ?_
  exact look (rk e) 0 (-F 35 e) _ (Nat.le_refl _) (fun q h => by omega) (by omega) (Int.le_refl _) (fun k h => by omega)
end REF5
