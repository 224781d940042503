/-! ===== the reference's ways between all points ===== -/
/-- rows of ways u between the points 0 .. n: bounds, nothing from a point to itself, no more than any row of sums falls -/
def wq (P : (Nat → Int) → Prop) (n : Nat) (u : Nat → Int) : Prop := (∀ a b, a ≤ n → b ≤ n → 0 ≤ u (41 * a + b) ∧ u (41 * a + b) ≤ 1000000000) ∧ (∀ a, a ≤ n → u (41 * a + a) = 0) ∧ ∀ w, P w → ∀ a b, a ≤ n → b ≤ n → w a - w b ≤ u (41 * a + b)
theorem wq_step {P : (Nat → Int) → Prop} {n : Nat} {u : Nat → Int} (h : wq P n u) (hn : n ≤ 40) {a b : Nat} {v : Int} (ha : a ≤ n) (hb : b ≤ n) (hv : 0 ≤ v) (hw : ∀ w, P w → w a - w b ≤ v) : wq P n (vf_upd u (41 * a + b) (min v (u (41 * a + b)))) ∧ ∀ j, vf_upd u (41 * a + b) (min v (u (41 * a + b))) j ≤ u j := by
  have hle : ∀ j, vf_upd u (41 * a + b) (min v (u (41 * a + b))) j ≤ u j := fun j => by
    unfold vf_upd
    split
    · rename_i e; rw [e]; omega
    · exact Int.le_refl _
  refine ⟨⟨fun a2 b2 h1 h2 => ?_, fun a2 h1 => ?_, fun w hw2 a2 b2 h1 h2 => ?_⟩, hle⟩
  · have q := h.1 a2 b2 h1 h2
    have q2 := h.1 a b ha hb
    unfold vf_upd
    split <;> omega
  · have q := h.2.1 a2 h1
    have q2 := h.1 a b ha hb
    unfold vf_upd
    split
    · rename_i e
      have : u (41 * a + b) = 0 := by rw [← e]; exact q
      omega
    · exact q
  · have q := h.2.2 w hw2 a2 b2 h1 h2
    unfold vf_upd
    split
    · rename_i e
      have e1 : a2 = a := by omega
      have e2 : b2 = b := by omega
      have := hw w hw2
      have q2 := h.2.2 w hw2 a b ha hb
      rw [e1, e2]
      omega
    · exact q
def tri (n : Nat) (u : Nat → Int) (m : Nat) : Prop := ∀ a b, a ≤ n → b ≤ n → u (41 * a + b) ≤ u (41 * a + m) + u (41 * m + b)
/-- a stage of the search for the shortest ways, by way of m -/
def stg (u : Nat → Int) (m : Nat) (a b : Nat) : Int := min (u (41 * a + m) + u (41 * m + b)) (u (41 * a + b))
theorem stg_ok {P : (Nat → Int) → Prop} {n m : Nat} {u v : Nat → Int} (h : wq P n u) (hm : m ≤ n) (hv : ∀ a b, a ≤ n → b ≤ n → v (41 * a + b) = stg u m a b) (ht : ∀ q, q < m → tri n u q) : wq P n v ∧ ∀ q, q ≤ m → tri n v q := by
  have hmm := h.2.1 m hm
  refine ⟨⟨fun a b h1 h2 => ?_, fun a h1 => ?_, fun w hw a b h1 h2 => ?_⟩, fun q hq a b h1 h2 => ?_⟩
  · rw [hv a b h1 h2]
    have q1 := h.1 a b h1 h2
    have q2 := h.1 a m h1 hm
    have q3 := h.1 m b hm h2
    unfold stg; omega
  · rw [hv a a h1 h1]
    have q1 := h.2.1 a h1
    have q2 := h.1 a m h1 hm
    have q3 := h.1 m a hm h1
    unfold stg; omega
  · rw [hv a b h1 h2]
    have q1 := h.2.2 w hw a b h1 h2
    have q2 := h.2.2 w hw a m h1 hm
    have q3 := h.2.2 w hw m b hm h2
    unfold stg; omega
  · have hqn : q ≤ n := by omega
    rw [hv a b h1 h2, hv a q h1 hqn, hv q b hqn h2]
    unfold stg
    by_cases e : q = m
    · subst e
      have q1 := h.1 a q h1 hqn
      have q2 := h.1 q b hqn h2
      omega
    · have t := ht q (by omega)
      have t1 := t a b h1 h2
      have t2 := t m b hm h2
      have t3 := t a m h1 hm
      have t4 := t m m hm hm
      have q1 := h.1 a m h1 hm
      have q2 := h.1 m b hm h2
      have q3 := h.1 m q hm hqn
      have q4 := h.1 q m hqn hm
      have q5 := h.1 a q h1 hqn
      have q6 := h.1 q b hqn h2
      omega
/-- all about the ways of kind k -/
def wys (F : Nat → Nat → Int) (k : Nat) (u : Nat → Int) : Prop := wq (wPF F k) (F 1 0).toNat u ∧ (∀ q, q ≤ (F 1 0).toNat → tri (F 1 0).toNat u q) ∧ (∀ t, t < (F 1 0).toNat → u (41 * t + (t + 1)) ≤ F 2 k ∧ u (41 * (t + 1) + t) ≤ 0) ∧ ∀ o, o < (F 1 2).toNat → F 3 o = k → ∀ t : Nat, t < (F 1 0).toNat → u (41 * t + (min ((t : Int) + F 4 o) (((F 1 0).toNat : Nat) : Int)).toNat) ≤ F 5 o
theorem wP_far {n : Nat} {r : Int} {m : Nat} {kf tf cf : Nat → Int} {k : Nat} {w : Nat → Int} (h : wP n r m kf tf cf k w) (hn : n ≤ 40) (hr : r ≤ 1000) (hr0 : 0 ≤ r) {a b : Nat} (ha : a ≤ n) (hb : b ≤ n) : w a - w b ≤ 40000 := by
  by_cases hab : a ≤ b
  · have q := (fall_mono h.1 (a := a) (b - a) (by omega)).2
    rw [show a + (b - a) = b by omega] at q
    have q2 : ((b - a : Nat) : Int) * r ≤ 40 * 1000 := Int.mul_le_mul (by omega) hr hr0 (by omega)
    omega
  · have q := (fall_mono h.1 (a := b) (a - b) (by omega)).1
    rw [show b + (a - b) = a by omega] at q
    omega
section REF2
variable {l : Launch} {g : zG} {F : Nat → Nat → Int} {L : Nat → Int} {im : Nat → Option Nat} {c : Nat}
theorem m_findWays (B : bi F 1) (hr : rl F 1 0) {k : Nat} (hk : k < 3) (hkk : (k : Int) < F 1 1) : zM l g yX5_findWays cX5_findWays 6 none 1 0 0 [.ref (g.2.1 + 23), .int (iz k)] (zk g F L im c) (fun r h => r = none ∧ ∃ u : Nat → Int, h = zk g (va_up F 33 u) L im c ∧ wys F k u) := by
  refine zM_of 4 (by decide) rfl ?_
  show zJ l g RX5 cX5_findWays 6 none "findWays" (zRm 1 0 0) 0 0 _ 0 0 0 [some (.ref (g.2.1 + 23)), some (.int (iz k)), none, none, none, none] [] _
  have b1 := bi_hours B
  have b3 := bi_offers B
  have b2 := bi_rates B k
  have h240 : F 24 0 = F 1 0 := hr.1
  have h270 : F 27 0 = F 1 2 := hr.2.2.1
  -- the third loops: by way of x3
  have lpC : ∀ (j3 x3 : Nat) (u : Nat → Int) (y4 y5 : Option Value), x3 + j3 = ((F 1 0).toNat) + 1 → zk1 [some (.ref (g.2.1 + 23)), some (.int (iz k)), some (.int (iz (F 1 0))), some (.int (iz x3)), y4, y5] 4 = true → zk1 [some (.ref (g.2.1 + 23)), some (.int (iz k)), some (.int (iz (F 1 0))), some (.int (iz x3)), some (.int (iz 0)), y5] 5 = true → wq (wPF F k) ((F 1 0).toNat) u → (∀ q, q < x3 → tri ((F 1 0).toNat) u q) → (∀ t, t < ((F 1 0).toNat) → u (41 * t + (t + 1)) ≤ F 2 k ∧ u (41 * (t + 1) + t) ≤ 0) → (∀ o, o < (F 1 2).toNat → F 3 o = k → ∀ t : Nat, t < ((F 1 0).toNat) → u (41 * t + (min ((t : Int) + F 4 o) (((F 1 0).toNat : Nat) : Int)).toNat) ≤ F 5 o) → zJ l g RX5 cX5_findWays 6 none "findWays" (zRm 1 0 0) 0 0 (fun r h => r = none ∧ ∃ u : Nat → Int, h = zk g (va_up F 33 u) L im c ∧ wys F k u) 0 0 166 [some (.ref (g.2.1 + 23)), some (.int (iz k)), some (.int (iz (F 1 0))), some (.int (iz x3)), y4, y5] [] (zk g (va_up F 33 u) L im c) := by
    intro j3
    induction j3 with
    | zero =>
      intro x3 u y4 y5 hx3 _ _ hw ht h4 h5
      refine z_iload_n (pc := 166) rfl dX5_findWays_166 ?_
      refine z_iload_n (pc := 167) rfl dX5_findWays_167 ?_
      refine z_icmp_gt (pc := 168) ⟨by omega, by omega⟩ ⟨by omega, by omega⟩ 240 (by decide) dX5_findWays_168 (fun hq => ?_) (fun hq => ?_)
      · exact z_retv (pc := 240) rfl (by decide) (by decide) dX5_findWays_240 ⟨rfl, u, rfl, hw, fun q hq => ht q (by omega), h4, h5⟩
      omega
    | succ j3 ih3 =>
      intro x3 u y4 y5 hx3 _ _ hw ht h4 h5
      -- rows a, then b: what is done is a stage, what is not is as it was
      have lpB : ∀ (j4 x4 : Nat) (v : Nat → Int) (y5 : Option Value), x4 + j4 = ((F 1 0).toNat) + 1 → (∀ a b, a ≤ ((F 1 0).toNat) → b ≤ ((F 1 0).toNat) → v (41 * a + b) = if a < x4 then stg u x3 a b else u (41 * a + b)) → zJ l g RX5 cX5_findWays 6 none "findWays" (zRm 1 0 0) 0 0 (fun r h => r = none ∧ ∃ u : Nat → Int, h = zk g (va_up F 33 u) L im c ∧ wys F k u) 0 0 174 [some (.ref (g.2.1 + 23)), some (.int (iz k)), some (.int (iz (F 1 0))), some (.int (iz x3)), some (.int (iz x4)), y5] [] (zk g (va_up F 33 v) L im c) := by
        intro j4
        induction j4 with
        | zero =>
          intro x4 v y5 hx4 hv
          refine z_iload (pc := 174) rfl dX5_findWays_174 ?_
          refine z_iload_n (pc := 176) rfl dX5_findWays_176 ?_
          refine z_icmp_gt (pc := 177) ⟨by omega, by omega⟩ ⟨by omega, by omega⟩ 234 (by decide) dX5_findWays_177 (fun hq => ?_) (fun hq => ?_)
          · have hv2 : ∀ a b, a ≤ ((F 1 0).toNat) → b ≤ ((F 1 0).toNat) → v (41 * a + b) = stg u x3 a b := fun a b h1 h2 => by rw [hv a b h1 h2, if_pos (by omega)]
            obtain ⟨o1, o2⟩ := stg_ok hw (by omega) hv2 ht
            have hle : ∀ a b, a ≤ ((F 1 0).toNat) → b ≤ ((F 1 0).toNat) → v (41 * a + b) ≤ u (41 * a + b) := fun a b h1 h2 => by rw [hv2 a b h1 h2]; unfold stg; omega
            refine z_ii3 (pc := 234) (by decide) rfl dX5_findWays_234 ?_
            refine z_goto (pc := 237) 166 (by decide) dX5_findWays_237 ?_
            refine ih3 (x3 + 1) v _ _ (by omega) rfl rfl o1 (fun q hq => o2 q (by omega)) (fun t ht2 => ?_) (fun o ho hko t ht2 => ?_)
            · have q1 := hle t (t + 1) (by omega) (by omega)
              have q2 := hle (t + 1) t (by omega) (by omega)
              have q3 := h4 t ht2
              omega
            · have q1 := hle t (min ((t : Int) + F 4 o) (((F 1 0).toNat : Nat) : Int)).toNat (by omega) (by have := bi_terms B o; omega)
              have q3 := h5 o ho hko t ht2
              omega
          omega
        | succ j4 ih4 =>
          intro x4 v y5 hx4 hv
          have lpA : ∀ (j5 x5 : Nat) (v : Nat → Int), x5 + j5 = ((F 1 0).toNat) + 1 → (∀ a b, a ≤ ((F 1 0).toNat) → b ≤ ((F 1 0).toNat) → v (41 * a + b) = if a < x4 ∨ (a = x4 ∧ b < x5) then stg u x3 a b else u (41 * a + b)) → zJ l g RX5 cX5_findWays 6 none "findWays" (zRm 1 0 0) 0 0 (fun r h => r = none ∧ ∃ u : Nat → Int, h = zk g (va_up F 33 u) L im c ∧ wys F k u) 0 0 183 [some (.ref (g.2.1 + 23)), some (.int (iz k)), some (.int (iz (F 1 0))), some (.int (iz x3)), some (.int (iz x4)), some (.int (iz x5))] [] (zk g (va_up F 33 v) L im c) := by
            intro j5
            induction j5 with
            | zero =>
              intro x5 v hx5 hv
              refine z_iload (pc := 183) rfl dX5_findWays_183 ?_
              refine z_iload_n (pc := 185) rfl dX5_findWays_185 ?_
              refine z_icmp_gt (pc := 186) ⟨by omega, by omega⟩ ⟨by omega, by omega⟩ 228 (by decide) dX5_findWays_186 (fun hq => ?_) (fun hq => ?_)
              · refine z_ii4 (pc := 228) (by decide) rfl dX5_findWays_228 ?_
                refine z_goto (pc := 231) 174 (by decide) dX5_findWays_231 ?_
                refine ih4 (x4 + 1) v _ (by omega) (fun a b h1 h2 => ?_)
                rw [hv a b h1 h2]
                by_cases hc : a < x4 + 1
                · rw [if_pos hc, if_pos (by omega)]
                · rw [if_neg hc, if_neg (by omega)]
              omega
            | succ j5 ih5 =>
              intro x5 v hx5 hv
              have hmm := hw.2.1 x3 (by omega)
              have r1 := hw.1 x4 x3 (by omega) (by omega)
              have r2 := hw.1 x3 x5 (by omega) (by omega)
              have r3 := hw.1 x4 x5 (by omega) (by omega)
              have va : v (41 * x4 + x3) = u (41 * x4 + x3) := by
                rw [hv x4 x3 (by omega) (by omega)]
                unfold stg
                rw [hmm]
                split <;> omega
              have vb : v (41 * x3 + x5) = u (41 * x3 + x5) := by
                rw [hv x3 x5 (by omega) (by omega)]
                unfold stg
                rw [hmm]
                split <;> omega
              have vc : v (41 * x4 + x5) = u (41 * x4 + x5) := by
                rw [hv x4 x5 (by omega) (by omega), if_neg (by omega)]
              refine z_iload (pc := 183) rfl dX5_findWays_183 ?_
              refine z_iload_n (pc := 185) rfl dX5_findWays_185 ?_
              refine z_icmp_gt (pc := 186) ⟨by omega, by omega⟩ ⟨by omega, by omega⟩ 228 (by decide) dX5_findWays_186 (fun hq => ?_) (fun hq => ?_)
              · omega
              refine z_aload_n (pc := 189) rfl dX5_findWays_189 ?_
              refine z_iload (pc := 190) rfl dX5_findWays_190 ?_
              refine z_iload (pc := 192) rfl dX5_findWays_192 ?_
              refine z_aload_n (pc := 194) rfl dX5_findWays_194 ?_
              refine zf_X5_37 (pc := 195) rfl rfl dX5_findWays_195 ?_
              refine z_bipush (pc := 198) (by decide) dX5_findWays_198 ?_
              refine z_iload (pc := 200) rfl dX5_findWays_200 ?_
              refine z_imul (pc := 202) dX5_findWays_202 ?_
              refine z_iload_n (pc := 203) rfl dX5_findWays_203 ?_
              refine z_iadd (pc := 204) dX5_findWays_204 ?_
              refine z_iald (pc := 205) rfl (by decide) (by omega) (by omega) dX5_findWays_205 ?_
              refine z_aload_n (pc := 206) rfl dX5_findWays_206 ?_
              refine zf_X5_37 (pc := 207) rfl rfl dX5_findWays_207 ?_
              refine z_bipush (pc := 210) (by decide) dX5_findWays_210 ?_
              refine z_iload_n (pc := 212) rfl dX5_findWays_212 ?_
              refine z_imul (pc := 213) dX5_findWays_213 ?_
              refine z_iload (pc := 214) rfl dX5_findWays_214 ?_
              refine z_iadd (pc := 216) dX5_findWays_216 ?_
              refine z_iald (pc := 217) rfl (by decide) (by omega) (by omega) dX5_findWays_217 ?_
              rw [show (41 * (x4 : Int) + x3).toNat = 41 * x4 + x3 by omega, show (41 * (x3 : Int) + x5).toNat = 41 * x3 + x5 by omega, show va_up F 33 v 33 = v from rfl, va, vb]
              refine z_iadd (pc := 218) dX5_findWays_218 ?_
              refine z_V3 (pc := 219) (m_shorter (F := va_up F 33 v) (a := x4) (b := x5) (v := u (41 * x4 + x3) + u (41 * x3 + x5)) (by omega) (by omega) ⟨by omega, by omega⟩ (by rw [show va_up F 33 v 33 = v from rfl, vc]; exact ⟨by omega, by omega⟩)) lk_X5_123 iv_X5_shorter rfl rfl ⟨by decide, by decide⟩ (Nat.le_of_ble_eq_true rfl) ⟨by decide, by decide⟩ dX5_findWays_219 (fun r h9 hq => ?_)
              obtain ⟨rfl, e8⟩ := hq
              rw [e8]
              clear e8 h9
              refine z_r0 ?_
              refine z_hp (show _ = zk g (va_up F 33 (vf_upd v (41 * x4 + x5) (min (u (41 * x4 + x3) + u (41 * x3 + x5)) (v (41 * x4 + x5))))) L im c from congrArg (fun f => zk g f L im c) (bx_uu _ _ _ _)) ?_
              refine z_ii5 (pc := 222) (by decide) rfl dX5_findWays_222 ?_
              refine z_goto (pc := 225) 183 (by decide) dX5_findWays_225 ?_
              refine ih5 (x5 + 1) _ (by omega) (fun a b h1 h2 => ?_)
              unfold vf_upd
              by_cases e : 41 * a + b = 41 * x4 + x5
              · have ea : a = x4 := by omega
                have eb : b = x5 := by omega
                rw [if_pos e, if_pos (by omega), vc, ea, eb]
                rfl
              · rw [if_neg e, hv a b h1 h2]
                by_cases hc : a < x4 ∨ (a = x4 ∧ b < x5)
                · rw [if_pos hc, if_pos (by omega)]
                · rw [if_neg hc, if_neg (by omega)]
          refine z_iload (pc := 174) rfl dX5_findWays_174 ?_
          refine z_iload_n (pc := 176) rfl dX5_findWays_176 ?_
          refine z_icmp_gt (pc := 177) ⟨by omega, by omega⟩ ⟨by omega, by omega⟩ 234 (by decide) dX5_findWays_177 (fun hq => ?_) (fun hq => ?_)
          · omega
          refine z_iconst (pc := 180) dX5_findWays_180 ?_
          refine z_is5 (pc := 181) (by decide) rfl dX5_findWays_181 ?_
          refine lpA (((F 1 0).toNat) + 1) 0 v (by omega) (fun a b h1 h2 => ?_)
          rw [hv a b h1 h2]
          by_cases hc : a < x4
          · rw [if_pos hc, if_pos (by omega)]
          · rw [if_neg hc, if_neg (by omega)]
      refine z_iload_n (pc := 166) rfl dX5_findWays_166 ?_
      refine z_iload_n (pc := 167) rfl dX5_findWays_167 ?_
      refine z_icmp_gt (pc := 168) ⟨by omega, by omega⟩ ⟨by omega, by omega⟩ 240 (by decide) dX5_findWays_168 (fun hq => ?_) (fun hq => ?_)
      · omega
      refine z_iconst (pc := 171) dX5_findWays_171 ?_
      refine z_is4 (pc := 172) (by decide) rfl dX5_findWays_172 ?_
      exact lpB (((F 1 0).toNat) + 1) 0 u _ (by omega) (fun a b h1 h2 => by rw [if_neg (by omega)])
  -- the second loop: the arcs
  have lp2 : ∀ (j x : Nat) (u : Nat → Int) (y4 : Option Value), x + j = ((F 1 0).toNat) → zk1 [some (.ref (g.2.1 + 23)), some (.int (iz k)), some (.int (iz (F 1 0))), some (.int (iz x)), y4, none] 4 = true → wq (wPF F k) ((F 1 0).toNat) u → (∀ t, t < x → u (41 * t + (t + 1)) ≤ F 2 k ∧ u (41 * (t + 1) + t) ≤ 0) → (∀ o, o < (F 1 2).toNat → F 3 o = k → ∀ t : Nat, t < x → u (41 * t + (min ((t : Int) + F 4 o) (((F 1 0).toNat : Nat) : Int)).toNat) ≤ F 5 o) → zJ l g RX5 cX5_findWays 6 none "findWays" (zRm 1 0 0) 0 0 (fun r h => r = none ∧ ∃ u : Nat → Int, h = zk g (va_up F 33 u) L im c ∧ wys F k u) 0 0 61 [some (.ref (g.2.1 + 23)), some (.int (iz k)), some (.int (iz (F 1 0))), some (.int (iz x)), y4, none] [] (zk g (va_up F 33 u) L im c) := by
    intro j
    induction j with
    | zero =>
      intro x u y4 hx _ hw h4 h5
      refine z_iload_n (pc := 61) rfl dX5_findWays_61 ?_
      refine z_iload_n (pc := 62) rfl dX5_findWays_62 ?_
      refine z_icmp_ge (pc := 63) ⟨by omega, by omega⟩ ⟨by omega, by omega⟩ 164 (by decide) dX5_findWays_63 (fun hq => ?_) (fun hq => ?_)
      · refine z_iconst (pc := 164) dX5_findWays_164 ?_
        refine z_is3 (pc := 165) (by decide) rfl dX5_findWays_165 ?_
        exact lpC (((F 1 0).toNat) + 1) 0 u _ _ (by omega) rfl rfl hw (fun q hq => by omega) (fun t ht => h4 t (by omega)) (fun o ho hko t ht => h5 o ho hko t (by omega))
      omega
    | succ j ih =>
      intro x u y4 hx _ hw h4 h5
      have inn : ∀ (j4 x4 : Nat) (v : Nat → Int), x4 + j4 = (F 1 2).toNat → wq (wPF F k) ((F 1 0).toNat) v → (∀ q, v q ≤ u q) → (v (41 * x + (x + 1)) ≤ F 2 k ∧ v (41 * (x + 1) + x) ≤ 0) → (∀ o, o < x4 → F 3 o = k → v (41 * x + (min ((x : Int) + F 4 o) (((F 1 0).toNat : Nat) : Int)).toNat) ≤ F 5 o) → zJ l g RX5 cX5_findWays 6 none "findWays" (zRm 1 0 0) 0 0 (fun r h => r = none ∧ ∃ u : Nat → Int, h = zk g (va_up F 33 u) L im c ∧ wys F k u) 0 0 92 [some (.ref (g.2.1 + 23)), some (.int (iz k)), some (.int (iz (F 1 0))), some (.int (iz x)), some (.int (iz x4)), none] [] (zk g (va_up F 33 v) L im c) := by
        intro j4
        induction j4 with
        | zero =>
          intro x4 v hx4 hwv hvu hv4 hv5
          refine z_iload (pc := 92) rfl dX5_findWays_92 ?_
          refine z_aload_n (pc := 94) rfl dX5_findWays_94 ?_
          refine zf_X5_19 (pc := 95) rfl rfl dX5_findWays_95 ?_
          refine z_iconst (pc := 98) dX5_findWays_98 ?_
          refine z_iald (pc := 99) rfl (by decide) (by omega) (by omega) dX5_findWays_99 ?_
          rw [show va_up F 33 v 27 (0 : Int).toNat = F 1 2 from h270]
          refine z_icmp_ge (pc := 100) ⟨by omega, by omega⟩ ⟨by omega, by omega⟩ 158 (by decide) dX5_findWays_100 (fun hq => ?_) (fun hq => ?_)
          · refine z_ii3 (pc := 158) (by decide) rfl dX5_findWays_158 ?_
            refine z_goto (pc := 161) 61 (by decide) dX5_findWays_161 ?_
            refine ih (x + 1) v _ (by omega) rfl hwv (fun t ht => ?_) (fun o ho hko t ht => ?_)
            · by_cases e : t = x
              · subst e; exact hv4
              · have q1 := h4 t (by omega)
                have q2 := hvu (41 * t + (t + 1))
                have q3 := hvu (41 * (t + 1) + t)
                omega
            · by_cases e : t = x
              · subst e; exact hv5 o (by omega) hko
              · have q1 := h5 o ho hko t (by omega)
                have q2 := hvu (41 * t + (min ((t : Int) + F 4 o) (((F 1 0).toNat : Nat) : Int)).toNat)
                omega
          omega
        | succ j4 ih4 =>
          intro x4 v hx4 hwv hvu hv4 hv5
          have ro := rl_off hr (j := x4) (by omega)
          have c3 := bi_kindOf B x4
          have c4 := bi_terms B x4
          have c41 := bi_term1 B x4 (by omega)
          have c5 := bi_costs B x4
          refine z_iload (pc := 92) rfl dX5_findWays_92 ?_
          refine z_aload_n (pc := 94) rfl dX5_findWays_94 ?_
          refine zf_X5_19 (pc := 95) rfl rfl dX5_findWays_95 ?_
          refine z_iconst (pc := 98) dX5_findWays_98 ?_
          refine z_iald (pc := 99) rfl (by decide) (by omega) (by omega) dX5_findWays_99 ?_
          rw [show va_up F 33 v 27 (0 : Int).toNat = F 1 2 from h270]
          refine z_icmp_ge (pc := 100) ⟨by omega, by omega⟩ ⟨by omega, by omega⟩ 158 (by decide) dX5_findWays_100 (fun hq => ?_) (fun hq => ?_)
          · omega
          refine z_aload_n (pc := 103) rfl dX5_findWays_103 ?_
          refine zf_X5_22 (pc := 104) rfl rfl dX5_findWays_104 ?_
          refine z_iload (pc := 107) rfl dX5_findWays_107 ?_
          refine z_iald (pc := 109) rfl (by decide) (by omega) (by omega) dX5_findWays_109 ?_
          rw [Int.toNat_natCast, show va_up F 33 v 28 x4 = F 3 x4 from ro.1]
          refine z_iload_n (pc := 110) rfl dX5_findWays_110 ?_
          refine z_icmp_ne (pc := 111) ⟨by omega, by omega⟩ ⟨by omega, by omega⟩ 152 (by decide) dX5_findWays_111 (fun hq => ?_) (fun hq => ?_)
          · refine z_ii4 (pc := 152) (by decide) rfl dX5_findWays_152 ?_
            refine z_goto (pc := 155) 92 (by decide) dX5_findWays_155 ?_
            refine ih4 (x4 + 1) v (by omega) hwv hvu hv4 (fun o ho hko => ?_)
            by_cases e : o = x4
            · subst e; exact absurd hko hq
            · exact hv5 o (by omega) hko
          have hko4 : F 3 x4 = k := by assumption
          have e0 : ∃ q : Nat, q = (min ((x : Int) + F 4 x4) (((F 1 0).toNat : Nat) : Int)).toNat ∧ q ≤ ((F 1 0).toNat) := ⟨_, rfl, by omega⟩
          obtain ⟨q, hq1, hq2⟩ := e0
          have rw0 := hwv.1 x q (by omega) hq2
          have stp := wq_step hwv (by omega) (a := x) (b := q) (v := F 5 x4) (by omega) hq2 (by omega) (fun w hw3 => by rw [hq1]; exact hw3.2 x4 (by omega) hko4 x (by omega))
          -- the call, from either arm
          have call : zJ l g RX5 cX5_findWays 6 none "findWays" (zRm 1 0 0) 0 0 (fun r h => r = none ∧ ∃ u : Nat → Int, h = zk g (va_up F 33 u) L im c ∧ wys F k u) 0 0 149 [some (.ref (g.2.1 + 23)), some (.int (iz k)), some (.int (iz (F 1 0))), some (.int (iz x)), some (.int (iz x4)), none] [.int (iz (F 5 x4)), .int (iz q), .int (iz x), .ref (g.2.1 + 23)] (zk g (va_up F 33 v) L im c) := by
            refine z_V3 (pc := 149) (m_shorter (F := va_up F 33 v) (a := x) (b := q) (v := F 5 x4) (by omega) (by omega) ⟨by omega, by omega⟩ (show ir (v (41 * x + q)) from ⟨by omega, by omega⟩)) lk_X5_123 iv_X5_shorter rfl rfl ⟨by decide, by decide⟩ (Nat.le_of_ble_eq_true rfl) ⟨by decide, by decide⟩ dX5_findWays_149 (fun r h9 hq => ?_)
            obtain ⟨rfl, e8⟩ := hq
            rw [e8]
            clear e8 h9
            refine z_r0 ?_
            refine z_hp (show _ = zk g (va_up F 33 (vf_upd v (41 * x + q) (min (F 5 x4) (v (41 * x + q))))) L im c from congrArg (fun f => zk g f L im c) (bx_uu _ _ _ _)) ?_
            refine z_ii4 (pc := 152) (by decide) rfl dX5_findWays_152 ?_
            refine z_goto (pc := 155) 92 (by decide) dX5_findWays_155 ?_
            refine ih4 (x4 + 1) _ (by omega) stp.1 (fun p => Int.le_trans (stp.2 p) (hvu p)) ?_ (fun o ho hko => ?_)
            · have q1 := stp.2 (41 * x + (x + 1))
              have q2 := stp.2 (41 * (x + 1) + x)
              omega
            · by_cases e : o = x4
              · subst e
                rw [← hq1]
                unfold vf_upd
                rw [if_pos rfl]
                omega
              · exact Int.le_trans (stp.2 _) (hv5 o (by omega) hko)
          refine z_aload_n (pc := 114) rfl dX5_findWays_114 ?_
          refine z_iload_n (pc := 115) rfl dX5_findWays_115 ?_
          refine z_iload_n (pc := 116) rfl dX5_findWays_116 ?_
          refine z_aload_n (pc := 117) rfl dX5_findWays_117 ?_
          refine zf_X5_25 (pc := 118) rfl rfl dX5_findWays_118 ?_
          refine z_iload (pc := 121) rfl dX5_findWays_121 ?_
          refine z_iald (pc := 123) rfl (by decide) (by omega) (by omega) dX5_findWays_123 ?_
          rw [Int.toNat_natCast, show va_up F 33 v 29 x4 = F 4 x4 from ro.2.1]
          refine z_iadd (pc := 124) dX5_findWays_124 ?_
          refine z_iload_n (pc := 125) rfl dX5_findWays_125 ?_
          refine z_icmp_ge (pc := 126) ⟨by omega, by omega⟩ ⟨by omega, by omega⟩ 141 (by decide) dX5_findWays_126 (fun hq => ?_) (fun hq => ?_)
          · refine z_iload_n (pc := 141) rfl dX5_findWays_141 ?_
            refine z_aload_n (pc := 142) rfl dX5_findWays_142 ?_
            refine zf_X5_28 (pc := 143) rfl rfl dX5_findWays_143 ?_
            refine z_iload (pc := 146) rfl dX5_findWays_146 ?_
            refine z_iald (pc := 148) rfl (by decide) (by omega) (by omega) dX5_findWays_148 ?_
            rw [Int.toNat_natCast, show va_up F 33 v 30 x4 = F 5 x4 from ro.2.2, show F 1 0 = (q : Int) by omega]
            rw [show (q : Int) = F 1 0 by omega] at call
            rw [show (q : Int) = F 1 0 by omega]
            exact call
          refine z_iload_n (pc := 129) rfl dX5_findWays_129 ?_
          refine z_aload_n (pc := 130) rfl dX5_findWays_130 ?_
          refine zf_X5_25 (pc := 131) rfl rfl dX5_findWays_131 ?_
          refine z_iload (pc := 134) rfl dX5_findWays_134 ?_
          refine z_iald (pc := 136) rfl (by decide) (by omega) (by omega) dX5_findWays_136 ?_
          rw [Int.toNat_natCast, show va_up F 33 v 29 x4 = F 4 x4 from ro.2.1]
          refine z_iadd (pc := 137) dX5_findWays_137 ?_
          refine z_goto (pc := 138) 142 (by decide) dX5_findWays_138 ?_
          refine z_aload_n (pc := 142) rfl dX5_findWays_142 ?_
          refine zf_X5_28 (pc := 143) rfl rfl dX5_findWays_143 ?_
          refine z_iload (pc := 146) rfl dX5_findWays_146 ?_
          refine z_iald (pc := 148) rfl (by decide) (by omega) (by omega) dX5_findWays_148 ?_
          rw [Int.toNat_natCast, show va_up F 33 v 30 x4 = F 5 x4 from ro.2.2, show (x : Int) + F 4 x4 = (q : Int) by omega]
          exact call
      have rt := rl_rate hr hk
      have stp1 := wq_step hw (by omega) (a := x) (b := x + 1) (v := F 2 k) (by omega) (by omega) (by omega) (fun w hw3 => (hw3.1 x (by omega)).2)
      have rA := hw.1 x (x + 1) (by omega) (by omega)
      refine z_iload_n (pc := 61) rfl dX5_findWays_61 ?_
      refine z_iload_n (pc := 62) rfl dX5_findWays_62 ?_
      refine z_icmp_ge (pc := 63) ⟨by omega, by omega⟩ ⟨by omega, by omega⟩ 164 (by decide) dX5_findWays_63 (fun hq => ?_) (fun hq => ?_)
      · omega
      refine z_aload_n (pc := 66) rfl dX5_findWays_66 ?_
      refine z_iload_n (pc := 67) rfl dX5_findWays_67 ?_
      refine z_iload_n (pc := 68) rfl dX5_findWays_68 ?_
      refine z_iconst (pc := 69) dX5_findWays_69 ?_
      refine z_iadd (pc := 70) dX5_findWays_70 ?_
      refine z_aload_n (pc := 71) rfl dX5_findWays_71 ?_
      refine zf_X5_16 (pc := 72) rfl rfl dX5_findWays_72 ?_
      refine z_iload_n (pc := 75) rfl dX5_findWays_75 ?_
      refine z_iald (pc := 76) rfl (by decide) (by omega) (by omega) dX5_findWays_76 ?_
      rw [Int.toNat_natCast, show va_up F 33 u 26 k = F 2 k from rt, show (x : Int) + 1 = ((x + 1 : Nat) : Int) by omega]
      refine z_V3 (pc := 77) (m_shorter (F := va_up F 33 u) (a := x) (b := x + 1) (v := F 2 k) (by omega) (by omega) ⟨by omega, by omega⟩ (show ir (u (41 * x + (x + 1))) from ⟨by omega, by omega⟩)) lk_X5_123 iv_X5_shorter rfl rfl ⟨by decide, by decide⟩ (Nat.le_of_ble_eq_true rfl) ⟨by decide, by decide⟩ dX5_findWays_77 (fun r h9 hq => ?_)
      obtain ⟨rfl, e8⟩ := hq
      rw [e8]
      clear e8 h9
      refine z_r0 ?_
      refine z_hp (show _ = zk g (va_up F 33 (vf_upd u (41 * x + (x + 1)) (min (F 2 k) (u (41 * x + (x + 1)))))) L im c from congrArg (fun f => zk g f L im c) (bx_uu _ _ _ _)) ?_
      refine z_aload_n (pc := 80) rfl dX5_findWays_80 ?_
      refine z_iload_n (pc := 81) rfl dX5_findWays_81 ?_
      refine z_iconst (pc := 82) dX5_findWays_82 ?_
      refine z_iadd (pc := 83) dX5_findWays_83 ?_
      have v1 : vf_upd u (41 * x + (x + 1)) (min (F 2 k) (u (41 * x + (x + 1)))) (41 * x + (x + 1)) ≤ F 2 k := by
        unfold vf_upd; rw [if_pos rfl]; omega
      generalize vf_upd u (41 * x + (x + 1)) (min (F 2 k) (u (41 * x + (x + 1)))) = u1 at stp1 v1 ⊢
      have rB := stp1.1.1 (x + 1) x (by omega) (by omega)
      have stp2 := wq_step stp1.1 (by omega) (a := x + 1) (b := x) (v := 0) (by omega) (by omega) (by omega) (fun w hw3 => by have := (hw3.1 x (by omega)).1; omega)
      rw [show (x : Int) + 1 = ((x + 1 : Nat) : Int) by omega]
      refine z_iload_n (pc := 84) rfl dX5_findWays_84 ?_
      refine z_iconst (pc := 85) dX5_findWays_85 ?_
      refine z_V3 (pc := 86) (m_shorter (F := va_up F 33 u1) (a := x + 1) (b := x) (v := 0) (by omega) (by omega) ⟨by omega, by omega⟩ (show ir (u1 (41 * (x + 1) + x)) from ⟨by omega, by omega⟩)) lk_X5_123 iv_X5_shorter rfl rfl ⟨by decide, by decide⟩ (Nat.le_of_ble_eq_true rfl) ⟨by decide, by decide⟩ dX5_findWays_86 (fun r h9 hq => ?_)
      obtain ⟨rfl, e8⟩ := hq
      rw [e8]
      clear e8 h9
      refine z_r0 ?_
      refine z_hp (show _ = zk g (va_up F 33 (vf_upd u1 (41 * (x + 1) + x) (min 0 (u1 (41 * (x + 1) + x))))) L im c from congrArg (fun f => zk g f L im c) (bx_uu _ _ _ _)) ?_
      refine z_iconst (pc := 89) dX5_findWays_89 ?_
      refine z_is4 (pc := 90) (by decide) rfl dX5_findWays_90 ?_
      refine inn (F 1 2).toNat 0 _ (by omega) stp2.1 (fun q => Int.le_trans (stp2.2 q) (stp1.2 q)) ⟨Int.le_trans (stp2.2 _) v1, ?_⟩ (fun o ho => by omega)
      unfold vf_upd; rw [if_pos rfl]; omega
  -- the first loops: nothing known
  have lp1 : ∀ (j x : Nat) (u : Nat → Int) (y4 : Option Value), x + j = ((F 1 0).toNat) + 1 → zk1 [some (.ref (g.2.1 + 23)), some (.int (iz k)), some (.int (iz (F 1 0))), some (.int (iz x)), y4, none] 4 = true → (∀ a b, a < x → b ≤ ((F 1 0).toNat) → u (41 * a + b) = if a = b then 0 else 1000000000) → zJ l g RX5 cX5_findWays 6 none "findWays" (zRm 1 0 0) 0 0 (fun r h => r = none ∧ ∃ u : Nat → Int, h = zk g (va_up F 33 u) L im c ∧ wys F k u) 0 0 9 [some (.ref (g.2.1 + 23)), some (.int (iz k)), some (.int (iz (F 1 0))), some (.int (iz x)), y4, none] [] (zk g (va_up F 33 u) L im c) := by
    intro j
    induction j with
    | zero =>
      intro x u y4 hx _ hu
      refine z_iload_n (pc := 9) rfl dX5_findWays_9 ?_
      refine z_iload_n (pc := 10) rfl dX5_findWays_10 ?_
      refine z_icmp_gt (pc := 11) ⟨by omega, by omega⟩ ⟨by omega, by omega⟩ 59 (by decide) dX5_findWays_11 (fun hq => ?_) (fun hq => ?_)
      · refine z_iconst (pc := 59) dX5_findWays_59 ?_
        refine z_is3 (pc := 60) (by decide) rfl dX5_findWays_60 ?_
        refine lp2 ((F 1 0).toNat) 0 u _ (by omega) rfl ⟨fun a b h1 h2 => ?_, fun a h1 => ?_, fun w hw a b h1 h2 => ?_⟩ (fun t ht => by omega) (fun o ho hko t ht => by omega)
        · rw [hu a b (by omega) h2]; split <;> omega
        · rw [hu a a (by omega) h1, if_pos rfl]
        · rw [hu a b (by omega) h2]
          split
          · rename_i e; rw [e]; omega
          · have := wP_far hw (by omega) b2.2 b2.1 h1 h2
            omega
      omega
    | succ j ih =>
      intro x u y4 hx _ hu
      have inn : ∀ (j4 x4 : Nat) (v : Nat → Int), x4 + j4 = ((F 1 0).toNat) + 1 → (∀ a b, (a < x ∨ (a = x ∧ b < x4)) → b ≤ ((F 1 0).toNat) → v (41 * a + b) = if a = b then 0 else 1000000000) → zJ l g RX5 cX5_findWays 6 none "findWays" (zRm 1 0 0) 0 0 (fun r h => r = none ∧ ∃ u : Nat → Int, h = zk g (va_up F 33 u) L im c ∧ wys F k u) 0 0 17 [some (.ref (g.2.1 + 23)), some (.int (iz k)), some (.int (iz (F 1 0))), some (.int (iz x)), some (.int (iz x4)), none] [] (zk g (va_up F 33 v) L im c) := by
        intro j4
        induction j4 with
        | zero =>
          intro x4 v hx4 hv
          refine z_iload (pc := 17) rfl dX5_findWays_17 ?_
          refine z_iload_n (pc := 19) rfl dX5_findWays_19 ?_
          refine z_icmp_gt (pc := 20) ⟨by omega, by omega⟩ ⟨by omega, by omega⟩ 53 (by decide) dX5_findWays_20 (fun hq => ?_) (fun hq => ?_)
          · refine z_ii3 (pc := 53) (by decide) rfl dX5_findWays_53 ?_
            refine z_goto (pc := 56) 9 (by decide) dX5_findWays_56 ?_
            exact ih (x + 1) v _ (by omega) rfl (fun a b h1 h2 => hv a b (by omega) h2)
          omega
        | succ j4 ih4 =>
          intro x4 v hx4 hv
          have e : (41 * (x : Int) + x4).toNat = 41 * x + x4 := by omega
          have fin : ∀ z : Int, z = (if x = x4 then 0 else 1000000000) → zJ l g RX5 cX5_findWays 6 none "findWays" (zRm 1 0 0) 0 0 (fun r h => r = none ∧ ∃ u : Nat → Int, h = zk g (va_up F 33 u) L im c ∧ wys F k u) 0 0 46 [some (.ref (g.2.1 + 23)), some (.int (iz k)), some (.int (iz (F 1 0))), some (.int (iz x)), some (.int (iz x4)), none] [.int (iz z), .int (iz (41 * (x : Int) + x4)), .ref (g.2.1 + 33)] (zk g (va_up F 33 v) L im c) := by
            intro z hz
            refine z_iast (pc := 46) rfl (by decide) (by omega) (by omega) dX5_findWays_46 ?_
            refine z_hp (show _ = zk g (va_up F 33 (vf_upd v (41 * x + x4) z)) L im c by rw [e]; exact zs_33.trans (congrArg (fun f => zk g f L im c) (bx_uu _ _ _ _))) ?_
            refine z_ii4 (pc := 47) (by decide) rfl dX5_findWays_47 ?_
            refine z_goto (pc := 50) 17 (by decide) dX5_findWays_50 ?_
            refine ih4 (x4 + 1) _ (by omega) (fun a b h1 h2 => ?_)
            unfold vf_upd
            by_cases e2 : 41 * a + b = 41 * x + x4
            · have ea : a = x := by omega
              have eb : b = x4 := by omega
              rw [if_pos e2, hz, ea, eb]
            · rw [if_neg e2]
              exact hv a b (by omega) h2
          refine z_iload (pc := 17) rfl dX5_findWays_17 ?_
          refine z_iload_n (pc := 19) rfl dX5_findWays_19 ?_
          refine z_icmp_gt (pc := 20) ⟨by omega, by omega⟩ ⟨by omega, by omega⟩ 53 (by decide) dX5_findWays_20 (fun hq => ?_) (fun hq => ?_)
          · omega
          refine z_aload_n (pc := 23) rfl dX5_findWays_23 ?_
          refine zf_X5_37 (pc := 24) rfl rfl dX5_findWays_24 ?_
          refine z_bipush (pc := 27) (by decide) dX5_findWays_27 ?_
          refine z_iload_n (pc := 29) rfl dX5_findWays_29 ?_
          refine z_imul (pc := 30) dX5_findWays_30 ?_
          refine z_iload (pc := 31) rfl dX5_findWays_31 ?_
          refine z_iadd (pc := 33) dX5_findWays_33 ?_
          refine z_iload_n (pc := 34) rfl dX5_findWays_34 ?_
          refine z_iload (pc := 35) rfl dX5_findWays_35 ?_
          refine z_icmp_ne (pc := 37) ⟨by omega, by omega⟩ ⟨by omega, by omega⟩ 44 (by decide) dX5_findWays_37 (fun hq => ?_) (fun hq => ?_)
          · refine z_ldc (pc := 44) kc_X5_122 dX5_findWays_44 ?_
            exact fin _ (by rw [if_neg (by omega)])
          refine z_iconst (pc := 40) dX5_findWays_40 ?_
          refine z_goto (pc := 41) 46 (by decide) dX5_findWays_41 ?_
          exact fin _ (by rw [if_pos (by omega)])
      refine z_iload_n (pc := 9) rfl dX5_findWays_9 ?_
      refine z_iload_n (pc := 10) rfl dX5_findWays_10 ?_
      refine z_icmp_gt (pc := 11) ⟨by omega, by omega⟩ ⟨by omega, by omega⟩ 59 (by decide) dX5_findWays_11 (fun hq => ?_) (fun hq => ?_)
      · omega
      refine z_iconst (pc := 14) dX5_findWays_14 ?_
      refine z_is4 (pc := 15) (by decide) rfl dX5_findWays_15 ?_
      exact inn (((F 1 0).toNat) + 1) 0 u (by omega) (fun a b h1 h2 => hu a b (by omega) h2)
  refine z_aload_n (pc := 0) rfl dX5_findWays_0 ?_
  refine zf_X5_7 (pc := 1) rfl rfl dX5_findWays_1 ?_
  refine z_iconst (pc := 4) dX5_findWays_4 ?_
  refine z_iald (pc := 5) rfl (by decide) (by omega) (by omega) dX5_findWays_5 ?_
  rw [show F 24 (0 : Int).toNat = F 1 0 from h240]
  refine z_is2 (pc := 6) (by decide) rfl dX5_findWays_6 ?_
  refine z_iconst (pc := 7) dX5_findWays_7 ?_
  refine z_is3 (pc := 8) (by decide) rfl dX5_findWays_8 ?_
  refine z_hp (show _ = zk g (va_up F 33 (F 33)) L im c from congrArg (fun f => zk g f L im c) (by funext k; unfold va_up; split <;> simp_all)) ?_
  exact lp1 (((F 1 0).toNat) + 1) 0 (F 33) _ (by omega) rfl (fun a b h1 => by omega)
end REF2
