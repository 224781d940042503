/-! ===== the reference: nextEnd ===== -/
section REF4
variable {l : Launch} {g : zG} {F : Nat → Nat → Int} {L : Nat → Int} {im : Nat → Option Nat} {c : Nat}
/-- what nextEnd leaves: distances at rest, and a chain back to where something is left -/
def EP (F : Nat → Nat → Int) (far : Nat → Int) (x : Nat) (z : Int) : Prop := (z = -1 ∧ ∀ v, v < x → F 35 v < 0 → 1000000000 ≤ far v) ∨ ∃ e : Nat, z = e ∧ e < x ∧ F 35 e < 0 ∧ far e < 1000000000
def NE (F : Nat → Nat → Int) (n : Nat) (φ far fr : Nat → Int) (t : Nat → Nat) (T : Nat) (z : Int) : Prop := NI n (F 34) (F 36) (F 33) (F 35) φ far fr t T ∧ (∀ a b, ra (F 34) (F 36) n a b → far a < 1000000000 → far b ≤ far a + cst (F 34) (F 33) a b) ∧ ((z = -1 ∧ ∀ v, v ≤ n → F 35 v < 0 → 1000000000 ≤ far v) ∨ ∃ e : Nat, z = e ∧ e ≤ n ∧ F 35 e < 0 ∧ far e < 1000000000)
theorem m_nextEnd (B : bi F 1) (hr : rl F 1 0) {φ : Nat → Int} (hu : ∀ a b, a ≤ (F 1 0).toNat → b ≤ (F 1 0).toNat → 0 ≤ F 33 (41 * a + b) ∧ F 33 (41 * a + b) ≤ 40000) (hs : ∀ v, v ≤ (F 1 0).toNat → -1000 ≤ F 34 v ∧ F 34 v ≤ 1000) (hl : ∀ v, v ≤ (F 1 0).toNat → -1000 ≤ F 35 v ∧ F 35 v ≤ 1000) (hf : ∀ j, 0 ≤ F 36 j ∧ F 36 j ≤ 100000000) (hz : fz (F 1 0).toNat (F 34) (F 36) (F 33) φ) (hφ : ∀ v, v ≤ (F 1 0).toNat → -1000000000 ≤ φ v ∧ φ v ≤ 40000) : zM l g yX5_nextEnd cX5_nextEnd 8 (some .int) 0 0 0 [.ref (g.2.1 + 23)] (zk g F L im c) (fun r h => ∃ (z : Int) (far fr : Nat → Int) (t : Nat → Nat) (T : Nat), r = some (.int (iz z)) ∧ h = zk g (va_up (va_up F 37 far) 38 fr) L im c ∧ NE F (F 1 0).toNat φ far fr t T z) := by
  refine zM_of 7 (by decide) rfl ?_
  show zJ l g RX5 cX5_nextEnd 8 (some .int) "nextEnd" (zRm 0 0 0) 0 0 _ 0 0 0 [some (.ref (g.2.1 + 23)), none, none, none, none, none, none, none] [] _
  have b1 := bi_hours B
  have h240 : F 24 0 = F 1 0 := hr.1
  -- the choice of an end
  have pick : ∀ (far fr : Nat → Int) (t : Nat → Nat) (T : Nat), NI (F 1 0).toNat (F 34) (F 36) (F 33) (F 35) φ far fr t T → (∀ a b, True → ra (F 34) (F 36) (F 1 0).toNat a b → far a < 1000000000 → far b ≤ far a + cst (F 34) (F 33) a b) → ∀ (j x : Nat) (z w2 : Int) (y5 y6 y7 : Option Value), x + j = (F 1 0).toNat + 1 → EP F far x z → zJ l g RX5 cX5_nextEnd 8 (some .int) "nextEnd" (zRm 0 0 0) 0 0 (fun r h => ∃ (z : Int) (far fr : Nat → Int) (t : Nat → Nat) (T : Nat), r = some (.int (iz z)) ∧ h = zk g (va_up (va_up F 37 far) 38 fr) L im c ∧ NE F (F 1 0).toNat φ far fr t T z) 0 0 276 [some (.ref (g.2.1 + 23)), some (.int (iz (F 1 0))), some (.int (iz w2)), some (.int (iz z)), some (.int (iz x)), y5, y6, y7] [] (zk g (va_up (va_up F 37 far) 38 fr) L im c) := by
    intro far fr t T hN hE j
    induction j with
    | zero =>
      intro x z w2 y5 y6 y7 hx hzz
      refine z_iload (pc := 276) rfl dX5_nextEnd_276 ?_
      refine z_iload_n (pc := 278) rfl dX5_nextEnd_278 ?_
      refine z_icmp_gt (pc := 279) ⟨by omega, by omega⟩ ⟨by omega, by omega⟩ 334 (by decide) dX5_nextEnd_279 (fun hq => ?_) (fun hq => ?_)
      · refine z_iload_n (pc := 334) rfl dX5_nextEnd_334 ?_
        refine z_reti (pc := 335) rfl (by decide) (by decide) dX5_nextEnd_335 ⟨z, far, fr, t, T, rfl, rfl, hN, fun a b => hE a b trivial, ?_⟩
        rcases hzz with ⟨h1, h2⟩ | ⟨e, h1, h2, h3, h4⟩
        · exact Or.inl ⟨h1, fun v hv => h2 v (by omega)⟩
        · exact Or.inr ⟨e, h1, by omega, h3, h4⟩
      omega
    | succ j ih =>
      intro x z w2 y5 y6 y7 hx hzz
      have q1 := hl x (by omega)
      have q2 := hN.1 x (by omega)
      have q3 := hφ x (by omega)
      have skip : ((F 35 x < 0 → 1000000000 ≤ far x) ∨ 0 ≤ z) → zJ l g RX5 cX5_nextEnd 8 (some .int) "nextEnd" (zRm 0 0 0) 0 0 (fun r h => ∃ (z : Int) (far fr : Nat → Int) (t : Nat → Nat) (T : Nat), r = some (.int (iz z)) ∧ h = zk g (va_up (va_up F 37 far) 38 fr) L im c ∧ NE F (F 1 0).toNat φ far fr t T z) 0 0 328 [some (.ref (g.2.1 + 23)), some (.int (iz (F 1 0))), some (.int (iz w2)), some (.int (iz z)), some (.int (iz x)), y5, y6, y7] [] (zk g (va_up (va_up F 37 far) 38 fr) L im c) := by
        intro hsk
        refine z_ii4 (pc := 328) (by decide) rfl dX5_nextEnd_328 ?_
        refine z_goto (pc := 331) 276 (by decide) dX5_nextEnd_331 ?_
        refine ih (x + 1) z _ _ _ _ (by omega) ?_
        unfold EP at hzz ⊢
        rcases hzz with ⟨h1, h2⟩ | ⟨e, h1, h2, h3, h4⟩
        · rcases hsk with h5 | h5
          · refine Or.inl ⟨h1, fun v hv hv0 => ?_⟩
            by_cases e : v = x
            · subst e; exact h5 hv0
            · exact h2 v (by omega) hv0
          · omega
        · exact Or.inr ⟨e, h1, by omega, h3, h4⟩
      refine z_iload (pc := 276) rfl dX5_nextEnd_276 ?_
      refine z_iload_n (pc := 278) rfl dX5_nextEnd_278 ?_
      refine z_icmp_gt (pc := 279) ⟨by omega, by omega⟩ ⟨by omega, by omega⟩ 334 (by decide) dX5_nextEnd_279 (fun hq => ?_) (fun hq => ?_)
      · omega
      refine z_aload_n (pc := 282) rfl dX5_nextEnd_282 ?_
      refine zf_X5_43 (pc := 283) rfl rfl dX5_nextEnd_283 ?_
      refine z_iload (pc := 286) rfl dX5_nextEnd_286 ?_
      refine z_iald (pc := 288) rfl (by decide) (by omega) (by omega) dX5_nextEnd_288 ?_
      rw [Int.toNat_natCast]
      refine z_if_ge (pc := 289) (show ir (F 35 x) from ⟨by omega, by omega⟩) 328 (by decide) dX5_nextEnd_289 (fun hq => skip (Or.inl (fun h0 => by have hq2 : 0 ≤ F 35 x := hq; omega))) (fun hq => ?_)
      have hx0 : F 35 x < 0 := hq
      refine z_aload_n (pc := 292) rfl dX5_nextEnd_292 ?_
      refine zf_X5_49 (pc := 293) rfl rfl dX5_nextEnd_293 ?_
      refine z_iload (pc := 296) rfl dX5_nextEnd_296 ?_
      refine z_iald (pc := 298) rfl (by decide) (by omega) (by omega) dX5_nextEnd_298 ?_
      refine z_ldc (pc := 299) kc_X5_122 dX5_nextEnd_299 ?_
      rw [Int.toNat_natCast]
      refine z_icmp_ge (pc := 301) (show ir (far x) from ⟨by omega, by omega⟩) ⟨by omega, by omega⟩ 328 (by decide) dX5_nextEnd_301 (fun hq => skip (Or.inl (fun _ => hq))) (fun hq => ?_)
      have hxf : far x < 1000000000 := hq
      have take : zJ l g RX5 cX5_nextEnd 8 (some .int) "nextEnd" (zRm 0 0 0) 0 0 (fun r h => ∃ (z : Int) (far fr : Nat → Int) (t : Nat → Nat) (T : Nat), r = some (.int (iz z)) ∧ h = zk g (va_up (va_up F 37 far) 38 fr) L im c ∧ NE F (F 1 0).toNat φ far fr t T z) 0 0 325 [some (.ref (g.2.1 + 23)), some (.int (iz (F 1 0))), some (.int (iz w2)), some (.int (iz z)), some (.int (iz x)), y5, y6, y7] [] (zk g (va_up (va_up F 37 far) 38 fr) L im c) := by
        refine z_iload (pc := 325) rfl dX5_nextEnd_325 ?_
        refine z_is3 (pc := 327) (by decide) rfl dX5_nextEnd_327 ?_
        refine z_ii4 (pc := 328) (by decide) rfl dX5_nextEnd_328 ?_
        refine z_goto (pc := 331) 276 (by decide) dX5_nextEnd_331 ?_
        refine ih (x + 1) x _ _ _ _ (by omega) ?_
        exact Or.inr ⟨x, rfl, by omega, hx0, hxf⟩
      refine z_iload_n (pc := 304) rfl dX5_nextEnd_304 ?_
      refine z_iconst (pc := 305) dX5_nextEnd_305 ?_
      rcases hzz with ⟨h1, h2⟩ | ⟨e, h1, h2, h3, h4⟩
      · subst h1
        refine z_icmp_eq (pc := 306) ⟨by omega, by omega⟩ ⟨by omega, by omega⟩ 325 (by decide) dX5_nextEnd_306 (fun hq => ?_) (fun hq => ?_)
        · exact take
        omega
      · subst h1
        have q4 := hN.1 e (by omega)
        have q5 := hφ e (by omega)
        refine z_icmp_eq (pc := 306) ⟨by omega, by omega⟩ ⟨by omega, by omega⟩ 325 (by decide) dX5_nextEnd_306 (fun hq => ?_) (fun hq => ?_)
        · omega
        refine z_aload_n (pc := 309) rfl dX5_nextEnd_309 ?_
        refine zf_X5_49 (pc := 310) rfl rfl dX5_nextEnd_310 ?_
        refine z_iload (pc := 313) rfl dX5_nextEnd_313 ?_
        refine z_iald (pc := 315) rfl (by decide) (by omega) (by omega) dX5_nextEnd_315 ?_
        refine z_aload_n (pc := 316) rfl dX5_nextEnd_316 ?_
        refine zf_X5_49 (pc := 317) rfl rfl dX5_nextEnd_317 ?_
        refine z_iload_n (pc := 320) rfl dX5_nextEnd_320 ?_
        refine z_iald (pc := 321) rfl (by decide) (by omega) (by omega) dX5_nextEnd_321 ?_
        rw [Int.toNat_natCast, Int.toNat_natCast]
        refine z_icmp_ge (pc := 322) (show ir (far x) from ⟨by omega, by omega⟩) (show ir (far e) from ⟨by omega, by omega⟩) 328 (by decide) dX5_nextEnd_322 (fun hq => skip (Or.inr (by omega))) (fun hq => take)
  -- passes, as long as one changes something
  have pass : ∀ (μ : Nat) (far fr : Nat → Int) (t : Nat → Nat) (T : Nat) (y3 y4 y5 y6 y7 : Option Value), mes (F 1 0).toNat φ far < μ → NI (F 1 0).toNat (F 34) (F 36) (F 33) (F 35) φ far fr t T → zJ l g RX5 cX5_nextEnd 8 (some .int) "nextEnd" (zRm 0 0 0) 0 0 (fun r h => ∃ (z : Int) (far fr : Nat → Int) (t : Nat → Nat) (T : Nat), r = some (.int (iz z)) ∧ h = zk g (va_up (va_up F 37 far) 38 fr) L im c ∧ NE F (F 1 0).toNat φ far fr t T z) 0 0 50 [some (.ref (g.2.1 + 23)), some (.int (iz (F 1 0))), some (.int (iz 1)), y3, y4, y5, y6, y7] [] (zk g (va_up (va_up F 37 far) 38 fr) L im c) := by
    intro μ
    induction μ with
    | zero =>
      intro far fr t T y3 y4 y5 y6 y7 hμ hN
      have := mes_pos (n := (F 1 0).toNat) (φ := φ) (far := far) (fun v hv => (hN.1 v hv).1)
      omega
    | succ μ ihμ =>
      intro far0 fr0 t0 T0 y3 y4 y5 y6 y7 hμ hN0
      generalize hM : mes (F 1 0).toNat φ far0 = M at hμ
      have lpA : ∀ (jA xA : Nat) (mo : Int) (far fr : Nat → Int) (t : Nat → Nat) (T : Nat) (y4 y5 y6 y7 : Option Value), xA + jA = (F 1 0).toNat + 1 → NI (F 1 0).toNat (F 34) (F 36) (F 33) (F 35) φ far fr t T → ((mo = 0 ∧ mes (F 1 0).toNat φ far ≤ M ∧ (∀ a b, a < xA → ra (F 34) (F 36) (F 1 0).toNat a b → far a < 1000000000 → far b ≤ far a + cst (F 34) (F 33) a b)) ∨ (mo = 1 ∧ mes (F 1 0).toNat φ far < M)) → zJ l g RX5 cX5_nextEnd 8 (some .int) "nextEnd" (zRm 0 0 0) 0 0 (fun r h => ∃ (z : Int) (far fr : Nat → Int) (t : Nat → Nat) (T : Nat), r = some (.int (iz z)) ∧ h = zk g (va_up (va_up F 37 far) 38 fr) L im c ∧ NE F (F 1 0).toNat φ far fr t T z) 0 0 58 [some (.ref (g.2.1 + 23)), some (.int (iz (F 1 0))), some (.int (iz mo)), some (.int (iz xA)), y4, y5, y6, y7] [] (zk g (va_up (va_up F 37 far) 38 fr) L im c) := by
        intro jA
        induction jA with
        | zero =>
          intro xA mo far fr t T y4 y5 y6 y7 hxA hN hP
          refine z_iload_n (pc := 58) rfl dX5_nextEnd_58 ?_
          refine z_iload_n (pc := 59) rfl dX5_nextEnd_59 ?_
          refine z_icmp_gt (pc := 60) ⟨by omega, by omega⟩ ⟨by omega, by omega⟩ 268 (by decide) dX5_nextEnd_60 (fun hq => ?_) (fun hq => ?_)
          · refine z_goto (pc := 268) 50 (by decide) dX5_nextEnd_268 ?_
            rcases hP with ⟨h1, h2, h3⟩ | ⟨h1, h2⟩
            · subst h1
              refine z_iload_n (pc := 50) rfl dX5_nextEnd_50 ?_
              refine z_if_eq (pc := 51) ⟨by omega, by omega⟩ 271 (by decide) dX5_nextEnd_51 (fun hq => ?_) (fun hq => ?_)
              · refine z_iconst (pc := 271) dX5_nextEnd_271 ?_
                refine z_is3 (pc := 272) (by decide) rfl dX5_nextEnd_272 ?_
                refine z_iconst (pc := 273) dX5_nextEnd_273 ?_
                refine z_is4 (pc := 274) (by decide) rfl dX5_nextEnd_274 ?_
                exact pick far fr t T hN (fun a b _ hab => h3 a b (by have := hab.1; omega) hab) ((F 1 0).toNat + 1) 0 (-1) _ _ _ _ (by omega) (Or.inl ⟨rfl, fun v hv => by omega⟩)
              omega
            · subst h1
              exact ihμ far fr t T _ _ _ _ _ (by omega) hN
          omega
        | succ jA ihA =>
          intro xA mo far fr t T y4 y5 y6 y7 hxA hN hP
          have lpB : ∀ (jB xB : Nat) (mo : Int) (far fr : Nat → Int) (t : Nat → Nat) (T : Nat) (y5 y6 y7 : Option Value), xB + jB = (F 1 0).toNat + 1 → NI (F 1 0).toNat (F 34) (F 36) (F 33) (F 35) φ far fr t T → ((mo = 0 ∧ mes (F 1 0).toNat φ far ≤ M ∧ (∀ a b, (a < xA ∨ (a = xA ∧ b < xB)) → ra (F 34) (F 36) (F 1 0).toNat a b → far a < 1000000000 → far b ≤ far a + cst (F 34) (F 33) a b)) ∨ (mo = 1 ∧ mes (F 1 0).toNat φ far < M)) → zJ l g RX5 cX5_nextEnd 8 (some .int) "nextEnd" (zRm 0 0 0) 0 0 (fun r h => ∃ (z : Int) (far fr : Nat → Int) (t : Nat → Nat) (T : Nat), r = some (.int (iz z)) ∧ h = zk g (va_up (va_up F 37 far) 38 fr) L im c ∧ NE F (F 1 0).toNat φ far fr t T z) 0 0 66 [some (.ref (g.2.1 + 23)), some (.int (iz (F 1 0))), some (.int (iz mo)), some (.int (iz xA)), some (.int (iz xB)), y5, y6, y7] [] (zk g (va_up (va_up F 37 far) 38 fr) L im c) := by
            intro jB
            induction jB with
            | zero =>
              intro xB mo far fr t T y5 y6 y7 hxB hN hP
              refine z_iload (pc := 66) rfl dX5_nextEnd_66 ?_
              refine z_iload_n (pc := 68) rfl dX5_nextEnd_68 ?_
              refine z_icmp_gt (pc := 69) ⟨by omega, by omega⟩ ⟨by omega, by omega⟩ 262 (by decide) dX5_nextEnd_69 (fun hq => ?_) (fun hq => ?_)
              · refine z_ii3 (pc := 262) (by decide) rfl dX5_nextEnd_262 ?_
                refine z_goto (pc := 265) 58 (by decide) dX5_nextEnd_265 ?_
                refine ihA (xA + 1) mo far fr t T _ _ _ _ (by omega) hN ?_
                rcases hP with ⟨h1, h2, h3⟩ | h1
                · exact Or.inl ⟨h1, h2, fun a b hab hr2 => h3 a b (by have := hr2.2.1; omega) hr2⟩
                · exact Or.inr h1
              omega
            | succ jB ihB =>
              intro xB mo far fr t T y5 y6 y7 hxB hN hP
              have fa := hN.1 xA (by omega)
              have fb2 := hN.1 xB (by omega)
              have pa := hφ xA (by omega)
              have pb := hφ xB (by omega)
              have sa := hs xA (by omega)
              have sb := hs xB (by omega)
              have ua := hu xA xB (by omega) (by omega)
              have ub := hu xB xA (by omega) (by omega)
              have ff := hf (41 * xB + xA)
              -- nothing is to be done for this pair
              have skip : ∀ (y5 y6 y7 : Option Value), (ra (F 34) (F 36) (F 1 0).toNat xA xB → far xA < 1000000000 → far xB ≤ far xA + cst (F 34) (F 33) xA xB) → zJ l g RX5 cX5_nextEnd 8 (some .int) "nextEnd" (zRm 0 0 0) 0 0 (fun r h => ∃ (z : Int) (far fr : Nat → Int) (t : Nat → Nat) (T : Nat), r = some (.int (iz z)) ∧ h = zk g (va_up (va_up F 37 far) 38 fr) L im c ∧ NE F (F 1 0).toNat φ far fr t T z) 0 0 256 [some (.ref (g.2.1 + 23)), some (.int (iz (F 1 0))), some (.int (iz mo)), some (.int (iz xA)), some (.int (iz xB)), y5, y6, y7] [] (zk g (va_up (va_up F 37 far) 38 fr) L im c) := by
                intro y5 y6 y7 hsk
                refine z_ii4 (pc := 256) (by decide) rfl dX5_nextEnd_256 ?_
                refine z_goto (pc := 259) 66 (by decide) dX5_nextEnd_259 ?_
                refine ihB (xB + 1) mo far fr t T _ _ _ (by omega) hN ?_
                rcases hP with ⟨h1, h2, h3⟩ | h1
                · refine Or.inl ⟨h1, h2, fun a b hab hr2 hfa => ?_⟩
                  by_cases e : a = xA ∧ b = xB
                  · obtain ⟨e1, e2⟩ := e
                    subst e1
                    subst e2
                    exact hsk hr2 hfa
                  · exact h3 a b (by omega) hr2 hfa
                · exact Or.inr h1
              -- with c known
              have k202 : ∀ (cv : Int) (y5 y6 y7 : Option Value) (v6 : Int), y6 = some (.int (iz v6)) → far xA < 1000000000 → ir cv → ((ra (F 34) (F 36) (F 1 0).toNat xA xB ∧ cv = cst (F 34) (F 33) xA xB ∧ -40000 ≤ cv ∧ cv ≤ 40000) ∨ (¬ ra (F 34) (F 36) (F 1 0).toNat xA xB ∧ cv = 1000000000)) → zJ l g RX5 cX5_nextEnd 8 (some .int) "nextEnd" (zRm 0 0 0) 0 0 (fun r h => ∃ (z : Int) (far fr : Nat → Int) (t : Nat → Nat) (T : Nat), r = some (.int (iz z)) ∧ h = zk g (va_up (va_up F 37 far) 38 fr) L im c ∧ NE F (F 1 0).toNat φ far fr t T z) 0 0 202 [some (.ref (g.2.1 + 23)), some (.int (iz (F 1 0))), some (.int (iz mo)), some (.int (iz xA)), some (.int (iz xB)), y5, y6, y7] [.int (iz cv)] (zk g (va_up (va_up F 37 far) 38 fr) L im c) := by
                intro cv y5 y6 y7 v6 hy6 hfa hcv hcase
                subst hy6
                refine z_is7 (pc := 202) (by decide) rfl dX5_nextEnd_202 ?_
                refine z_iload (pc := 204) rfl dX5_nextEnd_204 ?_
                refine z_ldc (pc := 206) kc_X5_122 dX5_nextEnd_206 ?_
                refine z_icmp_ge (pc := 208) hcv ⟨by omega, by omega⟩ 256 (by decide) dX5_nextEnd_208 (fun hq => ?_) (fun hq => ?_)
                · exact skip _ _ _ (fun h1 _ => by
                    rcases hcase with h2 | h2
                    · omega
                    · exact absurd h1 h2.1)
                have hra : ra (F 34) (F 36) (F 1 0).toNat xA xB ∧ cv = cst (F 34) (F 33) xA xB ∧ -40000 ≤ cv ∧ cv ≤ 40000 := by
                  rcases hcase with h2 | h2
                  · exact h2
                  · omega
                obtain ⟨r1, r2, r3, r4⟩ := hra
                refine z_aload_n (pc := 211) rfl dX5_nextEnd_211 ?_
                refine zf_X5_49 (pc := 212) rfl rfl dX5_nextEnd_212 ?_
                refine z_iload_n (pc := 215) rfl dX5_nextEnd_215 ?_
                refine z_iald (pc := 216) rfl (by decide) (by omega) (by omega) dX5_nextEnd_216 ?_
                refine z_iload (pc := 217) rfl dX5_nextEnd_217 ?_
                refine z_iadd (pc := 219) dX5_nextEnd_219 ?_
                refine z_aload_n (pc := 220) rfl dX5_nextEnd_220 ?_
                refine zf_X5_49 (pc := 221) rfl rfl dX5_nextEnd_221 ?_
                refine z_iload (pc := 224) rfl dX5_nextEnd_224 ?_
                refine z_iald (pc := 226) rfl (by decide) (by omega) (by omega) dX5_nextEnd_226 ?_
                rw [Int.toNat_natCast, Int.toNat_natCast]
                refine z_icmp_ge (pc := 227) (show ir (far xA + cv) from ⟨by omega, by omega⟩) (show ir (far xB) from ⟨by omega, by omega⟩) 256 (by decide) dX5_nextEnd_227 (fun hq => skip _ _ _ (fun _ _ => by rw [← r2]; exact hq)) (fun hq => ?_)
                have hlt : far xA + cv < far xB := hq
                rw [r2] at hlt
                obtain ⟨N2, M2⟩ := NI_upd hN hz r1 hfa hlt
                refine z_aload_n (pc := 230) rfl dX5_nextEnd_230 ?_
                refine zf_X5_49 (pc := 231) rfl rfl dX5_nextEnd_231 ?_
                refine z_iload (pc := 234) rfl dX5_nextEnd_234 ?_
                refine z_aload_n (pc := 236) rfl dX5_nextEnd_236 ?_
                refine zf_X5_49 (pc := 237) rfl rfl dX5_nextEnd_237 ?_
                refine z_iload_n (pc := 240) rfl dX5_nextEnd_240 ?_
                refine z_iald (pc := 241) rfl (by decide) (by omega) (by omega) dX5_nextEnd_241 ?_
                refine z_iload (pc := 242) rfl dX5_nextEnd_242 ?_
                refine z_iadd (pc := 244) dX5_nextEnd_244 ?_
                rw [Int.toNat_natCast]
                refine z_iast (pc := 245) rfl (by decide) (by omega) (by omega) dX5_nextEnd_245 ?_
                refine z_hp zs_37 ?_
                refine z_aload_n (pc := 246) rfl dX5_nextEnd_246 ?_
                refine zf_X5_52 (pc := 247) rfl rfl dX5_nextEnd_247 ?_
                refine z_iload (pc := 250) rfl dX5_nextEnd_250 ?_
                refine z_iload_n (pc := 252) rfl dX5_nextEnd_252 ?_
                refine z_iast (pc := 253) rfl (by decide) (by omega) (by omega) dX5_nextEnd_253 ?_
                refine z_hp zs_38 ?_
                refine z_hp (show _ = zk g (va_up (va_up F 37 (vf_upd far xB (far xA + cst (F 34) (F 33) xA xB))) 38 (vf_upd fr xB xA)) L im c from congrArg (fun f => zk g f L im c) ?_) ?_
                · rw [Int.toNat_natCast, ← r2]
                  funext q
                  unfold va_up
                  by_cases h38 : q = 38
                  · subst h38; rfl
                  · rw [if_neg h38, if_neg h38]
                    by_cases h37 : q = 37
                    · subst h37; rfl
                    · rw [if_neg h37, if_neg h38, if_neg h37, if_neg h37]
                refine z_iconst (pc := 254) dX5_nextEnd_254 ?_
                refine z_is2 (pc := 255) (by decide) rfl dX5_nextEnd_255 ?_
                refine z_ii4 (pc := 256) (by decide) rfl dX5_nextEnd_256 ?_
                refine z_goto (pc := 259) 66 (by decide) dX5_nextEnd_259 ?_
                refine ihB (xB + 1) 1 _ _ _ _ _ _ _ (by omega) N2 (Or.inr ⟨rfl, ?_⟩)
                rcases hP with ⟨h1, h2, h3⟩ | ⟨h1, h2⟩ <;> omega
              -- with both questions answered
              have k159 : ∀ (v5 v6 : Int) (y7 : Option Value), far xA < 1000000000 → v5 = (if 0 < F 34 xA ∧ F 34 xB < 0 then 1 else 0) → v6 = (if F 34 xA < 0 ∧ 0 < F 34 xB ∧ 0 < F 36 (41 * xB + xA) then 1 else 0) → zJ l g RX5 cX5_nextEnd 8 (some .int) "nextEnd" (zRm 0 0 0) 0 0 (fun r h => ∃ (z : Int) (far fr : Nat → Int) (t : Nat → Nat) (T : Nat), r = some (.int (iz z)) ∧ h = zk g (va_up (va_up F 37 far) 38 fr) L im c ∧ NE F (F 1 0).toNat φ far fr t T z) 0 0 159 [some (.ref (g.2.1 + 23)), some (.int (iz (F 1 0))), some (.int (iz mo)), some (.int (iz xA)), some (.int (iz xB)), some (.int (iz v5)), some (.int (iz v6)), y7] [] (zk g (va_up (va_up F 37 far) 38 fr) L im c) := by
                intro v5 v6 y7 hfa h5 h6
                refine z_iload (pc := 159) rfl dX5_nextEnd_159 ?_
                by_cases c5 : 0 < F 34 xA ∧ F 34 xB < 0
                · rw [if_pos c5] at h5
                  subst h5
                  refine z_if_eq (pc := 161) ⟨by omega, by omega⟩ 179 (by decide) dX5_nextEnd_161 (fun hq => ?_) (fun hq => ?_)
                  · omega
                  refine z_aload_n (pc := 164) rfl dX5_nextEnd_164 ?_
                  refine zf_X5_37 (pc := 165) rfl rfl dX5_nextEnd_165 ?_
                  refine z_bipush (pc := 168) (by decide) dX5_nextEnd_168 ?_
                  refine z_iload_n (pc := 170) rfl dX5_nextEnd_170 ?_
                  refine z_imul (pc := 171) dX5_nextEnd_171 ?_
                  refine z_iload (pc := 172) rfl dX5_nextEnd_172 ?_
                  refine z_iadd (pc := 174) dX5_nextEnd_174 ?_
                  refine z_iald (pc := 175) rfl (by decide) (by omega) (by omega) dX5_nextEnd_175 ?_
                  rw [show (41 * (xA : Int) + xB).toNat = 41 * xA + xB by omega]
                  refine z_goto (pc := 176) 202 (by decide) dX5_nextEnd_176 ?_
                  refine k202 _ _ _ _ v6 rfl hfa (show ir (F 33 (41 * xA + xB)) from ⟨by omega, by omega⟩) (Or.inl ⟨⟨by omega, by omega, Or.inl c5⟩, ?_, by show -40000 ≤ F 33 (41 * xA + xB); omega, by show F 33 (41 * xA + xB) ≤ 40000; omega⟩)
                  unfold cst
                  rw [if_pos c5.1]
                  rfl
                · rw [if_neg c5] at h5
                  subst h5
                  refine z_if_eq (pc := 161) ⟨by omega, by omega⟩ 179 (by decide) dX5_nextEnd_161 (fun hq => ?_) (fun hq => ?_)
                  rotate_left
                  · omega
                  refine z_iload (pc := 179) rfl dX5_nextEnd_179 ?_
                  by_cases c6 : F 34 xA < 0 ∧ 0 < F 34 xB ∧ 0 < F 36 (41 * xB + xA)
                  · rw [if_pos c6] at h6
                    subst h6
                    refine z_if_eq (pc := 181) ⟨by omega, by omega⟩ 200 (by decide) dX5_nextEnd_181 (fun hq => ?_) (fun hq => ?_)
                    · omega
                    refine z_aload_n (pc := 184) rfl dX5_nextEnd_184 ?_
                    refine zf_X5_37 (pc := 185) rfl rfl dX5_nextEnd_185 ?_
                    refine z_bipush (pc := 188) (by decide) dX5_nextEnd_188 ?_
                    refine z_iload (pc := 190) rfl dX5_nextEnd_190 ?_
                    refine z_imul (pc := 192) dX5_nextEnd_192 ?_
                    refine z_iload_n (pc := 193) rfl dX5_nextEnd_193 ?_
                    refine z_iadd (pc := 194) dX5_nextEnd_194 ?_
                    refine z_iald (pc := 195) rfl (by decide) (by omega) (by omega) dX5_nextEnd_195 ?_
                    rw [show (41 * (xB : Int) + xA).toNat = 41 * xB + xA by omega]
                    refine z_ineg (pc := 196) dX5_nextEnd_196 ?_
                    refine z_goto (pc := 197) 202 (by decide) dX5_nextEnd_197 ?_
                    refine k202 _ _ _ _ 1 rfl hfa (show ir (-F 33 (41 * xB + xA)) from ⟨by omega, by omega⟩) (Or.inl ⟨⟨by omega, by omega, Or.inr c6⟩, ?_, by show -40000 ≤ -F 33 (41 * xB + xA); omega, by show -F 33 (41 * xB + xA) ≤ 40000; omega⟩)
                    unfold cst
                    rw [if_neg (by omega)]
                    rfl
                  · rw [if_neg c6] at h6
                    subst h6
                    refine z_if_eq (pc := 181) ⟨by omega, by omega⟩ 200 (by decide) dX5_nextEnd_181 (fun hq => ?_) (fun hq => ?_)
                    rotate_left
                    · omega
                    refine z_ldc (pc := 200) kc_X5_122 dX5_nextEnd_200 ?_
                    exact k202 _ _ _ _ 0 rfl hfa ⟨by omega, by omega⟩ (Or.inr ⟨fun h => h.2.2.elim c5 c6, rfl⟩)
              have k118 : ∀ (v5 : Int) (y6 y7 : Option Value), far xA < 1000000000 → v5 = (if 0 < F 34 xA ∧ F 34 xB < 0 then 1 else 0) → zJ l g RX5 cX5_nextEnd 8 (some .int) "nextEnd" (zRm 0 0 0) 0 0 (fun r h => ∃ (z : Int) (far fr : Nat → Int) (t : Nat → Nat) (T : Nat), r = some (.int (iz z)) ∧ h = zk g (va_up (va_up F 37 far) 38 fr) L im c ∧ NE F (F 1 0).toNat φ far fr t T z) 0 0 118 [some (.ref (g.2.1 + 23)), some (.int (iz (F 1 0))), some (.int (iz mo)), some (.int (iz xA)), some (.int (iz xB)), some (.int (iz v5)), y6, y7] [] (zk g (va_up (va_up F 37 far) 38 fr) L im c) := by
                intro v5 y6 y7 hfa h5
                have no : (v : Int) → v = 0 → ¬ (F 34 xA < 0 ∧ 0 < F 34 xB ∧ 0 < F 36 (41 * xB + xA)) → zJ l g RX5 cX5_nextEnd 8 (some .int) "nextEnd" (zRm 0 0 0) 0 0 (fun r h => ∃ (z : Int) (far fr : Nat → Int) (t : Nat → Nat) (T : Nat), r = some (.int (iz z)) ∧ h = zk g (va_up (va_up F 37 far) 38 fr) L im c ∧ NE F (F 1 0).toNat φ far fr t T z) 0 0 157 [some (.ref (g.2.1 + 23)), some (.int (iz (F 1 0))), some (.int (iz mo)), some (.int (iz xA)), some (.int (iz xB)), some (.int (iz v5)), y6, y7] [.int (iz v)] (zk g (va_up (va_up F 37 far) 38 fr) L im c) := by
                  intro v hv hn
                  refine z_is6 (pc := 157) (by decide) rfl dX5_nextEnd_157 ?_
                  exact k159 v5 v _ hfa h5 (by rw [if_neg hn]; exact hv)
                refine z_aload_n (pc := 118) rfl dX5_nextEnd_118 ?_
                refine zf_X5_40 (pc := 119) rfl rfl dX5_nextEnd_119 ?_
                refine z_iload_n (pc := 122) rfl dX5_nextEnd_122 ?_
                refine z_iald (pc := 123) rfl (by decide) (by omega) (by omega) dX5_nextEnd_123 ?_
                rw [Int.toNat_natCast]
                refine z_if_ge (pc := 124) (show ir (F 34 xA) from ⟨by omega, by omega⟩) 156 (by decide) dX5_nextEnd_124 (fun hq => ?_) (fun hq => ?_)
                · have hq2 : 0 ≤ F 34 xA := hq
                  refine z_iconst (pc := 156) dX5_nextEnd_156 ?_
                  exact no 0 rfl (by omega)
                have hq2 : F 34 xA < 0 := hq
                refine z_aload_n (pc := 127) rfl dX5_nextEnd_127 ?_
                refine zf_X5_40 (pc := 128) rfl rfl dX5_nextEnd_128 ?_
                refine z_iload (pc := 131) rfl dX5_nextEnd_131 ?_
                refine z_iald (pc := 133) rfl (by decide) (by omega) (by omega) dX5_nextEnd_133 ?_
                rw [Int.toNat_natCast]
                refine z_if_le (pc := 134) (show ir (F 34 xB) from ⟨by omega, by omega⟩) 156 (by decide) dX5_nextEnd_134 (fun hq => ?_) (fun hq => ?_)
                · have hq3 : F 34 xB ≤ 0 := hq
                  refine z_iconst (pc := 156) dX5_nextEnd_156 ?_
                  exact no 0 rfl (by omega)
                have hq3 : 0 < F 34 xB := hq
                refine z_aload_n (pc := 137) rfl dX5_nextEnd_137 ?_
                refine zf_X5_46 (pc := 138) rfl rfl dX5_nextEnd_138 ?_
                refine z_bipush (pc := 141) (by decide) dX5_nextEnd_141 ?_
                refine z_iload (pc := 143) rfl dX5_nextEnd_143 ?_
                refine z_imul (pc := 145) dX5_nextEnd_145 ?_
                refine z_iload_n (pc := 146) rfl dX5_nextEnd_146 ?_
                refine z_iadd (pc := 147) dX5_nextEnd_147 ?_
                refine z_iald (pc := 148) rfl (by decide) (by omega) (by omega) dX5_nextEnd_148 ?_
                rw [show (41 * (xB : Int) + xA).toNat = 41 * xB + xA by omega]
                refine z_if_le (pc := 149) (show ir (F 36 (41 * xB + xA)) from ⟨by omega, by omega⟩) 156 (by decide) dX5_nextEnd_149 (fun hq => ?_) (fun hq => ?_)
                · have hq4 : F 36 (41 * xB + xA) ≤ 0 := hq
                  refine z_iconst (pc := 156) dX5_nextEnd_156 ?_
                  exact no 0 rfl (by omega)
                have hq4 : 0 < F 36 (41 * xB + xA) := hq
                refine z_iconst (pc := 152) dX5_nextEnd_152 ?_
                refine z_goto (pc := 153) 157 (by decide) dX5_nextEnd_153 ?_
                refine z_is6 (pc := 157) (by decide) rfl dX5_nextEnd_157 ?_
                exact k159 v5 1 _ hfa h5 (by rw [if_pos ⟨hq2, hq3, hq4⟩])
              refine z_iload (pc := 66) rfl dX5_nextEnd_66 ?_
              refine z_iload_n (pc := 68) rfl dX5_nextEnd_68 ?_
              refine z_icmp_gt (pc := 69) ⟨by omega, by omega⟩ ⟨by omega, by omega⟩ 262 (by decide) dX5_nextEnd_69 (fun hq => ?_) (fun hq => ?_)
              · omega
              refine z_aload_n (pc := 72) rfl dX5_nextEnd_72 ?_
              refine zf_X5_49 (pc := 73) rfl rfl dX5_nextEnd_73 ?_
              refine z_iload_n (pc := 76) rfl dX5_nextEnd_76 ?_
              refine z_iald (pc := 77) rfl (by decide) (by omega) (by omega) dX5_nextEnd_77 ?_
              refine z_ldc (pc := 78) kc_X5_122 dX5_nextEnd_78 ?_
              rw [Int.toNat_natCast]
              refine z_icmp_ge (pc := 80) (show ir (far xA) from ⟨by omega, by omega⟩) ⟨by omega, by omega⟩ 256 (by decide) dX5_nextEnd_80 (fun hq => skip _ _ _ (fun _ h2 => by have hq2 : 1000000000 ≤ far xA := hq; omega)) (fun hq => ?_)
              have hfa : far xA < 1000000000 := hq
              refine z_iload_n (pc := 83) rfl dX5_nextEnd_83 ?_
              refine z_iload (pc := 84) rfl dX5_nextEnd_84 ?_
              refine z_icmp_ne (pc := 86) ⟨by omega, by omega⟩ ⟨by omega, by omega⟩ 92 (by decide) dX5_nextEnd_86 (fun hq => ?_) (fun hq => ?_)
              rotate_left
              · refine z_goto (pc := 89) 256 (by decide) dX5_nextEnd_89 ?_
                exact skip _ _ _ (fun h1 _ => absurd (show xA = xB by omega) (ra_ne h1))
              refine z_aload_n (pc := 92) rfl dX5_nextEnd_92 ?_
              refine zf_X5_40 (pc := 93) rfl rfl dX5_nextEnd_93 ?_
              refine z_iload_n (pc := 96) rfl dX5_nextEnd_96 ?_
              refine z_iald (pc := 97) rfl (by decide) (by omega) (by omega) dX5_nextEnd_97 ?_
              rw [Int.toNat_natCast]
              refine z_if_le (pc := 98) (show ir (F 34 xA) from ⟨by omega, by omega⟩) 115 (by decide) dX5_nextEnd_98 (fun hq => ?_) (fun hq => ?_)
              · have hq2 : F 34 xA ≤ 0 := hq
                refine z_iconst (pc := 115) dX5_nextEnd_115 ?_
                refine z_is5 (pc := 116) (by decide) rfl dX5_nextEnd_116 ?_
                exact k118 0 _ _ hfa (by rw [if_neg (by omega)])
              have hq2 : 0 < F 34 xA := hq
              refine z_aload_n (pc := 101) rfl dX5_nextEnd_101 ?_
              refine zf_X5_40 (pc := 102) rfl rfl dX5_nextEnd_102 ?_
              refine z_iload (pc := 105) rfl dX5_nextEnd_105 ?_
              refine z_iald (pc := 107) rfl (by decide) (by omega) (by omega) dX5_nextEnd_107 ?_
              rw [Int.toNat_natCast]
              refine z_if_ge (pc := 108) (show ir (F 34 xB) from ⟨by omega, by omega⟩) 115 (by decide) dX5_nextEnd_108 (fun hq => ?_) (fun hq => ?_)
              · have hq3 : 0 ≤ F 34 xB := hq
                refine z_iconst (pc := 115) dX5_nextEnd_115 ?_
                refine z_is5 (pc := 116) (by decide) rfl dX5_nextEnd_116 ?_
                exact k118 0 _ _ hfa (by rw [if_neg (by omega)])
              have hq3 : F 34 xB < 0 := hq
              refine z_iconst (pc := 111) dX5_nextEnd_111 ?_
              refine z_goto (pc := 112) 116 (by decide) dX5_nextEnd_112 ?_
              refine z_is5 (pc := 116) (by decide) rfl dX5_nextEnd_116 ?_
              exact k118 1 _ _ hfa (by rw [if_pos ⟨hq2, hq3⟩])
          refine z_iload_n (pc := 58) rfl dX5_nextEnd_58 ?_
          refine z_iload_n (pc := 59) rfl dX5_nextEnd_59 ?_
          refine z_icmp_gt (pc := 60) ⟨by omega, by omega⟩ ⟨by omega, by omega⟩ 268 (by decide) dX5_nextEnd_60 (fun hq => ?_) (fun hq => ?_)
          · omega
          refine z_iconst (pc := 63) dX5_nextEnd_63 ?_
          refine z_is4 (pc := 64) (by decide) rfl dX5_nextEnd_64 ?_
          refine lpB ((F 1 0).toNat + 1) 0 mo far fr t T _ _ _ (by omega) hN ?_
          rcases hP with ⟨h1, h2, h3⟩ | h1
          · exact Or.inl ⟨h1, h2, fun a b hab => h3 a b (by omega)⟩
          · exact Or.inr h1
      refine z_iload_n (pc := 50) rfl dX5_nextEnd_50 ?_
      refine z_if_eq (pc := 51) ⟨by omega, by omega⟩ 271 (by decide) dX5_nextEnd_51 (fun hq => ?_) (fun hq => ?_)
      · omega
      refine z_iconst (pc := 54) dX5_nextEnd_54 ?_
      refine z_is2 (pc := 55) (by decide) rfl dX5_nextEnd_55 ?_
      refine z_iconst (pc := 56) dX5_nextEnd_56 ?_
      refine z_is3 (pc := 57) (by decide) rfl dX5_nextEnd_57 ?_
      exact lpA ((F 1 0).toNat + 1) 0 0 far0 fr0 t0 T0 _ _ _ _ (by omega) hN0 (Or.inl ⟨rfl, by omega, fun a b h => by omega⟩)
  -- the first row
  have ini : ∀ (j x : Nat) (far fr : Nat → Int) (y3 y4 y5 y6 y7 : Option Value), x + j = (F 1 0).toNat + 1 → (∀ v, v < x → fr v = -1 ∧ ((0 < F 35 v ∧ far v = 0) ∨ (F 35 v ≤ 0 ∧ far v = 1000000000))) → zJ l g RX5 cX5_nextEnd 8 (some .int) "nextEnd" (zRm 0 0 0) 0 0 (fun r h => ∃ (z : Int) (far fr : Nat → Int) (t : Nat → Nat) (T : Nat), r = some (.int (iz z)) ∧ h = zk g (va_up (va_up F 37 far) 38 fr) L im c ∧ NE F (F 1 0).toNat φ far fr t T z) 0 0 9 [some (.ref (g.2.1 + 23)), some (.int (iz (F 1 0))), some (.int (iz x)), y3, y4, y5, y6, y7] [] (zk g (va_up (va_up F 37 far) 38 fr) L im c) := by
    intro j
    induction j with
    | zero =>
      intro x far fr y3 y4 y5 y6 y7 hx hv
      refine z_iload_n (pc := 9) rfl dX5_nextEnd_9 ?_
      refine z_iload_n (pc := 10) rfl dX5_nextEnd_10 ?_
      refine z_icmp_gt (pc := 11) ⟨by omega, by omega⟩ ⟨by omega, by omega⟩ 48 (by decide) dX5_nextEnd_11 (fun hq => ?_) (fun hq => ?_)
      · refine z_iconst (pc := 48) dX5_nextEnd_48 ?_
        refine z_is2 (pc := 49) (by decide) rfl dX5_nextEnd_49 ?_
        refine pass ((mes (F 1 0).toNat φ far).toNat + 1) far fr (fun _ => 0) 1 _ _ _ _ _ (by omega) ⟨fun v h1 => ?_, fun v h1 => ?_, fun v h1 => Nat.zero_lt_one, fun v h1 h2 => ?_⟩
        · have q1 := hv v (by omega)
          have q2 := hφ v h1
          omega
        · have q1 := hv v (by omega)
          refine Or.inl ⟨q1.1, ?_⟩
          rcases q1.2 with h | h
          · exact Or.inl ⟨h.2, h.1⟩
          · exact Or.inr h.2
        · have q1 := hv v (by omega)
          omega
      omega
    | succ j ih =>
      intro x far fr y3 y4 y5 y6 y7 hx hv
      have q1 := hl x (by omega)
      have fin : ∀ zv : Int, ((0 < F 35 x ∧ zv = 0) ∨ (F 35 x ≤ 0 ∧ zv = 1000000000)) → zJ l g RX5 cX5_nextEnd 8 (some .int) "nextEnd" (zRm 0 0 0) 0 0 (fun r h => ∃ (z : Int) (far fr : Nat → Int) (t : Nat → Nat) (T : Nat), r = some (.int (iz z)) ∧ h = zk g (va_up (va_up F 37 far) 38 fr) L im c ∧ NE F (F 1 0).toNat φ far fr t T z) 0 0 34 [some (.ref (g.2.1 + 23)), some (.int (iz (F 1 0))), some (.int (iz x)), y3, y4, y5, y6, y7] [.int (iz zv), .int (iz x), .ref (g.2.1 + 37)] (zk g (va_up (va_up F 37 far) 38 fr) L im c) := by
        intro zv hzv
        refine z_iast (pc := 34) rfl (by decide) (by omega) (by omega) dX5_nextEnd_34 ?_
        refine z_hp zs_37 ?_
        refine z_aload_n (pc := 35) rfl dX5_nextEnd_35 ?_
        refine zf_X5_52 (pc := 36) rfl rfl dX5_nextEnd_36 ?_
        refine z_iload_n (pc := 39) rfl dX5_nextEnd_39 ?_
        refine z_iconst (pc := 40) dX5_nextEnd_40 ?_
        refine z_iast (pc := 41) rfl (by decide) (by omega) (by omega) dX5_nextEnd_41 ?_
        refine z_hp zs_38 ?_
        refine z_hp (show _ = zk g (va_up (va_up F 37 (vf_upd far x zv)) 38 (vf_upd fr x (-1))) L im c from congrArg (fun f => zk g f L im c) ?_) ?_
        · rw [Int.toNat_natCast]
          funext q
          unfold va_up
          by_cases h38 : q = 38
          · subst h38; rfl
          · rw [if_neg h38, if_neg h38]
            by_cases h37 : q = 37
            · subst h37; rfl
            · rw [if_neg h37, if_neg h38, if_neg h37, if_neg h37]
        refine z_ii2 (pc := 42) (by decide) rfl dX5_nextEnd_42 ?_
        refine z_goto (pc := 45) 9 (by decide) dX5_nextEnd_45 ?_
        refine ih (x + 1) _ _ _ _ _ _ _ (by omega) (fun v h1 => ?_)
        unfold vf_upd
        by_cases e : v = x
        · rw [if_pos e, if_pos e, e]; exact ⟨rfl, hzv⟩
        · rw [if_neg e, if_neg e]; exact hv v (by omega)
      refine z_iload_n (pc := 9) rfl dX5_nextEnd_9 ?_
      refine z_iload_n (pc := 10) rfl dX5_nextEnd_10 ?_
      refine z_icmp_gt (pc := 11) ⟨by omega, by omega⟩ ⟨by omega, by omega⟩ 48 (by decide) dX5_nextEnd_11 (fun hq => ?_) (fun hq => ?_)
      · omega
      refine z_aload_n (pc := 14) rfl dX5_nextEnd_14 ?_
      refine zf_X5_49 (pc := 15) rfl rfl dX5_nextEnd_15 ?_
      refine z_iload_n (pc := 18) rfl dX5_nextEnd_18 ?_
      refine z_aload_n (pc := 19) rfl dX5_nextEnd_19 ?_
      refine zf_X5_43 (pc := 20) rfl rfl dX5_nextEnd_20 ?_
      refine z_iload_n (pc := 23) rfl dX5_nextEnd_23 ?_
      refine z_iald (pc := 24) rfl (by decide) (by omega) (by omega) dX5_nextEnd_24 ?_
      rw [Int.toNat_natCast]
      refine z_if_le (pc := 25) (show ir (F 35 x) from ⟨by omega, by omega⟩) 32 (by decide) dX5_nextEnd_25 (fun hq => ?_) (fun hq => ?_)
      · have hq2 : F 35 x ≤ 0 := hq
        refine z_ldc (pc := 32) kc_X5_122 dX5_nextEnd_32 ?_
        exact fin _ (Or.inr ⟨hq2, rfl⟩)
      have hq2 : 0 < F 35 x := hq
      refine z_iconst (pc := 28) dX5_nextEnd_28 ?_
      refine z_goto (pc := 29) 34 (by decide) dX5_nextEnd_29 ?_
      exact fin _ (Or.inl ⟨hq2, rfl⟩)
  refine z_aload_n (pc := 0) rfl dX5_nextEnd_0 ?_
  refine zf_X5_7 (pc := 1) rfl rfl dX5_nextEnd_1 ?_
  refine z_iconst (pc := 4) dX5_nextEnd_4 ?_
  refine z_iald (pc := 5) rfl (by decide) (by omega) (by omega) dX5_nextEnd_5 ?_
  rw [show F 24 (0 : Int).toNat = F 1 0 from h240]
  refine z_is1 (pc := 6) (by decide) rfl dX5_nextEnd_6 ?_
  refine z_iconst (pc := 7) dX5_nextEnd_7 ?_
  refine z_is2 (pc := 8) (by decide) rfl dX5_nextEnd_8 ?_
  refine z_hp (show _ = zk g (va_up (va_up F 37 (F 37)) 38 (F 38)) L im c from congrArg (fun f => zk g f L im c) (by funext k; unfold va_up; split <;> simp_all)) ?_
  exact ini ((F 1 0).toNat + 1) 0 (F 37) (F 38) _ _ _ _ _ (by omega) (fun v h => by omega)
end REF4
