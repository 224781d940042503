/-! ===== the reference: findPrices ===== -/
section REF7
variable {l : Launch} {g : zG} {F : Nat → Nat → Int} {L : Nat → Int} {im : Nat → Option Nat} {c : Nat}
def PW (F : Nat → Nat → Int) (k : Nat) (d : Nat → Int) (w : Nat → Int) : Prop := wPF F k w ∧ w (F 1 0).toNat = 0 ∧ dv d w (F 1 0).toNat = sm (fun j => F 36 j * F 33 j) 1681
def PF (F : Nat → Nat → Int) (k : Nat) (d far : Nat → Int) : Prop := (∀ t, t ≤ (F 1 0).toNat → far t ≤ 40000) ∧ (∀ w, PW F k d w → ∀ t, t ≤ (F 1 0).toNat → w t ≤ far t) ∧ far (F 1 0).toNat ≤ 0
theorem m_findPrices (B : bi F 1) (hr : rl F 1 0) {k : Nat} {d s φ : Nat → Int} (hO : BO F k d (F 33) s (F 36) φ) : zM l g yX5_findPrices cX5_findPrices 6 none 0 0 0 [.ref (g.2.1 + 23)] (zk g F L im c) (fun r h => r = none ∧ ∃ far : Nat → Int, h = zk g (va_up F 37 far) L im c ∧ topP (wPF F k) d (F 1 0).toNat (sm (fun j => F 36 j * F 33 j) 1681) far) := by
  refine zM_of 5 (by decide) rfl ?_
  show zJ l g RX5 cX5_findPrices 6 none "findPrices" (zRm 0 0 0) 0 0 _ 0 0 0 [some (.ref (g.2.1 + 23)), none, none, none, none, none] [] _
  have b1 := bi_hours B
  have b2 := bi_rates B k
  have h240 : F 24 0 = F 1 0 := hr.1
  have ub := wys_bd B hO.1
  obtain ⟨w0, hw0, hd0⟩ := (ref_opt B hO).1
  have hlb : ∃ lb : Nat → Int, PW F k d lb := ⟨fun t => w0 t - w0 (F 1 0).toNat, wP_shift _ hw0, by show w0 _ - w0 _ = 0; omega, by rw [dv_shift]; exact hd0⟩
  obtain ⟨lb, hL⟩ := hlb
  have lb0 : ∀ t, t ≤ (F 1 0).toNat → 0 ≤ lb t := fun t ht => by
    have q := (fall_mono hL.1.1 (a := t) ((F 1 0).toNat - t) (by omega)).1
    rw [show t + ((F 1 0).toNat - t) = (F 1 0).toNat by omega, hL.2.1] at q
    omega
  have frange : ∀ far, PF F k d far → ∀ t, t ≤ (F 1 0).toNat → 0 ≤ far t ∧ far t ≤ 40000 := fun far hP t ht => by
    have q1 := hP.1 t ht
    have q2 := hP.2.1 lb hL t ht
    have q3 := lb0 t ht
    omega
  have mpos : ∀ far, PF F k d far → 0 ≤ sm (fun v => far v - lb v) ((F 1 0).toNat + 1) := fun far hP => by
    have h1 := sm_le (f := fun _ => 0) (g := fun v => far v - lb v) (n := (F 1 0).toNat + 1) (fun j hj => by have := hP.2.1 lb hL j (by omega); show (0 : Int) ≤ far j - lb j; omega)
    rw [sm_zero (f := fun _ => 0) (fun _ _ => rfl)] at h1
    exact h1
  have pass : ∀ (μ : Nat) (far : Nat → Int) (y3 y4 y5 : Option Value), sm (fun v => far v - lb v) ((F 1 0).toNat + 1) < μ → PF F k d far → zJ l g RX5 cX5_findPrices 6 none "findPrices" (zRm 0 0 0) 0 0 (fun r h => r = none ∧ ∃ far : Nat → Int, h = zk g (va_up F 37 far) L im c ∧ topP (wPF F k) d (F 1 0).toNat (sm (fun j => F 36 j * F 33 j) 1681) far) 0 0 39 [some (.ref (g.2.1 + 23)), some (.int (iz (F 1 0))), some (.int (iz 1)), y3, y4, y5] [] (zk g (va_up F 37 far) L im c) := by
    intro μ
    induction μ with
    | zero =>
      intro far y3 y4 y5 hμ hP
      have := mpos far hP
      omega
    | succ μ ihμ =>
      intro far0 y3 y4 y5 hμ hP0
      generalize hM : sm (fun v => far0 v - lb v) ((F 1 0).toNat + 1) = M at hμ
      have lpA : ∀ (jA xA : Nat) (mo : Int) (far : Nat → Int) (y4 y5 : Option Value), xA + jA = (F 1 0).toNat + 1 → PF F k d far → ((mo = 0 ∧ sm (fun v => far v - lb v) ((F 1 0).toNat + 1) ≤ M ∧ (∀ a b, a < xA → a ≤ (F 1 0).toNat → b ≤ (F 1 0).toNat → far a ≤ F 33 (41 * a + b) + far b ∧ (0 < F 36 (41 * b + a) → far a ≤ -F 33 (41 * b + a) + far b))) ∨ (mo = 1 ∧ sm (fun v => far v - lb v) ((F 1 0).toNat + 1) < M)) → zJ l g RX5 cX5_findPrices 6 none "findPrices" (zRm 0 0 0) 0 0 (fun r h => r = none ∧ ∃ far : Nat → Int, h = zk g (va_up F 37 far) L im c ∧ topP (wPF F k) d (F 1 0).toNat (sm (fun j => F 36 j * F 33 j) 1681) far) 0 0 47 [some (.ref (g.2.1 + 23)), some (.int (iz (F 1 0))), some (.int (iz mo)), some (.int (iz xA)), y4, y5] [] (zk g (va_up F 37 far) L im c) := by
        intro jA
        induction jA with
        | zero =>
          intro xA mo far y4 y5 hxA hF hP
          refine z_iload_n (pc := 47) rfl dX5_findPrices_47 ?_
          refine z_iload_n (pc := 48) rfl dX5_findPrices_48 ?_
          refine z_icmp_gt (pc := 49) ⟨by omega, by omega⟩ ⟨by omega, by omega⟩ 177 (by decide) dX5_findPrices_49 (fun hq => ?_) (fun hq => ?_)
          · refine z_goto (pc := 177) 39 (by decide) dX5_findPrices_177 ?_
            rcases hP with ⟨h1, h2, h3⟩ | ⟨h1, h2⟩
            · subst h1
              refine z_iload_n (pc := 39) rfl dX5_findPrices_39 ?_
              refine z_if_eq (pc := 40) ⟨by omega, by omega⟩ 180 (by decide) dX5_findPrices_40 (fun hq => ?_) (fun hq => ?_)
              · exact z_retv (pc := 180) rfl (by decide) (by decide) dX5_findPrices_180 ⟨rfl, far, rfl, ref_top B hO hF.2.2 (fun a b ha hb => h3 a b (by omega) ha hb) (fun w a1 a2 a3 => hF.2.1 w ⟨a1, a2, a3⟩)⟩
              omega
            · subst h1
              exact ihμ far _ _ _ (by omega) hF
          omega
        | succ jA ihA =>
          intro xA mo far y4 y5 hxA hF hP
          have lpB : ∀ (jB xB : Nat) (mo : Int) (far : Nat → Int) (y5 : Option Value), xB + jB = (F 1 0).toNat + 1 → PF F k d far → ((mo = 0 ∧ sm (fun v => far v - lb v) ((F 1 0).toNat + 1) ≤ M ∧ (∀ a b, (a < xA ∨ (a = xA ∧ b < xB)) → a ≤ (F 1 0).toNat → b ≤ (F 1 0).toNat → far a ≤ F 33 (41 * a + b) + far b ∧ (0 < F 36 (41 * b + a) → far a ≤ -F 33 (41 * b + a) + far b))) ∨ (mo = 1 ∧ sm (fun v => far v - lb v) ((F 1 0).toNat + 1) < M)) → zJ l g RX5 cX5_findPrices 6 none "findPrices" (zRm 0 0 0) 0 0 (fun r h => r = none ∧ ∃ far : Nat → Int, h = zk g (va_up F 37 far) L im c ∧ topP (wPF F k) d (F 1 0).toNat (sm (fun j => F 36 j * F 33 j) 1681) far) 0 0 55 [some (.ref (g.2.1 + 23)), some (.int (iz (F 1 0))), some (.int (iz mo)), some (.int (iz xA)), some (.int (iz xB)), y5] [] (zk g (va_up F 37 far) L im c) := by
            intro jB
            induction jB with
            | zero =>
              intro xB mo far y5 hxB hF hP
              refine z_iload (pc := 55) rfl dX5_findPrices_55 ?_
              refine z_iload_n (pc := 57) rfl dX5_findPrices_57 ?_
              refine z_icmp_gt (pc := 58) ⟨by omega, by omega⟩ ⟨by omega, by omega⟩ 171 (by decide) dX5_findPrices_58 (fun hq => ?_) (fun hq => ?_)
              · refine z_ii3 (pc := 171) (by decide) rfl dX5_findPrices_171 ?_
                refine z_goto (pc := 174) 47 (by decide) dX5_findPrices_174 ?_
                refine ihA (xA + 1) mo far _ _ (by omega) hF ?_
                rcases hP with ⟨h1, h2, h3⟩ | h1
                · exact Or.inl ⟨h1, h2, fun a b hab ha hb => h3 a b (by omega) ha hb⟩
                · exact Or.inr h1
              omega
            | succ jB ihB =>
              intro xB mo far y5 hxB hF hP
              have fa := frange far hF xA (by omega)
              have fb2 := frange far hF xB (by omega)
              have ua := ub xA xB (by omega) (by omega)
              have ub2 := ub xB xA (by omega) (by omega)
              have ff := hO.2.2.2.1 (41 * xB + xA)
              have eab : (41 * (xA : Int) + xB).toNat = 41 * xA + xB := by omega
              have eba : (41 * (xB : Int) + xA).toNat = 41 * xB + xA := by omega
              have k126 : ∀ (cv w5 : Int), -40000 ≤ cv → cv ≤ 40000 → cv ≤ F 33 (41 * xA + xB) → (0 < F 36 (41 * xB + xA) → cv ≤ -F 33 (41 * xB + xA)) → (cv = F 33 (41 * xA + xB) ∨ (0 < F 36 (41 * xB + xA) ∧ cv = -F 33 (41 * xB + xA))) → zJ l g RX5 cX5_findPrices 6 none "findPrices" (zRm 0 0 0) 0 0 (fun r h => r = none ∧ ∃ far : Nat → Int, h = zk g (va_up F 37 far) L im c ∧ topP (wPF F k) d (F 1 0).toNat (sm (fun j => F 36 j * F 33 j) 1681) far) 0 0 126 [some (.ref (g.2.1 + 23)), some (.int (iz (F 1 0))), some (.int (iz mo)), some (.int (iz xA)), some (.int (iz xB)), some (.int (iz w5))] [.int (iz cv)] (zk g (va_up F 37 far) L im c) := by
                intro cv w5 c1 c2 c3 c4 c5
                refine z_is5 (pc := 126) (by decide) rfl dX5_findPrices_126 ?_
                refine z_iload (pc := 128) rfl dX5_findPrices_128 ?_
                refine z_aload_n (pc := 130) rfl dX5_findPrices_130 ?_
                refine zf_X5_49 (pc := 131) rfl rfl dX5_findPrices_131 ?_
                refine z_iload (pc := 134) rfl dX5_findPrices_134 ?_
                refine z_iald (pc := 136) rfl (by decide) (by omega) (by omega) dX5_findPrices_136 ?_
                refine z_iadd (pc := 137) dX5_findPrices_137 ?_
                refine z_aload_n (pc := 138) rfl dX5_findPrices_138 ?_
                refine zf_X5_49 (pc := 139) rfl rfl dX5_findPrices_139 ?_
                refine z_iload_n (pc := 142) rfl dX5_findPrices_142 ?_
                refine z_iald (pc := 143) rfl (by decide) (by omega) (by omega) dX5_findPrices_143 ?_
                rw [Int.toNat_natCast, Int.toNat_natCast]
                refine z_icmp_ge (pc := 144) (show ir (cv + far xB) from ⟨by omega, by omega⟩) (show ir (far xA) from ⟨by omega, by omega⟩) 165 (by decide) dX5_findPrices_144 (fun hq => ?_) (fun hq => ?_)
                · have hq2 : far xA ≤ cv + far xB := hq
                  refine z_ii4 (pc := 165) (by decide) rfl dX5_findPrices_165 ?_
                  refine z_goto (pc := 168) 55 (by decide) dX5_findPrices_168 ?_
                  refine ihB (xB + 1) mo far _ (by omega) hF ?_
                  rcases hP with ⟨h1, h2, h3⟩ | h1
                  · refine Or.inl ⟨h1, h2, fun a b hab ha hb => ?_⟩
                    by_cases e : a = xA ∧ b = xB
                    · obtain ⟨e1, e2⟩ := e
                      subst e1
                      subst e2
                      exact ⟨by omega, fun h => by have := c4 h; omega⟩
                    · exact h3 a b (by omega) ha hb
                  · exact Or.inr h1
                have hlt : cv + far xB < far xA := hq
                have hne : xA ≠ xB := fun e => by
                  subst e
                  have q0 := hO.1.1.2.1 xA (by omega)
                  rcases c5 with h | h
                  · omega
                  · omega
                refine z_aload_n (pc := 147) rfl dX5_findPrices_147 ?_
                refine zf_X5_49 (pc := 148) rfl rfl dX5_findPrices_148 ?_
                refine z_iload_n (pc := 151) rfl dX5_findPrices_151 ?_
                refine z_iload (pc := 152) rfl dX5_findPrices_152 ?_
                refine z_aload_n (pc := 154) rfl dX5_findPrices_154 ?_
                refine zf_X5_49 (pc := 155) rfl rfl dX5_findPrices_155 ?_
                refine z_iload (pc := 158) rfl dX5_findPrices_158 ?_
                refine z_iald (pc := 160) rfl (by decide) (by omega) (by omega) dX5_findPrices_160 ?_
                refine z_iadd (pc := 161) dX5_findPrices_161 ?_
                rw [Int.toNat_natCast]
                refine z_iast (pc := 162) rfl (by decide) (by omega) (by omega) dX5_findPrices_162 ?_
                refine z_hp (show _ = zk g (va_up F 37 (vf_upd far xA (cv + far xB))) L im c by rw [Int.toNat_natCast]; exact zs_37.trans (congrArg (fun f => zk g f L im c) (bx_uu _ _ _ _))) ?_
                refine z_iconst (pc := 163) dX5_findPrices_163 ?_
                refine z_is2 (pc := 164) (by decide) rfl dX5_findPrices_164 ?_
                refine z_ii4 (pc := 165) (by decide) rfl dX5_findPrices_165 ?_
                refine z_goto (pc := 168) 55 (by decide) dX5_findPrices_168 ?_
                have hle : ∀ t, vf_upd far xA (cv + far xB) t ≤ far t := fun t => by
                  unfold vf_upd
                  split
                  · rename_i e; rw [e]; omega
                  · exact Int.le_refl _
                have hF2 : PF F k d (vf_upd far xA (cv + far xB)) := by
                  refine ⟨fun t ht => Int.le_trans (hle t) (hF.1 t ht), fun w hw t ht => ?_, Int.le_trans (hle _) hF.2.2⟩
                  have q1 := hF.2.1 w hw t ht
                  have q2 := hF.2.1 w hw xB (by omega)
                  unfold vf_upd
                  split
                  · rename_i e
                    subst e
                    rcases c5 with h | ⟨h, h5⟩
                    · have q3 := hO.1.1.2.2 w hw.1 t xB (by omega) (by omega)
                      omega
                    · have q3 := ref_tight hO hw.1 hw.2.2 (a := xB) (b := t) (by omega) (by omega) h
                      omega
                  · exact q1
                refine ihB (xB + 1) 1 _ _ (by omega) hF2 (Or.inr ⟨rfl, ?_⟩)
                have e9 : (fun v => vf_upd far xA (cv + far xB) v - lb v) = vf_upd (fun v => far v - lb v) xA (cv + far xB - lb xA) := by
                  funext v
                  unfold vf_upd
                  split
                  · rename_i e; rw [e]
                  · rfl
                rw [e9, sm_upd (by omega)]
                rcases hP with ⟨h1, h2, h3⟩ | ⟨h1, h2⟩ <;> omega
              refine z_iload (pc := 55) rfl dX5_findPrices_55 ?_
              refine z_iload_n (pc := 57) rfl dX5_findPrices_57 ?_
              refine z_icmp_gt (pc := 58) ⟨by omega, by omega⟩ ⟨by omega, by omega⟩ 171 (by decide) dX5_findPrices_58 (fun hq => ?_) (fun hq => ?_)
              · omega
              refine z_aload_n (pc := 61) rfl dX5_findPrices_61 ?_
              refine zf_X5_37 (pc := 62) rfl rfl dX5_findPrices_62 ?_
              refine z_bipush (pc := 65) (by decide) dX5_findPrices_65 ?_
              refine z_iload_n (pc := 67) rfl dX5_findPrices_67 ?_
              refine z_imul (pc := 68) dX5_findPrices_68 ?_
              refine z_iload (pc := 69) rfl dX5_findPrices_69 ?_
              refine z_iadd (pc := 71) dX5_findPrices_71 ?_
              refine z_iald (pc := 72) rfl (by decide) (by omega) (by omega) dX5_findPrices_72 ?_
              rw [eab]
              refine z_is5 (pc := 73) (by decide) rfl dX5_findPrices_73 ?_
              refine z_aload_n (pc := 75) rfl dX5_findPrices_75 ?_
              refine zf_X5_46 (pc := 76) rfl rfl dX5_findPrices_76 ?_
              refine z_bipush (pc := 79) (by decide) dX5_findPrices_79 ?_
              refine z_iload (pc := 81) rfl dX5_findPrices_81 ?_
              refine z_imul (pc := 83) dX5_findPrices_83 ?_
              refine z_iload_n (pc := 84) rfl dX5_findPrices_84 ?_
              refine z_iadd (pc := 85) dX5_findPrices_85 ?_
              refine z_iald (pc := 86) rfl (by decide) (by omega) (by omega) dX5_findPrices_86 ?_
              rw [eba]
              refine z_if_le (pc := 87) (show ir (F 36 (41 * xB + xA)) from ⟨by omega, by omega⟩) 124 (by decide) dX5_findPrices_87 (fun hq => ?_) (fun hq => ?_)
              · have hq2 : F 36 (41 * xB + xA) ≤ 0 := hq
                refine z_iload (pc := 124) rfl dX5_findPrices_124 ?_
                refine k126 (F 33 (41 * xA + xB)) (F 33 (41 * xA + xB)) (by omega) (by omega) (Int.le_refl _) (fun h => by omega) (Or.inl rfl)
              have hq2 : 0 < F 36 (41 * xB + xA) := hq
              refine z_aload_n (pc := 90) rfl dX5_findPrices_90 ?_
              refine zf_X5_37 (pc := 91) rfl rfl dX5_findPrices_91 ?_
              refine z_bipush (pc := 94) (by decide) dX5_findPrices_94 ?_
              refine z_iload (pc := 96) rfl dX5_findPrices_96 ?_
              refine z_imul (pc := 98) dX5_findPrices_98 ?_
              refine z_iload_n (pc := 99) rfl dX5_findPrices_99 ?_
              refine z_iadd (pc := 100) dX5_findPrices_100 ?_
              refine z_iald (pc := 101) rfl (by decide) (by omega) (by omega) dX5_findPrices_101 ?_
              refine z_ineg (pc := 102) dX5_findPrices_102 ?_
              refine z_iload (pc := 103) rfl dX5_findPrices_103 ?_
              rw [eba]
              refine z_icmp_ge (pc := 105) (show ir (-F 33 (41 * xB + xA)) from ⟨by omega, by omega⟩) (show ir (F 33 (41 * xA + xB)) from ⟨by omega, by omega⟩) 124 (by decide) dX5_findPrices_105 (fun hq => ?_) (fun hq => ?_)
              · have hq3 : F 33 (41 * xA + xB) ≤ -F 33 (41 * xB + xA) := hq
                refine z_iload (pc := 124) rfl dX5_findPrices_124 ?_
                refine k126 (F 33 (41 * xA + xB)) (F 33 (41 * xA + xB)) (by omega) (by omega) (Int.le_refl _) (fun h => by omega) (Or.inl rfl)
              have hq3 : -F 33 (41 * xB + xA) < F 33 (41 * xA + xB) := hq
              refine z_aload_n (pc := 108) rfl dX5_findPrices_108 ?_
              refine zf_X5_37 (pc := 109) rfl rfl dX5_findPrices_109 ?_
              refine z_bipush (pc := 112) (by decide) dX5_findPrices_112 ?_
              refine z_iload (pc := 114) rfl dX5_findPrices_114 ?_
              refine z_imul (pc := 116) dX5_findPrices_116 ?_
              refine z_iload_n (pc := 117) rfl dX5_findPrices_117 ?_
              refine z_iadd (pc := 118) dX5_findPrices_118 ?_
              refine z_iald (pc := 119) rfl (by decide) (by omega) (by omega) dX5_findPrices_119 ?_
              refine z_ineg (pc := 120) dX5_findPrices_120 ?_
              rw [eba]
              refine z_goto (pc := 121) 126 (by decide) dX5_findPrices_121 ?_
              refine k126 (-F 33 (41 * xB + xA)) (F 33 (41 * xA + xB)) (by omega) (by omega) (by omega) (fun h => Int.le_refl _) (Or.inr ⟨hq2, rfl⟩)
          refine z_iload_n (pc := 47) rfl dX5_findPrices_47 ?_
          refine z_iload_n (pc := 48) rfl dX5_findPrices_48 ?_
          refine z_icmp_gt (pc := 49) ⟨by omega, by omega⟩ ⟨by omega, by omega⟩ 177 (by decide) dX5_findPrices_49 (fun hq => ?_) (fun hq => ?_)
          · omega
          refine z_iconst (pc := 52) dX5_findPrices_52 ?_
          refine z_is4 (pc := 53) (by decide) rfl dX5_findPrices_53 ?_
          refine lpB ((F 1 0).toNat + 1) 0 mo far _ (by omega) hF ?_
          rcases hP with ⟨h1, h2, h3⟩ | h1
          · exact Or.inl ⟨h1, h2, fun a b hab ha hb => h3 a b (by omega) ha hb⟩
          · exact Or.inr h1
      refine z_iload_n (pc := 39) rfl dX5_findPrices_39 ?_
      refine z_if_eq (pc := 40) ⟨by omega, by omega⟩ 180 (by decide) dX5_findPrices_40 (fun hq => ?_) (fun hq => ?_)
      · omega
      refine z_iconst (pc := 43) dX5_findPrices_43 ?_
      refine z_is2 (pc := 44) (by decide) rfl dX5_findPrices_44 ?_
      refine z_iconst (pc := 45) dX5_findPrices_45 ?_
      refine z_is3 (pc := 46) (by decide) rfl dX5_findPrices_46 ?_
      exact lpA ((F 1 0).toNat + 1) 0 0 far0 _ _ (by omega) hP0 (Or.inl ⟨rfl, by omega, fun a b h => by omega⟩)
  have ini : ∀ (j x : Nat) (far : Nat → Int) (y3 y4 y5 : Option Value), x + j = (F 1 0).toNat + 1 → (∀ v, v < x → far v = F 33 (41 * v + (F 1 0).toNat)) → zJ l g RX5 cX5_findPrices 6 none "findPrices" (zRm 0 0 0) 0 0 (fun r h => r = none ∧ ∃ far : Nat → Int, h = zk g (va_up F 37 far) L im c ∧ topP (wPF F k) d (F 1 0).toNat (sm (fun j => F 36 j * F 33 j) 1681) far) 0 0 9 [some (.ref (g.2.1 + 23)), some (.int (iz (F 1 0))), some (.int (iz x)), y3, y4, y5] [] (zk g (va_up F 37 far) L im c) := by
    intro j
    induction j with
    | zero =>
      intro x far y3 y4 y5 hx hv
      refine z_iload_n (pc := 9) rfl dX5_findPrices_9 ?_
      refine z_iload_n (pc := 10) rfl dX5_findPrices_10 ?_
      refine z_icmp_gt (pc := 11) ⟨by omega, by omega⟩ ⟨by omega, by omega⟩ 37 (by decide) dX5_findPrices_11 (fun hq => ?_) (fun hq => ?_)
      · refine z_iconst (pc := 37) dX5_findPrices_37 ?_
        refine z_is2 (pc := 38) (by decide) rfl dX5_findPrices_38 ?_
        have hP : PF F k d far := by
          refine ⟨fun t ht => by rw [hv t (by omega)]; exact (ub t (F 1 0).toNat ht (Nat.le_refl _)).2, fun w hw t ht => ?_, by rw [hv _ (by omega), hO.1.1.2.1 (F 1 0).toNat (Nat.le_refl _)]; exact Int.le_refl 0⟩
          have q := hO.1.1.2.2 w hw.1 t (F 1 0).toNat ht (Nat.le_refl _)
          rw [hw.2.1] at q
          rw [hv t (by omega)]
          omega
        exact pass ((sm (fun v => far v - lb v) ((F 1 0).toNat + 1)).toNat + 1) far _ _ _ (by have := mpos far hP; omega) hP
      omega
    | succ j ih =>
      intro x far y3 y4 y5 hx hv
      refine z_iload_n (pc := 9) rfl dX5_findPrices_9 ?_
      refine z_iload_n (pc := 10) rfl dX5_findPrices_10 ?_
      refine z_icmp_gt (pc := 11) ⟨by omega, by omega⟩ ⟨by omega, by omega⟩ 37 (by decide) dX5_findPrices_11 (fun hq => ?_) (fun hq => ?_)
      · omega
      refine z_aload_n (pc := 14) rfl dX5_findPrices_14 ?_
      refine zf_X5_49 (pc := 15) rfl rfl dX5_findPrices_15 ?_
      refine z_iload_n (pc := 18) rfl dX5_findPrices_18 ?_
      refine z_aload_n (pc := 19) rfl dX5_findPrices_19 ?_
      refine zf_X5_37 (pc := 20) rfl rfl dX5_findPrices_20 ?_
      refine z_bipush (pc := 23) (by decide) dX5_findPrices_23 ?_
      refine z_iload_n (pc := 25) rfl dX5_findPrices_25 ?_
      refine z_imul (pc := 26) dX5_findPrices_26 ?_
      refine z_iload_n (pc := 27) rfl dX5_findPrices_27 ?_
      refine z_iadd (pc := 28) dX5_findPrices_28 ?_
      refine z_iald (pc := 29) rfl (by decide) (by omega) (by omega) dX5_findPrices_29 ?_
      rw [show (41 * (x : Int) + F 1 0).toNat = 41 * x + (F 1 0).toNat by omega]
      refine z_iast (pc := 30) rfl (by decide) (by omega) (by omega) dX5_findPrices_30 ?_
      refine z_hp (show _ = zk g (va_up F 37 (vf_upd far x (F 33 (41 * x + (F 1 0).toNat)))) L im c by rw [Int.toNat_natCast]; exact zs_37.trans (congrArg (fun f => zk g f L im c) (bx_uu _ _ _ _))) ?_
      refine z_ii2 (pc := 31) (by decide) rfl dX5_findPrices_31 ?_
      refine z_goto (pc := 34) 9 (by decide) dX5_findPrices_34 ?_
      refine ih (x + 1) _ _ _ _ (by omega) (fun v h => ?_)
      unfold vf_upd
      split
      · rename_i e; rw [e]
      · exact hv v (by omega)
  refine z_aload_n (pc := 0) rfl dX5_findPrices_0 ?_
  refine zf_X5_7 (pc := 1) rfl rfl dX5_findPrices_1 ?_
  refine z_iconst (pc := 4) dX5_findPrices_4 ?_
  refine z_iald (pc := 5) rfl (by decide) (by omega) (by omega) dX5_findPrices_5 ?_
  rw [show F 24 (0 : Int).toNat = F 1 0 from h240]
  refine z_is1 (pc := 6) (by decide) rfl dX5_findPrices_6 ?_
  refine z_iconst (pc := 7) dX5_findPrices_7 ?_
  refine z_is2 (pc := 8) (by decide) rfl dX5_findPrices_8 ?_
  refine z_hp (show _ = zk g (va_up F 37 (F 37)) L im c from congrArg (fun f => zk g f L im c) (by funext k; unfold va_up; split <;> simp_all)) ?_
  exact ini ((F 1 0).toNat + 1) 0 (F 37) _ _ _ (by omega) (fun v h => by omega)
end REF7
