/-! ===== the reference: what is to be sent; the search for the next end ===== -/
def nd2 (F : Nat → Nat → Int) (k : Nat) (hour more : Int) (t : Nat) : Int := max 0 (nda F k t + (if (t : Int) = hour then more else 0))
def ddn (d : Nat → Int) (n t : Nat) : Int := if t < n then d t else 0
def sdn (d : Nat → Int) (n t : Nat) : Int := ddn d n t - (if t = 0 then 0 else ddn d n (t - 1))
theorem sm_parts (d w : Nat → Int) (n : Nat) : sm (fun t => sdn d n t * w t) (n + 1) = dv d w n := by
  have key : ∀ q, q ≤ n → sm (fun t => sdn d n t * w t) (q + 1) = dv d w q + ddn d n q * w q := by
    intro q
    induction q with
    | zero =>
      intro _
      show 0 + sdn d n 0 * w 0 = 0 + ddn d n 0 * w 0
      unfold sdn
      rw [if_pos rfl, Int.sub_zero]
    | succ q ih =>
      intro hq
      show sm (fun t => sdn d n t * w t) (q + 1) + sdn d n (q + 1) * w (q + 1) = (dv d w q + d q * (w q - w (q + 1))) + ddn d n (q + 1) * w (q + 1)
      rw [ih (by omega)]
      have e : sdn d n (q + 1) = ddn d n (q + 1) - ddn d n q := by unfold sdn; rw [if_neg (by omega), Nat.add_sub_cancel]
      have e2 : ddn d n q = d q := by unfold ddn; rw [if_pos (by omega)]
      rw [e, e2, Int.sub_mul, Int.mul_sub]
      omega
  rw [key n (Nat.le_refl n)]
  unfold ddn
  rw [if_neg (by omega), Int.zero_mul, Int.add_zero]
def cst (s u : Nat → Int) (a b : Nat) : Int := if 0 < s a then u (41 * a + b) else -u (41 * b + a)
def ra (s f : Nat → Int) (n a b : Nat) : Prop := a ≤ n ∧ b ≤ n ∧ ((0 < s a ∧ s b < 0) ∨ (s a < 0 ∧ 0 < s b ∧ 0 < f (41 * b + a)))
def fz (n : Nat) (s f u φ : Nat → Int) : Prop := ∀ a b, ra s f n a b → φ b ≤ φ a + cst s u a b
def NI (n : Nat) (s f u lf φ far fr : Nat → Int) (t : Nat → Nat) (T : Nat) : Prop := (∀ v, v ≤ n → φ v - 40000 ≤ far v ∧ far v ≤ 1000000000) ∧ (∀ v, v ≤ n → (fr v = -1 ∧ ((far v = 0 ∧ 0 < lf v) ∨ far v = 1000000000)) ∨ ∃ a : Nat, fr v = a ∧ ra s f n a v ∧ far a < 1000000000 ∧ far v < 1000000000 ∧ far a + cst s u a v ≤ far v ∧ (far a - φ a < far v - φ v ∨ (far a - φ a = far v - φ v ∧ t a < t v))) ∧ (∀ v, v ≤ n → t v < T) ∧ ∀ v, v ≤ n → 0 < lf v → far v ≤ 0
def mes (n : Nat) (φ far : Nat → Int) : Int := sm (fun v => far v - (φ v - 40000)) (n + 1)
theorem mes_pos {n : Nat} {φ far : Nat → Int} (h : ∀ v, v ≤ n → φ v - 40000 ≤ far v) : 0 ≤ mes n φ far := by
  have h1 := sm_le (f := fun _ => 0) (g := fun v => far v - (φ v - 40000)) (n := n + 1) (fun j hj => by have := h j (by omega); show (0 : Int) ≤ far j - (φ j - 40000); omega)
  rw [sm_zero (f := fun _ => 0) (fun _ _ => rfl)] at h1
  exact h1
theorem ra_ne {s f : Nat → Int} {n a b : Nat} (h : ra s f n a b) : a ≠ b := by
  intro e
  subst e
  rcases h.2.2 with h1 | h1 <;> omega
theorem NI_upd {n : Nat} {s f u lf φ far fr : Nat → Int} {t : Nat → Nat} {T a b : Nat} (h : NI n s f u lf φ far fr t T) (hz : fz n s f u φ) (hr : ra s f n a b) (ha : far a < 1000000000) (hl : far a + cst s u a b < far b) : NI n s f u lf φ (vf_upd far b (far a + cst s u a b)) (vf_upd fr b a) (fun v => if v = b then T else t v) (T + 1) ∧ mes n φ (vf_upd far b (far a + cst s u a b)) < mes n φ far := by
  have hab := ra_ne hr
  have hf := hz a b hr
  have hbb : vf_upd far b (far a + cst s u a b) b = far a + cst s u a b := by unfold vf_upd; rw [if_pos rfl]
  have hne : ∀ v, v ≠ b → vf_upd far b (far a + cst s u a b) v = far v := fun v hv => by unfold vf_upd; rw [if_neg hv]
  have hr0 := h.1 a hr.1
  have hb0 := h.1 b hr.2.1
  refine ⟨⟨fun v hv => ?_, fun v hv => ?_, fun v hv => ?_, fun v hv hl2 => ?_⟩, ?_⟩
  · by_cases e : v = b
    · subst e; rw [hbb]; omega
    · rw [hne v e]; exact h.1 v hv
  · by_cases e : v = b
    · subst e
      refine Or.inr ⟨a, by unfold vf_upd; rw [if_pos rfl], hr, by rw [hne a hab]; exact ha, by rw [hbb]; omega, by rw [hne a hab, hbb]; exact Int.le_refl _, ?_⟩
      rw [hne a hab, hbb]
      by_cases e2 : far a - φ a = far a + cst s u a v - φ v
      · right
        refine ⟨e2, ?_⟩
        show (if a = v then T else t a) < (if v = v then T else t v)
        rw [if_neg hab, if_pos rfl]
        exact h.2.2.1 a hr.1
      · left; omega
    · rw [hne v e]
      have hfr : vf_upd fr b a v = fr v := by unfold vf_upd; rw [if_neg e]
      rw [hfr]
      rcases h.2.1 v hv with h1 | ⟨p, p1, p2, p3, p4, p5, p6⟩
      · exact Or.inl h1
      · right
        by_cases ep : p = b
        · subst ep
          refine ⟨p, p1, p2, by rw [hbb]; omega, p4, by rw [hbb]; omega, Or.inl ?_⟩
          rw [hbb]
          omega
        · refine ⟨p, p1, p2, by rw [hne p ep]; exact p3, p4, by rw [hne p ep]; exact p5, ?_⟩
          rw [hne p ep]
          show far p - φ p < far v - φ v ∨ (far p - φ p = far v - φ v ∧ (if p = b then T else t p) < (if v = b then T else t v))
          rw [if_neg ep, if_neg e]
          exact p6
  · show (if v = b then T else t v) < T + 1
    split
    · omega
    · have := h.2.2.1 v hv; omega
  · by_cases e : v = b
    · subst e
      rw [hbb]
      have := h.2.2.2 v hv hl2
      omega
    · rw [hne v e]; exact h.2.2.2 v hv hl2
  · unfold mes
    have e : (fun v => vf_upd far b (far a + cst s u a b) v - (φ v - 40000)) = vf_upd (fun v => far v - (φ v - 40000)) b (far a + cst s u a b - (φ b - 40000)) := by
      funext v
      unfold vf_upd
      split
      · rename_i e; rw [e]
      · rfl
    rw [e, sm_upd (by have := hr.2.1; omega)]
    omega
section REF3
variable {l : Launch} {g : zG} {F : Nat → Nat → Int} {L : Nat → Int} {im : Nat → Option Nat} {c : Nat}
theorem m_findSends (B : bi F 1) (hr : rl F 1 0) {k : Nat} (hk : k < 3) {hour more : Int} (hh : ir hour) (hm : -60 ≤ more ∧ more ≤ 60) : zM l g yX5_findSends cX5_findSends 8 none 2 0 0 [.ref (g.2.1 + 23), .int (iz k), .int (iz hour), .int (iz more)] (zk g F L im c) (fun r h => r = none ∧ ∃ s : Nat → Int, h = zk g (va_up F 34 s) L im c ∧ ∀ t, t ≤ (F 1 0).toNat → s t = sdn (nd2 F k hour more) (F 1 0).toNat t) := by
  refine zM_of 4 (by decide) rfl ?_
  show zJ l g RX5 cX5_findSends 8 none "findSends" (zRm 2 0 0) 0 0 _ 0 0 0 [some (.ref (g.2.1 + 23)), some (.int (iz k)), some (.int (iz hour)), some (.int (iz more)), none, none, none, none] [] _
  have b1 := bi_hours B
  have h240 : F 24 0 = F 1 0 := hr.1
  have loop : ∀ (j x : Nat) (s : Nat → Int) (y : Option Value), x + j = (F 1 0).toNat + 1 → (∀ t, t < x → s t = sdn (nd2 F k hour more) (F 1 0).toNat t) → zJ l g RX5 cX5_findSends 8 none "findSends" (zRm 2 0 0) 0 0 (fun r h => r = none ∧ ∃ s : Nat → Int, h = zk g (va_up F 34 s) L im c ∧ ∀ t, t ≤ (F 1 0).toNat → s t = sdn (nd2 F k hour more) (F 1 0).toNat t) 0 0 14 [some (.ref (g.2.1 + 23)), some (.int (iz k)), some (.int (iz hour)), some (.int (iz more)), some (.int (iz (F 1 0))), some (.int (iz (if x = 0 then 0 else ddn (nd2 F k hour more) (F 1 0).toNat (x - 1)))), some (.int (iz x)), y] [] (zk g (va_up F 34 s) L im c) := by
    intro j
    induction j with
    | zero =>
      intro x s y hx hs
      refine z_iload (pc := 14) rfl dX5_findSends_14 ?_
      refine z_iload (pc := 16) rfl dX5_findSends_16 ?_
      refine z_icmp_gt (pc := 18) ⟨by omega, by omega⟩ ⟨by omega, by omega⟩ 88 (by decide) dX5_findSends_18 (fun hq => ?_) (fun hq => ?_)
      · exact z_retv (pc := 88) rfl (by decide) (by decide) dX5_findSends_88 ⟨rfl, s, rfl, fun t ht => hs t (by omega)⟩
      omega
    | succ j ih =>
      intro x s y hx hs
      have nd := nda_bd B k x
      -- from the store of n on
      have k66 : zJ l g RX5 cX5_findSends 8 none "findSends" (zRm 2 0 0) 0 0 (fun r h => r = none ∧ ∃ s : Nat → Int, h = zk g (va_up F 34 s) L im c ∧ ∀ t, t ≤ (F 1 0).toNat → s t = sdn (nd2 F k hour more) (F 1 0).toNat t) 0 0 66 [some (.ref (g.2.1 + 23)), some (.int (iz k)), some (.int (iz hour)), some (.int (iz more)), some (.int (iz (F 1 0))), some (.int (iz (if x = 0 then 0 else ddn (nd2 F k hour more) (F 1 0).toNat (x - 1)))), some (.int (iz x)), some (.int (iz (ddn (nd2 F k hour more) (F 1 0).toNat x)))] [] (zk g (va_up F 34 s) L im c) := by
        refine z_aload_n (pc := 66) rfl dX5_findSends_66 ?_
        refine zf_X5_40 (pc := 67) rfl rfl dX5_findSends_67 ?_
        refine z_iload (pc := 70) rfl dX5_findSends_70 ?_
        refine z_iload (pc := 72) rfl dX5_findSends_72 ?_
        refine z_iload (pc := 74) rfl dX5_findSends_74 ?_
        refine z_isub (pc := 76) dX5_findSends_76 ?_
        refine z_iast (pc := 77) rfl (by decide) (by omega) (by omega) dX5_findSends_77 ?_
        refine z_hp (show _ = zk g (va_up F 34 (vf_upd s x (sdn (nd2 F k hour more) (F 1 0).toNat x))) L im c by rw [Int.toNat_natCast]; exact zs_34.trans (congrArg (fun f => zk g f L im c) (bx_uu _ _ _ _))) ?_
        refine z_iload (pc := 78) rfl dX5_findSends_78 ?_
        refine z_top (show _ = iz (if x + 1 = 0 then 0 else ddn (nd2 F k hour more) (F 1 0).toNat (x + 1 - 1)) by rw [if_neg (by omega), Nat.add_sub_cancel]) ?_
        refine z_is5 (pc := 80) (by decide) rfl dX5_findSends_80 ?_
        refine z_ii6 (pc := 82) (by decide) rfl dX5_findSends_82 ?_
        refine z_goto (pc := 85) 14 (by decide) dX5_findSends_85 ?_
        refine ih (x + 1) _ _ (by omega) (fun t ht => ?_)
        unfold vf_upd
        split
        · rename_i e; rw [e]
        · exact hs t (by omega)
      have k53 : ∀ z : Int, ir z → max 0 z = ddn (nd2 F k hour more) (F 1 0).toNat x → zJ l g RX5 cX5_findSends 8 none "findSends" (zRm 2 0 0) 0 0 (fun r h => r = none ∧ ∃ s : Nat → Int, h = zk g (va_up F 34 s) L im c ∧ ∀ t, t ≤ (F 1 0).toNat → s t = sdn (nd2 F k hour more) (F 1 0).toNat t) 0 0 51 [some (.ref (g.2.1 + 23)), some (.int (iz k)), some (.int (iz hour)), some (.int (iz more)), some (.int (iz (F 1 0))), some (.int (iz (if x = 0 then 0 else ddn (nd2 F k hour more) (F 1 0).toNat (x - 1)))), some (.int (iz x)), y] [.int (iz z)] (zk g (va_up F 34 s) L im c) := by
        intro z hz hzz
        refine z_is7 (pc := 51) (by decide) rfl dX5_findSends_51 ?_
        refine z_iload (pc := 53) rfl dX5_findSends_53 ?_
        refine z_if_ge (pc := 55) hz 62 (by decide) dX5_findSends_55 (fun hq => ?_) (fun hq => ?_)
        · refine z_iload (pc := 62) rfl dX5_findSends_62 ?_
          rw [show z = ddn (nd2 F k hour more) (F 1 0).toNat x by omega]
          refine z_is7 (pc := 64) (by decide) rfl dX5_findSends_64 ?_
          exact k66
        refine z_iconst (pc := 58) dX5_findSends_58 ?_
        refine z_goto (pc := 59) 64 (by decide) dX5_findSends_59 ?_
        refine z_top (show _ = iz (ddn (nd2 F k hour more) (F 1 0).toNat x) from congrArg iz (by omega)) ?_
        refine z_is7 (pc := 64) (by decide) rfl dX5_findSends_64 ?_
        exact k66
      refine z_iload (pc := 14) rfl dX5_findSends_14 ?_
      refine z_iload (pc := 16) rfl dX5_findSends_16 ?_
      refine z_icmp_gt (pc := 18) ⟨by omega, by omega⟩ ⟨by omega, by omega⟩ 88 (by decide) dX5_findSends_18 (fun hq => ?_) (fun hq => ?_)
      · omega
      refine z_iload (pc := 21) rfl dX5_findSends_21 ?_
      refine z_iload (pc := 23) rfl dX5_findSends_23 ?_
      refine z_icmp_ge (pc := 25) ⟨by omega, by omega⟩ ⟨by omega, by omega⟩ 50 (by decide) dX5_findSends_25 (fun hq => ?_) (fun hq => ?_)
      · refine z_iconst (pc := 50) dX5_findSends_50 ?_
        exact k53 0 ⟨by omega, by omega⟩ (by unfold ddn; rw [if_neg (by omega)]; omega)
      have hxn : x < (F 1 0).toNat := by omega
      refine z_aload_n (pc := 28) rfl dX5_findSends_28 ?_
      refine z_iload_n (pc := 29) rfl dX5_findSends_29 ?_
      refine z_iload (pc := 30) rfl dX5_findSends_30 ?_
      refine z_V2 (pc := 32) (m_needOf (F := va_up F 34 s) (k := k) (t := x) hr hk (by omega)) lk_X5_103 iv_X5_needOf rfl rfl ⟨by decide, by decide⟩ (Nat.le_of_ble_eq_true rfl) ⟨by decide, by decide⟩ dX5_findSends_32 (fun r h9 hq => ?_)
      obtain ⟨rfl, e9⟩ := hq
      rw [e9]
      clear e9 h9
      refine z_r1 ?_
      refine z_iload (pc := 35) rfl dX5_findSends_35 ?_
      refine z_iload_n (pc := 37) rfl dX5_findSends_37 ?_
      rw [show nda (va_up F 34 s) k x = nda F k x from nda_cong (show va_up F 34 s 6 = F 6 from rfl) k x]
      refine z_icmp_ne (pc := 38) ⟨by omega, by omega⟩ hh 45 (by decide) dX5_findSends_38 (fun hq => ?_) (fun hq => ?_)
      · refine z_iconst (pc := 45) dX5_findSends_45 ?_
        refine z_iadd (pc := 46) dX5_findSends_46 ?_
        refine z_goto (pc := 47) 51 (by decide) dX5_findSends_47 ?_
        exact k53 _ ⟨by omega, by omega⟩ (by unfold ddn nd2; rw [if_pos hxn, if_neg (by assumption)])
      refine z_iload_n (pc := 41) rfl dX5_findSends_41 ?_
      refine z_goto (pc := 42) 46 (by decide) dX5_findSends_42 ?_
      refine z_iadd (pc := 46) dX5_findSends_46 ?_
      refine z_goto (pc := 47) 51 (by decide) dX5_findSends_47 ?_
      exact k53 _ ⟨by omega, by omega⟩ (by unfold ddn nd2; rw [if_pos hxn, if_pos (by assumption)])
  refine z_aload_n (pc := 0) rfl dX5_findSends_0 ?_
  refine zf_X5_7 (pc := 1) rfl rfl dX5_findSends_1 ?_
  refine z_iconst (pc := 4) dX5_findSends_4 ?_
  refine z_iald (pc := 5) rfl (by decide) (by omega) (by omega) dX5_findSends_5 ?_
  rw [show F 24 (0 : Int).toNat = F 1 0 from h240]
  refine z_is4 (pc := 6) (by decide) rfl dX5_findSends_6 ?_
  refine z_iconst (pc := 8) dX5_findSends_8 ?_
  refine z_is5 (pc := 9) (by decide) rfl dX5_findSends_9 ?_
  refine z_iconst (pc := 11) dX5_findSends_11 ?_
  refine z_is6 (pc := 12) (by decide) rfl dX5_findSends_12 ?_
  refine z_hp (show _ = zk g (va_up F 34 (F 34)) L im c from congrArg (fun f => zk g f L im c) (by funext k; unfold va_up; split <;> simp_all)) ?_
  exact loop ((F 1 0).toNat + 1) 0 (F 34) _ (by omega) (fun t ht => by omega)
end REF3
