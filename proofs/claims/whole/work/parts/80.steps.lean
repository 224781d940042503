/-! ===== a call on both sides: the same answer, and the same things hold behind it ===== -/
theorem zM_mono {l : Launch} {g : zG} {y : MethodName} {cc : ByteArray} {nL : Nat} {rt : Option FieldType} {d mc ms : Nat} {As : List Value} {h : List va_E} {Q Q2 : Option Value → List va_E → Prop} (hM : zM l g y cc nL rt d mc ms As h Q) (hq : ∀ r h', Q r h' → Q2 r h') : zM l g y cc nL rt d mc ms As h Q2 := by
  intro p e ha hc hk s m args below hf happ hP hK
  obtain ⟨n, o, h1, h2, h3, ⟨⟨r, h', e1, e2, e3⟩, e4⟩, e5⟩ := hM p e ha hc hk s m args below hf happ hP hK
  exact ⟨n, o, h1, h2, h3, ⟨⟨r, h', e1, hq r h' e2, e3⟩, e4⟩, e5⟩
abbrev vi (z : Int) : Value := .int (iz z)
abbrev vl (z : Int) : Value := .long (lz z)
def Bth (l : Launch) (g : zG) (y1 : MethodName) (b1 : ByteArray) (n1 : Nat) (y2 : MethodName) (b2 : ByteArray) (n2 : Nat) (rt : Option FieldType) (d1 d2 mc ms : Nat) (vv : Int → Value) (As : List Value) (F : Nat → Nat → Int) (L : Nat → Int) (im : Nat → Option Nat) (c : Nat) : Prop :=
  zM l g y1 b1 n1 rt d1 mc ms (.ref (g.2.1 + 0) :: As) (zk g F L im c) (fun r h => ∃ (v : Int) (F1 : Nat → Nat → Int) (im1 : Nat → Option Nat) (c1 : Nat), r = some (vv v) ∧ h = zk g F1 L im1 c1 ∧ zM l g y2 b2 n2 rt d2 0 0 (.ref (g.2.1 + 23) :: As) (zk g F1 L im1 c1) (fun r2 h2 => r2 = some (vv v) ∧ ∃ (F2 : Nat → Nat → Int) (L2 : Nat → Int), h2 = zk g F2 L2 im1 c1 ∧ Rl g F2 im1 c1))
theorem Rl_rb {g : zG} {F : Nat → Nat → Int} {im : Nat → Option Nat} {c : Nat} (h : Rl g F im c) : rb F := rb_rq h.1 (rq_rl h.2.1)
theorem Rl_C {g : zG} {F F2 : Nat → Nat → Int} {im : Nat → Option Nat} {c : Nat} (h : Rl g F im c) (e : sameC F F2) (h0 : fr0 F2) : Rl g F2 im c := Rl_same (fun q hq => e q (by omega)) h0 h
theorem Rl_M {g : zG} {F F2 : Nat → Nat → Int} {im : Nat → Option Nat} {c : Nat} (h : Rl g F im c) (e : sameM F F2) : Rl g F2 im c := Rl_same (fun q hq => e q (by omega)) (fr0_cong (fun q _ _ => e q (by omega)) h.2.2.1) h
theorem Rl_S {g : zG} {F : Nat → Nat → Int} {im : Nat → Option Nat} {c : Nat} {a b e : Nat → Int} (h : Rl g F im c) : Rl g (Ss F a b e) im c := Rl_same (fun q hq => by show va_up (va_up (va_up F 20 a) 21 b) 22 e q = F q; unfold va_up; rw [if_neg (by omega), if_neg (by omega), if_neg (by omega)]) (fr0_cong (fun q _ _ => by show va_up (va_up (va_up F 20 a) 21 b) 22 e q = F q; unfold va_up; rw [if_neg (by omega), if_neg (by omega), if_neg (by omega)]) h.2.2.1) h
theorem Rl_P {g : zG} {F : Nat → Nat → Int} {im : Nat → Option Nat} {c : Nat} {a b : Nat → Int} (h : Rl g F im c) : Rl g (Ps F a b) im c := Rl_same (fun q hq => by show va_up (va_up F 40 a) 41 b q = F q; unfold va_up; rw [if_neg (by omega), if_neg (by omega)]) (fr0_cong (fun q _ _ => by show va_up (va_up F 40 a) 41 b q = F q; unfold va_up; rw [if_neg (by omega), if_neg (by omega)]) h.2.2.1) h
theorem wPF_C {F F2 : Nat → Nat → Int} (e : ∀ q, q < 9 → F2 q = F q) (k : Nat) : wPF F2 k = wPF F k := by
  show wP (F2 1 0).toNat (F2 2 k) (F2 1 2).toNat (F2 3) (F2 4) (F2 5) k = _
  rw [e 1 (by omega), e 2 (by omega), e 3 (by omega), e 4 (by omega), e 5 (by omega)]
theorem nda_C {F F2 : Nat → Nat → Int} (e : ∀ q, q < 9 → F2 q = F q) (k : Nat) : nda F2 k = nda F k := by
  funext t
  have h : fnd F2 k t = fnd F k t := by funext o; unfold fnd; rw [e 6 (by omega)]
  unfold nda
  rw [h]
theorem nd2_C {F F2 : Nat → Nat → Int} (e : ∀ q, q < 9 → F2 q = F q) (k : Nat) (y x : Int) : nd2 F2 k y x = nd2 F k y x := by
  funext t
  unfold nd2
  rw [nda_C e k]
section STP
variable {l : Launch} {g : zG} {F : Nat → Nat → Int} {L : Nat → Int} {im : Nat → Option Nat} {c : Nat}
theorem sp_hours (hR : Rl g F im c) {z : Int} (hz : ir z) : Bth l g yX4_hours cX4_hours 2 yX5_hours cX5_hours 4 (some .boolean) 4 1 0 0 vi [.int (iz z)] F L im c := by
  refine zM_mono (c_hours hz) (fun r h hq => ?_)
  rcases hq with ⟨h1, rfl, rfl⟩ | ⟨h1, rfl, rfl⟩
  · refine ⟨1, _, im, c, rfl, rfl, zM_mono (m_hours (F := Fhr F z) hR.2.2.2.1 hz) (fun r h hq => ?_)⟩
    rcases hq with ⟨h2, rfl, rfl⟩ | ⟨h2, -, -⟩
    · exact ⟨rfl, _, _, rfl, st_hours hR h1⟩
    · exact absurd h1 h2
  · refine ⟨0, _, im, c, rfl, rfl, zM_mono (m_hours hR.2.2.2.1 hz) (fun r h hq => ?_)⟩
    rcases hq with ⟨h2, -, -⟩ | ⟨h2, rfl, rfl⟩
    · exact absurd h2 h1
    · exact ⟨rfl, _, _, rfl, hR⟩
theorem sp_kind (hR : Rl g F im c) {z : Int} (hz : ir z) : Bth l g yX4_kind cX4_kind 2 yX5_kind cX5_kind 2 (some .int) 1 1 0 0 vi [.int (iz z)] F L im c := by
  have e25 : F 25 0 = F 1 1 := (rq_rl hR.2.1).2.1
  refine zM_mono (c_kind hR.1 hz) (fun r h hq => ?_)
  rcases hq with ⟨h1, rfl, rfl⟩ | ⟨h1, rfl, rfl⟩
  · refine ⟨F 1 1, _, im, c, rfl, rfl, zM_mono (m_kind (F := Fkd F z) (show rb F from Rl_rb hR) hR.2.2.2.1 hz) (fun r h hq => ?_)⟩
    rcases hq with ⟨h2, rfl, rfl⟩ | ⟨h2, -, -⟩
    · exact ⟨by show some (Value.int (iz (F 25 0))) = some (Value.int (iz (F 1 1))); rw [e25], _, _, rfl, st_kind hR h1⟩
    · exact absurd (show F 25 0 < 3 ∧ 1 ≤ z ∧ z ≤ 1000 by omega) h2
  · refine ⟨-1, _, im, c, rfl, rfl, zM_mono (m_kind (show rb F from Rl_rb hR) hR.2.2.2.1 hz) (fun r h hq => ?_)⟩
    rcases hq with ⟨h2, -, -⟩ | ⟨h2, rfl, rfl⟩
    · exact absurd (by omega) h1
    · exact ⟨rfl, _, _, rfl, hR⟩
theorem sp_offer (hR : Rl g F im c) {z y x : Int} (hz : ir z) (hy : ir y) (hx : ir x) : Bth l g yX4_offer cX4_offer 4 yX5_offer cX5_offer 5 (some .int) 1 2 0 0 vi [.int (iz z), .int (iz y), .int (iz x)] F L im c := by
  have e25 : F 25 0 = F 1 1 := (rq_rl hR.2.1).2.1
  have e27 : F 27 0 = F 1 2 := (rq_rl hR.2.1).2.2.1
  refine zM_mono (c_offer hR.1 hz hy hx) (fun r h hq => ?_)
  rcases hq with ⟨h1, rfl, rfl⟩ | ⟨h1, rfl, rfl⟩
  · refine ⟨F 1 2, _, im, c, rfl, rfl, zM_mono (m_offer (F := Fof F z y x) (show rb F from Rl_rb hR) hR.2.2.2.1 hz hy hx) (fun r h hq => ?_)⟩
    rcases hq with ⟨h2, rfl, rfl⟩ | ⟨h2, -, -⟩
    · exact ⟨by show some (Value.int (iz (F 27 0))) = some (Value.int (iz (F 1 2))); rw [e27], _, _, rfl, st_offer hR h1⟩
    · exact absurd (show F 27 0 < 6 ∧ 0 ≤ z ∧ z < F 25 0 ∧ 1 ≤ y ∧ y ≤ 40 ∧ 0 ≤ x ∧ x ≤ 100000 by omega) h2
  · refine ⟨-1, _, im, c, rfl, rfl, zM_mono (m_offer (show rb F from Rl_rb hR) hR.2.2.2.1 hz hy hx) (fun r h hq => ?_)⟩
    rcases hq with ⟨h2, -, -⟩ | ⟨h2, rfl, rfl⟩
    · exact absurd (by omega) h1
    · exact ⟨rfl, _, _, rfl, hR⟩
theorem sp_reprice (hR : Rl g F im c) {z y : Int} (hz : ir z) (hy : ir y) : Bth l g yX4_reprice cX4_reprice 3 yX5_reprice cX5_reprice 3 (some .boolean) 1 2 0 0 vi [.int (iz z), .int (iz y)] F L im c := by
  have e27 : F 27 0 = F 1 2 := (rq_rl hR.2.1).2.2.1
  refine zM_mono (c_reprice hR.1 hz hy) (fun r h hq => ?_)
  rcases hq with ⟨h1, rfl, rfl⟩ | ⟨h1, rfl, rfl⟩
  · refine ⟨1, _, im, c, rfl, rfl, zM_mono (m_reprice (F := va_up F 5 (vf_upd (F 5) z.toNat y)) (show rb F from Rl_rb hR) hR.2.2.2.1 hz hy) (fun r h hq => ?_)⟩
    rcases hq with ⟨h2, rfl, rfl⟩ | ⟨h2, -, -⟩
    · exact ⟨rfl, _, _, rfl, st_reprice hR h1⟩
    · exact absurd (show 0 ≤ z ∧ z < F 27 0 ∧ 0 ≤ y ∧ y ≤ 100000 by omega) h2
  · refine ⟨0, _, im, c, rfl, rfl, zM_mono (m_reprice (show rb F from Rl_rb hR) hR.2.2.2.1 hz hy) (fun r h hq => ?_)⟩
    rcases hq with ⟨h2, -, -⟩ | ⟨h2, rfl, rfl⟩
    · exact absurd (by omega) h1
    · exact ⟨rfl, _, _, rfl, hR⟩
theorem sp_need (hR : Rl g F im c) {o z y x : Int} (ho : ir o) (hz : ir z) (hy : ir y) (hx : ir x) : Bth l g yX4_need cX4_need 5 yX5_need cX5_need 5 (some .boolean) 1 2 0 0 vi [.int (iz o), .int (iz z), .int (iz y), .int (iz x)] F L im c := by
  have e24 : F 24 0 = F 1 0 := (rq_rl hR.2.1).1
  have e25 : F 25 0 = F 1 1 := (rq_rl hR.2.1).2.1
  refine zM_mono (c_need hR.1 ho hz hy hx) (fun r h hq => ?_)
  rcases hq with ⟨h1, rfl, rfl⟩ | ⟨h1, rfl, rfl⟩
  · refine ⟨1, _, im, c, rfl, rfl, zM_mono (m_need (F := va_up F 6 (vf_upd (F 6) ((z.toNat * 4 + o.toNat) * 40 + y.toNat) x)) (show rb F from Rl_rb hR) hR.2.2.2.1 ho hz hy hx) (fun r h hq => ?_)⟩
    rcases hq with ⟨h2, rfl, rfl⟩ | ⟨h2, -, -⟩
    · exact ⟨rfl, _, _, rfl, st_need hR h1⟩
    · exact absurd (show 0 ≤ o ∧ o ≤ 3 ∧ 0 ≤ z ∧ z < F 25 0 ∧ 0 ≤ y ∧ y < F 24 0 ∧ 0 ≤ x ∧ x ≤ 9 by omega) h2
  · refine ⟨0, _, im, c, rfl, rfl, zM_mono (m_need (show rb F from Rl_rb hR) hR.2.2.2.1 ho hz hy hx) (fun r h hq => ?_)⟩
    rcases hq with ⟨h2, -, -⟩ | ⟨h2, rfl, rfl⟩
    · exact absurd (by omega) h1
    · exact ⟨rfl, _, _, rfl, hR⟩
theorem sp_needs (hR : Rl g F im c) {o z y x : Int} (ho : ir o) (hz : ir z) (hy : ir y) (hx : ir x) : Bth l g yX4_needs cX4_needs 6 yX5_needs cX5_needs 7 (some .boolean) 2 2 0 0 vi [.int (iz o), .int (iz z), .int (iz y), .int (iz x)] F L im c := by
  have e24 : F 24 0 = F 1 0 := (rq_rl hR.2.1).1
  have e25 : F 25 0 = F 1 1 := (rq_rl hR.2.1).2.1
  refine zM_mono (c_needs hR.1 ho hz hy hx) (fun r h hq => ?_)
  rcases hq with ⟨h1, rfl, rfl⟩ | ⟨h1, rfl, rfl⟩
  · refine ⟨1, _, im, c, rfl, rfl, zM_mono (m_needs (F := va_up F 6 (put (F 6) ((z.toNat * 4 + o.toNat) * 40 + y.toNat) (hb x) 8)) (show rb F from Rl_rb hR) hR.2.2.2.1 ho hz hy hx) (fun r h hq => ?_)⟩
    rcases hq with ⟨h2, rfl, rfl⟩ | ⟨h2, -, -⟩
    · exact ⟨rfl, _, _, rfl, st_needs hR h1⟩
    · obtain ⟨h3, h8⟩ := h1
      exact absurd ⟨show 0 ≤ o ∧ o ≤ 3 ∧ 0 ≤ z ∧ z < F 25 0 ∧ 0 ≤ y ∧ y ≤ F 24 0 - 8 by omega, h8⟩ h2
  · refine ⟨0, _, im, c, rfl, rfl, zM_mono (m_needs (show rb F from Rl_rb hR) hR.2.2.2.1 ho hz hy hx) (fun r h hq => ?_)⟩
    rcases hq with ⟨h2, -, -⟩ | ⟨h2, rfl, rfl⟩
    · obtain ⟨h3, h8⟩ := h2
      exact absurd ⟨by omega, h8⟩ h1
    · exact ⟨rfl, _, _, rfl, hR⟩
theorem sp_buy (hR : Rl g F im c) {z y x : Int} (hz : ir z) (hy : ir y) (hx : ir x) : Bth l g yX4_buy cX4_buy 4 yX5_buy cX5_buy 4 (some .boolean) 1 2 0 0 vi [.int (iz z), .int (iz y), .int (iz x)] F L im c := by
  have e24 : F 24 0 = F 1 0 := (rq_rl hR.2.1).1
  have e27 : F 27 0 = F 1 2 := (rq_rl hR.2.1).2.2.1
  refine zM_mono (c_buy hR.1 hz hy hx) (fun r h hq => ?_)
  rcases hq with ⟨h1, rfl, rfl⟩ | ⟨h1, rfl, rfl⟩
  · refine ⟨1, _, im, c, rfl, rfl, zM_mono (m_buy (F := va_up F 7 (vf_upd (F 7) (z.toNat * 40 + y.toNat) x)) (show rb F from Rl_rb hR) hR.2.2.2.1 hz hy hx) (fun r h hq => ?_)⟩
    rcases hq with ⟨h2, rfl, rfl⟩ | ⟨h2, -, -⟩
    · exact ⟨rfl, _, _, rfl, st_buy hR h1⟩
    · exact absurd (show 0 ≤ z ∧ z < F 27 0 ∧ 0 ≤ y ∧ y < F 24 0 ∧ 0 ≤ x ∧ x ≤ 60 by omega) h2
  · refine ⟨0, _, im, c, rfl, rfl, zM_mono (m_buy (show rb F from Rl_rb hR) hR.2.2.2.1 hz hy hx) (fun r h hq => ?_)⟩
    rcases hq with ⟨h2, -, -⟩ | ⟨h2, rfl, rfl⟩
    · exact absurd (by omega) h1
    · exact ⟨rfl, _, _, rfl, hR⟩
theorem Rl_of (hR : Rl g F im c) (j : Nat) (hj : j < 6) : 0 ≤ F 28 j ∧ F 28 j ≤ 2 := by
  rw [((rq_rl hR.2.1).2.2.2.2.1 j hj).1]
  exact bi_kindOf hR.1 j
theorem sp_clear (hR : Rl g F im c) {z : Int} (hz : ir z) : Bth l g yX4_clear cX4_clear 2 yX5_clear cX5_clear 2 (some .boolean) 3 2 0 0 vi [.int (iz z)] F L im c := by
  have e25 : F 25 0 = F 1 1 := (rq_rl hR.2.1).2.1
  refine zM_mono (c_clear hR.1 hz) (fun r h hq => ?_)
  rcases hq with ⟨h1, rfl, rfl⟩ | ⟨h1, rfl, rfl⟩
  · refine ⟨1, _, im, c, rfl, rfl, zM_mono (m_clear (F := va_up F 7 (noby F z.toNat (F 1 2).toNat)) (show rb F from Rl_rb hR) (fun j hj => Rl_of hR j hj) hR.2.2.2.1 hz) (fun r h hq => ?_)⟩
    rcases hq with ⟨h2, rfl, rfl⟩ | ⟨h2, -, -⟩
    · exact ⟨rfl, _, _, rfl, st_clear hR⟩
    · exact absurd (show 0 ≤ z ∧ z < F 25 0 by omega) h2
  · refine ⟨0, _, im, c, rfl, rfl, zM_mono (m_clear (show rb F from Rl_rb hR) (fun j hj => Rl_of hR j hj) hR.2.2.2.1 hz) (fun r h hq => ?_)⟩
    rcases hq with ⟨h2, -, -⟩ | ⟨h2, rfl, rfl⟩
    · exact absurd (by omega) h1
    · exact ⟨rfl, _, _, rfl, hR⟩
theorem sp_tell (hR : Rl g F im c) {z y x : Int} (hz : ir z) (hy : ir y) (hx : ir x) : Bth l g yX4_tell cX4_tell 4 yX5_tell cX5_tell 4 (some .int) 4 3 0 0 vi [.int (iz z), .int (iz y), .int (iz x)] F L im c := by
  refine zM_mono (c_tell hR.1 hz hy hx) (fun r h hq => ?_)
  obtain ⟨rfl, rfl⟩ := hq
  refine ⟨_, _, im, c, rfl, rfl, zM_mono (m_tell hR.1 hR.2.1 hR.2.2.2.1 hz hy hx) (fun r h hq => ?_)⟩
  obtain ⟨rfl, rfl⟩ := hq
  exact ⟨rfl, _, _, rfl, hR⟩
theorem sp_cost (hR : Rl g F im c) {z : Int} (hz : ir z) : Bth l g yX4_cost cX4_cost 2 yX5_cost cX5_cost 2 (some .long) 5 4 0 0 vl [.int (iz z)] F L im c := by
  refine zM_mono (c_cost hR.1 hz) (fun r h hq => ?_)
  obtain ⟨rfl, rfl⟩ := hq
  refine ⟨_, _, im, c, rfl, rfl, zM_mono (m_cost hR.1 hR.2.1 hR.2.2.2.1 hz) (fun r h hq => ?_)⟩
  obtain ⟨rfl, rfl⟩ := hq
  exact ⟨rfl, _, _, rfl, hR⟩
theorem sp_about (hR : Rl g F im c) {z x : Int} (hz : ir z) (hx : ir x) : Bth l g yX4_about cX4_about 3 yX5_about cX5_about 7 (some .int) 4 2 0 0 vi [.int (iz z), .int (iz x)] F L im c := by
  refine zM_mono (c_about hR.1 hz hx) (fun r h hq => ?_)
  obtain ⟨rfl, rfl⟩ := hq
  refine ⟨_, _, im, c, rfl, rfl, zM_mono (m_about hR.1 hR.2.1 hR.2.2.2.1 hz hx) (fun r h hq => ?_)⟩
  obtain ⟨rfl, rfl⟩ := hq
  exact ⟨rfl, _, _, rfl, hR⟩
theorem sp_count (hR : Rl g F im c) {z : Int} (hz : ir z) : Bth l g yX4_count cX4_count 2 yX5_count cX5_count 2 (some .int) 0 0 0 0 vi [.int (iz z)] F L im c := by
  refine zM_mono (c_count hz) (fun r h hq => ?_)
  obtain ⟨rfl, rfl⟩ := hq
  refine ⟨_, _, im, c, rfl, rfl, zM_mono (m_count hR.2.1 hR.2.2.2.1 hz) (fun r h hq => ?_)⟩
  obtain ⟨rfl, rfl⟩ := hq
  exact ⟨rfl, _, _, rfl, hR⟩
theorem sp_best (hR : Rl g F im c) {z : Int} (hz : ir z) : Bth l g yX4_best cX4_best 2 yX5_best cX5_best 2 (some .long) 6 4 0 0 vl [.int (iz z)] F L im c := by
  refine zM_mono (c_best hR.1 hR.2.2.1 hz) (fun r h hq => ?_)
  obtain ⟨V, F1, rfl, rfl, eC, h0, hv⟩ := hq
  have hR1 := Rl_C hR eC h0
  have e9 : ∀ q, q < 9 → F1 q = F q := fun q hq => eC q (Or.inl hq)
  refine ⟨V, _, im, c, rfl, rfl, zM_mono (m_best hR1.1 hR1.2.1 hR1.2.2.2.1 hz) (fun r h hq => ?_)⟩
  obtain ⟨V2, F2, rfl, rfl, eM, hv2⟩ := hq
  rw [wPF_C e9, nda_C e9, e9 1 (by omega)] at hv2
  have eV : V2 = V := by
    rcases hv with ⟨a1, a2, a3⟩ | ⟨a1, a2⟩
    · rcases hv2 with ⟨b1, b2, b3⟩ | ⟨b1, b2⟩
      · exact optV_one b3 a3
      · exact absurd ⟨a1, a2⟩ b1
    · rcases hv2 with ⟨b1, b2, b3⟩ | ⟨b1, b2⟩
      · exact absurd ⟨b1, b2⟩ a1
      · rw [a2, b2]
  rw [eV]
  exact ⟨rfl, _, _, rfl, Rl_M hR1 eM⟩
theorem sp_price (hR : Rl g F im c) {z y : Int} (hz : ir z) (hy : ir y) : Bth l g yX4_price cX4_price 3 yX5_price cX5_price 5 (some .int) 6 4 0 0 vi [.int (iz z), .int (iz y)] F L im c := by
  refine zM_mono (c_price hR.1 hR.2.2.1 hz hy) (fun r h hq => ?_)
  obtain ⟨v, F1, rfl, rfl, eC, h0, hv⟩ := hq
  have hR1 := Rl_C hR eC h0
  have e9 : ∀ q, q < 9 → F1 q = F q := fun q hq => eC q (Or.inl hq)
  refine ⟨v, _, im, c, rfl, rfl, zM_mono (m_price hR1.1 hR1.2.1 hR1.2.2.2.1 hz hy) (fun r h hq => ?_)⟩
  obtain ⟨v2, F2, rfl, rfl, eM, hv2⟩ := hq
  rw [wPF_C e9, nda_C e9, e9 1 (by omega)] at hv2
  have eV : v2 = v := by
    rcases hv with ⟨a1, a2, a3, a4, V, p, a5, a6, a7⟩ | ⟨a1, a2⟩
    · rcases hv2 with ⟨b1, b2, b3, b4, V2, p2, b5, b6, b7⟩ | ⟨b1, b2⟩
      · have hV := optV_one b5 a5
        rw [hV] at b6
        rw [a7, b7, topP_one b6 a6 (t := y.toNat) (by omega), topP_one b6 a6 (t := y.toNat + 1) (by omega)]
      · exact absurd ⟨a1, a2, a3, a4⟩ b1
    · rcases hv2 with ⟨b1, b2, b3, b4, -⟩ | ⟨b1, b2⟩
      · exact absurd ⟨b1, b2, b3, b4⟩ a1
      · rw [a2, b2]
  rw [eV]
  exact ⟨rfl, _, _, rfl, Rl_M hR1 eM⟩
theorem sp_more (hR : Rl g F im c) {z y x : Int} (hz : ir z) (hy : ir y) (hx : ir x) : Bth l g yX4_more cX4_more 5 yX5_more cX5_more 6 (some .int) 6 4 0 0 vi [.int (iz z), .int (iz y), .int (iz x)] F L im c := by
  refine zM_mono (c_more hR.1 hR.2.2.1 hz hy hx) (fun r h hq => ?_)
  obtain ⟨v, F1, rfl, rfl, eC, h0, hv⟩ := hq
  have hR1 := Rl_C hR eC h0
  have e9 : ∀ q, q < 9 → F1 q = F q := fun q hq => eC q (Or.inl hq)
  refine ⟨v, _, im, c, rfl, rfl, zM_mono (m_more hR1.1 hR1.2.1 hR1.2.2.2.1 hz hy hx) (fun r h hq => ?_)⟩
  obtain ⟨v2, F2, rfl, rfl, eM, hv2⟩ := hq
  rw [wPF_C e9, nda_C e9, nd2_C e9, e9 1 (by omega)] at hv2
  have eV : v2 = v := by
    rcases hv with ⟨a1, a2, a3, a4, a8, a9, V, W, a5, a6, a7⟩ | ⟨a1, a2⟩
    · rcases hv2 with ⟨b1, b2, b3, b4, b8, b9, V2, W2, b5, b6, b7⟩ | ⟨b1, b2⟩
      · rw [a7, b7, optV_one b5 a5, optV_one b6 a6]
      · exact absurd ⟨a1, a2, a3, a4, a8, a9⟩ b1
    · rcases hv2 with ⟨b1, b2, b3, b4, b8, b9, -⟩ | ⟨b1, b2⟩
      · exact absurd ⟨b1, b2, b3, b4, b8, b9⟩ a1
      · rw [a2, b2]
  rw [eV]
  exact ⟨rfl, _, _, rfl, Rl_M hR1 eM⟩
theorem sp_pays (hR : Rl g F im c) {o z : Int} (ho : ir o) (hz : ir z) : Bth l g yX4_pays cX4_pays 3 yX5_pays cX5_pays 11 (some .long) 5 2 0 0 vl [.int (iz o), .int (iz z)] F L im c := by
  refine zM_mono (c_pays hR.1 ho hz) (fun r h hq => ?_)
  obtain ⟨rfl, a, b, e, rfl⟩ := hq
  have hR1 : Rl g (Ss F a b e) im c := Rl_S hR
  refine ⟨_, _, im, c, rfl, rfl, zM_mono (m_pays hR1.1 hR1.2.1 hR1.2.2.2.1 ho hz) (fun r h hq => ?_)⟩
  obtain ⟨rfl, a2, b2, L2, rfl⟩ := hq
  exact ⟨rfl, _, _, rfl, Rl_P hR1⟩
end STP
