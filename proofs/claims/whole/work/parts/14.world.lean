/-! ===== the world: 0 the object, 1 its Book (2 rates, 3 kindOf, 4 terms, 5 costs, 6 needs, 7 bought), 8 images, 9 its Flow (10 lengths, 11 fees, 12 carried, 13 worth, 14 far, 15 step, 16 settled), 17 its BlindRule (18 counted), 19 its Shares (20 yet, 21 had, 22 besides), 23 the reference (24 hours .. 43 kept); from 44 on the Books of images, seven cells each ===== -/
def zbk (g : zG) (F : Nat → Nat → Int) (p : Nat) : List va_E := [.inr (1, [.int (iz (F p 0)), .int (iz (F p 1)), .int (iz (F p 2)), .ref (g.2.1 + (p + 1)), .ref (g.2.1 + (p + 2)), .ref (g.2.1 + (p + 3)), .ref (g.2.1 + (p + 4)), .ref (g.2.1 + (p + 5)), .ref (g.2.1 + (p + 6))]), zA g 3 (F (p + 1)), zA g 6 (F (p + 2)), zA g 6 (F (p + 3)), zA g 6 (F (p + 4)), zA g 480 (F (p + 5)), zA g 240 (F (p + 6))]
def ztl (g : zG) (F : Nat → Nat → Int) : Nat → List va_E
  | 0 => []
  | c + 1 => ztl g F c ++ zbk g F (44 + 7 * c)
def zk (g : zG) (F : Nat → Nat → Int) (L : Nat → Int) (im : Nat → Option Nat) (c : Nat) : List va_E :=
  [.inr (4, [.ref (g.2.1 + 1), .ref (g.2.1 + 8), .ref (g.2.1 + 9), .ref (g.2.1 + 17), .ref (g.2.1 + 19)]),
   .inr (1, [.int (iz (F 1 0)), .int (iz (F 1 1)), .int (iz (F 1 2)), .ref (g.2.1 + 2), .ref (g.2.1 + 3), .ref (g.2.1 + 4), .ref (g.2.1 + 5), .ref (g.2.1 + 6), .ref (g.2.1 + 7)]),
   zA g 3 (F 2),
   zA g 6 (F 3),
   zA g 6 (F 4),
   zA g 6 (F 5),
   zA g 480 (F 6),
   zA g 240 (F 7),
   zR g 3 im,
   .inr (2, [.int (iz (F 9 0)), .int (iz (F 9 1)), .ref (g.2.1 + 10), .ref (g.2.1 + 11), .ref (g.2.1 + 12), .ref (g.2.1 + 13), .ref (g.2.1 + 14), .ref (g.2.1 + 15), .ref (g.2.1 + 16)]),
   zA g 8 (F 10),
   zA g 8 (F 11),
   zA g 328 (F 12),
   zA g 41 (F 13),
   zA g 41 (F 14),
   zA g 41 (F 15),
   zB g 41 (F 16),
   .inr (0, [.ref (g.2.1 + 18)]),
   zA g 40 (F 18),
   .inr (3, [.ref (g.2.1 + 20), .ref (g.2.1 + 21), .ref (g.2.1 + 22)]),
   zA g 4 (F 20),
   zA g 4 (F 21),
   zA g 4 (F 22),
   .inr (5, [.int (iz (F 23 0)), .ref (g.2.1 + 24), .ref (g.2.1 + 25), .ref (g.2.1 + 26), .ref (g.2.1 + 27), .ref (g.2.1 + 28), .ref (g.2.1 + 29), .ref (g.2.1 + 30), .ref (g.2.1 + 31), .ref (g.2.1 + 32), .ref (g.2.1 + 33), .ref (g.2.1 + 34), .ref (g.2.1 + 35), .ref (g.2.1 + 36), .ref (g.2.1 + 37), .ref (g.2.1 + 38), .ref (g.2.1 + 39), .ref (g.2.1 + 40), .ref (g.2.1 + 41), .ref (g.2.1 + 42), .ref (g.2.1 + 43)]),
   zA g 4 (F 24),
   zA g 4 (F 25),
   zA g 12 (F 26),
   zA g 4 (F 27),
   zA g 24 (F 28),
   zA g 24 (F 29),
   zA g 24 (F 30),
   zA g 1920 (F 31),
   zA g 960 (F 32),
   zA g 1681 (F 33),
   zA g 41 (F 34),
   zA g 41 (F 35),
   zA g 1681 (F 36),
   zA g 41 (F 37),
   zA g 41 (F 38),
   zA g 40 (F 39),
   zA g 4 (F 40),
   zA g 4 (F 41),
   zL g 4 L,
   zB g 3 (F 43)] ++ ztl g F c
theorem zbk_up {g : zG} {F : Nat → Nat → Int} {p q : Nat} {f : Nat → Int} (h : q < p ∨ p + 7 ≤ q) : zbk g (va_up F q f) p = zbk g F p := by
  have e : ∀ j, j < 7 → va_up F q f (p + j) = F (p + j) := fun j hj => by unfold va_up; rw [if_neg (by omega)]
  have e0 : va_up F q f p = F p := e 0 (by omega)
  unfold zbk
  rw [e0, e 1 (by omega), e 2 (by omega), e 3 (by omega), e 4 (by omega), e 5 (by omega), e 6 (by omega)]
theorem ztl_up {g : zG} {F : Nat → Nat → Int} {q : Nat} {f : Nat → Int} (h : q < 44) : ∀ c, ztl g (va_up F q f) c = ztl g F c
  | 0 => rfl
  | c + 1 => by
    show ztl g (va_up F q f) c ++ zbk g (va_up F q f) (44 + 7 * c) = ztl g F c ++ zbk g F (44 + 7 * c)
    rw [ztl_up h c, zbk_up (Or.inl (by omega))]
theorem ztl_len {g : zG} {F : Nat → Nat → Int} : ∀ c, (ztl g F c).length = 7 * c
  | 0 => rfl
  | c + 1 => by
    show (ztl g F c ++ zbk g F (44 + 7 * c)).length = _
    rw [List.length_append, ztl_len c]
    simp [zbk]; omega
section ZK
variable {g : zG} {F : Nat → Nat → Int} {L : Nat → Int} {im : Nat → Option Nat} {c : Nat}
theorem zs_2 {f : Nat → Int} : (zk g F L im c).set 2 (zA g 3 f) = zk g (va_up F 2 f) L im c := by unfold zk; rw [ztl_up (by decide)]; rfl
theorem zs_3 {f : Nat → Int} : (zk g F L im c).set 3 (zA g 6 f) = zk g (va_up F 3 f) L im c := by unfold zk; rw [ztl_up (by decide)]; rfl
theorem zs_4 {f : Nat → Int} : (zk g F L im c).set 4 (zA g 6 f) = zk g (va_up F 4 f) L im c := by unfold zk; rw [ztl_up (by decide)]; rfl
theorem zs_5 {f : Nat → Int} : (zk g F L im c).set 5 (zA g 6 f) = zk g (va_up F 5 f) L im c := by unfold zk; rw [ztl_up (by decide)]; rfl
theorem zs_6 {f : Nat → Int} : (zk g F L im c).set 6 (zA g 480 f) = zk g (va_up F 6 f) L im c := by unfold zk; rw [ztl_up (by decide)]; rfl
theorem zs_7 {f : Nat → Int} : (zk g F L im c).set 7 (zA g 240 f) = zk g (va_up F 7 f) L im c := by unfold zk; rw [ztl_up (by decide)]; rfl
theorem zs_10 {f : Nat → Int} : (zk g F L im c).set 10 (zA g 8 f) = zk g (va_up F 10 f) L im c := by unfold zk; rw [ztl_up (by decide)]; rfl
theorem zs_11 {f : Nat → Int} : (zk g F L im c).set 11 (zA g 8 f) = zk g (va_up F 11 f) L im c := by unfold zk; rw [ztl_up (by decide)]; rfl
theorem zs_12 {f : Nat → Int} : (zk g F L im c).set 12 (zA g 328 f) = zk g (va_up F 12 f) L im c := by unfold zk; rw [ztl_up (by decide)]; rfl
theorem zs_13 {f : Nat → Int} : (zk g F L im c).set 13 (zA g 41 f) = zk g (va_up F 13 f) L im c := by unfold zk; rw [ztl_up (by decide)]; rfl
theorem zs_14 {f : Nat → Int} : (zk g F L im c).set 14 (zA g 41 f) = zk g (va_up F 14 f) L im c := by unfold zk; rw [ztl_up (by decide)]; rfl
theorem zs_15 {f : Nat → Int} : (zk g F L im c).set 15 (zA g 41 f) = zk g (va_up F 15 f) L im c := by unfold zk; rw [ztl_up (by decide)]; rfl
theorem zs_18 {f : Nat → Int} : (zk g F L im c).set 18 (zA g 40 f) = zk g (va_up F 18 f) L im c := by unfold zk; rw [ztl_up (by decide)]; rfl
theorem zs_20 {f : Nat → Int} : (zk g F L im c).set 20 (zA g 4 f) = zk g (va_up F 20 f) L im c := by unfold zk; rw [ztl_up (by decide)]; rfl
theorem zs_21 {f : Nat → Int} : (zk g F L im c).set 21 (zA g 4 f) = zk g (va_up F 21 f) L im c := by unfold zk; rw [ztl_up (by decide)]; rfl
theorem zs_22 {f : Nat → Int} : (zk g F L im c).set 22 (zA g 4 f) = zk g (va_up F 22 f) L im c := by unfold zk; rw [ztl_up (by decide)]; rfl
theorem zs_24 {f : Nat → Int} : (zk g F L im c).set 24 (zA g 4 f) = zk g (va_up F 24 f) L im c := by unfold zk; rw [ztl_up (by decide)]; rfl
theorem zs_25 {f : Nat → Int} : (zk g F L im c).set 25 (zA g 4 f) = zk g (va_up F 25 f) L im c := by unfold zk; rw [ztl_up (by decide)]; rfl
theorem zs_26 {f : Nat → Int} : (zk g F L im c).set 26 (zA g 12 f) = zk g (va_up F 26 f) L im c := by unfold zk; rw [ztl_up (by decide)]; rfl
theorem zs_27 {f : Nat → Int} : (zk g F L im c).set 27 (zA g 4 f) = zk g (va_up F 27 f) L im c := by unfold zk; rw [ztl_up (by decide)]; rfl
theorem zs_28 {f : Nat → Int} : (zk g F L im c).set 28 (zA g 24 f) = zk g (va_up F 28 f) L im c := by unfold zk; rw [ztl_up (by decide)]; rfl
theorem zs_29 {f : Nat → Int} : (zk g F L im c).set 29 (zA g 24 f) = zk g (va_up F 29 f) L im c := by unfold zk; rw [ztl_up (by decide)]; rfl
theorem zs_30 {f : Nat → Int} : (zk g F L im c).set 30 (zA g 24 f) = zk g (va_up F 30 f) L im c := by unfold zk; rw [ztl_up (by decide)]; rfl
theorem zs_31 {f : Nat → Int} : (zk g F L im c).set 31 (zA g 1920 f) = zk g (va_up F 31 f) L im c := by unfold zk; rw [ztl_up (by decide)]; rfl
theorem zs_32 {f : Nat → Int} : (zk g F L im c).set 32 (zA g 960 f) = zk g (va_up F 32 f) L im c := by unfold zk; rw [ztl_up (by decide)]; rfl
theorem zs_33 {f : Nat → Int} : (zk g F L im c).set 33 (zA g 1681 f) = zk g (va_up F 33 f) L im c := by unfold zk; rw [ztl_up (by decide)]; rfl
theorem zs_34 {f : Nat → Int} : (zk g F L im c).set 34 (zA g 41 f) = zk g (va_up F 34 f) L im c := by unfold zk; rw [ztl_up (by decide)]; rfl
theorem zs_35 {f : Nat → Int} : (zk g F L im c).set 35 (zA g 41 f) = zk g (va_up F 35 f) L im c := by unfold zk; rw [ztl_up (by decide)]; rfl
theorem zs_36 {f : Nat → Int} : (zk g F L im c).set 36 (zA g 1681 f) = zk g (va_up F 36 f) L im c := by unfold zk; rw [ztl_up (by decide)]; rfl
theorem zs_37 {f : Nat → Int} : (zk g F L im c).set 37 (zA g 41 f) = zk g (va_up F 37 f) L im c := by unfold zk; rw [ztl_up (by decide)]; rfl
theorem zs_38 {f : Nat → Int} : (zk g F L im c).set 38 (zA g 41 f) = zk g (va_up F 38 f) L im c := by unfold zk; rw [ztl_up (by decide)]; rfl
theorem zs_39 {f : Nat → Int} : (zk g F L im c).set 39 (zA g 40 f) = zk g (va_up F 39 f) L im c := by unfold zk; rw [ztl_up (by decide)]; rfl
theorem zs_40 {f : Nat → Int} : (zk g F L im c).set 40 (zA g 4 f) = zk g (va_up F 40 f) L im c := by unfold zk; rw [ztl_up (by decide)]; rfl
theorem zs_41 {f : Nat → Int} : (zk g F L im c).set 41 (zA g 4 f) = zk g (va_up F 41 f) L im c := by unfold zk; rw [ztl_up (by decide)]; rfl
theorem zs_16 {f : Nat → Int} : (zk g F L im c).set 16 (zB g 41 f) = zk g (va_up F 16 f) L im c := by unfold zk; rw [ztl_up (by decide)]; rfl
theorem zs_43 {f : Nat → Int} : (zk g F L im c).set 43 (zB g 3 f) = zk g (va_up F 43 f) L im c := by unfold zk; rw [ztl_up (by decide)]; rfl
theorem zs_42 {f : Nat → Int} : (zk g F L im c).set 42 (zL g 4 f) = zk g F f im c := rfl
theorem zs_8 {f : Nat → Option Nat} : (zk g F L im c).set 8 (zR g 3 f) = zk g F L f c := rfl
theorem zs_1_0 {v : Int} : (zk g F L im c).set 1 (.inr (1, [.int (iz (F 1 0)), .int (iz (F 1 1)), .int (iz (F 1 2)), .ref (g.2.1 + 2), .ref (g.2.1 + 3), .ref (g.2.1 + 4), .ref (g.2.1 + 5), .ref (g.2.1 + 6), .ref (g.2.1 + 7)].set 0 (.int (iz v)))) = zk g (va_up F 1 (vf_upd (F 1) 0 v)) L im c := by unfold zk; rw [ztl_up (by decide)]; rfl
theorem zs_1_1 {v : Int} : (zk g F L im c).set 1 (.inr (1, [.int (iz (F 1 0)), .int (iz (F 1 1)), .int (iz (F 1 2)), .ref (g.2.1 + 2), .ref (g.2.1 + 3), .ref (g.2.1 + 4), .ref (g.2.1 + 5), .ref (g.2.1 + 6), .ref (g.2.1 + 7)].set 1 (.int (iz v)))) = zk g (va_up F 1 (vf_upd (F 1) 1 v)) L im c := by unfold zk; rw [ztl_up (by decide)]; rfl
theorem zs_1_2 {v : Int} : (zk g F L im c).set 1 (.inr (1, [.int (iz (F 1 0)), .int (iz (F 1 1)), .int (iz (F 1 2)), .ref (g.2.1 + 2), .ref (g.2.1 + 3), .ref (g.2.1 + 4), .ref (g.2.1 + 5), .ref (g.2.1 + 6), .ref (g.2.1 + 7)].set 2 (.int (iz v)))) = zk g (va_up F 1 (vf_upd (F 1) 2 v)) L im c := by unfold zk; rw [ztl_up (by decide)]; rfl
theorem zs_9_0 {v : Int} : (zk g F L im c).set 9 (.inr (2, [.int (iz (F 9 0)), .int (iz (F 9 1)), .ref (g.2.1 + 10), .ref (g.2.1 + 11), .ref (g.2.1 + 12), .ref (g.2.1 + 13), .ref (g.2.1 + 14), .ref (g.2.1 + 15), .ref (g.2.1 + 16)].set 0 (.int (iz v)))) = zk g (va_up F 9 (vf_upd (F 9) 0 v)) L im c := by unfold zk; rw [ztl_up (by decide)]; rfl
theorem zs_9_1 {v : Int} : (zk g F L im c).set 9 (.inr (2, [.int (iz (F 9 0)), .int (iz (F 9 1)), .ref (g.2.1 + 10), .ref (g.2.1 + 11), .ref (g.2.1 + 12), .ref (g.2.1 + 13), .ref (g.2.1 + 14), .ref (g.2.1 + 15), .ref (g.2.1 + 16)].set 1 (.int (iz v)))) = zk g (va_up F 9 (vf_upd (F 9) 1 v)) L im c := by unfold zk; rw [ztl_up (by decide)]; rfl
theorem zs_23_0 {v : Int} : (zk g F L im c).set 23 (.inr (5, [.int (iz (F 23 0)), .ref (g.2.1 + 24), .ref (g.2.1 + 25), .ref (g.2.1 + 26), .ref (g.2.1 + 27), .ref (g.2.1 + 28), .ref (g.2.1 + 29), .ref (g.2.1 + 30), .ref (g.2.1 + 31), .ref (g.2.1 + 32), .ref (g.2.1 + 33), .ref (g.2.1 + 34), .ref (g.2.1 + 35), .ref (g.2.1 + 36), .ref (g.2.1 + 37), .ref (g.2.1 + 38), .ref (g.2.1 + 39), .ref (g.2.1 + 40), .ref (g.2.1 + 41), .ref (g.2.1 + 42), .ref (g.2.1 + 43)].set 0 (.int (iz v)))) = zk g (va_up F 23 (vf_upd (F 23) 0 v)) L im c := by unfold zk; rw [ztl_up (by decide)]; rfl
end ZK
theorem z_r1 {l : Launch} {g : zG} {own : String} {cc : ByteArray} {nL : Nat} {rt : Option FieldType} {nm : String} {R : Room} {mc ms : Nat} {Q : Option Value → List va_E → Prop} {k n pc : Nat} {ls : List (Option Value)} {st : List Value} {h : List va_E} {v : Value} (kk : zJ l g own cc nL rt nm R mc ms Q k n pc ls (v :: st) h) : zJ l g own cc nL rt nm R mc ms Q k n pc ls ((some v).toList ++ st) h := kk
theorem z_r0 {l : Launch} {g : zG} {own : String} {cc : ByteArray} {nL : Nat} {rt : Option FieldType} {nm : String} {R : Room} {mc ms : Nat} {Q : Option Value → List va_E → Prop} {k n pc : Nat} {ls : List (Option Value)} {st : List Value} {h : List va_E} (kk : zJ l g own cc nL rt nm R mc ms Q k n pc ls st h) : zJ l g own cc nL rt nm R mc ms Q k n pc ls ((none : Option Value).toList ++ st) h := kk
