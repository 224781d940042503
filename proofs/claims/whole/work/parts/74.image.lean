/-! ===== the class: images ===== -/
def tko (F : Nat → Nat → Int) (p q : Nat) : Nat → Nat → Int := va_up (va_up (va_up (va_up (va_up (va_up (va_up F p (vf_upd (vf_upd (vf_upd (F p) 0 (F q 0)) 1 (F q 1)) 2 (F q 2))) (p + 1) (F (q + 1))) (p + 2) (F (q + 2))) (p + 3) (F (q + 3))) (p + 4) (F (q + 4))) (p + 5) (F (q + 5))) (p + 6) (F (q + 6))
def nbk (F : Nat → Nat → Int) (p : Nat) : Nat → Nat → Int := va_up (va_up (va_up (va_up (va_up (va_up (va_up F p (fun j => if j = 0 then 24 else 0)) (p + 1) (fun _ => 0)) (p + 2) (fun _ => 0)) (p + 3) (fun _ => 0)) (p + 4) (fun _ => 0)) (p + 5) (fun _ => 0)) (p + 6) (fun _ => 0)
theorem z_rf {l : Launch} {g : zG} {own : String} {cc : ByteArray} {nL : Nat} {rt : Option FieldType} {nm : String} {R : Room} {mc ms : Nat} {Q : Option Value → List va_E → Prop} {k n pc : Nat} {ls : List (Option Value)} {st : List Value} {h : List va_E} {x : Nat} (kk : zJ l g own cc nL rt nm R mc ms Q k n pc ls (.ref x :: st) h) : zJ l g own cc nL rt nm R mc ms Q k n pc ls (va_rf (some x) :: st) h := kk
section IMG
variable {l : Launch} {g : zG} {F : Nat → Nat → Int} {L : Nat → Int} {im : Nat → Option Nat}
theorem c_take_1_44_1 : zM l g yX1_takeOver cX1_takeOver 2 none 1 0 0 [.ref (g.2.1 + 44), .ref (g.2.1 + 1)] (zk g (F) L im 1) (fun r h => r = none ∧ h = zk g (tko F 44 1) L im 1) := by
  refine zM_of 0 (by decide) rfl ?_
  show zJ l g RX1 cX1_takeOver 2 none "takeOver" (zRm 1 0 0) 0 0 _ 0 0 0 [some (.ref (g.2.1 + 44)), some (.ref (g.2.1 + 1))] [] _
  refine z_aload_n (pc := 0) rfl dX1_takeOver_0 ?_
  refine z_aload_n (pc := 1) rfl dX1_takeOver_1 ?_
  refine zf_X1_9 (pc := 2) rfl rfl dX1_takeOver_2 ?_
  refine zp_X1_9 (pc := 5) rfl (Nat.le_of_ble_eq_true rfl) dX1_takeOver_5 ?_
  refine z_hp (show _ = zk g (va_up F 44 (vf_upd (F 44) 0 (F 1 0))) L im 1 from rfl) ?_
  refine z_aload_n (pc := 8) rfl dX1_takeOver_8 ?_
  refine z_aload_n (pc := 9) rfl dX1_takeOver_9 ?_
  refine zf_X1_34 (pc := 10) rfl rfl dX1_takeOver_10 ?_
  refine zp_X1_34 (pc := 13) rfl (Nat.le_of_ble_eq_true rfl) dX1_takeOver_13 ?_
  refine z_hp (show _ = zk g (va_up F 44 (vf_upd (vf_upd (F 44) 0 (F 1 0)) 1 (F 1 1))) L im 1 from rfl) ?_
  refine z_aload_n (pc := 16) rfl dX1_takeOver_16 ?_
  refine z_aload_n (pc := 17) rfl dX1_takeOver_17 ?_
  refine zf_X1_37 (pc := 18) rfl rfl dX1_takeOver_18 ?_
  refine zp_X1_37 (pc := 21) rfl (Nat.le_of_ble_eq_true rfl) dX1_takeOver_21 ?_
  refine z_hp (show _ = zk g (va_up F 44 (vf_upd (vf_upd (vf_upd (F 44) 0 (F 1 0)) 1 (F 1 1)) 2 (F 1 2))) L im 1 from rfl) ?_
  refine z_aload_n (pc := 24) rfl dX1_takeOver_24 ?_
  refine zf_X1_15 (pc := 25) rfl rfl dX1_takeOver_25 ?_
  refine z_iconst (pc := 28) dX1_takeOver_28 ?_
  refine z_aload_n (pc := 29) rfl dX1_takeOver_29 ?_
  refine zf_X1_15 (pc := 30) rfl rfl dX1_takeOver_30 ?_
  refine z_iconst (pc := 33) dX1_takeOver_33 ?_
  refine z_aload_n (pc := 34) rfl dX1_takeOver_34 ?_
  refine zf_X1_15 (pc := 35) rfl rfl dX1_takeOver_35 ?_
  refine z_alen (pc := 38) rfl dX1_takeOver_38 ?_
  refine z_copy (pc := 39) (q0 := 2) (q1 := 45) (n2 := 3) (f := F 2) (f2 := F 45) ac_X1_40 rfl rfl (by decide) ⟨by decide, by decide⟩ (Nat.le_of_ble_eq_true rfl) dX1_takeOver_39 ?_
  refine z_hp (show _ = zk g (va_up (va_up F 44 (vf_upd (vf_upd (vf_upd (F 44) 0 (F 1 0)) 1 (F 1 1)) 2 (F 1 2))) 45 (F 2)) L im 1 from rfl) ?_
  refine z_aload_n (pc := 42) rfl dX1_takeOver_42 ?_
  refine zf_X1_19 (pc := 43) rfl rfl dX1_takeOver_43 ?_
  refine z_iconst (pc := 46) dX1_takeOver_46 ?_
  refine z_aload_n (pc := 47) rfl dX1_takeOver_47 ?_
  refine zf_X1_19 (pc := 48) rfl rfl dX1_takeOver_48 ?_
  refine z_iconst (pc := 51) dX1_takeOver_51 ?_
  refine z_aload_n (pc := 52) rfl dX1_takeOver_52 ?_
  refine zf_X1_19 (pc := 53) rfl rfl dX1_takeOver_53 ?_
  refine z_alen (pc := 56) rfl dX1_takeOver_56 ?_
  refine z_copy (pc := 57) (q0 := 3) (q1 := 46) (n2 := 6) (f := F 3) (f2 := F 46) ac_X1_40 rfl rfl (by decide) ⟨by decide, by decide⟩ (Nat.le_of_ble_eq_true rfl) dX1_takeOver_57 ?_
  refine z_hp (show _ = zk g (va_up (va_up (va_up F 44 (vf_upd (vf_upd (vf_upd (F 44) 0 (F 1 0)) 1 (F 1 1)) 2 (F 1 2))) 45 (F 2)) 46 (F 3)) L im 1 from rfl) ?_
  refine z_aload_n (pc := 60) rfl dX1_takeOver_60 ?_
  refine zf_X1_22 (pc := 61) rfl rfl dX1_takeOver_61 ?_
  refine z_iconst (pc := 64) dX1_takeOver_64 ?_
  refine z_aload_n (pc := 65) rfl dX1_takeOver_65 ?_
  refine zf_X1_22 (pc := 66) rfl rfl dX1_takeOver_66 ?_
  refine z_iconst (pc := 69) dX1_takeOver_69 ?_
  refine z_aload_n (pc := 70) rfl dX1_takeOver_70 ?_
  refine zf_X1_22 (pc := 71) rfl rfl dX1_takeOver_71 ?_
  refine z_alen (pc := 74) rfl dX1_takeOver_74 ?_
  refine z_copy (pc := 75) (q0 := 4) (q1 := 47) (n2 := 6) (f := F 4) (f2 := F 47) ac_X1_40 rfl rfl (by decide) ⟨by decide, by decide⟩ (Nat.le_of_ble_eq_true rfl) dX1_takeOver_75 ?_
  refine z_hp (show _ = zk g (va_up (va_up (va_up (va_up F 44 (vf_upd (vf_upd (vf_upd (F 44) 0 (F 1 0)) 1 (F 1 1)) 2 (F 1 2))) 45 (F 2)) 46 (F 3)) 47 (F 4)) L im 1 from rfl) ?_
  refine z_aload_n (pc := 78) rfl dX1_takeOver_78 ?_
  refine zf_X1_25 (pc := 79) rfl rfl dX1_takeOver_79 ?_
  refine z_iconst (pc := 82) dX1_takeOver_82 ?_
  refine z_aload_n (pc := 83) rfl dX1_takeOver_83 ?_
  refine zf_X1_25 (pc := 84) rfl rfl dX1_takeOver_84 ?_
  refine z_iconst (pc := 87) dX1_takeOver_87 ?_
  refine z_aload_n (pc := 88) rfl dX1_takeOver_88 ?_
  refine zf_X1_25 (pc := 89) rfl rfl dX1_takeOver_89 ?_
  refine z_alen (pc := 92) rfl dX1_takeOver_92 ?_
  refine z_copy (pc := 93) (q0 := 5) (q1 := 48) (n2 := 6) (f := F 5) (f2 := F 48) ac_X1_40 rfl rfl (by decide) ⟨by decide, by decide⟩ (Nat.le_of_ble_eq_true rfl) dX1_takeOver_93 ?_
  refine z_hp (show _ = zk g (va_up (va_up (va_up (va_up (va_up F 44 (vf_upd (vf_upd (vf_upd (F 44) 0 (F 1 0)) 1 (F 1 1)) 2 (F 1 2))) 45 (F 2)) 46 (F 3)) 47 (F 4)) 48 (F 5)) L im 1 from rfl) ?_
  refine z_aload_n (pc := 96) rfl dX1_takeOver_96 ?_
  refine zf_X1_28 (pc := 97) rfl rfl dX1_takeOver_97 ?_
  refine z_iconst (pc := 100) dX1_takeOver_100 ?_
  refine z_aload_n (pc := 101) rfl dX1_takeOver_101 ?_
  refine zf_X1_28 (pc := 102) rfl rfl dX1_takeOver_102 ?_
  refine z_iconst (pc := 105) dX1_takeOver_105 ?_
  refine z_aload_n (pc := 106) rfl dX1_takeOver_106 ?_
  refine zf_X1_28 (pc := 107) rfl rfl dX1_takeOver_107 ?_
  refine z_alen (pc := 110) rfl dX1_takeOver_110 ?_
  refine z_copy (pc := 111) (q0 := 6) (q1 := 49) (n2 := 480) (f := F 6) (f2 := F 49) ac_X1_40 rfl rfl (by decide) ⟨by decide, by decide⟩ (Nat.le_of_ble_eq_true rfl) dX1_takeOver_111 ?_
  refine z_hp (show _ = zk g (va_up (va_up (va_up (va_up (va_up (va_up F 44 (vf_upd (vf_upd (vf_upd (F 44) 0 (F 1 0)) 1 (F 1 1)) 2 (F 1 2))) 45 (F 2)) 46 (F 3)) 47 (F 4)) 48 (F 5)) 49 (F 6)) L im 1 from rfl) ?_
  refine z_aload_n (pc := 114) rfl dX1_takeOver_114 ?_
  refine zf_X1_31 (pc := 115) rfl rfl dX1_takeOver_115 ?_
  refine z_iconst (pc := 118) dX1_takeOver_118 ?_
  refine z_aload_n (pc := 119) rfl dX1_takeOver_119 ?_
  refine zf_X1_31 (pc := 120) rfl rfl dX1_takeOver_120 ?_
  refine z_iconst (pc := 123) dX1_takeOver_123 ?_
  refine z_aload_n (pc := 124) rfl dX1_takeOver_124 ?_
  refine zf_X1_31 (pc := 125) rfl rfl dX1_takeOver_125 ?_
  refine z_alen (pc := 128) rfl dX1_takeOver_128 ?_
  refine z_copy (pc := 129) (q0 := 7) (q1 := 50) (n2 := 240) (f := F 7) (f2 := F 50) ac_X1_40 rfl rfl (by decide) ⟨by decide, by decide⟩ (Nat.le_of_ble_eq_true rfl) dX1_takeOver_129 ?_
  refine z_hp (show _ = zk g (va_up (va_up (va_up (va_up (va_up (va_up (va_up F 44 (vf_upd (vf_upd (vf_upd (F 44) 0 (F 1 0)) 1 (F 1 1)) 2 (F 1 2))) 45 (F 2)) 46 (F 3)) 47 (F 4)) 48 (F 5)) 49 (F 6)) 50 (F 7)) L im 1 from rfl) ?_
  exact z_retv (pc := 132) rfl (by decide) (by decide) dX1_takeOver_132 ⟨rfl, rfl⟩
theorem c_take_1_1_44 : zM l g yX1_takeOver cX1_takeOver 2 none 1 0 0 [.ref (g.2.1 + 1), .ref (g.2.1 + 44)] (zk g (F) L im 1) (fun r h => r = none ∧ h = zk g (tko F 1 44) L im 1) := by
  refine zM_of 0 (by decide) rfl ?_
  show zJ l g RX1 cX1_takeOver 2 none "takeOver" (zRm 1 0 0) 0 0 _ 0 0 0 [some (.ref (g.2.1 + 1)), some (.ref (g.2.1 + 44))] [] _
  refine z_aload_n (pc := 0) rfl dX1_takeOver_0 ?_
  refine z_aload_n (pc := 1) rfl dX1_takeOver_1 ?_
  refine zf_X1_9 (pc := 2) rfl rfl dX1_takeOver_2 ?_
  refine zp_X1_9 (pc := 5) rfl (Nat.le_of_ble_eq_true rfl) dX1_takeOver_5 ?_
  refine z_hp (show _ = zk g (va_up F 1 (vf_upd (F 1) 0 (F 44 0))) L im 1 from rfl) ?_
  refine z_aload_n (pc := 8) rfl dX1_takeOver_8 ?_
  refine z_aload_n (pc := 9) rfl dX1_takeOver_9 ?_
  refine zf_X1_34 (pc := 10) rfl rfl dX1_takeOver_10 ?_
  refine zp_X1_34 (pc := 13) rfl (Nat.le_of_ble_eq_true rfl) dX1_takeOver_13 ?_
  refine z_hp (show _ = zk g (va_up F 1 (vf_upd (vf_upd (F 1) 0 (F 44 0)) 1 (F 44 1))) L im 1 from rfl) ?_
  refine z_aload_n (pc := 16) rfl dX1_takeOver_16 ?_
  refine z_aload_n (pc := 17) rfl dX1_takeOver_17 ?_
  refine zf_X1_37 (pc := 18) rfl rfl dX1_takeOver_18 ?_
  refine zp_X1_37 (pc := 21) rfl (Nat.le_of_ble_eq_true rfl) dX1_takeOver_21 ?_
  refine z_hp (show _ = zk g (va_up F 1 (vf_upd (vf_upd (vf_upd (F 1) 0 (F 44 0)) 1 (F 44 1)) 2 (F 44 2))) L im 1 from rfl) ?_
  refine z_aload_n (pc := 24) rfl dX1_takeOver_24 ?_
  refine zf_X1_15 (pc := 25) rfl rfl dX1_takeOver_25 ?_
  refine z_iconst (pc := 28) dX1_takeOver_28 ?_
  refine z_aload_n (pc := 29) rfl dX1_takeOver_29 ?_
  refine zf_X1_15 (pc := 30) rfl rfl dX1_takeOver_30 ?_
  refine z_iconst (pc := 33) dX1_takeOver_33 ?_
  refine z_aload_n (pc := 34) rfl dX1_takeOver_34 ?_
  refine zf_X1_15 (pc := 35) rfl rfl dX1_takeOver_35 ?_
  refine z_alen (pc := 38) rfl dX1_takeOver_38 ?_
  refine z_copy (pc := 39) (q0 := 45) (q1 := 2) (n2 := 3) (f := F 45) (f2 := F 2) ac_X1_40 rfl rfl (by decide) ⟨by decide, by decide⟩ (Nat.le_of_ble_eq_true rfl) dX1_takeOver_39 ?_
  refine z_hp (show _ = zk g (va_up (va_up F 1 (vf_upd (vf_upd (vf_upd (F 1) 0 (F 44 0)) 1 (F 44 1)) 2 (F 44 2))) 2 (F 45)) L im 1 from rfl) ?_
  refine z_aload_n (pc := 42) rfl dX1_takeOver_42 ?_
  refine zf_X1_19 (pc := 43) rfl rfl dX1_takeOver_43 ?_
  refine z_iconst (pc := 46) dX1_takeOver_46 ?_
  refine z_aload_n (pc := 47) rfl dX1_takeOver_47 ?_
  refine zf_X1_19 (pc := 48) rfl rfl dX1_takeOver_48 ?_
  refine z_iconst (pc := 51) dX1_takeOver_51 ?_
  refine z_aload_n (pc := 52) rfl dX1_takeOver_52 ?_
  refine zf_X1_19 (pc := 53) rfl rfl dX1_takeOver_53 ?_
  refine z_alen (pc := 56) rfl dX1_takeOver_56 ?_
  refine z_copy (pc := 57) (q0 := 46) (q1 := 3) (n2 := 6) (f := F 46) (f2 := F 3) ac_X1_40 rfl rfl (by decide) ⟨by decide, by decide⟩ (Nat.le_of_ble_eq_true rfl) dX1_takeOver_57 ?_
  refine z_hp (show _ = zk g (va_up (va_up (va_up F 1 (vf_upd (vf_upd (vf_upd (F 1) 0 (F 44 0)) 1 (F 44 1)) 2 (F 44 2))) 2 (F 45)) 3 (F 46)) L im 1 from rfl) ?_
  refine z_aload_n (pc := 60) rfl dX1_takeOver_60 ?_
  refine zf_X1_22 (pc := 61) rfl rfl dX1_takeOver_61 ?_
  refine z_iconst (pc := 64) dX1_takeOver_64 ?_
  refine z_aload_n (pc := 65) rfl dX1_takeOver_65 ?_
  refine zf_X1_22 (pc := 66) rfl rfl dX1_takeOver_66 ?_
  refine z_iconst (pc := 69) dX1_takeOver_69 ?_
  refine z_aload_n (pc := 70) rfl dX1_takeOver_70 ?_
  refine zf_X1_22 (pc := 71) rfl rfl dX1_takeOver_71 ?_
  refine z_alen (pc := 74) rfl dX1_takeOver_74 ?_
  refine z_copy (pc := 75) (q0 := 47) (q1 := 4) (n2 := 6) (f := F 47) (f2 := F 4) ac_X1_40 rfl rfl (by decide) ⟨by decide, by decide⟩ (Nat.le_of_ble_eq_true rfl) dX1_takeOver_75 ?_
  refine z_hp (show _ = zk g (va_up (va_up (va_up (va_up F 1 (vf_upd (vf_upd (vf_upd (F 1) 0 (F 44 0)) 1 (F 44 1)) 2 (F 44 2))) 2 (F 45)) 3 (F 46)) 4 (F 47)) L im 1 from rfl) ?_
  refine z_aload_n (pc := 78) rfl dX1_takeOver_78 ?_
  refine zf_X1_25 (pc := 79) rfl rfl dX1_takeOver_79 ?_
  refine z_iconst (pc := 82) dX1_takeOver_82 ?_
  refine z_aload_n (pc := 83) rfl dX1_takeOver_83 ?_
  refine zf_X1_25 (pc := 84) rfl rfl dX1_takeOver_84 ?_
  refine z_iconst (pc := 87) dX1_takeOver_87 ?_
  refine z_aload_n (pc := 88) rfl dX1_takeOver_88 ?_
  refine zf_X1_25 (pc := 89) rfl rfl dX1_takeOver_89 ?_
  refine z_alen (pc := 92) rfl dX1_takeOver_92 ?_
  refine z_copy (pc := 93) (q0 := 48) (q1 := 5) (n2 := 6) (f := F 48) (f2 := F 5) ac_X1_40 rfl rfl (by decide) ⟨by decide, by decide⟩ (Nat.le_of_ble_eq_true rfl) dX1_takeOver_93 ?_
  refine z_hp (show _ = zk g (va_up (va_up (va_up (va_up (va_up F 1 (vf_upd (vf_upd (vf_upd (F 1) 0 (F 44 0)) 1 (F 44 1)) 2 (F 44 2))) 2 (F 45)) 3 (F 46)) 4 (F 47)) 5 (F 48)) L im 1 from rfl) ?_
  refine z_aload_n (pc := 96) rfl dX1_takeOver_96 ?_
  refine zf_X1_28 (pc := 97) rfl rfl dX1_takeOver_97 ?_
  refine z_iconst (pc := 100) dX1_takeOver_100 ?_
  refine z_aload_n (pc := 101) rfl dX1_takeOver_101 ?_
  refine zf_X1_28 (pc := 102) rfl rfl dX1_takeOver_102 ?_
  refine z_iconst (pc := 105) dX1_takeOver_105 ?_
  refine z_aload_n (pc := 106) rfl dX1_takeOver_106 ?_
  refine zf_X1_28 (pc := 107) rfl rfl dX1_takeOver_107 ?_
  refine z_alen (pc := 110) rfl dX1_takeOver_110 ?_
  refine z_copy (pc := 111) (q0 := 49) (q1 := 6) (n2 := 480) (f := F 49) (f2 := F 6) ac_X1_40 rfl rfl (by decide) ⟨by decide, by decide⟩ (Nat.le_of_ble_eq_true rfl) dX1_takeOver_111 ?_
  refine z_hp (show _ = zk g (va_up (va_up (va_up (va_up (va_up (va_up F 1 (vf_upd (vf_upd (vf_upd (F 1) 0 (F 44 0)) 1 (F 44 1)) 2 (F 44 2))) 2 (F 45)) 3 (F 46)) 4 (F 47)) 5 (F 48)) 6 (F 49)) L im 1 from rfl) ?_
  refine z_aload_n (pc := 114) rfl dX1_takeOver_114 ?_
  refine zf_X1_31 (pc := 115) rfl rfl dX1_takeOver_115 ?_
  refine z_iconst (pc := 118) dX1_takeOver_118 ?_
  refine z_aload_n (pc := 119) rfl dX1_takeOver_119 ?_
  refine zf_X1_31 (pc := 120) rfl rfl dX1_takeOver_120 ?_
  refine z_iconst (pc := 123) dX1_takeOver_123 ?_
  refine z_aload_n (pc := 124) rfl dX1_takeOver_124 ?_
  refine zf_X1_31 (pc := 125) rfl rfl dX1_takeOver_125 ?_
  refine z_alen (pc := 128) rfl dX1_takeOver_128 ?_
  refine z_copy (pc := 129) (q0 := 50) (q1 := 7) (n2 := 240) (f := F 50) (f2 := F 7) ac_X1_40 rfl rfl (by decide) ⟨by decide, by decide⟩ (Nat.le_of_ble_eq_true rfl) dX1_takeOver_129 ?_
  refine z_hp (show _ = zk g (va_up (va_up (va_up (va_up (va_up (va_up (va_up F 1 (vf_upd (vf_upd (vf_upd (F 1) 0 (F 44 0)) 1 (F 44 1)) 2 (F 44 2))) 2 (F 45)) 3 (F 46)) 4 (F 47)) 5 (F 48)) 6 (F 49)) 7 (F 50)) L im 1 from rfl) ?_
  exact z_retv (pc := 132) rfl (by decide) (by decide) dX1_takeOver_132 ⟨rfl, rfl⟩
theorem c_take_2_44_1 : zM l g yX1_takeOver cX1_takeOver 2 none 1 0 0 [.ref (g.2.1 + 44), .ref (g.2.1 + 1)] (zk g (F) L im 2) (fun r h => r = none ∧ h = zk g (tko F 44 1) L im 2) := by
  refine zM_of 0 (by decide) rfl ?_
  show zJ l g RX1 cX1_takeOver 2 none "takeOver" (zRm 1 0 0) 0 0 _ 0 0 0 [some (.ref (g.2.1 + 44)), some (.ref (g.2.1 + 1))] [] _
  refine z_aload_n (pc := 0) rfl dX1_takeOver_0 ?_
  refine z_aload_n (pc := 1) rfl dX1_takeOver_1 ?_
  refine zf_X1_9 (pc := 2) rfl rfl dX1_takeOver_2 ?_
  refine zp_X1_9 (pc := 5) rfl (Nat.le_of_ble_eq_true rfl) dX1_takeOver_5 ?_
  refine z_hp (show _ = zk g (va_up F 44 (vf_upd (F 44) 0 (F 1 0))) L im 2 from rfl) ?_
  refine z_aload_n (pc := 8) rfl dX1_takeOver_8 ?_
  refine z_aload_n (pc := 9) rfl dX1_takeOver_9 ?_
  refine zf_X1_34 (pc := 10) rfl rfl dX1_takeOver_10 ?_
  refine zp_X1_34 (pc := 13) rfl (Nat.le_of_ble_eq_true rfl) dX1_takeOver_13 ?_
  refine z_hp (show _ = zk g (va_up F 44 (vf_upd (vf_upd (F 44) 0 (F 1 0)) 1 (F 1 1))) L im 2 from rfl) ?_
  refine z_aload_n (pc := 16) rfl dX1_takeOver_16 ?_
  refine z_aload_n (pc := 17) rfl dX1_takeOver_17 ?_
  refine zf_X1_37 (pc := 18) rfl rfl dX1_takeOver_18 ?_
  refine zp_X1_37 (pc := 21) rfl (Nat.le_of_ble_eq_true rfl) dX1_takeOver_21 ?_
  refine z_hp (show _ = zk g (va_up F 44 (vf_upd (vf_upd (vf_upd (F 44) 0 (F 1 0)) 1 (F 1 1)) 2 (F 1 2))) L im 2 from rfl) ?_
  refine z_aload_n (pc := 24) rfl dX1_takeOver_24 ?_
  refine zf_X1_15 (pc := 25) rfl rfl dX1_takeOver_25 ?_
  refine z_iconst (pc := 28) dX1_takeOver_28 ?_
  refine z_aload_n (pc := 29) rfl dX1_takeOver_29 ?_
  refine zf_X1_15 (pc := 30) rfl rfl dX1_takeOver_30 ?_
  refine z_iconst (pc := 33) dX1_takeOver_33 ?_
  refine z_aload_n (pc := 34) rfl dX1_takeOver_34 ?_
  refine zf_X1_15 (pc := 35) rfl rfl dX1_takeOver_35 ?_
  refine z_alen (pc := 38) rfl dX1_takeOver_38 ?_
  refine z_copy (pc := 39) (q0 := 2) (q1 := 45) (n2 := 3) (f := F 2) (f2 := F 45) ac_X1_40 rfl rfl (by decide) ⟨by decide, by decide⟩ (Nat.le_of_ble_eq_true rfl) dX1_takeOver_39 ?_
  refine z_hp (show _ = zk g (va_up (va_up F 44 (vf_upd (vf_upd (vf_upd (F 44) 0 (F 1 0)) 1 (F 1 1)) 2 (F 1 2))) 45 (F 2)) L im 2 from rfl) ?_
  refine z_aload_n (pc := 42) rfl dX1_takeOver_42 ?_
  refine zf_X1_19 (pc := 43) rfl rfl dX1_takeOver_43 ?_
  refine z_iconst (pc := 46) dX1_takeOver_46 ?_
  refine z_aload_n (pc := 47) rfl dX1_takeOver_47 ?_
  refine zf_X1_19 (pc := 48) rfl rfl dX1_takeOver_48 ?_
  refine z_iconst (pc := 51) dX1_takeOver_51 ?_
  refine z_aload_n (pc := 52) rfl dX1_takeOver_52 ?_
  refine zf_X1_19 (pc := 53) rfl rfl dX1_takeOver_53 ?_
  refine z_alen (pc := 56) rfl dX1_takeOver_56 ?_
  refine z_copy (pc := 57) (q0 := 3) (q1 := 46) (n2 := 6) (f := F 3) (f2 := F 46) ac_X1_40 rfl rfl (by decide) ⟨by decide, by decide⟩ (Nat.le_of_ble_eq_true rfl) dX1_takeOver_57 ?_
  refine z_hp (show _ = zk g (va_up (va_up (va_up F 44 (vf_upd (vf_upd (vf_upd (F 44) 0 (F 1 0)) 1 (F 1 1)) 2 (F 1 2))) 45 (F 2)) 46 (F 3)) L im 2 from rfl) ?_
  refine z_aload_n (pc := 60) rfl dX1_takeOver_60 ?_
  refine zf_X1_22 (pc := 61) rfl rfl dX1_takeOver_61 ?_
  refine z_iconst (pc := 64) dX1_takeOver_64 ?_
  refine z_aload_n (pc := 65) rfl dX1_takeOver_65 ?_
  refine zf_X1_22 (pc := 66) rfl rfl dX1_takeOver_66 ?_
  refine z_iconst (pc := 69) dX1_takeOver_69 ?_
  refine z_aload_n (pc := 70) rfl dX1_takeOver_70 ?_
  refine zf_X1_22 (pc := 71) rfl rfl dX1_takeOver_71 ?_
  refine z_alen (pc := 74) rfl dX1_takeOver_74 ?_
  refine z_copy (pc := 75) (q0 := 4) (q1 := 47) (n2 := 6) (f := F 4) (f2 := F 47) ac_X1_40 rfl rfl (by decide) ⟨by decide, by decide⟩ (Nat.le_of_ble_eq_true rfl) dX1_takeOver_75 ?_
  refine z_hp (show _ = zk g (va_up (va_up (va_up (va_up F 44 (vf_upd (vf_upd (vf_upd (F 44) 0 (F 1 0)) 1 (F 1 1)) 2 (F 1 2))) 45 (F 2)) 46 (F 3)) 47 (F 4)) L im 2 from rfl) ?_
  refine z_aload_n (pc := 78) rfl dX1_takeOver_78 ?_
  refine zf_X1_25 (pc := 79) rfl rfl dX1_takeOver_79 ?_
  refine z_iconst (pc := 82) dX1_takeOver_82 ?_
  refine z_aload_n (pc := 83) rfl dX1_takeOver_83 ?_
  refine zf_X1_25 (pc := 84) rfl rfl dX1_takeOver_84 ?_
  refine z_iconst (pc := 87) dX1_takeOver_87 ?_
  refine z_aload_n (pc := 88) rfl dX1_takeOver_88 ?_
  refine zf_X1_25 (pc := 89) rfl rfl dX1_takeOver_89 ?_
  refine z_alen (pc := 92) rfl dX1_takeOver_92 ?_
  refine z_copy (pc := 93) (q0 := 5) (q1 := 48) (n2 := 6) (f := F 5) (f2 := F 48) ac_X1_40 rfl rfl (by decide) ⟨by decide, by decide⟩ (Nat.le_of_ble_eq_true rfl) dX1_takeOver_93 ?_
  refine z_hp (show _ = zk g (va_up (va_up (va_up (va_up (va_up F 44 (vf_upd (vf_upd (vf_upd (F 44) 0 (F 1 0)) 1 (F 1 1)) 2 (F 1 2))) 45 (F 2)) 46 (F 3)) 47 (F 4)) 48 (F 5)) L im 2 from rfl) ?_
  refine z_aload_n (pc := 96) rfl dX1_takeOver_96 ?_
  refine zf_X1_28 (pc := 97) rfl rfl dX1_takeOver_97 ?_
  refine z_iconst (pc := 100) dX1_takeOver_100 ?_
  refine z_aload_n (pc := 101) rfl dX1_takeOver_101 ?_
  refine zf_X1_28 (pc := 102) rfl rfl dX1_takeOver_102 ?_
  refine z_iconst (pc := 105) dX1_takeOver_105 ?_
  refine z_aload_n (pc := 106) rfl dX1_takeOver_106 ?_
  refine zf_X1_28 (pc := 107) rfl rfl dX1_takeOver_107 ?_
  refine z_alen (pc := 110) rfl dX1_takeOver_110 ?_
  refine z_copy (pc := 111) (q0 := 6) (q1 := 49) (n2 := 480) (f := F 6) (f2 := F 49) ac_X1_40 rfl rfl (by decide) ⟨by decide, by decide⟩ (Nat.le_of_ble_eq_true rfl) dX1_takeOver_111 ?_
  refine z_hp (show _ = zk g (va_up (va_up (va_up (va_up (va_up (va_up F 44 (vf_upd (vf_upd (vf_upd (F 44) 0 (F 1 0)) 1 (F 1 1)) 2 (F 1 2))) 45 (F 2)) 46 (F 3)) 47 (F 4)) 48 (F 5)) 49 (F 6)) L im 2 from rfl) ?_
  refine z_aload_n (pc := 114) rfl dX1_takeOver_114 ?_
  refine zf_X1_31 (pc := 115) rfl rfl dX1_takeOver_115 ?_
  refine z_iconst (pc := 118) dX1_takeOver_118 ?_
  refine z_aload_n (pc := 119) rfl dX1_takeOver_119 ?_
  refine zf_X1_31 (pc := 120) rfl rfl dX1_takeOver_120 ?_
  refine z_iconst (pc := 123) dX1_takeOver_123 ?_
  refine z_aload_n (pc := 124) rfl dX1_takeOver_124 ?_
  refine zf_X1_31 (pc := 125) rfl rfl dX1_takeOver_125 ?_
  refine z_alen (pc := 128) rfl dX1_takeOver_128 ?_
  refine z_copy (pc := 129) (q0 := 7) (q1 := 50) (n2 := 240) (f := F 7) (f2 := F 50) ac_X1_40 rfl rfl (by decide) ⟨by decide, by decide⟩ (Nat.le_of_ble_eq_true rfl) dX1_takeOver_129 ?_
  refine z_hp (show _ = zk g (va_up (va_up (va_up (va_up (va_up (va_up (va_up F 44 (vf_upd (vf_upd (vf_upd (F 44) 0 (F 1 0)) 1 (F 1 1)) 2 (F 1 2))) 45 (F 2)) 46 (F 3)) 47 (F 4)) 48 (F 5)) 49 (F 6)) 50 (F 7)) L im 2 from rfl) ?_
  exact z_retv (pc := 132) rfl (by decide) (by decide) dX1_takeOver_132 ⟨rfl, rfl⟩
theorem c_take_2_1_44 : zM l g yX1_takeOver cX1_takeOver 2 none 1 0 0 [.ref (g.2.1 + 1), .ref (g.2.1 + 44)] (zk g (F) L im 2) (fun r h => r = none ∧ h = zk g (tko F 1 44) L im 2) := by
  refine zM_of 0 (by decide) rfl ?_
  show zJ l g RX1 cX1_takeOver 2 none "takeOver" (zRm 1 0 0) 0 0 _ 0 0 0 [some (.ref (g.2.1 + 1)), some (.ref (g.2.1 + 44))] [] _
  refine z_aload_n (pc := 0) rfl dX1_takeOver_0 ?_
  refine z_aload_n (pc := 1) rfl dX1_takeOver_1 ?_
  refine zf_X1_9 (pc := 2) rfl rfl dX1_takeOver_2 ?_
  refine zp_X1_9 (pc := 5) rfl (Nat.le_of_ble_eq_true rfl) dX1_takeOver_5 ?_
  refine z_hp (show _ = zk g (va_up F 1 (vf_upd (F 1) 0 (F 44 0))) L im 2 from rfl) ?_
  refine z_aload_n (pc := 8) rfl dX1_takeOver_8 ?_
  refine z_aload_n (pc := 9) rfl dX1_takeOver_9 ?_
  refine zf_X1_34 (pc := 10) rfl rfl dX1_takeOver_10 ?_
  refine zp_X1_34 (pc := 13) rfl (Nat.le_of_ble_eq_true rfl) dX1_takeOver_13 ?_
  refine z_hp (show _ = zk g (va_up F 1 (vf_upd (vf_upd (F 1) 0 (F 44 0)) 1 (F 44 1))) L im 2 from rfl) ?_
  refine z_aload_n (pc := 16) rfl dX1_takeOver_16 ?_
  refine z_aload_n (pc := 17) rfl dX1_takeOver_17 ?_
  refine zf_X1_37 (pc := 18) rfl rfl dX1_takeOver_18 ?_
  refine zp_X1_37 (pc := 21) rfl (Nat.le_of_ble_eq_true rfl) dX1_takeOver_21 ?_
  refine z_hp (show _ = zk g (va_up F 1 (vf_upd (vf_upd (vf_upd (F 1) 0 (F 44 0)) 1 (F 44 1)) 2 (F 44 2))) L im 2 from rfl) ?_
  refine z_aload_n (pc := 24) rfl dX1_takeOver_24 ?_
  refine zf_X1_15 (pc := 25) rfl rfl dX1_takeOver_25 ?_
  refine z_iconst (pc := 28) dX1_takeOver_28 ?_
  refine z_aload_n (pc := 29) rfl dX1_takeOver_29 ?_
  refine zf_X1_15 (pc := 30) rfl rfl dX1_takeOver_30 ?_
  refine z_iconst (pc := 33) dX1_takeOver_33 ?_
  refine z_aload_n (pc := 34) rfl dX1_takeOver_34 ?_
  refine zf_X1_15 (pc := 35) rfl rfl dX1_takeOver_35 ?_
  refine z_alen (pc := 38) rfl dX1_takeOver_38 ?_
  refine z_copy (pc := 39) (q0 := 45) (q1 := 2) (n2 := 3) (f := F 45) (f2 := F 2) ac_X1_40 rfl rfl (by decide) ⟨by decide, by decide⟩ (Nat.le_of_ble_eq_true rfl) dX1_takeOver_39 ?_
  refine z_hp (show _ = zk g (va_up (va_up F 1 (vf_upd (vf_upd (vf_upd (F 1) 0 (F 44 0)) 1 (F 44 1)) 2 (F 44 2))) 2 (F 45)) L im 2 from rfl) ?_
  refine z_aload_n (pc := 42) rfl dX1_takeOver_42 ?_
  refine zf_X1_19 (pc := 43) rfl rfl dX1_takeOver_43 ?_
  refine z_iconst (pc := 46) dX1_takeOver_46 ?_
  refine z_aload_n (pc := 47) rfl dX1_takeOver_47 ?_
  refine zf_X1_19 (pc := 48) rfl rfl dX1_takeOver_48 ?_
  refine z_iconst (pc := 51) dX1_takeOver_51 ?_
  refine z_aload_n (pc := 52) rfl dX1_takeOver_52 ?_
  refine zf_X1_19 (pc := 53) rfl rfl dX1_takeOver_53 ?_
  refine z_alen (pc := 56) rfl dX1_takeOver_56 ?_
  refine z_copy (pc := 57) (q0 := 46) (q1 := 3) (n2 := 6) (f := F 46) (f2 := F 3) ac_X1_40 rfl rfl (by decide) ⟨by decide, by decide⟩ (Nat.le_of_ble_eq_true rfl) dX1_takeOver_57 ?_
  refine z_hp (show _ = zk g (va_up (va_up (va_up F 1 (vf_upd (vf_upd (vf_upd (F 1) 0 (F 44 0)) 1 (F 44 1)) 2 (F 44 2))) 2 (F 45)) 3 (F 46)) L im 2 from rfl) ?_
  refine z_aload_n (pc := 60) rfl dX1_takeOver_60 ?_
  refine zf_X1_22 (pc := 61) rfl rfl dX1_takeOver_61 ?_
  refine z_iconst (pc := 64) dX1_takeOver_64 ?_
  refine z_aload_n (pc := 65) rfl dX1_takeOver_65 ?_
  refine zf_X1_22 (pc := 66) rfl rfl dX1_takeOver_66 ?_
  refine z_iconst (pc := 69) dX1_takeOver_69 ?_
  refine z_aload_n (pc := 70) rfl dX1_takeOver_70 ?_
  refine zf_X1_22 (pc := 71) rfl rfl dX1_takeOver_71 ?_
  refine z_alen (pc := 74) rfl dX1_takeOver_74 ?_
  refine z_copy (pc := 75) (q0 := 47) (q1 := 4) (n2 := 6) (f := F 47) (f2 := F 4) ac_X1_40 rfl rfl (by decide) ⟨by decide, by decide⟩ (Nat.le_of_ble_eq_true rfl) dX1_takeOver_75 ?_
  refine z_hp (show _ = zk g (va_up (va_up (va_up (va_up F 1 (vf_upd (vf_upd (vf_upd (F 1) 0 (F 44 0)) 1 (F 44 1)) 2 (F 44 2))) 2 (F 45)) 3 (F 46)) 4 (F 47)) L im 2 from rfl) ?_
  refine z_aload_n (pc := 78) rfl dX1_takeOver_78 ?_
  refine zf_X1_25 (pc := 79) rfl rfl dX1_takeOver_79 ?_
  refine z_iconst (pc := 82) dX1_takeOver_82 ?_
  refine z_aload_n (pc := 83) rfl dX1_takeOver_83 ?_
  refine zf_X1_25 (pc := 84) rfl rfl dX1_takeOver_84 ?_
  refine z_iconst (pc := 87) dX1_takeOver_87 ?_
  refine z_aload_n (pc := 88) rfl dX1_takeOver_88 ?_
  refine zf_X1_25 (pc := 89) rfl rfl dX1_takeOver_89 ?_
  refine z_alen (pc := 92) rfl dX1_takeOver_92 ?_
  refine z_copy (pc := 93) (q0 := 48) (q1 := 5) (n2 := 6) (f := F 48) (f2 := F 5) ac_X1_40 rfl rfl (by decide) ⟨by decide, by decide⟩ (Nat.le_of_ble_eq_true rfl) dX1_takeOver_93 ?_
  refine z_hp (show _ = zk g (va_up (va_up (va_up (va_up (va_up F 1 (vf_upd (vf_upd (vf_upd (F 1) 0 (F 44 0)) 1 (F 44 1)) 2 (F 44 2))) 2 (F 45)) 3 (F 46)) 4 (F 47)) 5 (F 48)) L im 2 from rfl) ?_
  refine z_aload_n (pc := 96) rfl dX1_takeOver_96 ?_
  refine zf_X1_28 (pc := 97) rfl rfl dX1_takeOver_97 ?_
  refine z_iconst (pc := 100) dX1_takeOver_100 ?_
  refine z_aload_n (pc := 101) rfl dX1_takeOver_101 ?_
  refine zf_X1_28 (pc := 102) rfl rfl dX1_takeOver_102 ?_
  refine z_iconst (pc := 105) dX1_takeOver_105 ?_
  refine z_aload_n (pc := 106) rfl dX1_takeOver_106 ?_
  refine zf_X1_28 (pc := 107) rfl rfl dX1_takeOver_107 ?_
  refine z_alen (pc := 110) rfl dX1_takeOver_110 ?_
  refine z_copy (pc := 111) (q0 := 49) (q1 := 6) (n2 := 480) (f := F 49) (f2 := F 6) ac_X1_40 rfl rfl (by decide) ⟨by decide, by decide⟩ (Nat.le_of_ble_eq_true rfl) dX1_takeOver_111 ?_
  refine z_hp (show _ = zk g (va_up (va_up (va_up (va_up (va_up (va_up F 1 (vf_upd (vf_upd (vf_upd (F 1) 0 (F 44 0)) 1 (F 44 1)) 2 (F 44 2))) 2 (F 45)) 3 (F 46)) 4 (F 47)) 5 (F 48)) 6 (F 49)) L im 2 from rfl) ?_
  refine z_aload_n (pc := 114) rfl dX1_takeOver_114 ?_
  refine zf_X1_31 (pc := 115) rfl rfl dX1_takeOver_115 ?_
  refine z_iconst (pc := 118) dX1_takeOver_118 ?_
  refine z_aload_n (pc := 119) rfl dX1_takeOver_119 ?_
  refine zf_X1_31 (pc := 120) rfl rfl dX1_takeOver_120 ?_
  refine z_iconst (pc := 123) dX1_takeOver_123 ?_
  refine z_aload_n (pc := 124) rfl dX1_takeOver_124 ?_
  refine zf_X1_31 (pc := 125) rfl rfl dX1_takeOver_125 ?_
  refine z_alen (pc := 128) rfl dX1_takeOver_128 ?_
  refine z_copy (pc := 129) (q0 := 50) (q1 := 7) (n2 := 240) (f := F 50) (f2 := F 7) ac_X1_40 rfl rfl (by decide) ⟨by decide, by decide⟩ (Nat.le_of_ble_eq_true rfl) dX1_takeOver_129 ?_
  refine z_hp (show _ = zk g (va_up (va_up (va_up (va_up (va_up (va_up (va_up F 1 (vf_upd (vf_upd (vf_upd (F 1) 0 (F 44 0)) 1 (F 44 1)) 2 (F 44 2))) 2 (F 45)) 3 (F 46)) 4 (F 47)) 5 (F 48)) 6 (F 49)) 7 (F 50)) L im 2 from rfl) ?_
  exact z_retv (pc := 132) rfl (by decide) (by decide) dX1_takeOver_132 ⟨rfl, rfl⟩
theorem c_take_2_51_1 : zM l g yX1_takeOver cX1_takeOver 2 none 1 0 0 [.ref (g.2.1 + 51), .ref (g.2.1 + 1)] (zk g (F) L im 2) (fun r h => r = none ∧ h = zk g (tko F 51 1) L im 2) := by
  refine zM_of 0 (by decide) rfl ?_
  show zJ l g RX1 cX1_takeOver 2 none "takeOver" (zRm 1 0 0) 0 0 _ 0 0 0 [some (.ref (g.2.1 + 51)), some (.ref (g.2.1 + 1))] [] _
  refine z_aload_n (pc := 0) rfl dX1_takeOver_0 ?_
  refine z_aload_n (pc := 1) rfl dX1_takeOver_1 ?_
  refine zf_X1_9 (pc := 2) rfl rfl dX1_takeOver_2 ?_
  refine zp_X1_9 (pc := 5) rfl (Nat.le_of_ble_eq_true rfl) dX1_takeOver_5 ?_
  refine z_hp (show _ = zk g (va_up F 51 (vf_upd (F 51) 0 (F 1 0))) L im 2 from rfl) ?_
  refine z_aload_n (pc := 8) rfl dX1_takeOver_8 ?_
  refine z_aload_n (pc := 9) rfl dX1_takeOver_9 ?_
  refine zf_X1_34 (pc := 10) rfl rfl dX1_takeOver_10 ?_
  refine zp_X1_34 (pc := 13) rfl (Nat.le_of_ble_eq_true rfl) dX1_takeOver_13 ?_
  refine z_hp (show _ = zk g (va_up F 51 (vf_upd (vf_upd (F 51) 0 (F 1 0)) 1 (F 1 1))) L im 2 from rfl) ?_
  refine z_aload_n (pc := 16) rfl dX1_takeOver_16 ?_
  refine z_aload_n (pc := 17) rfl dX1_takeOver_17 ?_
  refine zf_X1_37 (pc := 18) rfl rfl dX1_takeOver_18 ?_
  refine zp_X1_37 (pc := 21) rfl (Nat.le_of_ble_eq_true rfl) dX1_takeOver_21 ?_
  refine z_hp (show _ = zk g (va_up F 51 (vf_upd (vf_upd (vf_upd (F 51) 0 (F 1 0)) 1 (F 1 1)) 2 (F 1 2))) L im 2 from rfl) ?_
  refine z_aload_n (pc := 24) rfl dX1_takeOver_24 ?_
  refine zf_X1_15 (pc := 25) rfl rfl dX1_takeOver_25 ?_
  refine z_iconst (pc := 28) dX1_takeOver_28 ?_
  refine z_aload_n (pc := 29) rfl dX1_takeOver_29 ?_
  refine zf_X1_15 (pc := 30) rfl rfl dX1_takeOver_30 ?_
  refine z_iconst (pc := 33) dX1_takeOver_33 ?_
  refine z_aload_n (pc := 34) rfl dX1_takeOver_34 ?_
  refine zf_X1_15 (pc := 35) rfl rfl dX1_takeOver_35 ?_
  refine z_alen (pc := 38) rfl dX1_takeOver_38 ?_
  refine z_copy (pc := 39) (q0 := 2) (q1 := 52) (n2 := 3) (f := F 2) (f2 := F 52) ac_X1_40 rfl rfl (by decide) ⟨by decide, by decide⟩ (Nat.le_of_ble_eq_true rfl) dX1_takeOver_39 ?_
  refine z_hp (show _ = zk g (va_up (va_up F 51 (vf_upd (vf_upd (vf_upd (F 51) 0 (F 1 0)) 1 (F 1 1)) 2 (F 1 2))) 52 (F 2)) L im 2 from rfl) ?_
  refine z_aload_n (pc := 42) rfl dX1_takeOver_42 ?_
  refine zf_X1_19 (pc := 43) rfl rfl dX1_takeOver_43 ?_
  refine z_iconst (pc := 46) dX1_takeOver_46 ?_
  refine z_aload_n (pc := 47) rfl dX1_takeOver_47 ?_
  refine zf_X1_19 (pc := 48) rfl rfl dX1_takeOver_48 ?_
  refine z_iconst (pc := 51) dX1_takeOver_51 ?_
  refine z_aload_n (pc := 52) rfl dX1_takeOver_52 ?_
  refine zf_X1_19 (pc := 53) rfl rfl dX1_takeOver_53 ?_
  refine z_alen (pc := 56) rfl dX1_takeOver_56 ?_
  refine z_copy (pc := 57) (q0 := 3) (q1 := 53) (n2 := 6) (f := F 3) (f2 := F 53) ac_X1_40 rfl rfl (by decide) ⟨by decide, by decide⟩ (Nat.le_of_ble_eq_true rfl) dX1_takeOver_57 ?_
  refine z_hp (show _ = zk g (va_up (va_up (va_up F 51 (vf_upd (vf_upd (vf_upd (F 51) 0 (F 1 0)) 1 (F 1 1)) 2 (F 1 2))) 52 (F 2)) 53 (F 3)) L im 2 from rfl) ?_
  refine z_aload_n (pc := 60) rfl dX1_takeOver_60 ?_
  refine zf_X1_22 (pc := 61) rfl rfl dX1_takeOver_61 ?_
  refine z_iconst (pc := 64) dX1_takeOver_64 ?_
  refine z_aload_n (pc := 65) rfl dX1_takeOver_65 ?_
  refine zf_X1_22 (pc := 66) rfl rfl dX1_takeOver_66 ?_
  refine z_iconst (pc := 69) dX1_takeOver_69 ?_
  refine z_aload_n (pc := 70) rfl dX1_takeOver_70 ?_
  refine zf_X1_22 (pc := 71) rfl rfl dX1_takeOver_71 ?_
  refine z_alen (pc := 74) rfl dX1_takeOver_74 ?_
  refine z_copy (pc := 75) (q0 := 4) (q1 := 54) (n2 := 6) (f := F 4) (f2 := F 54) ac_X1_40 rfl rfl (by decide) ⟨by decide, by decide⟩ (Nat.le_of_ble_eq_true rfl) dX1_takeOver_75 ?_
  refine z_hp (show _ = zk g (va_up (va_up (va_up (va_up F 51 (vf_upd (vf_upd (vf_upd (F 51) 0 (F 1 0)) 1 (F 1 1)) 2 (F 1 2))) 52 (F 2)) 53 (F 3)) 54 (F 4)) L im 2 from rfl) ?_
  refine z_aload_n (pc := 78) rfl dX1_takeOver_78 ?_
  refine zf_X1_25 (pc := 79) rfl rfl dX1_takeOver_79 ?_
  refine z_iconst (pc := 82) dX1_takeOver_82 ?_
  refine z_aload_n (pc := 83) rfl dX1_takeOver_83 ?_
  refine zf_X1_25 (pc := 84) rfl rfl dX1_takeOver_84 ?_
  refine z_iconst (pc := 87) dX1_takeOver_87 ?_
  refine z_aload_n (pc := 88) rfl dX1_takeOver_88 ?_
  refine zf_X1_25 (pc := 89) rfl rfl dX1_takeOver_89 ?_
  refine z_alen (pc := 92) rfl dX1_takeOver_92 ?_
  refine z_copy (pc := 93) (q0 := 5) (q1 := 55) (n2 := 6) (f := F 5) (f2 := F 55) ac_X1_40 rfl rfl (by decide) ⟨by decide, by decide⟩ (Nat.le_of_ble_eq_true rfl) dX1_takeOver_93 ?_
  refine z_hp (show _ = zk g (va_up (va_up (va_up (va_up (va_up F 51 (vf_upd (vf_upd (vf_upd (F 51) 0 (F 1 0)) 1 (F 1 1)) 2 (F 1 2))) 52 (F 2)) 53 (F 3)) 54 (F 4)) 55 (F 5)) L im 2 from rfl) ?_
  refine z_aload_n (pc := 96) rfl dX1_takeOver_96 ?_
  refine zf_X1_28 (pc := 97) rfl rfl dX1_takeOver_97 ?_
  refine z_iconst (pc := 100) dX1_takeOver_100 ?_
  refine z_aload_n (pc := 101) rfl dX1_takeOver_101 ?_
  refine zf_X1_28 (pc := 102) rfl rfl dX1_takeOver_102 ?_
  refine z_iconst (pc := 105) dX1_takeOver_105 ?_
  refine z_aload_n (pc := 106) rfl dX1_takeOver_106 ?_
  refine zf_X1_28 (pc := 107) rfl rfl dX1_takeOver_107 ?_
  refine z_alen (pc := 110) rfl dX1_takeOver_110 ?_
  refine z_copy (pc := 111) (q0 := 6) (q1 := 56) (n2 := 480) (f := F 6) (f2 := F 56) ac_X1_40 rfl rfl (by decide) ⟨by decide, by decide⟩ (Nat.le_of_ble_eq_true rfl) dX1_takeOver_111 ?_
  refine z_hp (show _ = zk g (va_up (va_up (va_up (va_up (va_up (va_up F 51 (vf_upd (vf_upd (vf_upd (F 51) 0 (F 1 0)) 1 (F 1 1)) 2 (F 1 2))) 52 (F 2)) 53 (F 3)) 54 (F 4)) 55 (F 5)) 56 (F 6)) L im 2 from rfl) ?_
  refine z_aload_n (pc := 114) rfl dX1_takeOver_114 ?_
  refine zf_X1_31 (pc := 115) rfl rfl dX1_takeOver_115 ?_
  refine z_iconst (pc := 118) dX1_takeOver_118 ?_
  refine z_aload_n (pc := 119) rfl dX1_takeOver_119 ?_
  refine zf_X1_31 (pc := 120) rfl rfl dX1_takeOver_120 ?_
  refine z_iconst (pc := 123) dX1_takeOver_123 ?_
  refine z_aload_n (pc := 124) rfl dX1_takeOver_124 ?_
  refine zf_X1_31 (pc := 125) rfl rfl dX1_takeOver_125 ?_
  refine z_alen (pc := 128) rfl dX1_takeOver_128 ?_
  refine z_copy (pc := 129) (q0 := 7) (q1 := 57) (n2 := 240) (f := F 7) (f2 := F 57) ac_X1_40 rfl rfl (by decide) ⟨by decide, by decide⟩ (Nat.le_of_ble_eq_true rfl) dX1_takeOver_129 ?_
  refine z_hp (show _ = zk g (va_up (va_up (va_up (va_up (va_up (va_up (va_up F 51 (vf_upd (vf_upd (vf_upd (F 51) 0 (F 1 0)) 1 (F 1 1)) 2 (F 1 2))) 52 (F 2)) 53 (F 3)) 54 (F 4)) 55 (F 5)) 56 (F 6)) 57 (F 7)) L im 2 from rfl) ?_
  exact z_retv (pc := 132) rfl (by decide) (by decide) dX1_takeOver_132 ⟨rfl, rfl⟩
theorem c_take_2_1_51 : zM l g yX1_takeOver cX1_takeOver 2 none 1 0 0 [.ref (g.2.1 + 1), .ref (g.2.1 + 51)] (zk g (F) L im 2) (fun r h => r = none ∧ h = zk g (tko F 1 51) L im 2) := by
  refine zM_of 0 (by decide) rfl ?_
  show zJ l g RX1 cX1_takeOver 2 none "takeOver" (zRm 1 0 0) 0 0 _ 0 0 0 [some (.ref (g.2.1 + 1)), some (.ref (g.2.1 + 51))] [] _
  refine z_aload_n (pc := 0) rfl dX1_takeOver_0 ?_
  refine z_aload_n (pc := 1) rfl dX1_takeOver_1 ?_
  refine zf_X1_9 (pc := 2) rfl rfl dX1_takeOver_2 ?_
  refine zp_X1_9 (pc := 5) rfl (Nat.le_of_ble_eq_true rfl) dX1_takeOver_5 ?_
  refine z_hp (show _ = zk g (va_up F 1 (vf_upd (F 1) 0 (F 51 0))) L im 2 from rfl) ?_
  refine z_aload_n (pc := 8) rfl dX1_takeOver_8 ?_
  refine z_aload_n (pc := 9) rfl dX1_takeOver_9 ?_
  refine zf_X1_34 (pc := 10) rfl rfl dX1_takeOver_10 ?_
  refine zp_X1_34 (pc := 13) rfl (Nat.le_of_ble_eq_true rfl) dX1_takeOver_13 ?_
  refine z_hp (show _ = zk g (va_up F 1 (vf_upd (vf_upd (F 1) 0 (F 51 0)) 1 (F 51 1))) L im 2 from rfl) ?_
  refine z_aload_n (pc := 16) rfl dX1_takeOver_16 ?_
  refine z_aload_n (pc := 17) rfl dX1_takeOver_17 ?_
  refine zf_X1_37 (pc := 18) rfl rfl dX1_takeOver_18 ?_
  refine zp_X1_37 (pc := 21) rfl (Nat.le_of_ble_eq_true rfl) dX1_takeOver_21 ?_
  refine z_hp (show _ = zk g (va_up F 1 (vf_upd (vf_upd (vf_upd (F 1) 0 (F 51 0)) 1 (F 51 1)) 2 (F 51 2))) L im 2 from rfl) ?_
  refine z_aload_n (pc := 24) rfl dX1_takeOver_24 ?_
  refine zf_X1_15 (pc := 25) rfl rfl dX1_takeOver_25 ?_
  refine z_iconst (pc := 28) dX1_takeOver_28 ?_
  refine z_aload_n (pc := 29) rfl dX1_takeOver_29 ?_
  refine zf_X1_15 (pc := 30) rfl rfl dX1_takeOver_30 ?_
  refine z_iconst (pc := 33) dX1_takeOver_33 ?_
  refine z_aload_n (pc := 34) rfl dX1_takeOver_34 ?_
  refine zf_X1_15 (pc := 35) rfl rfl dX1_takeOver_35 ?_
  refine z_alen (pc := 38) rfl dX1_takeOver_38 ?_
  refine z_copy (pc := 39) (q0 := 52) (q1 := 2) (n2 := 3) (f := F 52) (f2 := F 2) ac_X1_40 rfl rfl (by decide) ⟨by decide, by decide⟩ (Nat.le_of_ble_eq_true rfl) dX1_takeOver_39 ?_
  refine z_hp (show _ = zk g (va_up (va_up F 1 (vf_upd (vf_upd (vf_upd (F 1) 0 (F 51 0)) 1 (F 51 1)) 2 (F 51 2))) 2 (F 52)) L im 2 from rfl) ?_
  refine z_aload_n (pc := 42) rfl dX1_takeOver_42 ?_
  refine zf_X1_19 (pc := 43) rfl rfl dX1_takeOver_43 ?_
  refine z_iconst (pc := 46) dX1_takeOver_46 ?_
  refine z_aload_n (pc := 47) rfl dX1_takeOver_47 ?_
  refine zf_X1_19 (pc := 48) rfl rfl dX1_takeOver_48 ?_
  refine z_iconst (pc := 51) dX1_takeOver_51 ?_
  refine z_aload_n (pc := 52) rfl dX1_takeOver_52 ?_
  refine zf_X1_19 (pc := 53) rfl rfl dX1_takeOver_53 ?_
  refine z_alen (pc := 56) rfl dX1_takeOver_56 ?_
  refine z_copy (pc := 57) (q0 := 53) (q1 := 3) (n2 := 6) (f := F 53) (f2 := F 3) ac_X1_40 rfl rfl (by decide) ⟨by decide, by decide⟩ (Nat.le_of_ble_eq_true rfl) dX1_takeOver_57 ?_
  refine z_hp (show _ = zk g (va_up (va_up (va_up F 1 (vf_upd (vf_upd (vf_upd (F 1) 0 (F 51 0)) 1 (F 51 1)) 2 (F 51 2))) 2 (F 52)) 3 (F 53)) L im 2 from rfl) ?_
  refine z_aload_n (pc := 60) rfl dX1_takeOver_60 ?_
  refine zf_X1_22 (pc := 61) rfl rfl dX1_takeOver_61 ?_
  refine z_iconst (pc := 64) dX1_takeOver_64 ?_
  refine z_aload_n (pc := 65) rfl dX1_takeOver_65 ?_
  refine zf_X1_22 (pc := 66) rfl rfl dX1_takeOver_66 ?_
  refine z_iconst (pc := 69) dX1_takeOver_69 ?_
  refine z_aload_n (pc := 70) rfl dX1_takeOver_70 ?_
  refine zf_X1_22 (pc := 71) rfl rfl dX1_takeOver_71 ?_
  refine z_alen (pc := 74) rfl dX1_takeOver_74 ?_
  refine z_copy (pc := 75) (q0 := 54) (q1 := 4) (n2 := 6) (f := F 54) (f2 := F 4) ac_X1_40 rfl rfl (by decide) ⟨by decide, by decide⟩ (Nat.le_of_ble_eq_true rfl) dX1_takeOver_75 ?_
  refine z_hp (show _ = zk g (va_up (va_up (va_up (va_up F 1 (vf_upd (vf_upd (vf_upd (F 1) 0 (F 51 0)) 1 (F 51 1)) 2 (F 51 2))) 2 (F 52)) 3 (F 53)) 4 (F 54)) L im 2 from rfl) ?_
  refine z_aload_n (pc := 78) rfl dX1_takeOver_78 ?_
  refine zf_X1_25 (pc := 79) rfl rfl dX1_takeOver_79 ?_
  refine z_iconst (pc := 82) dX1_takeOver_82 ?_
  refine z_aload_n (pc := 83) rfl dX1_takeOver_83 ?_
  refine zf_X1_25 (pc := 84) rfl rfl dX1_takeOver_84 ?_
  refine z_iconst (pc := 87) dX1_takeOver_87 ?_
  refine z_aload_n (pc := 88) rfl dX1_takeOver_88 ?_
  refine zf_X1_25 (pc := 89) rfl rfl dX1_takeOver_89 ?_
  refine z_alen (pc := 92) rfl dX1_takeOver_92 ?_
  refine z_copy (pc := 93) (q0 := 55) (q1 := 5) (n2 := 6) (f := F 55) (f2 := F 5) ac_X1_40 rfl rfl (by decide) ⟨by decide, by decide⟩ (Nat.le_of_ble_eq_true rfl) dX1_takeOver_93 ?_
  refine z_hp (show _ = zk g (va_up (va_up (va_up (va_up (va_up F 1 (vf_upd (vf_upd (vf_upd (F 1) 0 (F 51 0)) 1 (F 51 1)) 2 (F 51 2))) 2 (F 52)) 3 (F 53)) 4 (F 54)) 5 (F 55)) L im 2 from rfl) ?_
  refine z_aload_n (pc := 96) rfl dX1_takeOver_96 ?_
  refine zf_X1_28 (pc := 97) rfl rfl dX1_takeOver_97 ?_
  refine z_iconst (pc := 100) dX1_takeOver_100 ?_
  refine z_aload_n (pc := 101) rfl dX1_takeOver_101 ?_
  refine zf_X1_28 (pc := 102) rfl rfl dX1_takeOver_102 ?_
  refine z_iconst (pc := 105) dX1_takeOver_105 ?_
  refine z_aload_n (pc := 106) rfl dX1_takeOver_106 ?_
  refine zf_X1_28 (pc := 107) rfl rfl dX1_takeOver_107 ?_
  refine z_alen (pc := 110) rfl dX1_takeOver_110 ?_
  refine z_copy (pc := 111) (q0 := 56) (q1 := 6) (n2 := 480) (f := F 56) (f2 := F 6) ac_X1_40 rfl rfl (by decide) ⟨by decide, by decide⟩ (Nat.le_of_ble_eq_true rfl) dX1_takeOver_111 ?_
  refine z_hp (show _ = zk g (va_up (va_up (va_up (va_up (va_up (va_up F 1 (vf_upd (vf_upd (vf_upd (F 1) 0 (F 51 0)) 1 (F 51 1)) 2 (F 51 2))) 2 (F 52)) 3 (F 53)) 4 (F 54)) 5 (F 55)) 6 (F 56)) L im 2 from rfl) ?_
  refine z_aload_n (pc := 114) rfl dX1_takeOver_114 ?_
  refine zf_X1_31 (pc := 115) rfl rfl dX1_takeOver_115 ?_
  refine z_iconst (pc := 118) dX1_takeOver_118 ?_
  refine z_aload_n (pc := 119) rfl dX1_takeOver_119 ?_
  refine zf_X1_31 (pc := 120) rfl rfl dX1_takeOver_120 ?_
  refine z_iconst (pc := 123) dX1_takeOver_123 ?_
  refine z_aload_n (pc := 124) rfl dX1_takeOver_124 ?_
  refine zf_X1_31 (pc := 125) rfl rfl dX1_takeOver_125 ?_
  refine z_alen (pc := 128) rfl dX1_takeOver_128 ?_
  refine z_copy (pc := 129) (q0 := 57) (q1 := 7) (n2 := 240) (f := F 57) (f2 := F 7) ac_X1_40 rfl rfl (by decide) ⟨by decide, by decide⟩ (Nat.le_of_ble_eq_true rfl) dX1_takeOver_129 ?_
  refine z_hp (show _ = zk g (va_up (va_up (va_up (va_up (va_up (va_up (va_up F 1 (vf_upd (vf_upd (vf_upd (F 1) 0 (F 51 0)) 1 (F 51 1)) 2 (F 51 2))) 2 (F 52)) 3 (F 53)) 4 (F 54)) 5 (F 55)) 6 (F 56)) 7 (F 57)) L im 2 from rfl) ?_
  exact z_retv (pc := 132) rfl (by decide) (by decide) dX1_takeOver_132 ⟨rfl, rfl⟩
theorem c_take_3_44_1 : zM l g yX1_takeOver cX1_takeOver 2 none 1 0 0 [.ref (g.2.1 + 44), .ref (g.2.1 + 1)] (zk g (F) L im 3) (fun r h => r = none ∧ h = zk g (tko F 44 1) L im 3) := by
  refine zM_of 0 (by decide) rfl ?_
  show zJ l g RX1 cX1_takeOver 2 none "takeOver" (zRm 1 0 0) 0 0 _ 0 0 0 [some (.ref (g.2.1 + 44)), some (.ref (g.2.1 + 1))] [] _
  refine z_aload_n (pc := 0) rfl dX1_takeOver_0 ?_
  refine z_aload_n (pc := 1) rfl dX1_takeOver_1 ?_
  refine zf_X1_9 (pc := 2) rfl rfl dX1_takeOver_2 ?_
  refine zp_X1_9 (pc := 5) rfl (Nat.le_of_ble_eq_true rfl) dX1_takeOver_5 ?_
  refine z_hp (show _ = zk g (va_up F 44 (vf_upd (F 44) 0 (F 1 0))) L im 3 from rfl) ?_
  refine z_aload_n (pc := 8) rfl dX1_takeOver_8 ?_
  refine z_aload_n (pc := 9) rfl dX1_takeOver_9 ?_
  refine zf_X1_34 (pc := 10) rfl rfl dX1_takeOver_10 ?_
  refine zp_X1_34 (pc := 13) rfl (Nat.le_of_ble_eq_true rfl) dX1_takeOver_13 ?_
  refine z_hp (show _ = zk g (va_up F 44 (vf_upd (vf_upd (F 44) 0 (F 1 0)) 1 (F 1 1))) L im 3 from rfl) ?_
  refine z_aload_n (pc := 16) rfl dX1_takeOver_16 ?_
  refine z_aload_n (pc := 17) rfl dX1_takeOver_17 ?_
  refine zf_X1_37 (pc := 18) rfl rfl dX1_takeOver_18 ?_
  refine zp_X1_37 (pc := 21) rfl (Nat.le_of_ble_eq_true rfl) dX1_takeOver_21 ?_
  refine z_hp (show _ = zk g (va_up F 44 (vf_upd (vf_upd (vf_upd (F 44) 0 (F 1 0)) 1 (F 1 1)) 2 (F 1 2))) L im 3 from rfl) ?_
  refine z_aload_n (pc := 24) rfl dX1_takeOver_24 ?_
  refine zf_X1_15 (pc := 25) rfl rfl dX1_takeOver_25 ?_
  refine z_iconst (pc := 28) dX1_takeOver_28 ?_
  refine z_aload_n (pc := 29) rfl dX1_takeOver_29 ?_
  refine zf_X1_15 (pc := 30) rfl rfl dX1_takeOver_30 ?_
  refine z_iconst (pc := 33) dX1_takeOver_33 ?_
  refine z_aload_n (pc := 34) rfl dX1_takeOver_34 ?_
  refine zf_X1_15 (pc := 35) rfl rfl dX1_takeOver_35 ?_
  refine z_alen (pc := 38) rfl dX1_takeOver_38 ?_
  refine z_copy (pc := 39) (q0 := 2) (q1 := 45) (n2 := 3) (f := F 2) (f2 := F 45) ac_X1_40 rfl rfl (by decide) ⟨by decide, by decide⟩ (Nat.le_of_ble_eq_true rfl) dX1_takeOver_39 ?_
  refine z_hp (show _ = zk g (va_up (va_up F 44 (vf_upd (vf_upd (vf_upd (F 44) 0 (F 1 0)) 1 (F 1 1)) 2 (F 1 2))) 45 (F 2)) L im 3 from rfl) ?_
  refine z_aload_n (pc := 42) rfl dX1_takeOver_42 ?_
  refine zf_X1_19 (pc := 43) rfl rfl dX1_takeOver_43 ?_
  refine z_iconst (pc := 46) dX1_takeOver_46 ?_
  refine z_aload_n (pc := 47) rfl dX1_takeOver_47 ?_
  refine zf_X1_19 (pc := 48) rfl rfl dX1_takeOver_48 ?_
  refine z_iconst (pc := 51) dX1_takeOver_51 ?_
  refine z_aload_n (pc := 52) rfl dX1_takeOver_52 ?_
  refine zf_X1_19 (pc := 53) rfl rfl dX1_takeOver_53 ?_
  refine z_alen (pc := 56) rfl dX1_takeOver_56 ?_
  refine z_copy (pc := 57) (q0 := 3) (q1 := 46) (n2 := 6) (f := F 3) (f2 := F 46) ac_X1_40 rfl rfl (by decide) ⟨by decide, by decide⟩ (Nat.le_of_ble_eq_true rfl) dX1_takeOver_57 ?_
  refine z_hp (show _ = zk g (va_up (va_up (va_up F 44 (vf_upd (vf_upd (vf_upd (F 44) 0 (F 1 0)) 1 (F 1 1)) 2 (F 1 2))) 45 (F 2)) 46 (F 3)) L im 3 from rfl) ?_
  refine z_aload_n (pc := 60) rfl dX1_takeOver_60 ?_
  refine zf_X1_22 (pc := 61) rfl rfl dX1_takeOver_61 ?_
  refine z_iconst (pc := 64) dX1_takeOver_64 ?_
  refine z_aload_n (pc := 65) rfl dX1_takeOver_65 ?_
  refine zf_X1_22 (pc := 66) rfl rfl dX1_takeOver_66 ?_
  refine z_iconst (pc := 69) dX1_takeOver_69 ?_
  refine z_aload_n (pc := 70) rfl dX1_takeOver_70 ?_
  refine zf_X1_22 (pc := 71) rfl rfl dX1_takeOver_71 ?_
  refine z_alen (pc := 74) rfl dX1_takeOver_74 ?_
  refine z_copy (pc := 75) (q0 := 4) (q1 := 47) (n2 := 6) (f := F 4) (f2 := F 47) ac_X1_40 rfl rfl (by decide) ⟨by decide, by decide⟩ (Nat.le_of_ble_eq_true rfl) dX1_takeOver_75 ?_
  refine z_hp (show _ = zk g (va_up (va_up (va_up (va_up F 44 (vf_upd (vf_upd (vf_upd (F 44) 0 (F 1 0)) 1 (F 1 1)) 2 (F 1 2))) 45 (F 2)) 46 (F 3)) 47 (F 4)) L im 3 from rfl) ?_
  refine z_aload_n (pc := 78) rfl dX1_takeOver_78 ?_
  refine zf_X1_25 (pc := 79) rfl rfl dX1_takeOver_79 ?_
  refine z_iconst (pc := 82) dX1_takeOver_82 ?_
  refine z_aload_n (pc := 83) rfl dX1_takeOver_83 ?_
  refine zf_X1_25 (pc := 84) rfl rfl dX1_takeOver_84 ?_
  refine z_iconst (pc := 87) dX1_takeOver_87 ?_
  refine z_aload_n (pc := 88) rfl dX1_takeOver_88 ?_
  refine zf_X1_25 (pc := 89) rfl rfl dX1_takeOver_89 ?_
  refine z_alen (pc := 92) rfl dX1_takeOver_92 ?_
  refine z_copy (pc := 93) (q0 := 5) (q1 := 48) (n2 := 6) (f := F 5) (f2 := F 48) ac_X1_40 rfl rfl (by decide) ⟨by decide, by decide⟩ (Nat.le_of_ble_eq_true rfl) dX1_takeOver_93 ?_
  refine z_hp (show _ = zk g (va_up (va_up (va_up (va_up (va_up F 44 (vf_upd (vf_upd (vf_upd (F 44) 0 (F 1 0)) 1 (F 1 1)) 2 (F 1 2))) 45 (F 2)) 46 (F 3)) 47 (F 4)) 48 (F 5)) L im 3 from rfl) ?_
  refine z_aload_n (pc := 96) rfl dX1_takeOver_96 ?_
  refine zf_X1_28 (pc := 97) rfl rfl dX1_takeOver_97 ?_
  refine z_iconst (pc := 100) dX1_takeOver_100 ?_
  refine z_aload_n (pc := 101) rfl dX1_takeOver_101 ?_
  refine zf_X1_28 (pc := 102) rfl rfl dX1_takeOver_102 ?_
  refine z_iconst (pc := 105) dX1_takeOver_105 ?_
  refine z_aload_n (pc := 106) rfl dX1_takeOver_106 ?_
  refine zf_X1_28 (pc := 107) rfl rfl dX1_takeOver_107 ?_
  refine z_alen (pc := 110) rfl dX1_takeOver_110 ?_
  refine z_copy (pc := 111) (q0 := 6) (q1 := 49) (n2 := 480) (f := F 6) (f2 := F 49) ac_X1_40 rfl rfl (by decide) ⟨by decide, by decide⟩ (Nat.le_of_ble_eq_true rfl) dX1_takeOver_111 ?_
  refine z_hp (show _ = zk g (va_up (va_up (va_up (va_up (va_up (va_up F 44 (vf_upd (vf_upd (vf_upd (F 44) 0 (F 1 0)) 1 (F 1 1)) 2 (F 1 2))) 45 (F 2)) 46 (F 3)) 47 (F 4)) 48 (F 5)) 49 (F 6)) L im 3 from rfl) ?_
  refine z_aload_n (pc := 114) rfl dX1_takeOver_114 ?_
  refine zf_X1_31 (pc := 115) rfl rfl dX1_takeOver_115 ?_
  refine z_iconst (pc := 118) dX1_takeOver_118 ?_
  refine z_aload_n (pc := 119) rfl dX1_takeOver_119 ?_
  refine zf_X1_31 (pc := 120) rfl rfl dX1_takeOver_120 ?_
  refine z_iconst (pc := 123) dX1_takeOver_123 ?_
  refine z_aload_n (pc := 124) rfl dX1_takeOver_124 ?_
  refine zf_X1_31 (pc := 125) rfl rfl dX1_takeOver_125 ?_
  refine z_alen (pc := 128) rfl dX1_takeOver_128 ?_
  refine z_copy (pc := 129) (q0 := 7) (q1 := 50) (n2 := 240) (f := F 7) (f2 := F 50) ac_X1_40 rfl rfl (by decide) ⟨by decide, by decide⟩ (Nat.le_of_ble_eq_true rfl) dX1_takeOver_129 ?_
  refine z_hp (show _ = zk g (va_up (va_up (va_up (va_up (va_up (va_up (va_up F 44 (vf_upd (vf_upd (vf_upd (F 44) 0 (F 1 0)) 1 (F 1 1)) 2 (F 1 2))) 45 (F 2)) 46 (F 3)) 47 (F 4)) 48 (F 5)) 49 (F 6)) 50 (F 7)) L im 3 from rfl) ?_
  exact z_retv (pc := 132) rfl (by decide) (by decide) dX1_takeOver_132 ⟨rfl, rfl⟩
theorem c_take_3_1_44 : zM l g yX1_takeOver cX1_takeOver 2 none 1 0 0 [.ref (g.2.1 + 1), .ref (g.2.1 + 44)] (zk g (F) L im 3) (fun r h => r = none ∧ h = zk g (tko F 1 44) L im 3) := by
  refine zM_of 0 (by decide) rfl ?_
  show zJ l g RX1 cX1_takeOver 2 none "takeOver" (zRm 1 0 0) 0 0 _ 0 0 0 [some (.ref (g.2.1 + 1)), some (.ref (g.2.1 + 44))] [] _
  refine z_aload_n (pc := 0) rfl dX1_takeOver_0 ?_
  refine z_aload_n (pc := 1) rfl dX1_takeOver_1 ?_
  refine zf_X1_9 (pc := 2) rfl rfl dX1_takeOver_2 ?_
  refine zp_X1_9 (pc := 5) rfl (Nat.le_of_ble_eq_true rfl) dX1_takeOver_5 ?_
  refine z_hp (show _ = zk g (va_up F 1 (vf_upd (F 1) 0 (F 44 0))) L im 3 from rfl) ?_
  refine z_aload_n (pc := 8) rfl dX1_takeOver_8 ?_
  refine z_aload_n (pc := 9) rfl dX1_takeOver_9 ?_
  refine zf_X1_34 (pc := 10) rfl rfl dX1_takeOver_10 ?_
  refine zp_X1_34 (pc := 13) rfl (Nat.le_of_ble_eq_true rfl) dX1_takeOver_13 ?_
  refine z_hp (show _ = zk g (va_up F 1 (vf_upd (vf_upd (F 1) 0 (F 44 0)) 1 (F 44 1))) L im 3 from rfl) ?_
  refine z_aload_n (pc := 16) rfl dX1_takeOver_16 ?_
  refine z_aload_n (pc := 17) rfl dX1_takeOver_17 ?_
  refine zf_X1_37 (pc := 18) rfl rfl dX1_takeOver_18 ?_
  refine zp_X1_37 (pc := 21) rfl (Nat.le_of_ble_eq_true rfl) dX1_takeOver_21 ?_
  refine z_hp (show _ = zk g (va_up F 1 (vf_upd (vf_upd (vf_upd (F 1) 0 (F 44 0)) 1 (F 44 1)) 2 (F 44 2))) L im 3 from rfl) ?_
  refine z_aload_n (pc := 24) rfl dX1_takeOver_24 ?_
  refine zf_X1_15 (pc := 25) rfl rfl dX1_takeOver_25 ?_
  refine z_iconst (pc := 28) dX1_takeOver_28 ?_
  refine z_aload_n (pc := 29) rfl dX1_takeOver_29 ?_
  refine zf_X1_15 (pc := 30) rfl rfl dX1_takeOver_30 ?_
  refine z_iconst (pc := 33) dX1_takeOver_33 ?_
  refine z_aload_n (pc := 34) rfl dX1_takeOver_34 ?_
  refine zf_X1_15 (pc := 35) rfl rfl dX1_takeOver_35 ?_
  refine z_alen (pc := 38) rfl dX1_takeOver_38 ?_
  refine z_copy (pc := 39) (q0 := 45) (q1 := 2) (n2 := 3) (f := F 45) (f2 := F 2) ac_X1_40 rfl rfl (by decide) ⟨by decide, by decide⟩ (Nat.le_of_ble_eq_true rfl) dX1_takeOver_39 ?_
  refine z_hp (show _ = zk g (va_up (va_up F 1 (vf_upd (vf_upd (vf_upd (F 1) 0 (F 44 0)) 1 (F 44 1)) 2 (F 44 2))) 2 (F 45)) L im 3 from rfl) ?_
  refine z_aload_n (pc := 42) rfl dX1_takeOver_42 ?_
  refine zf_X1_19 (pc := 43) rfl rfl dX1_takeOver_43 ?_
  refine z_iconst (pc := 46) dX1_takeOver_46 ?_
  refine z_aload_n (pc := 47) rfl dX1_takeOver_47 ?_
  refine zf_X1_19 (pc := 48) rfl rfl dX1_takeOver_48 ?_
  refine z_iconst (pc := 51) dX1_takeOver_51 ?_
  refine z_aload_n (pc := 52) rfl dX1_takeOver_52 ?_
  refine zf_X1_19 (pc := 53) rfl rfl dX1_takeOver_53 ?_
  refine z_alen (pc := 56) rfl dX1_takeOver_56 ?_
  refine z_copy (pc := 57) (q0 := 46) (q1 := 3) (n2 := 6) (f := F 46) (f2 := F 3) ac_X1_40 rfl rfl (by decide) ⟨by decide, by decide⟩ (Nat.le_of_ble_eq_true rfl) dX1_takeOver_57 ?_
  refine z_hp (show _ = zk g (va_up (va_up (va_up F 1 (vf_upd (vf_upd (vf_upd (F 1) 0 (F 44 0)) 1 (F 44 1)) 2 (F 44 2))) 2 (F 45)) 3 (F 46)) L im 3 from rfl) ?_
  refine z_aload_n (pc := 60) rfl dX1_takeOver_60 ?_
  refine zf_X1_22 (pc := 61) rfl rfl dX1_takeOver_61 ?_
  refine z_iconst (pc := 64) dX1_takeOver_64 ?_
  refine z_aload_n (pc := 65) rfl dX1_takeOver_65 ?_
  refine zf_X1_22 (pc := 66) rfl rfl dX1_takeOver_66 ?_
  refine z_iconst (pc := 69) dX1_takeOver_69 ?_
  refine z_aload_n (pc := 70) rfl dX1_takeOver_70 ?_
  refine zf_X1_22 (pc := 71) rfl rfl dX1_takeOver_71 ?_
  refine z_alen (pc := 74) rfl dX1_takeOver_74 ?_
  refine z_copy (pc := 75) (q0 := 47) (q1 := 4) (n2 := 6) (f := F 47) (f2 := F 4) ac_X1_40 rfl rfl (by decide) ⟨by decide, by decide⟩ (Nat.le_of_ble_eq_true rfl) dX1_takeOver_75 ?_
  refine z_hp (show _ = zk g (va_up (va_up (va_up (va_up F 1 (vf_upd (vf_upd (vf_upd (F 1) 0 (F 44 0)) 1 (F 44 1)) 2 (F 44 2))) 2 (F 45)) 3 (F 46)) 4 (F 47)) L im 3 from rfl) ?_
  refine z_aload_n (pc := 78) rfl dX1_takeOver_78 ?_
  refine zf_X1_25 (pc := 79) rfl rfl dX1_takeOver_79 ?_
  refine z_iconst (pc := 82) dX1_takeOver_82 ?_
  refine z_aload_n (pc := 83) rfl dX1_takeOver_83 ?_
  refine zf_X1_25 (pc := 84) rfl rfl dX1_takeOver_84 ?_
  refine z_iconst (pc := 87) dX1_takeOver_87 ?_
  refine z_aload_n (pc := 88) rfl dX1_takeOver_88 ?_
  refine zf_X1_25 (pc := 89) rfl rfl dX1_takeOver_89 ?_
  refine z_alen (pc := 92) rfl dX1_takeOver_92 ?_
  refine z_copy (pc := 93) (q0 := 48) (q1 := 5) (n2 := 6) (f := F 48) (f2 := F 5) ac_X1_40 rfl rfl (by decide) ⟨by decide, by decide⟩ (Nat.le_of_ble_eq_true rfl) dX1_takeOver_93 ?_
  refine z_hp (show _ = zk g (va_up (va_up (va_up (va_up (va_up F 1 (vf_upd (vf_upd (vf_upd (F 1) 0 (F 44 0)) 1 (F 44 1)) 2 (F 44 2))) 2 (F 45)) 3 (F 46)) 4 (F 47)) 5 (F 48)) L im 3 from rfl) ?_
  refine z_aload_n (pc := 96) rfl dX1_takeOver_96 ?_
  refine zf_X1_28 (pc := 97) rfl rfl dX1_takeOver_97 ?_
  refine z_iconst (pc := 100) dX1_takeOver_100 ?_
  refine z_aload_n (pc := 101) rfl dX1_takeOver_101 ?_
  refine zf_X1_28 (pc := 102) rfl rfl dX1_takeOver_102 ?_
  refine z_iconst (pc := 105) dX1_takeOver_105 ?_
  refine z_aload_n (pc := 106) rfl dX1_takeOver_106 ?_
  refine zf_X1_28 (pc := 107) rfl rfl dX1_takeOver_107 ?_
  refine z_alen (pc := 110) rfl dX1_takeOver_110 ?_
  refine z_copy (pc := 111) (q0 := 49) (q1 := 6) (n2 := 480) (f := F 49) (f2 := F 6) ac_X1_40 rfl rfl (by decide) ⟨by decide, by decide⟩ (Nat.le_of_ble_eq_true rfl) dX1_takeOver_111 ?_
  refine z_hp (show _ = zk g (va_up (va_up (va_up (va_up (va_up (va_up F 1 (vf_upd (vf_upd (vf_upd (F 1) 0 (F 44 0)) 1 (F 44 1)) 2 (F 44 2))) 2 (F 45)) 3 (F 46)) 4 (F 47)) 5 (F 48)) 6 (F 49)) L im 3 from rfl) ?_
  refine z_aload_n (pc := 114) rfl dX1_takeOver_114 ?_
  refine zf_X1_31 (pc := 115) rfl rfl dX1_takeOver_115 ?_
  refine z_iconst (pc := 118) dX1_takeOver_118 ?_
  refine z_aload_n (pc := 119) rfl dX1_takeOver_119 ?_
  refine zf_X1_31 (pc := 120) rfl rfl dX1_takeOver_120 ?_
  refine z_iconst (pc := 123) dX1_takeOver_123 ?_
  refine z_aload_n (pc := 124) rfl dX1_takeOver_124 ?_
  refine zf_X1_31 (pc := 125) rfl rfl dX1_takeOver_125 ?_
  refine z_alen (pc := 128) rfl dX1_takeOver_128 ?_
  refine z_copy (pc := 129) (q0 := 50) (q1 := 7) (n2 := 240) (f := F 50) (f2 := F 7) ac_X1_40 rfl rfl (by decide) ⟨by decide, by decide⟩ (Nat.le_of_ble_eq_true rfl) dX1_takeOver_129 ?_
  refine z_hp (show _ = zk g (va_up (va_up (va_up (va_up (va_up (va_up (va_up F 1 (vf_upd (vf_upd (vf_upd (F 1) 0 (F 44 0)) 1 (F 44 1)) 2 (F 44 2))) 2 (F 45)) 3 (F 46)) 4 (F 47)) 5 (F 48)) 6 (F 49)) 7 (F 50)) L im 3 from rfl) ?_
  exact z_retv (pc := 132) rfl (by decide) (by decide) dX1_takeOver_132 ⟨rfl, rfl⟩
theorem c_take_3_51_1 : zM l g yX1_takeOver cX1_takeOver 2 none 1 0 0 [.ref (g.2.1 + 51), .ref (g.2.1 + 1)] (zk g (F) L im 3) (fun r h => r = none ∧ h = zk g (tko F 51 1) L im 3) := by
  refine zM_of 0 (by decide) rfl ?_
  show zJ l g RX1 cX1_takeOver 2 none "takeOver" (zRm 1 0 0) 0 0 _ 0 0 0 [some (.ref (g.2.1 + 51)), some (.ref (g.2.1 + 1))] [] _
  refine z_aload_n (pc := 0) rfl dX1_takeOver_0 ?_
  refine z_aload_n (pc := 1) rfl dX1_takeOver_1 ?_
  refine zf_X1_9 (pc := 2) rfl rfl dX1_takeOver_2 ?_
  refine zp_X1_9 (pc := 5) rfl (Nat.le_of_ble_eq_true rfl) dX1_takeOver_5 ?_
  refine z_hp (show _ = zk g (va_up F 51 (vf_upd (F 51) 0 (F 1 0))) L im 3 from rfl) ?_
  refine z_aload_n (pc := 8) rfl dX1_takeOver_8 ?_
  refine z_aload_n (pc := 9) rfl dX1_takeOver_9 ?_
  refine zf_X1_34 (pc := 10) rfl rfl dX1_takeOver_10 ?_
  refine zp_X1_34 (pc := 13) rfl (Nat.le_of_ble_eq_true rfl) dX1_takeOver_13 ?_
  refine z_hp (show _ = zk g (va_up F 51 (vf_upd (vf_upd (F 51) 0 (F 1 0)) 1 (F 1 1))) L im 3 from rfl) ?_
  refine z_aload_n (pc := 16) rfl dX1_takeOver_16 ?_
  refine z_aload_n (pc := 17) rfl dX1_takeOver_17 ?_
  refine zf_X1_37 (pc := 18) rfl rfl dX1_takeOver_18 ?_
  refine zp_X1_37 (pc := 21) rfl (Nat.le_of_ble_eq_true rfl) dX1_takeOver_21 ?_
  refine z_hp (show _ = zk g (va_up F 51 (vf_upd (vf_upd (vf_upd (F 51) 0 (F 1 0)) 1 (F 1 1)) 2 (F 1 2))) L im 3 from rfl) ?_
  refine z_aload_n (pc := 24) rfl dX1_takeOver_24 ?_
  refine zf_X1_15 (pc := 25) rfl rfl dX1_takeOver_25 ?_
  refine z_iconst (pc := 28) dX1_takeOver_28 ?_
  refine z_aload_n (pc := 29) rfl dX1_takeOver_29 ?_
  refine zf_X1_15 (pc := 30) rfl rfl dX1_takeOver_30 ?_
  refine z_iconst (pc := 33) dX1_takeOver_33 ?_
  refine z_aload_n (pc := 34) rfl dX1_takeOver_34 ?_
  refine zf_X1_15 (pc := 35) rfl rfl dX1_takeOver_35 ?_
  refine z_alen (pc := 38) rfl dX1_takeOver_38 ?_
  refine z_copy (pc := 39) (q0 := 2) (q1 := 52) (n2 := 3) (f := F 2) (f2 := F 52) ac_X1_40 rfl rfl (by decide) ⟨by decide, by decide⟩ (Nat.le_of_ble_eq_true rfl) dX1_takeOver_39 ?_
  refine z_hp (show _ = zk g (va_up (va_up F 51 (vf_upd (vf_upd (vf_upd (F 51) 0 (F 1 0)) 1 (F 1 1)) 2 (F 1 2))) 52 (F 2)) L im 3 from rfl) ?_
  refine z_aload_n (pc := 42) rfl dX1_takeOver_42 ?_
  refine zf_X1_19 (pc := 43) rfl rfl dX1_takeOver_43 ?_
  refine z_iconst (pc := 46) dX1_takeOver_46 ?_
  refine z_aload_n (pc := 47) rfl dX1_takeOver_47 ?_
  refine zf_X1_19 (pc := 48) rfl rfl dX1_takeOver_48 ?_
  refine z_iconst (pc := 51) dX1_takeOver_51 ?_
  refine z_aload_n (pc := 52) rfl dX1_takeOver_52 ?_
  refine zf_X1_19 (pc := 53) rfl rfl dX1_takeOver_53 ?_
  refine z_alen (pc := 56) rfl dX1_takeOver_56 ?_
  refine z_copy (pc := 57) (q0 := 3) (q1 := 53) (n2 := 6) (f := F 3) (f2 := F 53) ac_X1_40 rfl rfl (by decide) ⟨by decide, by decide⟩ (Nat.le_of_ble_eq_true rfl) dX1_takeOver_57 ?_
  refine z_hp (show _ = zk g (va_up (va_up (va_up F 51 (vf_upd (vf_upd (vf_upd (F 51) 0 (F 1 0)) 1 (F 1 1)) 2 (F 1 2))) 52 (F 2)) 53 (F 3)) L im 3 from rfl) ?_
  refine z_aload_n (pc := 60) rfl dX1_takeOver_60 ?_
  refine zf_X1_22 (pc := 61) rfl rfl dX1_takeOver_61 ?_
  refine z_iconst (pc := 64) dX1_takeOver_64 ?_
  refine z_aload_n (pc := 65) rfl dX1_takeOver_65 ?_
  refine zf_X1_22 (pc := 66) rfl rfl dX1_takeOver_66 ?_
  refine z_iconst (pc := 69) dX1_takeOver_69 ?_
  refine z_aload_n (pc := 70) rfl dX1_takeOver_70 ?_
  refine zf_X1_22 (pc := 71) rfl rfl dX1_takeOver_71 ?_
  refine z_alen (pc := 74) rfl dX1_takeOver_74 ?_
  refine z_copy (pc := 75) (q0 := 4) (q1 := 54) (n2 := 6) (f := F 4) (f2 := F 54) ac_X1_40 rfl rfl (by decide) ⟨by decide, by decide⟩ (Nat.le_of_ble_eq_true rfl) dX1_takeOver_75 ?_
  refine z_hp (show _ = zk g (va_up (va_up (va_up (va_up F 51 (vf_upd (vf_upd (vf_upd (F 51) 0 (F 1 0)) 1 (F 1 1)) 2 (F 1 2))) 52 (F 2)) 53 (F 3)) 54 (F 4)) L im 3 from rfl) ?_
  refine z_aload_n (pc := 78) rfl dX1_takeOver_78 ?_
  refine zf_X1_25 (pc := 79) rfl rfl dX1_takeOver_79 ?_
  refine z_iconst (pc := 82) dX1_takeOver_82 ?_
  refine z_aload_n (pc := 83) rfl dX1_takeOver_83 ?_
  refine zf_X1_25 (pc := 84) rfl rfl dX1_takeOver_84 ?_
  refine z_iconst (pc := 87) dX1_takeOver_87 ?_
  refine z_aload_n (pc := 88) rfl dX1_takeOver_88 ?_
  refine zf_X1_25 (pc := 89) rfl rfl dX1_takeOver_89 ?_
  refine z_alen (pc := 92) rfl dX1_takeOver_92 ?_
  refine z_copy (pc := 93) (q0 := 5) (q1 := 55) (n2 := 6) (f := F 5) (f2 := F 55) ac_X1_40 rfl rfl (by decide) ⟨by decide, by decide⟩ (Nat.le_of_ble_eq_true rfl) dX1_takeOver_93 ?_
  refine z_hp (show _ = zk g (va_up (va_up (va_up (va_up (va_up F 51 (vf_upd (vf_upd (vf_upd (F 51) 0 (F 1 0)) 1 (F 1 1)) 2 (F 1 2))) 52 (F 2)) 53 (F 3)) 54 (F 4)) 55 (F 5)) L im 3 from rfl) ?_
  refine z_aload_n (pc := 96) rfl dX1_takeOver_96 ?_
  refine zf_X1_28 (pc := 97) rfl rfl dX1_takeOver_97 ?_
  refine z_iconst (pc := 100) dX1_takeOver_100 ?_
  refine z_aload_n (pc := 101) rfl dX1_takeOver_101 ?_
  refine zf_X1_28 (pc := 102) rfl rfl dX1_takeOver_102 ?_
  refine z_iconst (pc := 105) dX1_takeOver_105 ?_
  refine z_aload_n (pc := 106) rfl dX1_takeOver_106 ?_
  refine zf_X1_28 (pc := 107) rfl rfl dX1_takeOver_107 ?_
  refine z_alen (pc := 110) rfl dX1_takeOver_110 ?_
  refine z_copy (pc := 111) (q0 := 6) (q1 := 56) (n2 := 480) (f := F 6) (f2 := F 56) ac_X1_40 rfl rfl (by decide) ⟨by decide, by decide⟩ (Nat.le_of_ble_eq_true rfl) dX1_takeOver_111 ?_
  refine z_hp (show _ = zk g (va_up (va_up (va_up (va_up (va_up (va_up F 51 (vf_upd (vf_upd (vf_upd (F 51) 0 (F 1 0)) 1 (F 1 1)) 2 (F 1 2))) 52 (F 2)) 53 (F 3)) 54 (F 4)) 55 (F 5)) 56 (F 6)) L im 3 from rfl) ?_
  refine z_aload_n (pc := 114) rfl dX1_takeOver_114 ?_
  refine zf_X1_31 (pc := 115) rfl rfl dX1_takeOver_115 ?_
  refine z_iconst (pc := 118) dX1_takeOver_118 ?_
  refine z_aload_n (pc := 119) rfl dX1_takeOver_119 ?_
  refine zf_X1_31 (pc := 120) rfl rfl dX1_takeOver_120 ?_
  refine z_iconst (pc := 123) dX1_takeOver_123 ?_
  refine z_aload_n (pc := 124) rfl dX1_takeOver_124 ?_
  refine zf_X1_31 (pc := 125) rfl rfl dX1_takeOver_125 ?_
  refine z_alen (pc := 128) rfl dX1_takeOver_128 ?_
  refine z_copy (pc := 129) (q0 := 7) (q1 := 57) (n2 := 240) (f := F 7) (f2 := F 57) ac_X1_40 rfl rfl (by decide) ⟨by decide, by decide⟩ (Nat.le_of_ble_eq_true rfl) dX1_takeOver_129 ?_
  refine z_hp (show _ = zk g (va_up (va_up (va_up (va_up (va_up (va_up (va_up F 51 (vf_upd (vf_upd (vf_upd (F 51) 0 (F 1 0)) 1 (F 1 1)) 2 (F 1 2))) 52 (F 2)) 53 (F 3)) 54 (F 4)) 55 (F 5)) 56 (F 6)) 57 (F 7)) L im 3 from rfl) ?_
  exact z_retv (pc := 132) rfl (by decide) (by decide) dX1_takeOver_132 ⟨rfl, rfl⟩
theorem c_take_3_1_51 : zM l g yX1_takeOver cX1_takeOver 2 none 1 0 0 [.ref (g.2.1 + 1), .ref (g.2.1 + 51)] (zk g (F) L im 3) (fun r h => r = none ∧ h = zk g (tko F 1 51) L im 3) := by
  refine zM_of 0 (by decide) rfl ?_
  show zJ l g RX1 cX1_takeOver 2 none "takeOver" (zRm 1 0 0) 0 0 _ 0 0 0 [some (.ref (g.2.1 + 1)), some (.ref (g.2.1 + 51))] [] _
  refine z_aload_n (pc := 0) rfl dX1_takeOver_0 ?_
  refine z_aload_n (pc := 1) rfl dX1_takeOver_1 ?_
  refine zf_X1_9 (pc := 2) rfl rfl dX1_takeOver_2 ?_
  refine zp_X1_9 (pc := 5) rfl (Nat.le_of_ble_eq_true rfl) dX1_takeOver_5 ?_
  refine z_hp (show _ = zk g (va_up F 1 (vf_upd (F 1) 0 (F 51 0))) L im 3 from rfl) ?_
  refine z_aload_n (pc := 8) rfl dX1_takeOver_8 ?_
  refine z_aload_n (pc := 9) rfl dX1_takeOver_9 ?_
  refine zf_X1_34 (pc := 10) rfl rfl dX1_takeOver_10 ?_
  refine zp_X1_34 (pc := 13) rfl (Nat.le_of_ble_eq_true rfl) dX1_takeOver_13 ?_
  refine z_hp (show _ = zk g (va_up F 1 (vf_upd (vf_upd (F 1) 0 (F 51 0)) 1 (F 51 1))) L im 3 from rfl) ?_
  refine z_aload_n (pc := 16) rfl dX1_takeOver_16 ?_
  refine z_aload_n (pc := 17) rfl dX1_takeOver_17 ?_
  refine zf_X1_37 (pc := 18) rfl rfl dX1_takeOver_18 ?_
  refine zp_X1_37 (pc := 21) rfl (Nat.le_of_ble_eq_true rfl) dX1_takeOver_21 ?_
  refine z_hp (show _ = zk g (va_up F 1 (vf_upd (vf_upd (vf_upd (F 1) 0 (F 51 0)) 1 (F 51 1)) 2 (F 51 2))) L im 3 from rfl) ?_
  refine z_aload_n (pc := 24) rfl dX1_takeOver_24 ?_
  refine zf_X1_15 (pc := 25) rfl rfl dX1_takeOver_25 ?_
  refine z_iconst (pc := 28) dX1_takeOver_28 ?_
  refine z_aload_n (pc := 29) rfl dX1_takeOver_29 ?_
  refine zf_X1_15 (pc := 30) rfl rfl dX1_takeOver_30 ?_
  refine z_iconst (pc := 33) dX1_takeOver_33 ?_
  refine z_aload_n (pc := 34) rfl dX1_takeOver_34 ?_
  refine zf_X1_15 (pc := 35) rfl rfl dX1_takeOver_35 ?_
  refine z_alen (pc := 38) rfl dX1_takeOver_38 ?_
  refine z_copy (pc := 39) (q0 := 52) (q1 := 2) (n2 := 3) (f := F 52) (f2 := F 2) ac_X1_40 rfl rfl (by decide) ⟨by decide, by decide⟩ (Nat.le_of_ble_eq_true rfl) dX1_takeOver_39 ?_
  refine z_hp (show _ = zk g (va_up (va_up F 1 (vf_upd (vf_upd (vf_upd (F 1) 0 (F 51 0)) 1 (F 51 1)) 2 (F 51 2))) 2 (F 52)) L im 3 from rfl) ?_
  refine z_aload_n (pc := 42) rfl dX1_takeOver_42 ?_
  refine zf_X1_19 (pc := 43) rfl rfl dX1_takeOver_43 ?_
  refine z_iconst (pc := 46) dX1_takeOver_46 ?_
  refine z_aload_n (pc := 47) rfl dX1_takeOver_47 ?_
  refine zf_X1_19 (pc := 48) rfl rfl dX1_takeOver_48 ?_
  refine z_iconst (pc := 51) dX1_takeOver_51 ?_
  refine z_aload_n (pc := 52) rfl dX1_takeOver_52 ?_
  refine zf_X1_19 (pc := 53) rfl rfl dX1_takeOver_53 ?_
  refine z_alen (pc := 56) rfl dX1_takeOver_56 ?_
  refine z_copy (pc := 57) (q0 := 53) (q1 := 3) (n2 := 6) (f := F 53) (f2 := F 3) ac_X1_40 rfl rfl (by decide) ⟨by decide, by decide⟩ (Nat.le_of_ble_eq_true rfl) dX1_takeOver_57 ?_
  refine z_hp (show _ = zk g (va_up (va_up (va_up F 1 (vf_upd (vf_upd (vf_upd (F 1) 0 (F 51 0)) 1 (F 51 1)) 2 (F 51 2))) 2 (F 52)) 3 (F 53)) L im 3 from rfl) ?_
  refine z_aload_n (pc := 60) rfl dX1_takeOver_60 ?_
  refine zf_X1_22 (pc := 61) rfl rfl dX1_takeOver_61 ?_
  refine z_iconst (pc := 64) dX1_takeOver_64 ?_
  refine z_aload_n (pc := 65) rfl dX1_takeOver_65 ?_
  refine zf_X1_22 (pc := 66) rfl rfl dX1_takeOver_66 ?_
  refine z_iconst (pc := 69) dX1_takeOver_69 ?_
  refine z_aload_n (pc := 70) rfl dX1_takeOver_70 ?_
  refine zf_X1_22 (pc := 71) rfl rfl dX1_takeOver_71 ?_
  refine z_alen (pc := 74) rfl dX1_takeOver_74 ?_
  refine z_copy (pc := 75) (q0 := 54) (q1 := 4) (n2 := 6) (f := F 54) (f2 := F 4) ac_X1_40 rfl rfl (by decide) ⟨by decide, by decide⟩ (Nat.le_of_ble_eq_true rfl) dX1_takeOver_75 ?_
  refine z_hp (show _ = zk g (va_up (va_up (va_up (va_up F 1 (vf_upd (vf_upd (vf_upd (F 1) 0 (F 51 0)) 1 (F 51 1)) 2 (F 51 2))) 2 (F 52)) 3 (F 53)) 4 (F 54)) L im 3 from rfl) ?_
  refine z_aload_n (pc := 78) rfl dX1_takeOver_78 ?_
  refine zf_X1_25 (pc := 79) rfl rfl dX1_takeOver_79 ?_
  refine z_iconst (pc := 82) dX1_takeOver_82 ?_
  refine z_aload_n (pc := 83) rfl dX1_takeOver_83 ?_
  refine zf_X1_25 (pc := 84) rfl rfl dX1_takeOver_84 ?_
  refine z_iconst (pc := 87) dX1_takeOver_87 ?_
  refine z_aload_n (pc := 88) rfl dX1_takeOver_88 ?_
  refine zf_X1_25 (pc := 89) rfl rfl dX1_takeOver_89 ?_
  refine z_alen (pc := 92) rfl dX1_takeOver_92 ?_
  refine z_copy (pc := 93) (q0 := 55) (q1 := 5) (n2 := 6) (f := F 55) (f2 := F 5) ac_X1_40 rfl rfl (by decide) ⟨by decide, by decide⟩ (Nat.le_of_ble_eq_true rfl) dX1_takeOver_93 ?_
  refine z_hp (show _ = zk g (va_up (va_up (va_up (va_up (va_up F 1 (vf_upd (vf_upd (vf_upd (F 1) 0 (F 51 0)) 1 (F 51 1)) 2 (F 51 2))) 2 (F 52)) 3 (F 53)) 4 (F 54)) 5 (F 55)) L im 3 from rfl) ?_
  refine z_aload_n (pc := 96) rfl dX1_takeOver_96 ?_
  refine zf_X1_28 (pc := 97) rfl rfl dX1_takeOver_97 ?_
  refine z_iconst (pc := 100) dX1_takeOver_100 ?_
  refine z_aload_n (pc := 101) rfl dX1_takeOver_101 ?_
  refine zf_X1_28 (pc := 102) rfl rfl dX1_takeOver_102 ?_
  refine z_iconst (pc := 105) dX1_takeOver_105 ?_
  refine z_aload_n (pc := 106) rfl dX1_takeOver_106 ?_
  refine zf_X1_28 (pc := 107) rfl rfl dX1_takeOver_107 ?_
  refine z_alen (pc := 110) rfl dX1_takeOver_110 ?_
  refine z_copy (pc := 111) (q0 := 56) (q1 := 6) (n2 := 480) (f := F 56) (f2 := F 6) ac_X1_40 rfl rfl (by decide) ⟨by decide, by decide⟩ (Nat.le_of_ble_eq_true rfl) dX1_takeOver_111 ?_
  refine z_hp (show _ = zk g (va_up (va_up (va_up (va_up (va_up (va_up F 1 (vf_upd (vf_upd (vf_upd (F 1) 0 (F 51 0)) 1 (F 51 1)) 2 (F 51 2))) 2 (F 52)) 3 (F 53)) 4 (F 54)) 5 (F 55)) 6 (F 56)) L im 3 from rfl) ?_
  refine z_aload_n (pc := 114) rfl dX1_takeOver_114 ?_
  refine zf_X1_31 (pc := 115) rfl rfl dX1_takeOver_115 ?_
  refine z_iconst (pc := 118) dX1_takeOver_118 ?_
  refine z_aload_n (pc := 119) rfl dX1_takeOver_119 ?_
  refine zf_X1_31 (pc := 120) rfl rfl dX1_takeOver_120 ?_
  refine z_iconst (pc := 123) dX1_takeOver_123 ?_
  refine z_aload_n (pc := 124) rfl dX1_takeOver_124 ?_
  refine zf_X1_31 (pc := 125) rfl rfl dX1_takeOver_125 ?_
  refine z_alen (pc := 128) rfl dX1_takeOver_128 ?_
  refine z_copy (pc := 129) (q0 := 57) (q1 := 7) (n2 := 240) (f := F 57) (f2 := F 7) ac_X1_40 rfl rfl (by decide) ⟨by decide, by decide⟩ (Nat.le_of_ble_eq_true rfl) dX1_takeOver_129 ?_
  refine z_hp (show _ = zk g (va_up (va_up (va_up (va_up (va_up (va_up (va_up F 1 (vf_upd (vf_upd (vf_upd (F 1) 0 (F 51 0)) 1 (F 51 1)) 2 (F 51 2))) 2 (F 52)) 3 (F 53)) 4 (F 54)) 5 (F 55)) 6 (F 56)) 7 (F 57)) L im 3 from rfl) ?_
  exact z_retv (pc := 132) rfl (by decide) (by decide) dX1_takeOver_132 ⟨rfl, rfl⟩
theorem c_take_3_58_1 : zM l g yX1_takeOver cX1_takeOver 2 none 1 0 0 [.ref (g.2.1 + 58), .ref (g.2.1 + 1)] (zk g (F) L im 3) (fun r h => r = none ∧ h = zk g (tko F 58 1) L im 3) := by
  refine zM_of 0 (by decide) rfl ?_
  show zJ l g RX1 cX1_takeOver 2 none "takeOver" (zRm 1 0 0) 0 0 _ 0 0 0 [some (.ref (g.2.1 + 58)), some (.ref (g.2.1 + 1))] [] _
  refine z_aload_n (pc := 0) rfl dX1_takeOver_0 ?_
  refine z_aload_n (pc := 1) rfl dX1_takeOver_1 ?_
  refine zf_X1_9 (pc := 2) rfl rfl dX1_takeOver_2 ?_
  refine zp_X1_9 (pc := 5) rfl (Nat.le_of_ble_eq_true rfl) dX1_takeOver_5 ?_
  refine z_hp (show _ = zk g (va_up F 58 (vf_upd (F 58) 0 (F 1 0))) L im 3 from rfl) ?_
  refine z_aload_n (pc := 8) rfl dX1_takeOver_8 ?_
  refine z_aload_n (pc := 9) rfl dX1_takeOver_9 ?_
  refine zf_X1_34 (pc := 10) rfl rfl dX1_takeOver_10 ?_
  refine zp_X1_34 (pc := 13) rfl (Nat.le_of_ble_eq_true rfl) dX1_takeOver_13 ?_
  refine z_hp (show _ = zk g (va_up F 58 (vf_upd (vf_upd (F 58) 0 (F 1 0)) 1 (F 1 1))) L im 3 from rfl) ?_
  refine z_aload_n (pc := 16) rfl dX1_takeOver_16 ?_
  refine z_aload_n (pc := 17) rfl dX1_takeOver_17 ?_
  refine zf_X1_37 (pc := 18) rfl rfl dX1_takeOver_18 ?_
  refine zp_X1_37 (pc := 21) rfl (Nat.le_of_ble_eq_true rfl) dX1_takeOver_21 ?_
  refine z_hp (show _ = zk g (va_up F 58 (vf_upd (vf_upd (vf_upd (F 58) 0 (F 1 0)) 1 (F 1 1)) 2 (F 1 2))) L im 3 from rfl) ?_
  refine z_aload_n (pc := 24) rfl dX1_takeOver_24 ?_
  refine zf_X1_15 (pc := 25) rfl rfl dX1_takeOver_25 ?_
  refine z_iconst (pc := 28) dX1_takeOver_28 ?_
  refine z_aload_n (pc := 29) rfl dX1_takeOver_29 ?_
  refine zf_X1_15 (pc := 30) rfl rfl dX1_takeOver_30 ?_
  refine z_iconst (pc := 33) dX1_takeOver_33 ?_
  refine z_aload_n (pc := 34) rfl dX1_takeOver_34 ?_
  refine zf_X1_15 (pc := 35) rfl rfl dX1_takeOver_35 ?_
  refine z_alen (pc := 38) rfl dX1_takeOver_38 ?_
  refine z_copy (pc := 39) (q0 := 2) (q1 := 59) (n2 := 3) (f := F 2) (f2 := F 59) ac_X1_40 rfl rfl (by decide) ⟨by decide, by decide⟩ (Nat.le_of_ble_eq_true rfl) dX1_takeOver_39 ?_
  refine z_hp (show _ = zk g (va_up (va_up F 58 (vf_upd (vf_upd (vf_upd (F 58) 0 (F 1 0)) 1 (F 1 1)) 2 (F 1 2))) 59 (F 2)) L im 3 from rfl) ?_
  refine z_aload_n (pc := 42) rfl dX1_takeOver_42 ?_
  refine zf_X1_19 (pc := 43) rfl rfl dX1_takeOver_43 ?_
  refine z_iconst (pc := 46) dX1_takeOver_46 ?_
  refine z_aload_n (pc := 47) rfl dX1_takeOver_47 ?_
  refine zf_X1_19 (pc := 48) rfl rfl dX1_takeOver_48 ?_
  refine z_iconst (pc := 51) dX1_takeOver_51 ?_
  refine z_aload_n (pc := 52) rfl dX1_takeOver_52 ?_
  refine zf_X1_19 (pc := 53) rfl rfl dX1_takeOver_53 ?_
  refine z_alen (pc := 56) rfl dX1_takeOver_56 ?_
  refine z_copy (pc := 57) (q0 := 3) (q1 := 60) (n2 := 6) (f := F 3) (f2 := F 60) ac_X1_40 rfl rfl (by decide) ⟨by decide, by decide⟩ (Nat.le_of_ble_eq_true rfl) dX1_takeOver_57 ?_
  refine z_hp (show _ = zk g (va_up (va_up (va_up F 58 (vf_upd (vf_upd (vf_upd (F 58) 0 (F 1 0)) 1 (F 1 1)) 2 (F 1 2))) 59 (F 2)) 60 (F 3)) L im 3 from rfl) ?_
  refine z_aload_n (pc := 60) rfl dX1_takeOver_60 ?_
  refine zf_X1_22 (pc := 61) rfl rfl dX1_takeOver_61 ?_
  refine z_iconst (pc := 64) dX1_takeOver_64 ?_
  refine z_aload_n (pc := 65) rfl dX1_takeOver_65 ?_
  refine zf_X1_22 (pc := 66) rfl rfl dX1_takeOver_66 ?_
  refine z_iconst (pc := 69) dX1_takeOver_69 ?_
  refine z_aload_n (pc := 70) rfl dX1_takeOver_70 ?_
  refine zf_X1_22 (pc := 71) rfl rfl dX1_takeOver_71 ?_
  refine z_alen (pc := 74) rfl dX1_takeOver_74 ?_
  refine z_copy (pc := 75) (q0 := 4) (q1 := 61) (n2 := 6) (f := F 4) (f2 := F 61) ac_X1_40 rfl rfl (by decide) ⟨by decide, by decide⟩ (Nat.le_of_ble_eq_true rfl) dX1_takeOver_75 ?_
  refine z_hp (show _ = zk g (va_up (va_up (va_up (va_up F 58 (vf_upd (vf_upd (vf_upd (F 58) 0 (F 1 0)) 1 (F 1 1)) 2 (F 1 2))) 59 (F 2)) 60 (F 3)) 61 (F 4)) L im 3 from rfl) ?_
  refine z_aload_n (pc := 78) rfl dX1_takeOver_78 ?_
  refine zf_X1_25 (pc := 79) rfl rfl dX1_takeOver_79 ?_
  refine z_iconst (pc := 82) dX1_takeOver_82 ?_
  refine z_aload_n (pc := 83) rfl dX1_takeOver_83 ?_
  refine zf_X1_25 (pc := 84) rfl rfl dX1_takeOver_84 ?_
  refine z_iconst (pc := 87) dX1_takeOver_87 ?_
  refine z_aload_n (pc := 88) rfl dX1_takeOver_88 ?_
  refine zf_X1_25 (pc := 89) rfl rfl dX1_takeOver_89 ?_
  refine z_alen (pc := 92) rfl dX1_takeOver_92 ?_
  refine z_copy (pc := 93) (q0 := 5) (q1 := 62) (n2 := 6) (f := F 5) (f2 := F 62) ac_X1_40 rfl rfl (by decide) ⟨by decide, by decide⟩ (Nat.le_of_ble_eq_true rfl) dX1_takeOver_93 ?_
  refine z_hp (show _ = zk g (va_up (va_up (va_up (va_up (va_up F 58 (vf_upd (vf_upd (vf_upd (F 58) 0 (F 1 0)) 1 (F 1 1)) 2 (F 1 2))) 59 (F 2)) 60 (F 3)) 61 (F 4)) 62 (F 5)) L im 3 from rfl) ?_
  refine z_aload_n (pc := 96) rfl dX1_takeOver_96 ?_
  refine zf_X1_28 (pc := 97) rfl rfl dX1_takeOver_97 ?_
  refine z_iconst (pc := 100) dX1_takeOver_100 ?_
  refine z_aload_n (pc := 101) rfl dX1_takeOver_101 ?_
  refine zf_X1_28 (pc := 102) rfl rfl dX1_takeOver_102 ?_
  refine z_iconst (pc := 105) dX1_takeOver_105 ?_
  refine z_aload_n (pc := 106) rfl dX1_takeOver_106 ?_
  refine zf_X1_28 (pc := 107) rfl rfl dX1_takeOver_107 ?_
  refine z_alen (pc := 110) rfl dX1_takeOver_110 ?_
  refine z_copy (pc := 111) (q0 := 6) (q1 := 63) (n2 := 480) (f := F 6) (f2 := F 63) ac_X1_40 rfl rfl (by decide) ⟨by decide, by decide⟩ (Nat.le_of_ble_eq_true rfl) dX1_takeOver_111 ?_
  refine z_hp (show _ = zk g (va_up (va_up (va_up (va_up (va_up (va_up F 58 (vf_upd (vf_upd (vf_upd (F 58) 0 (F 1 0)) 1 (F 1 1)) 2 (F 1 2))) 59 (F 2)) 60 (F 3)) 61 (F 4)) 62 (F 5)) 63 (F 6)) L im 3 from rfl) ?_
  refine z_aload_n (pc := 114) rfl dX1_takeOver_114 ?_
  refine zf_X1_31 (pc := 115) rfl rfl dX1_takeOver_115 ?_
  refine z_iconst (pc := 118) dX1_takeOver_118 ?_
  refine z_aload_n (pc := 119) rfl dX1_takeOver_119 ?_
  refine zf_X1_31 (pc := 120) rfl rfl dX1_takeOver_120 ?_
  refine z_iconst (pc := 123) dX1_takeOver_123 ?_
  refine z_aload_n (pc := 124) rfl dX1_takeOver_124 ?_
  refine zf_X1_31 (pc := 125) rfl rfl dX1_takeOver_125 ?_
  refine z_alen (pc := 128) rfl dX1_takeOver_128 ?_
  refine z_copy (pc := 129) (q0 := 7) (q1 := 64) (n2 := 240) (f := F 7) (f2 := F 64) ac_X1_40 rfl rfl (by decide) ⟨by decide, by decide⟩ (Nat.le_of_ble_eq_true rfl) dX1_takeOver_129 ?_
  refine z_hp (show _ = zk g (va_up (va_up (va_up (va_up (va_up (va_up (va_up F 58 (vf_upd (vf_upd (vf_upd (F 58) 0 (F 1 0)) 1 (F 1 1)) 2 (F 1 2))) 59 (F 2)) 60 (F 3)) 61 (F 4)) 62 (F 5)) 63 (F 6)) 64 (F 7)) L im 3 from rfl) ?_
  exact z_retv (pc := 132) rfl (by decide) (by decide) dX1_takeOver_132 ⟨rfl, rfl⟩
theorem c_take_3_1_58 : zM l g yX1_takeOver cX1_takeOver 2 none 1 0 0 [.ref (g.2.1 + 1), .ref (g.2.1 + 58)] (zk g (F) L im 3) (fun r h => r = none ∧ h = zk g (tko F 1 58) L im 3) := by
  refine zM_of 0 (by decide) rfl ?_
  show zJ l g RX1 cX1_takeOver 2 none "takeOver" (zRm 1 0 0) 0 0 _ 0 0 0 [some (.ref (g.2.1 + 1)), some (.ref (g.2.1 + 58))] [] _
  refine z_aload_n (pc := 0) rfl dX1_takeOver_0 ?_
  refine z_aload_n (pc := 1) rfl dX1_takeOver_1 ?_
  refine zf_X1_9 (pc := 2) rfl rfl dX1_takeOver_2 ?_
  refine zp_X1_9 (pc := 5) rfl (Nat.le_of_ble_eq_true rfl) dX1_takeOver_5 ?_
  refine z_hp (show _ = zk g (va_up F 1 (vf_upd (F 1) 0 (F 58 0))) L im 3 from rfl) ?_
  refine z_aload_n (pc := 8) rfl dX1_takeOver_8 ?_
  refine z_aload_n (pc := 9) rfl dX1_takeOver_9 ?_
  refine zf_X1_34 (pc := 10) rfl rfl dX1_takeOver_10 ?_
  refine zp_X1_34 (pc := 13) rfl (Nat.le_of_ble_eq_true rfl) dX1_takeOver_13 ?_
  refine z_hp (show _ = zk g (va_up F 1 (vf_upd (vf_upd (F 1) 0 (F 58 0)) 1 (F 58 1))) L im 3 from rfl) ?_
  refine z_aload_n (pc := 16) rfl dX1_takeOver_16 ?_
  refine z_aload_n (pc := 17) rfl dX1_takeOver_17 ?_
  refine zf_X1_37 (pc := 18) rfl rfl dX1_takeOver_18 ?_
  refine zp_X1_37 (pc := 21) rfl (Nat.le_of_ble_eq_true rfl) dX1_takeOver_21 ?_
  refine z_hp (show _ = zk g (va_up F 1 (vf_upd (vf_upd (vf_upd (F 1) 0 (F 58 0)) 1 (F 58 1)) 2 (F 58 2))) L im 3 from rfl) ?_
  refine z_aload_n (pc := 24) rfl dX1_takeOver_24 ?_
  refine zf_X1_15 (pc := 25) rfl rfl dX1_takeOver_25 ?_
  refine z_iconst (pc := 28) dX1_takeOver_28 ?_
  refine z_aload_n (pc := 29) rfl dX1_takeOver_29 ?_
  refine zf_X1_15 (pc := 30) rfl rfl dX1_takeOver_30 ?_
  refine z_iconst (pc := 33) dX1_takeOver_33 ?_
  refine z_aload_n (pc := 34) rfl dX1_takeOver_34 ?_
  refine zf_X1_15 (pc := 35) rfl rfl dX1_takeOver_35 ?_
  refine z_alen (pc := 38) rfl dX1_takeOver_38 ?_
  refine z_copy (pc := 39) (q0 := 59) (q1 := 2) (n2 := 3) (f := F 59) (f2 := F 2) ac_X1_40 rfl rfl (by decide) ⟨by decide, by decide⟩ (Nat.le_of_ble_eq_true rfl) dX1_takeOver_39 ?_
  refine z_hp (show _ = zk g (va_up (va_up F 1 (vf_upd (vf_upd (vf_upd (F 1) 0 (F 58 0)) 1 (F 58 1)) 2 (F 58 2))) 2 (F 59)) L im 3 from rfl) ?_
  refine z_aload_n (pc := 42) rfl dX1_takeOver_42 ?_
  refine zf_X1_19 (pc := 43) rfl rfl dX1_takeOver_43 ?_
  refine z_iconst (pc := 46) dX1_takeOver_46 ?_
  refine z_aload_n (pc := 47) rfl dX1_takeOver_47 ?_
  refine zf_X1_19 (pc := 48) rfl rfl dX1_takeOver_48 ?_
  refine z_iconst (pc := 51) dX1_takeOver_51 ?_
  refine z_aload_n (pc := 52) rfl dX1_takeOver_52 ?_
  refine zf_X1_19 (pc := 53) rfl rfl dX1_takeOver_53 ?_
  refine z_alen (pc := 56) rfl dX1_takeOver_56 ?_
  refine z_copy (pc := 57) (q0 := 60) (q1 := 3) (n2 := 6) (f := F 60) (f2 := F 3) ac_X1_40 rfl rfl (by decide) ⟨by decide, by decide⟩ (Nat.le_of_ble_eq_true rfl) dX1_takeOver_57 ?_
  refine z_hp (show _ = zk g (va_up (va_up (va_up F 1 (vf_upd (vf_upd (vf_upd (F 1) 0 (F 58 0)) 1 (F 58 1)) 2 (F 58 2))) 2 (F 59)) 3 (F 60)) L im 3 from rfl) ?_
  refine z_aload_n (pc := 60) rfl dX1_takeOver_60 ?_
  refine zf_X1_22 (pc := 61) rfl rfl dX1_takeOver_61 ?_
  refine z_iconst (pc := 64) dX1_takeOver_64 ?_
  refine z_aload_n (pc := 65) rfl dX1_takeOver_65 ?_
  refine zf_X1_22 (pc := 66) rfl rfl dX1_takeOver_66 ?_
  refine z_iconst (pc := 69) dX1_takeOver_69 ?_
  refine z_aload_n (pc := 70) rfl dX1_takeOver_70 ?_
  refine zf_X1_22 (pc := 71) rfl rfl dX1_takeOver_71 ?_
  refine z_alen (pc := 74) rfl dX1_takeOver_74 ?_
  refine z_copy (pc := 75) (q0 := 61) (q1 := 4) (n2 := 6) (f := F 61) (f2 := F 4) ac_X1_40 rfl rfl (by decide) ⟨by decide, by decide⟩ (Nat.le_of_ble_eq_true rfl) dX1_takeOver_75 ?_
  refine z_hp (show _ = zk g (va_up (va_up (va_up (va_up F 1 (vf_upd (vf_upd (vf_upd (F 1) 0 (F 58 0)) 1 (F 58 1)) 2 (F 58 2))) 2 (F 59)) 3 (F 60)) 4 (F 61)) L im 3 from rfl) ?_
  refine z_aload_n (pc := 78) rfl dX1_takeOver_78 ?_
  refine zf_X1_25 (pc := 79) rfl rfl dX1_takeOver_79 ?_
  refine z_iconst (pc := 82) dX1_takeOver_82 ?_
  refine z_aload_n (pc := 83) rfl dX1_takeOver_83 ?_
  refine zf_X1_25 (pc := 84) rfl rfl dX1_takeOver_84 ?_
  refine z_iconst (pc := 87) dX1_takeOver_87 ?_
  refine z_aload_n (pc := 88) rfl dX1_takeOver_88 ?_
  refine zf_X1_25 (pc := 89) rfl rfl dX1_takeOver_89 ?_
  refine z_alen (pc := 92) rfl dX1_takeOver_92 ?_
  refine z_copy (pc := 93) (q0 := 62) (q1 := 5) (n2 := 6) (f := F 62) (f2 := F 5) ac_X1_40 rfl rfl (by decide) ⟨by decide, by decide⟩ (Nat.le_of_ble_eq_true rfl) dX1_takeOver_93 ?_
  refine z_hp (show _ = zk g (va_up (va_up (va_up (va_up (va_up F 1 (vf_upd (vf_upd (vf_upd (F 1) 0 (F 58 0)) 1 (F 58 1)) 2 (F 58 2))) 2 (F 59)) 3 (F 60)) 4 (F 61)) 5 (F 62)) L im 3 from rfl) ?_
  refine z_aload_n (pc := 96) rfl dX1_takeOver_96 ?_
  refine zf_X1_28 (pc := 97) rfl rfl dX1_takeOver_97 ?_
  refine z_iconst (pc := 100) dX1_takeOver_100 ?_
  refine z_aload_n (pc := 101) rfl dX1_takeOver_101 ?_
  refine zf_X1_28 (pc := 102) rfl rfl dX1_takeOver_102 ?_
  refine z_iconst (pc := 105) dX1_takeOver_105 ?_
  refine z_aload_n (pc := 106) rfl dX1_takeOver_106 ?_
  refine zf_X1_28 (pc := 107) rfl rfl dX1_takeOver_107 ?_
  refine z_alen (pc := 110) rfl dX1_takeOver_110 ?_
  refine z_copy (pc := 111) (q0 := 63) (q1 := 6) (n2 := 480) (f := F 63) (f2 := F 6) ac_X1_40 rfl rfl (by decide) ⟨by decide, by decide⟩ (Nat.le_of_ble_eq_true rfl) dX1_takeOver_111 ?_
  refine z_hp (show _ = zk g (va_up (va_up (va_up (va_up (va_up (va_up F 1 (vf_upd (vf_upd (vf_upd (F 1) 0 (F 58 0)) 1 (F 58 1)) 2 (F 58 2))) 2 (F 59)) 3 (F 60)) 4 (F 61)) 5 (F 62)) 6 (F 63)) L im 3 from rfl) ?_
  refine z_aload_n (pc := 114) rfl dX1_takeOver_114 ?_
  refine zf_X1_31 (pc := 115) rfl rfl dX1_takeOver_115 ?_
  refine z_iconst (pc := 118) dX1_takeOver_118 ?_
  refine z_aload_n (pc := 119) rfl dX1_takeOver_119 ?_
  refine zf_X1_31 (pc := 120) rfl rfl dX1_takeOver_120 ?_
  refine z_iconst (pc := 123) dX1_takeOver_123 ?_
  refine z_aload_n (pc := 124) rfl dX1_takeOver_124 ?_
  refine zf_X1_31 (pc := 125) rfl rfl dX1_takeOver_125 ?_
  refine z_alen (pc := 128) rfl dX1_takeOver_128 ?_
  refine z_copy (pc := 129) (q0 := 64) (q1 := 7) (n2 := 240) (f := F 64) (f2 := F 7) ac_X1_40 rfl rfl (by decide) ⟨by decide, by decide⟩ (Nat.le_of_ble_eq_true rfl) dX1_takeOver_129 ?_
  refine z_hp (show _ = zk g (va_up (va_up (va_up (va_up (va_up (va_up (va_up F 1 (vf_upd (vf_upd (vf_upd (F 1) 0 (F 58 0)) 1 (F 58 1)) 2 (F 58 2))) 2 (F 59)) 3 (F 60)) 4 (F 61)) 5 (F 62)) 6 (F 63)) 7 (F 64)) L im 3 from rfl) ?_
  exact z_retv (pc := 132) rfl (by decide) (by decide) dX1_takeOver_132 ⟨rfl, rfl⟩
theorem c_image_no {c : Nat} {z : Int} (hz : ir z) (hno : ¬ (0 ≤ z ∧ z ≤ 2)) : zM l g yX4_image cX4_image 2 (some .boolean) 2 7 750 [.ref (g.2.1 + 0), .int (iz z)] (zk g F L im c) (fun r h => r = some (.int (iz 0)) ∧ h = zk g F L im c) := by
  refine zM_of 0 (by decide) rfl ?_
  show zJ l g RX4 cX4_image 2 (some .boolean) "image" (zRm 2 7 750) 7 750 _ 0 0 0 [some (.ref (g.2.1 + 0)), some (.int (iz z))] [] _
  have no : zJ l g RX4 cX4_image 2 (some .boolean) "image" (zRm 2 7 750) 7 750 (fun r h => r = some (.int (iz 0)) ∧ h = zk g F L im c) 0 0 9 [some (.ref (g.2.1 + 0)), some (.int (iz z))] [] (zk g F L im c) := by
    refine z_iconst (pc := 9) dX4_image_9 ?_
    exact z_retz (pc := 10) rfl (Or.inl rfl) (by decide) (by decide) dX4_image_10 ⟨rfl, rfl⟩
  refine z_iload_n (pc := 0) rfl dX4_image_0 ?_
  refine z_if_lt (pc := 1) hz 9 (by decide) dX4_image_1 (fun hq => ?_) (fun hq => ?_)
  · exact no
  refine z_iload_n (pc := 4) rfl dX4_image_4 ?_
  refine z_iconst (pc := 5) dX4_image_5 ?_
  refine z_icmp_lt (pc := 6) hz ⟨by omega, by omega⟩ 11 (by decide) dX4_image_6 (fun hq => ?_) (fun hq => ?_)
  · omega
  exact no
theorem c_image_old_1_0 {k : Nat} (hk : k < 3) (him : im k = some (g.2.1 + 44)) : zM l g yX4_image cX4_image 2 (some .boolean) 2 7 750 [.ref (g.2.1 + 0), .int (iz k)] (zk g F L im 1) (fun r h => r = some (.int (iz 1)) ∧ h = zk g (tko F 44 1) L im 1) := by
  refine zM_of 0 (by decide) rfl ?_
  show zJ l g RX4 cX4_image 2 (some .boolean) "image" (zRm 2 7 750) 7 750 _ 0 0 0 [some (.ref (g.2.1 + 0)), some (.int (iz k))] [] _
  refine z_iload_n (pc := 0) rfl dX4_image_0 ?_
  refine z_if_lt (pc := 1) ⟨by omega, by omega⟩ 9 (by decide) dX4_image_1 (fun hq => ?_) (fun hq => ?_)
  · omega
  refine z_iload_n (pc := 4) rfl dX4_image_4 ?_
  refine z_iconst (pc := 5) dX4_image_5 ?_
  refine z_icmp_lt (pc := 6) ⟨by omega, by omega⟩ ⟨by omega, by omega⟩ 11 (by decide) dX4_image_6 (fun hq => ?_) (fun hq => ?_)
  rotate_left
  · omega
  refine z_aload_n (pc := 11) rfl dX4_image_11 ?_
  refine zf_X4_16 (pc := 12) rfl rfl dX4_image_12 ?_
  refine z_iload_n (pc := 15) rfl dX4_image_15 ?_
  refine z_aald (pc := 16) rfl (by decide) (by omega) (by omega) dX4_image_16 ?_
  rw [Int.toNat_natCast, him]
  refine z_ifnn (pc := 17) (x := g.2.1 + 44) 33 (by decide) dX4_image_17 ?_
  refine z_aload_n (pc := 33) rfl dX4_image_33 ?_
  refine zf_X4_16 (pc := 34) rfl rfl dX4_image_34 ?_
  refine z_iload_n (pc := 37) rfl dX4_image_37 ?_
  refine z_aald (pc := 38) rfl (by decide) (by omega) (by omega) dX4_image_38 ?_
  rw [Int.toNat_natCast, him]
  refine z_rf ?_
  refine z_aload_n (pc := 39) rfl dX4_image_39 ?_
  refine zf_X4_10 (pc := 40) rfl rfl dX4_image_40 ?_
  refine z_V1 (pc := 43) (c_take_1_44_1) lk_X4_153 iv_X1_takeOver rfl rfl ⟨by decide, by decide⟩ (Nat.le_of_ble_eq_true rfl) ⟨by decide, by decide⟩ dX4_image_43 (fun r h9 hq => ?_)
  obtain ⟨rfl, e9⟩ := hq
  rw [e9]
  clear e9 h9
  refine z_r0 ?_
  refine z_iconst (pc := 46) dX4_image_46 ?_
  exact z_retz (pc := 47) rfl (Or.inr rfl) (Nat.le_of_ble_eq_true rfl) (Nat.le_of_ble_eq_true rfl) dX4_image_47 ⟨rfl, rfl⟩
theorem c_image_old_2_0 {k : Nat} (hk : k < 3) (him : im k = some (g.2.1 + 44)) : zM l g yX4_image cX4_image 2 (some .boolean) 2 7 750 [.ref (g.2.1 + 0), .int (iz k)] (zk g F L im 2) (fun r h => r = some (.int (iz 1)) ∧ h = zk g (tko F 44 1) L im 2) := by
  refine zM_of 0 (by decide) rfl ?_
  show zJ l g RX4 cX4_image 2 (some .boolean) "image" (zRm 2 7 750) 7 750 _ 0 0 0 [some (.ref (g.2.1 + 0)), some (.int (iz k))] [] _
  refine z_iload_n (pc := 0) rfl dX4_image_0 ?_
  refine z_if_lt (pc := 1) ⟨by omega, by omega⟩ 9 (by decide) dX4_image_1 (fun hq => ?_) (fun hq => ?_)
  · omega
  refine z_iload_n (pc := 4) rfl dX4_image_4 ?_
  refine z_iconst (pc := 5) dX4_image_5 ?_
  refine z_icmp_lt (pc := 6) ⟨by omega, by omega⟩ ⟨by omega, by omega⟩ 11 (by decide) dX4_image_6 (fun hq => ?_) (fun hq => ?_)
  rotate_left
  · omega
  refine z_aload_n (pc := 11) rfl dX4_image_11 ?_
  refine zf_X4_16 (pc := 12) rfl rfl dX4_image_12 ?_
  refine z_iload_n (pc := 15) rfl dX4_image_15 ?_
  refine z_aald (pc := 16) rfl (by decide) (by omega) (by omega) dX4_image_16 ?_
  rw [Int.toNat_natCast, him]
  refine z_ifnn (pc := 17) (x := g.2.1 + 44) 33 (by decide) dX4_image_17 ?_
  refine z_aload_n (pc := 33) rfl dX4_image_33 ?_
  refine zf_X4_16 (pc := 34) rfl rfl dX4_image_34 ?_
  refine z_iload_n (pc := 37) rfl dX4_image_37 ?_
  refine z_aald (pc := 38) rfl (by decide) (by omega) (by omega) dX4_image_38 ?_
  rw [Int.toNat_natCast, him]
  refine z_rf ?_
  refine z_aload_n (pc := 39) rfl dX4_image_39 ?_
  refine zf_X4_10 (pc := 40) rfl rfl dX4_image_40 ?_
  refine z_V1 (pc := 43) (c_take_2_44_1) lk_X4_153 iv_X1_takeOver rfl rfl ⟨by decide, by decide⟩ (Nat.le_of_ble_eq_true rfl) ⟨by decide, by decide⟩ dX4_image_43 (fun r h9 hq => ?_)
  obtain ⟨rfl, e9⟩ := hq
  rw [e9]
  clear e9 h9
  refine z_r0 ?_
  refine z_iconst (pc := 46) dX4_image_46 ?_
  exact z_retz (pc := 47) rfl (Or.inr rfl) (Nat.le_of_ble_eq_true rfl) (Nat.le_of_ble_eq_true rfl) dX4_image_47 ⟨rfl, rfl⟩
theorem c_image_old_2_1 {k : Nat} (hk : k < 3) (him : im k = some (g.2.1 + 51)) : zM l g yX4_image cX4_image 2 (some .boolean) 2 7 750 [.ref (g.2.1 + 0), .int (iz k)] (zk g F L im 2) (fun r h => r = some (.int (iz 1)) ∧ h = zk g (tko F 51 1) L im 2) := by
  refine zM_of 0 (by decide) rfl ?_
  show zJ l g RX4 cX4_image 2 (some .boolean) "image" (zRm 2 7 750) 7 750 _ 0 0 0 [some (.ref (g.2.1 + 0)), some (.int (iz k))] [] _
  refine z_iload_n (pc := 0) rfl dX4_image_0 ?_
  refine z_if_lt (pc := 1) ⟨by omega, by omega⟩ 9 (by decide) dX4_image_1 (fun hq => ?_) (fun hq => ?_)
  · omega
  refine z_iload_n (pc := 4) rfl dX4_image_4 ?_
  refine z_iconst (pc := 5) dX4_image_5 ?_
  refine z_icmp_lt (pc := 6) ⟨by omega, by omega⟩ ⟨by omega, by omega⟩ 11 (by decide) dX4_image_6 (fun hq => ?_) (fun hq => ?_)
  rotate_left
  · omega
  refine z_aload_n (pc := 11) rfl dX4_image_11 ?_
  refine zf_X4_16 (pc := 12) rfl rfl dX4_image_12 ?_
  refine z_iload_n (pc := 15) rfl dX4_image_15 ?_
  refine z_aald (pc := 16) rfl (by decide) (by omega) (by omega) dX4_image_16 ?_
  rw [Int.toNat_natCast, him]
  refine z_ifnn (pc := 17) (x := g.2.1 + 51) 33 (by decide) dX4_image_17 ?_
  refine z_aload_n (pc := 33) rfl dX4_image_33 ?_
  refine zf_X4_16 (pc := 34) rfl rfl dX4_image_34 ?_
  refine z_iload_n (pc := 37) rfl dX4_image_37 ?_
  refine z_aald (pc := 38) rfl (by decide) (by omega) (by omega) dX4_image_38 ?_
  rw [Int.toNat_natCast, him]
  refine z_rf ?_
  refine z_aload_n (pc := 39) rfl dX4_image_39 ?_
  refine zf_X4_10 (pc := 40) rfl rfl dX4_image_40 ?_
  refine z_V1 (pc := 43) (c_take_2_51_1) lk_X4_153 iv_X1_takeOver rfl rfl ⟨by decide, by decide⟩ (Nat.le_of_ble_eq_true rfl) ⟨by decide, by decide⟩ dX4_image_43 (fun r h9 hq => ?_)
  obtain ⟨rfl, e9⟩ := hq
  rw [e9]
  clear e9 h9
  refine z_r0 ?_
  refine z_iconst (pc := 46) dX4_image_46 ?_
  exact z_retz (pc := 47) rfl (Or.inr rfl) (Nat.le_of_ble_eq_true rfl) (Nat.le_of_ble_eq_true rfl) dX4_image_47 ⟨rfl, rfl⟩
theorem c_image_old_3_0 {k : Nat} (hk : k < 3) (him : im k = some (g.2.1 + 44)) : zM l g yX4_image cX4_image 2 (some .boolean) 2 7 750 [.ref (g.2.1 + 0), .int (iz k)] (zk g F L im 3) (fun r h => r = some (.int (iz 1)) ∧ h = zk g (tko F 44 1) L im 3) := by
  refine zM_of 0 (by decide) rfl ?_
  show zJ l g RX4 cX4_image 2 (some .boolean) "image" (zRm 2 7 750) 7 750 _ 0 0 0 [some (.ref (g.2.1 + 0)), some (.int (iz k))] [] _
  refine z_iload_n (pc := 0) rfl dX4_image_0 ?_
  refine z_if_lt (pc := 1) ⟨by omega, by omega⟩ 9 (by decide) dX4_image_1 (fun hq => ?_) (fun hq => ?_)
  · omega
  refine z_iload_n (pc := 4) rfl dX4_image_4 ?_
  refine z_iconst (pc := 5) dX4_image_5 ?_
  refine z_icmp_lt (pc := 6) ⟨by omega, by omega⟩ ⟨by omega, by omega⟩ 11 (by decide) dX4_image_6 (fun hq => ?_) (fun hq => ?_)
  rotate_left
  · omega
  refine z_aload_n (pc := 11) rfl dX4_image_11 ?_
  refine zf_X4_16 (pc := 12) rfl rfl dX4_image_12 ?_
  refine z_iload_n (pc := 15) rfl dX4_image_15 ?_
  refine z_aald (pc := 16) rfl (by decide) (by omega) (by omega) dX4_image_16 ?_
  rw [Int.toNat_natCast, him]
  refine z_ifnn (pc := 17) (x := g.2.1 + 44) 33 (by decide) dX4_image_17 ?_
  refine z_aload_n (pc := 33) rfl dX4_image_33 ?_
  refine zf_X4_16 (pc := 34) rfl rfl dX4_image_34 ?_
  refine z_iload_n (pc := 37) rfl dX4_image_37 ?_
  refine z_aald (pc := 38) rfl (by decide) (by omega) (by omega) dX4_image_38 ?_
  rw [Int.toNat_natCast, him]
  refine z_rf ?_
  refine z_aload_n (pc := 39) rfl dX4_image_39 ?_
  refine zf_X4_10 (pc := 40) rfl rfl dX4_image_40 ?_
  refine z_V1 (pc := 43) (c_take_3_44_1) lk_X4_153 iv_X1_takeOver rfl rfl ⟨by decide, by decide⟩ (Nat.le_of_ble_eq_true rfl) ⟨by decide, by decide⟩ dX4_image_43 (fun r h9 hq => ?_)
  obtain ⟨rfl, e9⟩ := hq
  rw [e9]
  clear e9 h9
  refine z_r0 ?_
  refine z_iconst (pc := 46) dX4_image_46 ?_
  exact z_retz (pc := 47) rfl (Or.inr rfl) (Nat.le_of_ble_eq_true rfl) (Nat.le_of_ble_eq_true rfl) dX4_image_47 ⟨rfl, rfl⟩
theorem c_image_old_3_1 {k : Nat} (hk : k < 3) (him : im k = some (g.2.1 + 51)) : zM l g yX4_image cX4_image 2 (some .boolean) 2 7 750 [.ref (g.2.1 + 0), .int (iz k)] (zk g F L im 3) (fun r h => r = some (.int (iz 1)) ∧ h = zk g (tko F 51 1) L im 3) := by
  refine zM_of 0 (by decide) rfl ?_
  show zJ l g RX4 cX4_image 2 (some .boolean) "image" (zRm 2 7 750) 7 750 _ 0 0 0 [some (.ref (g.2.1 + 0)), some (.int (iz k))] [] _
  refine z_iload_n (pc := 0) rfl dX4_image_0 ?_
  refine z_if_lt (pc := 1) ⟨by omega, by omega⟩ 9 (by decide) dX4_image_1 (fun hq => ?_) (fun hq => ?_)
  · omega
  refine z_iload_n (pc := 4) rfl dX4_image_4 ?_
  refine z_iconst (pc := 5) dX4_image_5 ?_
  refine z_icmp_lt (pc := 6) ⟨by omega, by omega⟩ ⟨by omega, by omega⟩ 11 (by decide) dX4_image_6 (fun hq => ?_) (fun hq => ?_)
  rotate_left
  · omega
  refine z_aload_n (pc := 11) rfl dX4_image_11 ?_
  refine zf_X4_16 (pc := 12) rfl rfl dX4_image_12 ?_
  refine z_iload_n (pc := 15) rfl dX4_image_15 ?_
  refine z_aald (pc := 16) rfl (by decide) (by omega) (by omega) dX4_image_16 ?_
  rw [Int.toNat_natCast, him]
  refine z_ifnn (pc := 17) (x := g.2.1 + 51) 33 (by decide) dX4_image_17 ?_
  refine z_aload_n (pc := 33) rfl dX4_image_33 ?_
  refine zf_X4_16 (pc := 34) rfl rfl dX4_image_34 ?_
  refine z_iload_n (pc := 37) rfl dX4_image_37 ?_
  refine z_aald (pc := 38) rfl (by decide) (by omega) (by omega) dX4_image_38 ?_
  rw [Int.toNat_natCast, him]
  refine z_rf ?_
  refine z_aload_n (pc := 39) rfl dX4_image_39 ?_
  refine zf_X4_10 (pc := 40) rfl rfl dX4_image_40 ?_
  refine z_V1 (pc := 43) (c_take_3_51_1) lk_X4_153 iv_X1_takeOver rfl rfl ⟨by decide, by decide⟩ (Nat.le_of_ble_eq_true rfl) ⟨by decide, by decide⟩ dX4_image_43 (fun r h9 hq => ?_)
  obtain ⟨rfl, e9⟩ := hq
  rw [e9]
  clear e9 h9
  refine z_r0 ?_
  refine z_iconst (pc := 46) dX4_image_46 ?_
  exact z_retz (pc := 47) rfl (Or.inr rfl) (Nat.le_of_ble_eq_true rfl) (Nat.le_of_ble_eq_true rfl) dX4_image_47 ⟨rfl, rfl⟩
theorem c_image_old_3_2 {k : Nat} (hk : k < 3) (him : im k = some (g.2.1 + 58)) : zM l g yX4_image cX4_image 2 (some .boolean) 2 7 750 [.ref (g.2.1 + 0), .int (iz k)] (zk g F L im 3) (fun r h => r = some (.int (iz 1)) ∧ h = zk g (tko F 58 1) L im 3) := by
  refine zM_of 0 (by decide) rfl ?_
  show zJ l g RX4 cX4_image 2 (some .boolean) "image" (zRm 2 7 750) 7 750 _ 0 0 0 [some (.ref (g.2.1 + 0)), some (.int (iz k))] [] _
  refine z_iload_n (pc := 0) rfl dX4_image_0 ?_
  refine z_if_lt (pc := 1) ⟨by omega, by omega⟩ 9 (by decide) dX4_image_1 (fun hq => ?_) (fun hq => ?_)
  · omega
  refine z_iload_n (pc := 4) rfl dX4_image_4 ?_
  refine z_iconst (pc := 5) dX4_image_5 ?_
  refine z_icmp_lt (pc := 6) ⟨by omega, by omega⟩ ⟨by omega, by omega⟩ 11 (by decide) dX4_image_6 (fun hq => ?_) (fun hq => ?_)
  rotate_left
  · omega
  refine z_aload_n (pc := 11) rfl dX4_image_11 ?_
  refine zf_X4_16 (pc := 12) rfl rfl dX4_image_12 ?_
  refine z_iload_n (pc := 15) rfl dX4_image_15 ?_
  refine z_aald (pc := 16) rfl (by decide) (by omega) (by omega) dX4_image_16 ?_
  rw [Int.toNat_natCast, him]
  refine z_ifnn (pc := 17) (x := g.2.1 + 58) 33 (by decide) dX4_image_17 ?_
  refine z_aload_n (pc := 33) rfl dX4_image_33 ?_
  refine zf_X4_16 (pc := 34) rfl rfl dX4_image_34 ?_
  refine z_iload_n (pc := 37) rfl dX4_image_37 ?_
  refine z_aald (pc := 38) rfl (by decide) (by omega) (by omega) dX4_image_38 ?_
  rw [Int.toNat_natCast, him]
  refine z_rf ?_
  refine z_aload_n (pc := 39) rfl dX4_image_39 ?_
  refine zf_X4_10 (pc := 40) rfl rfl dX4_image_40 ?_
  refine z_V1 (pc := 43) (c_take_3_58_1) lk_X4_153 iv_X1_takeOver rfl rfl ⟨by decide, by decide⟩ (Nat.le_of_ble_eq_true rfl) ⟨by decide, by decide⟩ dX4_image_43 (fun r h9 hq => ?_)
  obtain ⟨rfl, e9⟩ := hq
  rw [e9]
  clear e9 h9
  refine z_r0 ?_
  refine z_iconst (pc := 46) dX4_image_46 ?_
  exact z_retz (pc := 47) rfl (Or.inr rfl) (Nat.le_of_ble_eq_true rfl) (Nat.le_of_ble_eq_true rfl) dX4_image_47 ⟨rfl, rfl⟩
theorem c_image_new_0 {k : Nat} (hk : k < 3) (him : im k = none) : zM l g yX4_image cX4_image 2 (some .boolean) 2 7 750 [.ref (g.2.1 + 0), .int (iz k)] (zk g F L im 0) (fun r h => r = some (.int (iz 1)) ∧ h = zk g (tko (nbk F 44) 44 1) L (vf_upd im k (some (g.2.1 + 44))) 1) := by
  refine zM_of 0 (by decide) rfl ?_
  show zJ l g RX4 cX4_image 2 (some .boolean) "image" (zRm 2 7 750) 7 750 _ 0 0 0 [some (.ref (g.2.1 + 0)), some (.int (iz k))] [] _
  refine z_iload_n (pc := 0) rfl dX4_image_0 ?_
  refine z_if_lt (pc := 1) ⟨by omega, by omega⟩ 9 (by decide) dX4_image_1 (fun hq => ?_) (fun hq => ?_)
  · omega
  refine z_iload_n (pc := 4) rfl dX4_image_4 ?_
  refine z_iconst (pc := 5) dX4_image_5 ?_
  refine z_icmp_lt (pc := 6) ⟨by omega, by omega⟩ ⟨by omega, by omega⟩ 11 (by decide) dX4_image_6 (fun hq => ?_) (fun hq => ?_)
  rotate_left
  · omega
  refine z_aload_n (pc := 11) rfl dX4_image_11 ?_
  refine zf_X4_16 (pc := 12) rfl rfl dX4_image_12 ?_
  refine z_iload_n (pc := 15) rfl dX4_image_15 ?_
  refine z_aald (pc := 16) rfl (by decide) (by omega) (by omega) dX4_image_16 ?_
  rw [Int.toNat_natCast, him]
  refine z_ifnnN (pc := 17) dX4_image_17 ?_
  refine z_aload_n (pc := 20) rfl dX4_image_20 ?_
  refine zf_X4_16 (pc := 21) rfl rfl dX4_image_21 ?_
  refine z_iload_n (pc := 24) rfl dX4_image_24 ?_
  refine z_new (pc := 25) (C := RX1) (T := TX1) (N := 9) (ci := 1) zin_X1 tyX1 tyX1_ok rfl cl_X4_7 nw_X1 nwi_X1 (fs := [.int (iz 0), .int (iz 0), .int (iz 0), .null, .null, .null, .null, .null, .null]) (by decide +kernel) ⟨Nat.le_of_ble_eq_true rfl, Nat.le_of_ble_eq_true rfl⟩ dX4_image_25 ?_
  refine z_topR (show _ = 44 from rfl) ?_
  refine z_dup (pc := 28) rfl dX4_image_28 ?_
  refine z_I0 (pc := 29) (q0 := 44) (c_init_X1 (h := zk g F L im 0)) lk_X4_9 in_X1_init rfl ⟨by decide, by decide⟩ (Nat.le_of_ble_eq_true rfl) ⟨Nat.le_of_ble_eq_true rfl, Nat.le_of_ble_eq_true rfl⟩ dX4_image_29 (fun r h9 hq => ?_)
  obtain ⟨rfl, e9⟩ := hq
  rw [e9]
  clear e9 h9
  refine z_r0 ?_
  refine z_hp (show _ = zk g (nbk F 44) L im 1 from rfl) ?_
  refine z_aast (pc := 32) (q0 := 8) (q1 := 44) rfl rfl (by decide) (by omega) (by omega) dX4_image_32 ?_
  rw [Int.toNat_natCast]
  refine z_hp zs_8 ?_
  refine z_aload_n (pc := 33) rfl dX4_image_33 ?_
  refine zf_X4_16 (pc := 34) rfl rfl dX4_image_34 ?_
  refine z_iload_n (pc := 37) rfl dX4_image_37 ?_
  refine z_aald (pc := 38) rfl (by decide) (by omega) (by omega) dX4_image_38 ?_
  rw [Int.toNat_natCast, show vf_upd im k (some (g.2.1 + 44)) k = some (g.2.1 + 44) by unfold vf_upd; rw [if_pos rfl]]
  refine z_rf ?_
  refine z_aload_n (pc := 39) rfl dX4_image_39 ?_
  refine zf_X4_10 (pc := 40) rfl rfl dX4_image_40 ?_
  refine z_V1 (pc := 43) (c_take_1_44_1 (F := nbk F 44) (im := vf_upd im k (some (g.2.1 + 44)))) lk_X4_153 iv_X1_takeOver rfl rfl ⟨by decide, by decide⟩ (Nat.le_of_ble_eq_true rfl) ⟨by decide, by decide⟩ dX4_image_43 (fun r h9 hq => ?_)
  obtain ⟨rfl, e9⟩ := hq
  rw [e9]
  clear e9 h9
  refine z_r0 ?_
  refine z_iconst (pc := 46) dX4_image_46 ?_
  exact z_retz (pc := 47) rfl (Or.inr rfl) (Nat.le_of_ble_eq_true rfl) (Nat.le_of_ble_eq_true rfl) dX4_image_47 ⟨rfl, rfl⟩
theorem c_image_new_1 {k : Nat} (hk : k < 3) (him : im k = none) : zM l g yX4_image cX4_image 2 (some .boolean) 2 7 750 [.ref (g.2.1 + 0), .int (iz k)] (zk g F L im 1) (fun r h => r = some (.int (iz 1)) ∧ h = zk g (tko (nbk F 51) 51 1) L (vf_upd im k (some (g.2.1 + 51))) 2) := by
  refine zM_of 0 (by decide) rfl ?_
  show zJ l g RX4 cX4_image 2 (some .boolean) "image" (zRm 2 7 750) 7 750 _ 0 0 0 [some (.ref (g.2.1 + 0)), some (.int (iz k))] [] _
  refine z_iload_n (pc := 0) rfl dX4_image_0 ?_
  refine z_if_lt (pc := 1) ⟨by omega, by omega⟩ 9 (by decide) dX4_image_1 (fun hq => ?_) (fun hq => ?_)
  · omega
  refine z_iload_n (pc := 4) rfl dX4_image_4 ?_
  refine z_iconst (pc := 5) dX4_image_5 ?_
  refine z_icmp_lt (pc := 6) ⟨by omega, by omega⟩ ⟨by omega, by omega⟩ 11 (by decide) dX4_image_6 (fun hq => ?_) (fun hq => ?_)
  rotate_left
  · omega
  refine z_aload_n (pc := 11) rfl dX4_image_11 ?_
  refine zf_X4_16 (pc := 12) rfl rfl dX4_image_12 ?_
  refine z_iload_n (pc := 15) rfl dX4_image_15 ?_
  refine z_aald (pc := 16) rfl (by decide) (by omega) (by omega) dX4_image_16 ?_
  rw [Int.toNat_natCast, him]
  refine z_ifnnN (pc := 17) dX4_image_17 ?_
  refine z_aload_n (pc := 20) rfl dX4_image_20 ?_
  refine zf_X4_16 (pc := 21) rfl rfl dX4_image_21 ?_
  refine z_iload_n (pc := 24) rfl dX4_image_24 ?_
  refine z_new (pc := 25) (C := RX1) (T := TX1) (N := 9) (ci := 1) zin_X1 tyX1 tyX1_ok rfl cl_X4_7 nw_X1 nwi_X1 (fs := [.int (iz 0), .int (iz 0), .int (iz 0), .null, .null, .null, .null, .null, .null]) (by decide +kernel) ⟨Nat.le_of_ble_eq_true rfl, Nat.le_of_ble_eq_true rfl⟩ dX4_image_25 ?_
  refine z_topR (show _ = 51 from rfl) ?_
  refine z_dup (pc := 28) rfl dX4_image_28 ?_
  refine z_I0 (pc := 29) (q0 := 51) (c_init_X1 (h := zk g F L im 1)) lk_X4_9 in_X1_init rfl ⟨by decide, by decide⟩ (Nat.le_of_ble_eq_true rfl) ⟨Nat.le_of_ble_eq_true rfl, Nat.le_of_ble_eq_true rfl⟩ dX4_image_29 (fun r h9 hq => ?_)
  obtain ⟨rfl, e9⟩ := hq
  rw [e9]
  clear e9 h9
  refine z_r0 ?_
  refine z_hp (show _ = zk g (nbk F 51) L im 2 from rfl) ?_
  refine z_aast (pc := 32) (q0 := 8) (q1 := 51) rfl rfl (by decide) (by omega) (by omega) dX4_image_32 ?_
  rw [Int.toNat_natCast]
  refine z_hp zs_8 ?_
  refine z_aload_n (pc := 33) rfl dX4_image_33 ?_
  refine zf_X4_16 (pc := 34) rfl rfl dX4_image_34 ?_
  refine z_iload_n (pc := 37) rfl dX4_image_37 ?_
  refine z_aald (pc := 38) rfl (by decide) (by omega) (by omega) dX4_image_38 ?_
  rw [Int.toNat_natCast, show vf_upd im k (some (g.2.1 + 51)) k = some (g.2.1 + 51) by unfold vf_upd; rw [if_pos rfl]]
  refine z_rf ?_
  refine z_aload_n (pc := 39) rfl dX4_image_39 ?_
  refine zf_X4_10 (pc := 40) rfl rfl dX4_image_40 ?_
  refine z_V1 (pc := 43) (c_take_2_51_1 (F := nbk F 51) (im := vf_upd im k (some (g.2.1 + 51)))) lk_X4_153 iv_X1_takeOver rfl rfl ⟨by decide, by decide⟩ (Nat.le_of_ble_eq_true rfl) ⟨by decide, by decide⟩ dX4_image_43 (fun r h9 hq => ?_)
  obtain ⟨rfl, e9⟩ := hq
  rw [e9]
  clear e9 h9
  refine z_r0 ?_
  refine z_iconst (pc := 46) dX4_image_46 ?_
  exact z_retz (pc := 47) rfl (Or.inr rfl) (Nat.le_of_ble_eq_true rfl) (Nat.le_of_ble_eq_true rfl) dX4_image_47 ⟨rfl, rfl⟩
theorem c_image_new_2 {k : Nat} (hk : k < 3) (him : im k = none) : zM l g yX4_image cX4_image 2 (some .boolean) 2 7 750 [.ref (g.2.1 + 0), .int (iz k)] (zk g F L im 2) (fun r h => r = some (.int (iz 1)) ∧ h = zk g (tko (nbk F 58) 58 1) L (vf_upd im k (some (g.2.1 + 58))) 3) := by
  refine zM_of 0 (by decide) rfl ?_
  show zJ l g RX4 cX4_image 2 (some .boolean) "image" (zRm 2 7 750) 7 750 _ 0 0 0 [some (.ref (g.2.1 + 0)), some (.int (iz k))] [] _
  refine z_iload_n (pc := 0) rfl dX4_image_0 ?_
  refine z_if_lt (pc := 1) ⟨by omega, by omega⟩ 9 (by decide) dX4_image_1 (fun hq => ?_) (fun hq => ?_)
  · omega
  refine z_iload_n (pc := 4) rfl dX4_image_4 ?_
  refine z_iconst (pc := 5) dX4_image_5 ?_
  refine z_icmp_lt (pc := 6) ⟨by omega, by omega⟩ ⟨by omega, by omega⟩ 11 (by decide) dX4_image_6 (fun hq => ?_) (fun hq => ?_)
  rotate_left
  · omega
  refine z_aload_n (pc := 11) rfl dX4_image_11 ?_
  refine zf_X4_16 (pc := 12) rfl rfl dX4_image_12 ?_
  refine z_iload_n (pc := 15) rfl dX4_image_15 ?_
  refine z_aald (pc := 16) rfl (by decide) (by omega) (by omega) dX4_image_16 ?_
  rw [Int.toNat_natCast, him]
  refine z_ifnnN (pc := 17) dX4_image_17 ?_
  refine z_aload_n (pc := 20) rfl dX4_image_20 ?_
  refine zf_X4_16 (pc := 21) rfl rfl dX4_image_21 ?_
  refine z_iload_n (pc := 24) rfl dX4_image_24 ?_
  refine z_new (pc := 25) (C := RX1) (T := TX1) (N := 9) (ci := 1) zin_X1 tyX1 tyX1_ok rfl cl_X4_7 nw_X1 nwi_X1 (fs := [.int (iz 0), .int (iz 0), .int (iz 0), .null, .null, .null, .null, .null, .null]) (by decide +kernel) ⟨Nat.le_of_ble_eq_true rfl, Nat.le_of_ble_eq_true rfl⟩ dX4_image_25 ?_
  refine z_topR (show _ = 58 from rfl) ?_
  refine z_dup (pc := 28) rfl dX4_image_28 ?_
  refine z_I0 (pc := 29) (q0 := 58) (c_init_X1 (h := zk g F L im 2)) lk_X4_9 in_X1_init rfl ⟨by decide, by decide⟩ (Nat.le_of_ble_eq_true rfl) ⟨Nat.le_of_ble_eq_true rfl, Nat.le_of_ble_eq_true rfl⟩ dX4_image_29 (fun r h9 hq => ?_)
  obtain ⟨rfl, e9⟩ := hq
  rw [e9]
  clear e9 h9
  refine z_r0 ?_
  refine z_hp (show _ = zk g (nbk F 58) L im 3 from rfl) ?_
  refine z_aast (pc := 32) (q0 := 8) (q1 := 58) rfl rfl (by decide) (by omega) (by omega) dX4_image_32 ?_
  rw [Int.toNat_natCast]
  refine z_hp zs_8 ?_
  refine z_aload_n (pc := 33) rfl dX4_image_33 ?_
  refine zf_X4_16 (pc := 34) rfl rfl dX4_image_34 ?_
  refine z_iload_n (pc := 37) rfl dX4_image_37 ?_
  refine z_aald (pc := 38) rfl (by decide) (by omega) (by omega) dX4_image_38 ?_
  rw [Int.toNat_natCast, show vf_upd im k (some (g.2.1 + 58)) k = some (g.2.1 + 58) by unfold vf_upd; rw [if_pos rfl]]
  refine z_rf ?_
  refine z_aload_n (pc := 39) rfl dX4_image_39 ?_
  refine zf_X4_10 (pc := 40) rfl rfl dX4_image_40 ?_
  refine z_V1 (pc := 43) (c_take_3_58_1 (F := nbk F 58) (im := vf_upd im k (some (g.2.1 + 58)))) lk_X4_153 iv_X1_takeOver rfl rfl ⟨by decide, by decide⟩ (Nat.le_of_ble_eq_true rfl) ⟨by decide, by decide⟩ dX4_image_43 (fun r h9 hq => ?_)
  obtain ⟨rfl, e9⟩ := hq
  rw [e9]
  clear e9 h9
  refine z_r0 ?_
  refine z_iconst (pc := 46) dX4_image_46 ?_
  exact z_retz (pc := 47) rfl (Or.inr rfl) (Nat.le_of_ble_eq_true rfl) (Nat.le_of_ble_eq_true rfl) dX4_image_47 ⟨rfl, rfl⟩
theorem c_again_no {c : Nat} {z : Int} (hz : ir z) (hno : ¬ (0 ≤ z ∧ z ≤ 2 ∧ im z.toNat ≠ none)) : zM l g yX4_again cX4_again 2 (some .boolean) 2 0 0 [.ref (g.2.1 + 0), .int (iz z)] (zk g F L im c) (fun r h => r = some (.int (iz 0)) ∧ h = zk g F L im c) := by
  refine zM_of 0 (by decide) rfl ?_
  show zJ l g RX4 cX4_again 2 (some .boolean) "again" (zRm 2 0 0) 0 0 _ 0 0 0 [some (.ref (g.2.1 + 0)), some (.int (iz z))] [] _
  have no : zJ l g RX4 cX4_again 2 (some .boolean) "again" (zRm 2 0 0) 0 0 (fun r h => r = some (.int (iz 0)) ∧ h = zk g F L im c) 0 0 18 [some (.ref (g.2.1 + 0)), some (.int (iz z))] [] (zk g F L im c) := by
    refine z_iconst (pc := 18) dX4_again_18 ?_
    exact z_retz (pc := 19) rfl (Or.inl rfl) (by decide) (by decide) dX4_again_19 ⟨rfl, rfl⟩
  refine z_iload_n (pc := 0) rfl dX4_again_0 ?_
  refine z_if_lt (pc := 1) hz 18 (by decide) dX4_again_1 (fun hq => ?_) (fun hq => ?_)
  · exact no
  refine z_iload_n (pc := 4) rfl dX4_again_4 ?_
  refine z_iconst (pc := 5) dX4_again_5 ?_
  refine z_icmp_ge (pc := 6) hz ⟨by omega, by omega⟩ 18 (by decide) dX4_again_6 (fun hq => ?_) (fun hq => ?_)
  · exact no
  refine z_aload_n (pc := 9) rfl dX4_again_9 ?_
  refine zf_X4_16 (pc := 10) rfl rfl dX4_again_10 ?_
  refine z_iload_n (pc := 13) rfl dX4_again_13 ?_
  refine z_aald (pc := 14) rfl (by decide) (by omega) (by omega) dX4_again_14 ?_
  have h9 : im z.toNat = none := by
    cases e : im z.toNat with
    | none => rfl
    | some a => exact absurd ⟨by omega, by omega, by rw [e]; exact fun h => by cases h⟩ hno
  rw [h9]
  refine z_ifnnN (pc := 15) dX4_again_15 ?_
  exact no
theorem c_again_1_0 {k : Nat} (hk : k < 3) (him : im k = some (g.2.1 + 44)) : zM l g yX4_again cX4_again 2 (some .boolean) 2 0 0 [.ref (g.2.1 + 0), .int (iz k)] (zk g F L im 1) (fun r h => r = some (.int (iz 1)) ∧ h = zk g (tko F 1 44) L im 1) := by
  refine zM_of 0 (by decide) rfl ?_
  show zJ l g RX4 cX4_again 2 (some .boolean) "again" (zRm 2 0 0) 0 0 _ 0 0 0 [some (.ref (g.2.1 + 0)), some (.int (iz k))] [] _
  refine z_iload_n (pc := 0) rfl dX4_again_0 ?_
  refine z_if_lt (pc := 1) ⟨by omega, by omega⟩ 18 (by decide) dX4_again_1 (fun hq => ?_) (fun hq => ?_)
  · omega
  refine z_iload_n (pc := 4) rfl dX4_again_4 ?_
  refine z_iconst (pc := 5) dX4_again_5 ?_
  refine z_icmp_ge (pc := 6) ⟨by omega, by omega⟩ ⟨by omega, by omega⟩ 18 (by decide) dX4_again_6 (fun hq => ?_) (fun hq => ?_)
  · omega
  refine z_aload_n (pc := 9) rfl dX4_again_9 ?_
  refine zf_X4_16 (pc := 10) rfl rfl dX4_again_10 ?_
  refine z_iload_n (pc := 13) rfl dX4_again_13 ?_
  refine z_aald (pc := 14) rfl (by decide) (by omega) (by omega) dX4_again_14 ?_
  rw [Int.toNat_natCast, him]
  refine z_ifnn (pc := 15) (x := g.2.1 + 44) 20 (by decide) dX4_again_15 ?_
  refine z_aload_n (pc := 20) rfl dX4_again_20 ?_
  refine zf_X4_10 (pc := 21) rfl rfl dX4_again_21 ?_
  refine z_aload_n (pc := 24) rfl dX4_again_24 ?_
  refine zf_X4_16 (pc := 25) rfl rfl dX4_again_25 ?_
  refine z_iload_n (pc := 28) rfl dX4_again_28 ?_
  refine z_aald (pc := 29) rfl (by decide) (by omega) (by omega) dX4_again_29 ?_
  rw [Int.toNat_natCast, him]
  refine z_rf ?_
  refine z_V1 (pc := 30) (c_take_1_1_44) lk_X4_153 iv_X1_takeOver rfl rfl ⟨by decide, by decide⟩ (Nat.le_of_ble_eq_true rfl) ⟨by decide, by decide⟩ dX4_again_30 (fun r h9 hq => ?_)
  obtain ⟨rfl, e9⟩ := hq
  rw [e9]
  clear e9 h9
  refine z_r0 ?_
  refine z_iconst (pc := 33) dX4_again_33 ?_
  exact z_retz (pc := 34) rfl (Or.inr rfl) (by decide) (by decide) dX4_again_34 ⟨rfl, rfl⟩
theorem c_again_2_0 {k : Nat} (hk : k < 3) (him : im k = some (g.2.1 + 44)) : zM l g yX4_again cX4_again 2 (some .boolean) 2 0 0 [.ref (g.2.1 + 0), .int (iz k)] (zk g F L im 2) (fun r h => r = some (.int (iz 1)) ∧ h = zk g (tko F 1 44) L im 2) := by
  refine zM_of 0 (by decide) rfl ?_
  show zJ l g RX4 cX4_again 2 (some .boolean) "again" (zRm 2 0 0) 0 0 _ 0 0 0 [some (.ref (g.2.1 + 0)), some (.int (iz k))] [] _
  refine z_iload_n (pc := 0) rfl dX4_again_0 ?_
  refine z_if_lt (pc := 1) ⟨by omega, by omega⟩ 18 (by decide) dX4_again_1 (fun hq => ?_) (fun hq => ?_)
  · omega
  refine z_iload_n (pc := 4) rfl dX4_again_4 ?_
  refine z_iconst (pc := 5) dX4_again_5 ?_
  refine z_icmp_ge (pc := 6) ⟨by omega, by omega⟩ ⟨by omega, by omega⟩ 18 (by decide) dX4_again_6 (fun hq => ?_) (fun hq => ?_)
  · omega
  refine z_aload_n (pc := 9) rfl dX4_again_9 ?_
  refine zf_X4_16 (pc := 10) rfl rfl dX4_again_10 ?_
  refine z_iload_n (pc := 13) rfl dX4_again_13 ?_
  refine z_aald (pc := 14) rfl (by decide) (by omega) (by omega) dX4_again_14 ?_
  rw [Int.toNat_natCast, him]
  refine z_ifnn (pc := 15) (x := g.2.1 + 44) 20 (by decide) dX4_again_15 ?_
  refine z_aload_n (pc := 20) rfl dX4_again_20 ?_
  refine zf_X4_10 (pc := 21) rfl rfl dX4_again_21 ?_
  refine z_aload_n (pc := 24) rfl dX4_again_24 ?_
  refine zf_X4_16 (pc := 25) rfl rfl dX4_again_25 ?_
  refine z_iload_n (pc := 28) rfl dX4_again_28 ?_
  refine z_aald (pc := 29) rfl (by decide) (by omega) (by omega) dX4_again_29 ?_
  rw [Int.toNat_natCast, him]
  refine z_rf ?_
  refine z_V1 (pc := 30) (c_take_2_1_44) lk_X4_153 iv_X1_takeOver rfl rfl ⟨by decide, by decide⟩ (Nat.le_of_ble_eq_true rfl) ⟨by decide, by decide⟩ dX4_again_30 (fun r h9 hq => ?_)
  obtain ⟨rfl, e9⟩ := hq
  rw [e9]
  clear e9 h9
  refine z_r0 ?_
  refine z_iconst (pc := 33) dX4_again_33 ?_
  exact z_retz (pc := 34) rfl (Or.inr rfl) (by decide) (by decide) dX4_again_34 ⟨rfl, rfl⟩
theorem c_again_2_1 {k : Nat} (hk : k < 3) (him : im k = some (g.2.1 + 51)) : zM l g yX4_again cX4_again 2 (some .boolean) 2 0 0 [.ref (g.2.1 + 0), .int (iz k)] (zk g F L im 2) (fun r h => r = some (.int (iz 1)) ∧ h = zk g (tko F 1 51) L im 2) := by
  refine zM_of 0 (by decide) rfl ?_
  show zJ l g RX4 cX4_again 2 (some .boolean) "again" (zRm 2 0 0) 0 0 _ 0 0 0 [some (.ref (g.2.1 + 0)), some (.int (iz k))] [] _
  refine z_iload_n (pc := 0) rfl dX4_again_0 ?_
  refine z_if_lt (pc := 1) ⟨by omega, by omega⟩ 18 (by decide) dX4_again_1 (fun hq => ?_) (fun hq => ?_)
  · omega
  refine z_iload_n (pc := 4) rfl dX4_again_4 ?_
  refine z_iconst (pc := 5) dX4_again_5 ?_
  refine z_icmp_ge (pc := 6) ⟨by omega, by omega⟩ ⟨by omega, by omega⟩ 18 (by decide) dX4_again_6 (fun hq => ?_) (fun hq => ?_)
  · omega
  refine z_aload_n (pc := 9) rfl dX4_again_9 ?_
  refine zf_X4_16 (pc := 10) rfl rfl dX4_again_10 ?_
  refine z_iload_n (pc := 13) rfl dX4_again_13 ?_
  refine z_aald (pc := 14) rfl (by decide) (by omega) (by omega) dX4_again_14 ?_
  rw [Int.toNat_natCast, him]
  refine z_ifnn (pc := 15) (x := g.2.1 + 51) 20 (by decide) dX4_again_15 ?_
  refine z_aload_n (pc := 20) rfl dX4_again_20 ?_
  refine zf_X4_10 (pc := 21) rfl rfl dX4_again_21 ?_
  refine z_aload_n (pc := 24) rfl dX4_again_24 ?_
  refine zf_X4_16 (pc := 25) rfl rfl dX4_again_25 ?_
  refine z_iload_n (pc := 28) rfl dX4_again_28 ?_
  refine z_aald (pc := 29) rfl (by decide) (by omega) (by omega) dX4_again_29 ?_
  rw [Int.toNat_natCast, him]
  refine z_rf ?_
  refine z_V1 (pc := 30) (c_take_2_1_51) lk_X4_153 iv_X1_takeOver rfl rfl ⟨by decide, by decide⟩ (Nat.le_of_ble_eq_true rfl) ⟨by decide, by decide⟩ dX4_again_30 (fun r h9 hq => ?_)
  obtain ⟨rfl, e9⟩ := hq
  rw [e9]
  clear e9 h9
  refine z_r0 ?_
  refine z_iconst (pc := 33) dX4_again_33 ?_
  exact z_retz (pc := 34) rfl (Or.inr rfl) (by decide) (by decide) dX4_again_34 ⟨rfl, rfl⟩
theorem c_again_3_0 {k : Nat} (hk : k < 3) (him : im k = some (g.2.1 + 44)) : zM l g yX4_again cX4_again 2 (some .boolean) 2 0 0 [.ref (g.2.1 + 0), .int (iz k)] (zk g F L im 3) (fun r h => r = some (.int (iz 1)) ∧ h = zk g (tko F 1 44) L im 3) := by
  refine zM_of 0 (by decide) rfl ?_
  show zJ l g RX4 cX4_again 2 (some .boolean) "again" (zRm 2 0 0) 0 0 _ 0 0 0 [some (.ref (g.2.1 + 0)), some (.int (iz k))] [] _
  refine z_iload_n (pc := 0) rfl dX4_again_0 ?_
  refine z_if_lt (pc := 1) ⟨by omega, by omega⟩ 18 (by decide) dX4_again_1 (fun hq => ?_) (fun hq => ?_)
  · omega
  refine z_iload_n (pc := 4) rfl dX4_again_4 ?_
  refine z_iconst (pc := 5) dX4_again_5 ?_
  refine z_icmp_ge (pc := 6) ⟨by omega, by omega⟩ ⟨by omega, by omega⟩ 18 (by decide) dX4_again_6 (fun hq => ?_) (fun hq => ?_)
  · omega
  refine z_aload_n (pc := 9) rfl dX4_again_9 ?_
  refine zf_X4_16 (pc := 10) rfl rfl dX4_again_10 ?_
  refine z_iload_n (pc := 13) rfl dX4_again_13 ?_
  refine z_aald (pc := 14) rfl (by decide) (by omega) (by omega) dX4_again_14 ?_
  rw [Int.toNat_natCast, him]
  refine z_ifnn (pc := 15) (x := g.2.1 + 44) 20 (by decide) dX4_again_15 ?_
  refine z_aload_n (pc := 20) rfl dX4_again_20 ?_
  refine zf_X4_10 (pc := 21) rfl rfl dX4_again_21 ?_
  refine z_aload_n (pc := 24) rfl dX4_again_24 ?_
  refine zf_X4_16 (pc := 25) rfl rfl dX4_again_25 ?_
  refine z_iload_n (pc := 28) rfl dX4_again_28 ?_
  refine z_aald (pc := 29) rfl (by decide) (by omega) (by omega) dX4_again_29 ?_
  rw [Int.toNat_natCast, him]
  refine z_rf ?_
  refine z_V1 (pc := 30) (c_take_3_1_44) lk_X4_153 iv_X1_takeOver rfl rfl ⟨by decide, by decide⟩ (Nat.le_of_ble_eq_true rfl) ⟨by decide, by decide⟩ dX4_again_30 (fun r h9 hq => ?_)
  obtain ⟨rfl, e9⟩ := hq
  rw [e9]
  clear e9 h9
  refine z_r0 ?_
  refine z_iconst (pc := 33) dX4_again_33 ?_
  exact z_retz (pc := 34) rfl (Or.inr rfl) (by decide) (by decide) dX4_again_34 ⟨rfl, rfl⟩
theorem c_again_3_1 {k : Nat} (hk : k < 3) (him : im k = some (g.2.1 + 51)) : zM l g yX4_again cX4_again 2 (some .boolean) 2 0 0 [.ref (g.2.1 + 0), .int (iz k)] (zk g F L im 3) (fun r h => r = some (.int (iz 1)) ∧ h = zk g (tko F 1 51) L im 3) := by
  refine zM_of 0 (by decide) rfl ?_
  show zJ l g RX4 cX4_again 2 (some .boolean) "again" (zRm 2 0 0) 0 0 _ 0 0 0 [some (.ref (g.2.1 + 0)), some (.int (iz k))] [] _
  refine z_iload_n (pc := 0) rfl dX4_again_0 ?_
  refine z_if_lt (pc := 1) ⟨by omega, by omega⟩ 18 (by decide) dX4_again_1 (fun hq => ?_) (fun hq => ?_)
  · omega
  refine z_iload_n (pc := 4) rfl dX4_again_4 ?_
  refine z_iconst (pc := 5) dX4_again_5 ?_
  refine z_icmp_ge (pc := 6) ⟨by omega, by omega⟩ ⟨by omega, by omega⟩ 18 (by decide) dX4_again_6 (fun hq => ?_) (fun hq => ?_)
  · omega
  refine z_aload_n (pc := 9) rfl dX4_again_9 ?_
  refine zf_X4_16 (pc := 10) rfl rfl dX4_again_10 ?_
  refine z_iload_n (pc := 13) rfl dX4_again_13 ?_
  refine z_aald (pc := 14) rfl (by decide) (by omega) (by omega) dX4_again_14 ?_
  rw [Int.toNat_natCast, him]
  refine z_ifnn (pc := 15) (x := g.2.1 + 51) 20 (by decide) dX4_again_15 ?_
  refine z_aload_n (pc := 20) rfl dX4_again_20 ?_
  refine zf_X4_10 (pc := 21) rfl rfl dX4_again_21 ?_
  refine z_aload_n (pc := 24) rfl dX4_again_24 ?_
  refine zf_X4_16 (pc := 25) rfl rfl dX4_again_25 ?_
  refine z_iload_n (pc := 28) rfl dX4_again_28 ?_
  refine z_aald (pc := 29) rfl (by decide) (by omega) (by omega) dX4_again_29 ?_
  rw [Int.toNat_natCast, him]
  refine z_rf ?_
  refine z_V1 (pc := 30) (c_take_3_1_51) lk_X4_153 iv_X1_takeOver rfl rfl ⟨by decide, by decide⟩ (Nat.le_of_ble_eq_true rfl) ⟨by decide, by decide⟩ dX4_again_30 (fun r h9 hq => ?_)
  obtain ⟨rfl, e9⟩ := hq
  rw [e9]
  clear e9 h9
  refine z_r0 ?_
  refine z_iconst (pc := 33) dX4_again_33 ?_
  exact z_retz (pc := 34) rfl (Or.inr rfl) (by decide) (by decide) dX4_again_34 ⟨rfl, rfl⟩
theorem c_again_3_2 {k : Nat} (hk : k < 3) (him : im k = some (g.2.1 + 58)) : zM l g yX4_again cX4_again 2 (some .boolean) 2 0 0 [.ref (g.2.1 + 0), .int (iz k)] (zk g F L im 3) (fun r h => r = some (.int (iz 1)) ∧ h = zk g (tko F 1 58) L im 3) := by
  refine zM_of 0 (by decide) rfl ?_
  show zJ l g RX4 cX4_again 2 (some .boolean) "again" (zRm 2 0 0) 0 0 _ 0 0 0 [some (.ref (g.2.1 + 0)), some (.int (iz k))] [] _
  refine z_iload_n (pc := 0) rfl dX4_again_0 ?_
  refine z_if_lt (pc := 1) ⟨by omega, by omega⟩ 18 (by decide) dX4_again_1 (fun hq => ?_) (fun hq => ?_)
  · omega
  refine z_iload_n (pc := 4) rfl dX4_again_4 ?_
  refine z_iconst (pc := 5) dX4_again_5 ?_
  refine z_icmp_ge (pc := 6) ⟨by omega, by omega⟩ ⟨by omega, by omega⟩ 18 (by decide) dX4_again_6 (fun hq => ?_) (fun hq => ?_)
  · omega
  refine z_aload_n (pc := 9) rfl dX4_again_9 ?_
  refine zf_X4_16 (pc := 10) rfl rfl dX4_again_10 ?_
  refine z_iload_n (pc := 13) rfl dX4_again_13 ?_
  refine z_aald (pc := 14) rfl (by decide) (by omega) (by omega) dX4_again_14 ?_
  rw [Int.toNat_natCast, him]
  refine z_ifnn (pc := 15) (x := g.2.1 + 58) 20 (by decide) dX4_again_15 ?_
  refine z_aload_n (pc := 20) rfl dX4_again_20 ?_
  refine zf_X4_10 (pc := 21) rfl rfl dX4_again_21 ?_
  refine z_aload_n (pc := 24) rfl dX4_again_24 ?_
  refine zf_X4_16 (pc := 25) rfl rfl dX4_again_25 ?_
  refine z_iload_n (pc := 28) rfl dX4_again_28 ?_
  refine z_aald (pc := 29) rfl (by decide) (by omega) (by omega) dX4_again_29 ?_
  rw [Int.toNat_natCast, him]
  refine z_rf ?_
  refine z_V1 (pc := 30) (c_take_3_1_58) lk_X4_153 iv_X1_takeOver rfl rfl ⟨by decide, by decide⟩ (Nat.le_of_ble_eq_true rfl) ⟨by decide, by decide⟩ dX4_again_30 (fun r h9 hq => ?_)
  obtain ⟨rfl, e9⟩ := hq
  rw [e9]
  clear e9 h9
  refine z_r0 ?_
  refine z_iconst (pc := 33) dX4_again_33 ?_
  exact z_retz (pc := 34) rfl (Or.inr rfl) (by decide) (by decide) dX4_again_34 ⟨rfl, rfl⟩
end IMG
