section C43
variable {D : va_G} {d : Nat} {ty : zT} {sz : Nat} {h : zH} {Q : zQ}
set_option maxHeartbeats 4000000 in
set_option maxRecDepth 100000 in
theorem c_mInit {m : Int} (hr : ty m = some (7, 31, zn)) (h0 : h m = zdef 7) (h9 : 0 ≤ m ∧ (sz : Int) = m + 1) (hq : ∀ ty' h', zBel m ty ty' h h' → mAbs ty' h' m S0 → Q none ty' (sz + 21) h') : zXM D mX7_init (d + 1) 21 21582 [rV m] ty sz h Q := by
  refine x_aload_n (pc := 0) dX7_init_0 rfl ?_
  refine x_objInit (pc := 1) dX7_init_1 (k_RX7_1 _ rfl) tobj_in tobj_code (by omega) (Nat.le_of_ble_eq_true rfl) ?_
  refine x_aload_n (pc := 4) dX7_init_4 rfl ?_
  refine x_sipush (pc := 5) dX7_init_5 (by decide) ?_
  refine y_newI (N := 1500) (m + 1) (by omega) (pc := 8) dX7_init_8 tarr_int (by decide) ?_
  refine y_putRF 1 (pc := 10) dX7_init_10 f_RX7_7 (by repeat (first | assumption | exact znew_eq | rw [znew_ne (by omega)])) (by first | exact Or.inl ⟨_, rfl⟩ | exact Or.inr ⟨_, rfl⟩) ⟨rfl, rfl⟩ (by rfl) rfl ?_
  refine x_aload_n (pc := 13) dX7_init_13 rfl ?_
  refine x_sipush (pc := 14) dX7_init_14 (by decide) ?_
  refine y_newI (N := 3120) (m + 2) (by omega) (pc := 17) dX7_init_17 tarr_int (by decide) ?_
  refine y_putRF 5 (pc := 19) dX7_init_19 f_RX7_13 (by repeat (first | assumption | exact znew_eq | rw [znew_ne (by omega)])) (by first | exact Or.inl ⟨_, rfl⟩ | exact Or.inr ⟨_, rfl⟩) ⟨rfl, rfl⟩ (by rfl) rfl ?_
  refine x_aload_n (pc := 22) dX7_init_22 rfl ?_
  refine x_sipush (pc := 23) dX7_init_23 (by decide) ?_
  refine y_newI (N := 3120) (m + 3) (by omega) (pc := 26) dX7_init_26 tarr_int (by decide) ?_
  refine y_putRF 6 (pc := 28) dX7_init_28 f_RX7_16 (by repeat (first | assumption | exact znew_eq | rw [znew_ne (by omega)])) (by first | exact Or.inl ⟨_, rfl⟩ | exact Or.inr ⟨_, rfl⟩) ⟨rfl, rfl⟩ (by rfl) rfl ?_
  refine x_aload_n (pc := 31) dX7_init_31 rfl ?_
  refine x_sipush (pc := 32) dX7_init_32 (by decide) ?_
  refine y_newI (N := 3120) (m + 4) (by omega) (pc := 35) dX7_init_35 tarr_int (by decide) ?_
  refine y_putRF 7 (pc := 37) dX7_init_37 f_RX7_19 (by repeat (first | assumption | exact znew_eq | rw [znew_ne (by omega)])) (by first | exact Or.inl ⟨_, rfl⟩ | exact Or.inr ⟨_, rfl⟩) ⟨rfl, rfl⟩ (by rfl) rfl ?_
  refine x_aload_n (pc := 40) dX7_init_40 rfl ?_
  refine x_sipush (pc := 41) dX7_init_41 (by decide) ?_
  refine y_newI (N := 3120) (m + 5) (by omega) (pc := 44) dX7_init_44 tarr_int (by decide) ?_
  refine y_putRF 8 (pc := 46) dX7_init_46 f_RX7_22 (by repeat (first | assumption | exact znew_eq | rw [znew_ne (by omega)])) (by first | exact Or.inl ⟨_, rfl⟩ | exact Or.inr ⟨_, rfl⟩) ⟨rfl, rfl⟩ (by rfl) rfl ?_
  refine x_aload_n (pc := 49) dX7_init_49 rfl ?_
  refine x_bipush (pc := 50) dX7_init_50 (by decide) ?_
  refine y_newI (N := 6) (m + 6) (by omega) (pc := 52) dX7_init_52 tarr_int (by decide) ?_
  refine y_putRF 9 (pc := 54) dX7_init_54 f_RX7_25 (by repeat (first | assumption | exact znew_eq | rw [znew_ne (by omega)])) (by first | exact Or.inl ⟨_, rfl⟩ | exact Or.inr ⟨_, rfl⟩) ⟨rfl, rfl⟩ (by rfl) rfl ?_
  refine x_aload_n (pc := 57) dX7_init_57 rfl ?_
  refine x_bipush (pc := 58) dX7_init_58 (by decide) ?_
  refine y_newI (N := 100) (m + 7) (by omega) (pc := 60) dX7_init_60 tarr_int (by decide) ?_
  refine y_putRF 13 (pc := 62) dX7_init_62 f_RX7_28 (by repeat (first | assumption | exact znew_eq | rw [znew_ne (by omega)])) (by first | exact Or.inl ⟨_, rfl⟩ | exact Or.inr ⟨_, rfl⟩) ⟨rfl, rfl⟩ (by rfl) rfl ?_
  refine x_aload_n (pc := 65) dX7_init_65 rfl ?_
  refine x_bipush (pc := 66) dX7_init_66 (by decide) ?_
  refine y_newI (N := 100) (m + 8) (by omega) (pc := 68) dX7_init_68 tarr_int (by decide) ?_
  refine y_putRF 14 (pc := 70) dX7_init_70 f_RX7_31 (by repeat (first | assumption | exact znew_eq | rw [znew_ne (by omega)])) (by first | exact Or.inl ⟨_, rfl⟩ | exact Or.inr ⟨_, rfl⟩) ⟨rfl, rfl⟩ (by rfl) rfl ?_
  refine x_aload_n (pc := 73) dX7_init_73 rfl ?_
  refine x_bipush (pc := 74) dX7_init_74 (by decide) ?_
  refine y_newI (N := 100) (m + 9) (by omega) (pc := 76) dX7_init_76 tarr_int (by decide) ?_
  refine y_putRF 15 (pc := 78) dX7_init_78 f_RX7_34 (by repeat (first | assumption | exact znew_eq | rw [znew_ne (by omega)])) (by first | exact Or.inl ⟨_, rfl⟩ | exact Or.inr ⟨_, rfl⟩) ⟨rfl, rfl⟩ (by rfl) rfl ?_
  refine x_aload_n (pc := 81) dX7_init_81 rfl ?_
  refine x_bipush (pc := 82) dX7_init_82 (by decide) ?_
  refine y_newI (N := 100) (m + 10) (by omega) (pc := 84) dX7_init_84 tarr_int (by decide) ?_
  refine y_putRF 16 (pc := 86) dX7_init_86 f_RX7_37 (by repeat (first | assumption | exact znew_eq | rw [znew_ne (by omega)])) (by first | exact Or.inl ⟨_, rfl⟩ | exact Or.inr ⟨_, rfl⟩) ⟨rfl, rfl⟩ (by rfl) rfl ?_
  refine x_aload_n (pc := 89) dX7_init_89 rfl ?_
  refine x_bipush (pc := 90) dX7_init_90 (by decide) ?_
  refine y_newI (N := 100) (m + 11) (by omega) (pc := 92) dX7_init_92 tarr_int (by decide) ?_
  refine y_putRF 17 (pc := 94) dX7_init_94 f_RX7_40 (by repeat (first | assumption | exact znew_eq | rw [znew_ne (by omega)])) (by first | exact Or.inl ⟨_, rfl⟩ | exact Or.inr ⟨_, rfl⟩) ⟨rfl, rfl⟩ (by rfl) rfl ?_
  refine x_aload_n (pc := 97) dX7_init_97 rfl ?_
  refine x_sipush (pc := 98) dX7_init_98 (by decide) ?_
  refine y_newZ (N := 1000) (m + 12) (by omega) (pc := 101) dX7_init_101 tarr_boolean (by decide) ?_
  refine y_putRF 18 (pc := 103) dX7_init_103 f_RX7_43 (by repeat (first | assumption | exact znew_eq | rw [znew_ne (by omega)])) (by first | exact Or.inl ⟨_, rfl⟩ | exact Or.inr ⟨_, rfl⟩) ⟨rfl, rfl⟩ (by rfl) rfl ?_
  refine x_aload_n (pc := 106) dX7_init_106 rfl ?_
  refine x_bipush (pc := 107) dX7_init_107 (by decide) ?_
  refine y_newI (N := 16) (m + 13) (by omega) (pc := 109) dX7_init_109 tarr_int (by decide) ?_
  refine y_putRF 20 (pc := 111) dX7_init_111 f_RX7_47 (by repeat (first | assumption | exact znew_eq | rw [znew_ne (by omega)])) (by first | exact Or.inl ⟨_, rfl⟩ | exact Or.inr ⟨_, rfl⟩) ⟨rfl, rfl⟩ (by rfl) rfl ?_
  refine x_aload_n (pc := 114) dX7_init_114 rfl ?_
  refine x_bipush (pc := 115) dX7_init_115 (by decide) ?_
  refine y_newJ (N := 16) (m + 14) (by omega) (pc := 117) dX7_init_117 tarr_long (by decide) ?_
  refine y_putRF 21 (pc := 119) dX7_init_119 f_RX7_50 (by repeat (first | assumption | exact znew_eq | rw [znew_ne (by omega)])) (by first | exact Or.inl ⟨_, rfl⟩ | exact Or.inr ⟨_, rfl⟩) ⟨rfl, rfl⟩ (by rfl) rfl ?_
  refine x_aload_n (pc := 122) dX7_init_122 rfl ?_
  refine x_bipush (pc := 123) dX7_init_123 (by decide) ?_
  refine y_newI (N := 16) (m + 15) (by omega) (pc := 125) dX7_init_125 tarr_int (by decide) ?_
  refine y_putRF 22 (pc := 127) dX7_init_127 f_RX7_54 (by repeat (first | assumption | exact znew_eq | rw [znew_ne (by omega)])) (by first | exact Or.inl ⟨_, rfl⟩ | exact Or.inr ⟨_, rfl⟩) ⟨rfl, rfl⟩ (by rfl) rfl ?_
  refine x_aload_n (pc := 130) dX7_init_130 rfl ?_
  refine x_sipush (pc := 131) dX7_init_131 (by decide) ?_
  refine y_newI (N := 2000) (m + 16) (by omega) (pc := 134) dX7_init_134 tarr_int (by decide) ?_
  refine y_putRF 24 (pc := 136) dX7_init_136 f_RX7_57 (by repeat (first | assumption | exact znew_eq | rw [znew_ne (by omega)])) (by first | exact Or.inl ⟨_, rfl⟩ | exact Or.inr ⟨_, rfl⟩) ⟨rfl, rfl⟩ (by rfl) rfl ?_
  refine x_aload_n (pc := 139) dX7_init_139 rfl ?_
  refine x_sipush (pc := 140) dX7_init_140 (by decide) ?_
  refine y_newI (N := 2000) (m + 17) (by omega) (pc := 143) dX7_init_143 tarr_int (by decide) ?_
  refine y_putRF 26 (pc := 145) dX7_init_145 f_RX7_60 (by repeat (first | assumption | exact znew_eq | rw [znew_ne (by omega)])) (by first | exact Or.inl ⟨_, rfl⟩ | exact Or.inr ⟨_, rfl⟩) ⟨rfl, rfl⟩ (by rfl) rfl ?_
  refine x_aload_n (pc := 148) dX7_init_148 rfl ?_
  refine x_sipush (pc := 149) dX7_init_149 (by decide) ?_
  refine y_newI (N := 2000) (m + 18) (by omega) (pc := 152) dX7_init_152 tarr_int (by decide) ?_
  refine y_putRF 27 (pc := 154) dX7_init_154 f_RX7_63 (by repeat (first | assumption | exact znew_eq | rw [znew_ne (by omega)])) (by first | exact Or.inl ⟨_, rfl⟩ | exact Or.inr ⟨_, rfl⟩) ⟨rfl, rfl⟩ (by rfl) rfl ?_
  refine x_aload_n (pc := 157) dX7_init_157 rfl ?_
  refine x_bipush (pc := 158) dX7_init_158 (by decide) ?_
  refine y_newI (N := 16) (m + 19) (by omega) (pc := 160) dX7_init_160 tarr_int (by decide) ?_
  refine y_putRF 28 (pc := 162) dX7_init_162 f_RX7_66 (by repeat (first | assumption | exact znew_eq | rw [znew_ne (by omega)])) (by first | exact Or.inl ⟨_, rfl⟩ | exact Or.inr ⟨_, rfl⟩) ⟨rfl, rfl⟩ (by rfl) rfl ?_
  refine x_aload_n (pc := 165) dX7_init_165 rfl ?_
  refine x_bipush (pc := 166) dX7_init_166 (by decide) ?_
  refine y_newJ (N := 16) (m + 20) (by omega) (pc := 168) dX7_init_168 tarr_long (by decide) ?_
  refine y_putRF 29 (pc := 170) dX7_init_170 f_RX7_69 (by repeat (first | assumption | exact znew_eq | rw [znew_ne (by omega)])) (by first | exact Or.inl ⟨_, rfl⟩ | exact Or.inr ⟨_, rfl⟩) ⟨rfl, rfl⟩ (by rfl) rfl ?_
  refine x_aload_n (pc := 173) dX7_init_173 rfl ?_
  refine x_bipush (pc := 174) dX7_init_174 (by decide) ?_
  refine y_newI (N := 16) (m + 21) (by omega) (pc := 176) dX7_init_176 tarr_int (by decide) ?_
  refine y_putRF 30 (pc := 178) dX7_init_178 f_RX7_72 (by repeat (first | assumption | exact znew_eq | rw [znew_ne (by omega)])) (by first | exact Or.inl ⟨_, rfl⟩ | exact Or.inr ⟨_, rfl⟩) ⟨rfl, rfl⟩ (by rfl) rfl ?_
  refine x_freeze (r := m) (kc := 7) (N := 31) (fun i => if i = 1 then some (m + 1) else if i = 5 then some (m + 2) else if i = 6 then some (m + 3) else if i = 7 then some (m + 4) else if i = 8 then some (m + 5) else if i = 9 then some (m + 6) else if i = 13 then some (m + 7) else if i = 14 then some (m + 8) else if i = 15 then some (m + 9) else if i = 16 then some (m + 10) else if i = 17 then some (m + 11) else if i = 18 then some (m + 12) else if i = 20 then some (m + 13) else if i = 21 then some (m + 14) else if i = 22 then some (m + 15) else if i = 24 then some (m + 16) else if i = 26 then some (m + 17) else if i = 27 then some (m + 18) else if i = 28 then some (m + 19) else if i = 29 then some (m + 20) else if i = 30 then some (m + 21) else none) (by repeat (first | assumption | exact znew_eq | rw [znew_ne (by omega)])) ?_ ?_
  · intro i v hi
    by_cases e1 : i = 1
    · subst e1
      obtain rfl : m + 1 = v := by simpa using hi
      simp [zup_app, zrow_at, (show ¬ m = m + 1 by omega), (show ¬ m = m + 2 by omega), (show ¬ m = m + 3 by omega), (show ¬ m = m + 4 by omega), (show ¬ m = m + 5 by omega), (show ¬ m = m + 6 by omega), (show ¬ m = m + 7 by omega), (show ¬ m = m + 8 by omega), (show ¬ m = m + 9 by omega), (show ¬ m = m + 10 by omega), (show ¬ m = m + 11 by omega), (show ¬ m = m + 12 by omega), (show ¬ m = m + 13 by omega), (show ¬ m = m + 14 by omega), (show ¬ m = m + 15 by omega), (show ¬ m = m + 16 by omega), (show ¬ m = m + 17 by omega), (show ¬ m = m + 18 by omega), (show ¬ m = m + 19 by omega), (show ¬ m = m + 20 by omega), (show ¬ m = m + 21 by omega)]
    rw [if_neg e1] at hi
    by_cases e5 : i = 5
    · subst e5
      obtain rfl : m + 2 = v := by simpa using hi
      simp [zup_app, zrow_at, (show ¬ m = m + 1 by omega), (show ¬ m = m + 2 by omega), (show ¬ m = m + 3 by omega), (show ¬ m = m + 4 by omega), (show ¬ m = m + 5 by omega), (show ¬ m = m + 6 by omega), (show ¬ m = m + 7 by omega), (show ¬ m = m + 8 by omega), (show ¬ m = m + 9 by omega), (show ¬ m = m + 10 by omega), (show ¬ m = m + 11 by omega), (show ¬ m = m + 12 by omega), (show ¬ m = m + 13 by omega), (show ¬ m = m + 14 by omega), (show ¬ m = m + 15 by omega), (show ¬ m = m + 16 by omega), (show ¬ m = m + 17 by omega), (show ¬ m = m + 18 by omega), (show ¬ m = m + 19 by omega), (show ¬ m = m + 20 by omega), (show ¬ m = m + 21 by omega)]
    rw [if_neg e5] at hi
    by_cases e6 : i = 6
    · subst e6
      obtain rfl : m + 3 = v := by simpa using hi
      simp [zup_app, zrow_at, (show ¬ m = m + 1 by omega), (show ¬ m = m + 2 by omega), (show ¬ m = m + 3 by omega), (show ¬ m = m + 4 by omega), (show ¬ m = m + 5 by omega), (show ¬ m = m + 6 by omega), (show ¬ m = m + 7 by omega), (show ¬ m = m + 8 by omega), (show ¬ m = m + 9 by omega), (show ¬ m = m + 10 by omega), (show ¬ m = m + 11 by omega), (show ¬ m = m + 12 by omega), (show ¬ m = m + 13 by omega), (show ¬ m = m + 14 by omega), (show ¬ m = m + 15 by omega), (show ¬ m = m + 16 by omega), (show ¬ m = m + 17 by omega), (show ¬ m = m + 18 by omega), (show ¬ m = m + 19 by omega), (show ¬ m = m + 20 by omega), (show ¬ m = m + 21 by omega)]
    rw [if_neg e6] at hi
    by_cases e7 : i = 7
    · subst e7
      obtain rfl : m + 4 = v := by simpa using hi
      simp [zup_app, zrow_at, (show ¬ m = m + 1 by omega), (show ¬ m = m + 2 by omega), (show ¬ m = m + 3 by omega), (show ¬ m = m + 4 by omega), (show ¬ m = m + 5 by omega), (show ¬ m = m + 6 by omega), (show ¬ m = m + 7 by omega), (show ¬ m = m + 8 by omega), (show ¬ m = m + 9 by omega), (show ¬ m = m + 10 by omega), (show ¬ m = m + 11 by omega), (show ¬ m = m + 12 by omega), (show ¬ m = m + 13 by omega), (show ¬ m = m + 14 by omega), (show ¬ m = m + 15 by omega), (show ¬ m = m + 16 by omega), (show ¬ m = m + 17 by omega), (show ¬ m = m + 18 by omega), (show ¬ m = m + 19 by omega), (show ¬ m = m + 20 by omega), (show ¬ m = m + 21 by omega)]
    rw [if_neg e7] at hi
    by_cases e8 : i = 8
    · subst e8
      obtain rfl : m + 5 = v := by simpa using hi
      simp [zup_app, zrow_at, (show ¬ m = m + 1 by omega), (show ¬ m = m + 2 by omega), (show ¬ m = m + 3 by omega), (show ¬ m = m + 4 by omega), (show ¬ m = m + 5 by omega), (show ¬ m = m + 6 by omega), (show ¬ m = m + 7 by omega), (show ¬ m = m + 8 by omega), (show ¬ m = m + 9 by omega), (show ¬ m = m + 10 by omega), (show ¬ m = m + 11 by omega), (show ¬ m = m + 12 by omega), (show ¬ m = m + 13 by omega), (show ¬ m = m + 14 by omega), (show ¬ m = m + 15 by omega), (show ¬ m = m + 16 by omega), (show ¬ m = m + 17 by omega), (show ¬ m = m + 18 by omega), (show ¬ m = m + 19 by omega), (show ¬ m = m + 20 by omega), (show ¬ m = m + 21 by omega)]
    rw [if_neg e8] at hi
    by_cases e9 : i = 9
    · subst e9
      obtain rfl : m + 6 = v := by simpa using hi
      simp [zup_app, zrow_at, (show ¬ m = m + 1 by omega), (show ¬ m = m + 2 by omega), (show ¬ m = m + 3 by omega), (show ¬ m = m + 4 by omega), (show ¬ m = m + 5 by omega), (show ¬ m = m + 6 by omega), (show ¬ m = m + 7 by omega), (show ¬ m = m + 8 by omega), (show ¬ m = m + 9 by omega), (show ¬ m = m + 10 by omega), (show ¬ m = m + 11 by omega), (show ¬ m = m + 12 by omega), (show ¬ m = m + 13 by omega), (show ¬ m = m + 14 by omega), (show ¬ m = m + 15 by omega), (show ¬ m = m + 16 by omega), (show ¬ m = m + 17 by omega), (show ¬ m = m + 18 by omega), (show ¬ m = m + 19 by omega), (show ¬ m = m + 20 by omega), (show ¬ m = m + 21 by omega)]
    rw [if_neg e9] at hi
    by_cases e13 : i = 13
    · subst e13
      obtain rfl : m + 7 = v := by simpa using hi
      simp [zup_app, zrow_at, (show ¬ m = m + 1 by omega), (show ¬ m = m + 2 by omega), (show ¬ m = m + 3 by omega), (show ¬ m = m + 4 by omega), (show ¬ m = m + 5 by omega), (show ¬ m = m + 6 by omega), (show ¬ m = m + 7 by omega), (show ¬ m = m + 8 by omega), (show ¬ m = m + 9 by omega), (show ¬ m = m + 10 by omega), (show ¬ m = m + 11 by omega), (show ¬ m = m + 12 by omega), (show ¬ m = m + 13 by omega), (show ¬ m = m + 14 by omega), (show ¬ m = m + 15 by omega), (show ¬ m = m + 16 by omega), (show ¬ m = m + 17 by omega), (show ¬ m = m + 18 by omega), (show ¬ m = m + 19 by omega), (show ¬ m = m + 20 by omega), (show ¬ m = m + 21 by omega)]
    rw [if_neg e13] at hi
    by_cases e14 : i = 14
    · subst e14
      obtain rfl : m + 8 = v := by simpa using hi
      simp [zup_app, zrow_at, (show ¬ m = m + 1 by omega), (show ¬ m = m + 2 by omega), (show ¬ m = m + 3 by omega), (show ¬ m = m + 4 by omega), (show ¬ m = m + 5 by omega), (show ¬ m = m + 6 by omega), (show ¬ m = m + 7 by omega), (show ¬ m = m + 8 by omega), (show ¬ m = m + 9 by omega), (show ¬ m = m + 10 by omega), (show ¬ m = m + 11 by omega), (show ¬ m = m + 12 by omega), (show ¬ m = m + 13 by omega), (show ¬ m = m + 14 by omega), (show ¬ m = m + 15 by omega), (show ¬ m = m + 16 by omega), (show ¬ m = m + 17 by omega), (show ¬ m = m + 18 by omega), (show ¬ m = m + 19 by omega), (show ¬ m = m + 20 by omega), (show ¬ m = m + 21 by omega)]
    rw [if_neg e14] at hi
    by_cases e15 : i = 15
    · subst e15
      obtain rfl : m + 9 = v := by simpa using hi
      simp [zup_app, zrow_at, (show ¬ m = m + 1 by omega), (show ¬ m = m + 2 by omega), (show ¬ m = m + 3 by omega), (show ¬ m = m + 4 by omega), (show ¬ m = m + 5 by omega), (show ¬ m = m + 6 by omega), (show ¬ m = m + 7 by omega), (show ¬ m = m + 8 by omega), (show ¬ m = m + 9 by omega), (show ¬ m = m + 10 by omega), (show ¬ m = m + 11 by omega), (show ¬ m = m + 12 by omega), (show ¬ m = m + 13 by omega), (show ¬ m = m + 14 by omega), (show ¬ m = m + 15 by omega), (show ¬ m = m + 16 by omega), (show ¬ m = m + 17 by omega), (show ¬ m = m + 18 by omega), (show ¬ m = m + 19 by omega), (show ¬ m = m + 20 by omega), (show ¬ m = m + 21 by omega)]
    rw [if_neg e15] at hi
    by_cases e16 : i = 16
    · subst e16
      obtain rfl : m + 10 = v := by simpa using hi
      simp [zup_app, zrow_at, (show ¬ m = m + 1 by omega), (show ¬ m = m + 2 by omega), (show ¬ m = m + 3 by omega), (show ¬ m = m + 4 by omega), (show ¬ m = m + 5 by omega), (show ¬ m = m + 6 by omega), (show ¬ m = m + 7 by omega), (show ¬ m = m + 8 by omega), (show ¬ m = m + 9 by omega), (show ¬ m = m + 10 by omega), (show ¬ m = m + 11 by omega), (show ¬ m = m + 12 by omega), (show ¬ m = m + 13 by omega), (show ¬ m = m + 14 by omega), (show ¬ m = m + 15 by omega), (show ¬ m = m + 16 by omega), (show ¬ m = m + 17 by omega), (show ¬ m = m + 18 by omega), (show ¬ m = m + 19 by omega), (show ¬ m = m + 20 by omega), (show ¬ m = m + 21 by omega)]
    rw [if_neg e16] at hi
    by_cases e17 : i = 17
    · subst e17
      obtain rfl : m + 11 = v := by simpa using hi
      simp [zup_app, zrow_at, (show ¬ m = m + 1 by omega), (show ¬ m = m + 2 by omega), (show ¬ m = m + 3 by omega), (show ¬ m = m + 4 by omega), (show ¬ m = m + 5 by omega), (show ¬ m = m + 6 by omega), (show ¬ m = m + 7 by omega), (show ¬ m = m + 8 by omega), (show ¬ m = m + 9 by omega), (show ¬ m = m + 10 by omega), (show ¬ m = m + 11 by omega), (show ¬ m = m + 12 by omega), (show ¬ m = m + 13 by omega), (show ¬ m = m + 14 by omega), (show ¬ m = m + 15 by omega), (show ¬ m = m + 16 by omega), (show ¬ m = m + 17 by omega), (show ¬ m = m + 18 by omega), (show ¬ m = m + 19 by omega), (show ¬ m = m + 20 by omega), (show ¬ m = m + 21 by omega)]
    rw [if_neg e17] at hi
    by_cases e18 : i = 18
    · subst e18
      obtain rfl : m + 12 = v := by simpa using hi
      simp [zup_app, zrow_at, (show ¬ m = m + 1 by omega), (show ¬ m = m + 2 by omega), (show ¬ m = m + 3 by omega), (show ¬ m = m + 4 by omega), (show ¬ m = m + 5 by omega), (show ¬ m = m + 6 by omega), (show ¬ m = m + 7 by omega), (show ¬ m = m + 8 by omega), (show ¬ m = m + 9 by omega), (show ¬ m = m + 10 by omega), (show ¬ m = m + 11 by omega), (show ¬ m = m + 12 by omega), (show ¬ m = m + 13 by omega), (show ¬ m = m + 14 by omega), (show ¬ m = m + 15 by omega), (show ¬ m = m + 16 by omega), (show ¬ m = m + 17 by omega), (show ¬ m = m + 18 by omega), (show ¬ m = m + 19 by omega), (show ¬ m = m + 20 by omega), (show ¬ m = m + 21 by omega)]
    rw [if_neg e18] at hi
    by_cases e20 : i = 20
    · subst e20
      obtain rfl : m + 13 = v := by simpa using hi
      simp [zup_app, zrow_at, (show ¬ m = m + 1 by omega), (show ¬ m = m + 2 by omega), (show ¬ m = m + 3 by omega), (show ¬ m = m + 4 by omega), (show ¬ m = m + 5 by omega), (show ¬ m = m + 6 by omega), (show ¬ m = m + 7 by omega), (show ¬ m = m + 8 by omega), (show ¬ m = m + 9 by omega), (show ¬ m = m + 10 by omega), (show ¬ m = m + 11 by omega), (show ¬ m = m + 12 by omega), (show ¬ m = m + 13 by omega), (show ¬ m = m + 14 by omega), (show ¬ m = m + 15 by omega), (show ¬ m = m + 16 by omega), (show ¬ m = m + 17 by omega), (show ¬ m = m + 18 by omega), (show ¬ m = m + 19 by omega), (show ¬ m = m + 20 by omega), (show ¬ m = m + 21 by omega)]
    rw [if_neg e20] at hi
    by_cases e21 : i = 21
    · subst e21
      obtain rfl : m + 14 = v := by simpa using hi
      simp [zup_app, zrow_at, (show ¬ m = m + 1 by omega), (show ¬ m = m + 2 by omega), (show ¬ m = m + 3 by omega), (show ¬ m = m + 4 by omega), (show ¬ m = m + 5 by omega), (show ¬ m = m + 6 by omega), (show ¬ m = m + 7 by omega), (show ¬ m = m + 8 by omega), (show ¬ m = m + 9 by omega), (show ¬ m = m + 10 by omega), (show ¬ m = m + 11 by omega), (show ¬ m = m + 12 by omega), (show ¬ m = m + 13 by omega), (show ¬ m = m + 14 by omega), (show ¬ m = m + 15 by omega), (show ¬ m = m + 16 by omega), (show ¬ m = m + 17 by omega), (show ¬ m = m + 18 by omega), (show ¬ m = m + 19 by omega), (show ¬ m = m + 20 by omega), (show ¬ m = m + 21 by omega)]
    rw [if_neg e21] at hi
    by_cases e22 : i = 22
    · subst e22
      obtain rfl : m + 15 = v := by simpa using hi
      simp [zup_app, zrow_at, (show ¬ m = m + 1 by omega), (show ¬ m = m + 2 by omega), (show ¬ m = m + 3 by omega), (show ¬ m = m + 4 by omega), (show ¬ m = m + 5 by omega), (show ¬ m = m + 6 by omega), (show ¬ m = m + 7 by omega), (show ¬ m = m + 8 by omega), (show ¬ m = m + 9 by omega), (show ¬ m = m + 10 by omega), (show ¬ m = m + 11 by omega), (show ¬ m = m + 12 by omega), (show ¬ m = m + 13 by omega), (show ¬ m = m + 14 by omega), (show ¬ m = m + 15 by omega), (show ¬ m = m + 16 by omega), (show ¬ m = m + 17 by omega), (show ¬ m = m + 18 by omega), (show ¬ m = m + 19 by omega), (show ¬ m = m + 20 by omega), (show ¬ m = m + 21 by omega)]
    rw [if_neg e22] at hi
    by_cases e24 : i = 24
    · subst e24
      obtain rfl : m + 16 = v := by simpa using hi
      simp [zup_app, zrow_at, (show ¬ m = m + 1 by omega), (show ¬ m = m + 2 by omega), (show ¬ m = m + 3 by omega), (show ¬ m = m + 4 by omega), (show ¬ m = m + 5 by omega), (show ¬ m = m + 6 by omega), (show ¬ m = m + 7 by omega), (show ¬ m = m + 8 by omega), (show ¬ m = m + 9 by omega), (show ¬ m = m + 10 by omega), (show ¬ m = m + 11 by omega), (show ¬ m = m + 12 by omega), (show ¬ m = m + 13 by omega), (show ¬ m = m + 14 by omega), (show ¬ m = m + 15 by omega), (show ¬ m = m + 16 by omega), (show ¬ m = m + 17 by omega), (show ¬ m = m + 18 by omega), (show ¬ m = m + 19 by omega), (show ¬ m = m + 20 by omega), (show ¬ m = m + 21 by omega)]
    rw [if_neg e24] at hi
    by_cases e26 : i = 26
    · subst e26
      obtain rfl : m + 17 = v := by simpa using hi
      simp [zup_app, zrow_at, (show ¬ m = m + 1 by omega), (show ¬ m = m + 2 by omega), (show ¬ m = m + 3 by omega), (show ¬ m = m + 4 by omega), (show ¬ m = m + 5 by omega), (show ¬ m = m + 6 by omega), (show ¬ m = m + 7 by omega), (show ¬ m = m + 8 by omega), (show ¬ m = m + 9 by omega), (show ¬ m = m + 10 by omega), (show ¬ m = m + 11 by omega), (show ¬ m = m + 12 by omega), (show ¬ m = m + 13 by omega), (show ¬ m = m + 14 by omega), (show ¬ m = m + 15 by omega), (show ¬ m = m + 16 by omega), (show ¬ m = m + 17 by omega), (show ¬ m = m + 18 by omega), (show ¬ m = m + 19 by omega), (show ¬ m = m + 20 by omega), (show ¬ m = m + 21 by omega)]
    rw [if_neg e26] at hi
    by_cases e27 : i = 27
    · subst e27
      obtain rfl : m + 18 = v := by simpa using hi
      simp [zup_app, zrow_at, (show ¬ m = m + 1 by omega), (show ¬ m = m + 2 by omega), (show ¬ m = m + 3 by omega), (show ¬ m = m + 4 by omega), (show ¬ m = m + 5 by omega), (show ¬ m = m + 6 by omega), (show ¬ m = m + 7 by omega), (show ¬ m = m + 8 by omega), (show ¬ m = m + 9 by omega), (show ¬ m = m + 10 by omega), (show ¬ m = m + 11 by omega), (show ¬ m = m + 12 by omega), (show ¬ m = m + 13 by omega), (show ¬ m = m + 14 by omega), (show ¬ m = m + 15 by omega), (show ¬ m = m + 16 by omega), (show ¬ m = m + 17 by omega), (show ¬ m = m + 18 by omega), (show ¬ m = m + 19 by omega), (show ¬ m = m + 20 by omega), (show ¬ m = m + 21 by omega)]
    rw [if_neg e27] at hi
    by_cases e28 : i = 28
    · subst e28
      obtain rfl : m + 19 = v := by simpa using hi
      simp [zup_app, zrow_at, (show ¬ m = m + 1 by omega), (show ¬ m = m + 2 by omega), (show ¬ m = m + 3 by omega), (show ¬ m = m + 4 by omega), (show ¬ m = m + 5 by omega), (show ¬ m = m + 6 by omega), (show ¬ m = m + 7 by omega), (show ¬ m = m + 8 by omega), (show ¬ m = m + 9 by omega), (show ¬ m = m + 10 by omega), (show ¬ m = m + 11 by omega), (show ¬ m = m + 12 by omega), (show ¬ m = m + 13 by omega), (show ¬ m = m + 14 by omega), (show ¬ m = m + 15 by omega), (show ¬ m = m + 16 by omega), (show ¬ m = m + 17 by omega), (show ¬ m = m + 18 by omega), (show ¬ m = m + 19 by omega), (show ¬ m = m + 20 by omega), (show ¬ m = m + 21 by omega)]
    rw [if_neg e28] at hi
    by_cases e29 : i = 29
    · subst e29
      obtain rfl : m + 20 = v := by simpa using hi
      simp [zup_app, zrow_at, (show ¬ m = m + 1 by omega), (show ¬ m = m + 2 by omega), (show ¬ m = m + 3 by omega), (show ¬ m = m + 4 by omega), (show ¬ m = m + 5 by omega), (show ¬ m = m + 6 by omega), (show ¬ m = m + 7 by omega), (show ¬ m = m + 8 by omega), (show ¬ m = m + 9 by omega), (show ¬ m = m + 10 by omega), (show ¬ m = m + 11 by omega), (show ¬ m = m + 12 by omega), (show ¬ m = m + 13 by omega), (show ¬ m = m + 14 by omega), (show ¬ m = m + 15 by omega), (show ¬ m = m + 16 by omega), (show ¬ m = m + 17 by omega), (show ¬ m = m + 18 by omega), (show ¬ m = m + 19 by omega), (show ¬ m = m + 20 by omega), (show ¬ m = m + 21 by omega)]
    rw [if_neg e29] at hi
    by_cases e30 : i = 30
    · subst e30
      obtain rfl : m + 21 = v := by simpa using hi
      simp [zup_app, zrow_at, (show ¬ m = m + 1 by omega), (show ¬ m = m + 2 by omega), (show ¬ m = m + 3 by omega), (show ¬ m = m + 4 by omega), (show ¬ m = m + 5 by omega), (show ¬ m = m + 6 by omega), (show ¬ m = m + 7 by omega), (show ¬ m = m + 8 by omega), (show ¬ m = m + 9 by omega), (show ¬ m = m + 10 by omega), (show ¬ m = m + 11 by omega), (show ¬ m = m + 12 by omega), (show ¬ m = m + 13 by omega), (show ¬ m = m + 14 by omega), (show ¬ m = m + 15 by omega), (show ¬ m = m + 16 by omega), (show ¬ m = m + 17 by omega), (show ¬ m = m + 18 by omega), (show ¬ m = m + 19 by omega), (show ¬ m = m + 20 by omega), (show ¬ m = m + 21 by omega)]
    rw [if_neg e30] at hi
    cases hi
  generalize hG : zup (zrow (zup (zrow (zup (zrow (zup (zrow (zup (zrow (zup (zrow (zup (zrow (zup (zrow (zup (zrow (zup (zrow (zup (zrow (zup (zrow (zup (zrow (zup (zrow (zup (zrow (zup (zrow (zup (zrow (zup (zrow (zup (zrow (zup (zrow (zup (zrow h (m + 1) (fun _ => 0)) m 1 (m + 1)) (m + 2) (fun _ => 0)) m 5 (m + 2)) (m + 3) (fun _ => 0)) m 6 (m + 3)) (m + 4) (fun _ => 0)) m 7 (m + 4)) (m + 5) (fun _ => 0)) m 8 (m + 5)) (m + 6) (fun _ => 0)) m 9 (m + 6)) (m + 7) (fun _ => 0)) m 13 (m + 7)) (m + 8) (fun _ => 0)) m 14 (m + 8)) (m + 9) (fun _ => 0)) m 15 (m + 9)) (m + 10) (fun _ => 0)) m 16 (m + 10)) (m + 11) (fun _ => 0)) m 17 (m + 11)) (m + 12) (fun _ => 0)) m 18 (m + 12)) (m + 13) (fun _ => 0)) m 20 (m + 13)) (m + 14) (fun _ => 0)) m 21 (m + 14)) (m + 15) (fun _ => 0)) m 22 (m + 15)) (m + 16) (fun _ => 0)) m 24 (m + 16)) (m + 17) (fun _ => 0)) m 26 (m + 17)) (m + 18) (fun _ => 0)) m 27 (m + 18)) (m + 19) (fun _ => 0)) m 28 (m + 19)) (m + 20) (fun _ => 0)) m 29 (m + 20)) (m + 21) (fun _ => 0)) m 30 (m + 21) = G
  refine x_ret (pc := 181) ⟨dX7_init_181, rfl⟩ ?_
  have Gm : ∀ k, (k = 0 ∨ k = 2 ∨ k = 3 ∨ k = 4 ∨ k = 10 ∨ k = 11 ∨ k = 12 ∨ k = 19 ∨ k = 23 ∨ k = 25) → G m k = 0 := by
    intro k hk
    rw [← hG]
    rcases hk with e | e | e | e | e | e | e | e | e | e <;> subst e <;> (simp [zup_app, zrow_at, h0, (show ¬ m = m + 1 by omega), (show ¬ m = m + 2 by omega), (show ¬ m = m + 3 by omega), (show ¬ m = m + 4 by omega), (show ¬ m = m + 5 by omega), (show ¬ m = m + 6 by omega), (show ¬ m = m + 7 by omega), (show ¬ m = m + 8 by omega), (show ¬ m = m + 9 by omega), (show ¬ m = m + 10 by omega), (show ¬ m = m + 11 by omega), (show ¬ m = m + 12 by omega), (show ¬ m = m + 13 by omega), (show ¬ m = m + 14 by omega), (show ¬ m = m + 15 by omega), (show ¬ m = m + 16 by omega), (show ¬ m = m + 17 by omega), (show ¬ m = m + 18 by omega), (show ¬ m = m + 19 by omega), (show ¬ m = m + 20 by omega), (show ¬ m = m + 21 by omega)]; rfl)
  have G12 : ∀ k, G (m + 12) k = 0 := by
    intro k
    rw [← hG]
    simp [zup_app, zrow_at, zo1, zo2]
  refine hq _ G ?_ ⟨⟨h9.1, ?_, ?_, ?_, ?_, ?_, ?_, ?_, ?_, ?_, ?_, ?_, ?_, ?_, ?_, ?_, ?_, ?_, ?_, ?_, ?_, ?_, ?_⟩, ⟨⟨Gm 2 (by omega), fun i c hi => ?_⟩, by show (0 : Nat) ≤ 1500; decide, fun c hc => absurd hc (by show ¬ c ∈ ([] : List Int); simp)⟩, ⟨Gm 10 (by omega), by show (0 : Nat) ≤ 5; decide, fun j l hj => ?_⟩, ⟨Gm 12 (by omega), by show (0 : Nat) ≤ 100; decide, fun j it hj => ?_, fun k _ _ => G12 k⟩, ⟨Gm 19 (by omega), by show (0 : Nat) ≤ 13; decide, fun i q hi => ?_⟩, ⟨Gm 23 (by omega), by show (0 : Nat) ≤ 1500; decide, fun i c hi => ?_⟩⟩
  · intro q q1
    refine ⟨?_, ?_⟩
    · rw [zfrz_ne (by omega)]
      repeat' rw [znew_ne (by omega)]
    · rw [← hG]
      repeat' first | rw [zup_ne (by omega)] | rw [zrow_ne (by omega)]
  · exact zfrz_eq (k := 7) (n := 31) (y := zn) (by repeat (first | assumption | exact znew_eq | rw [znew_ne (by omega)]))
  · rw [zfrz_ne (by omega)]
    repeat (first | assumption | exact znew_eq | rw [znew_ne (by omega)])
  · rw [zfrz_ne (by omega)]
    repeat (first | assumption | exact znew_eq | rw [znew_ne (by omega)])
  · rw [zfrz_ne (by omega)]
    repeat (first | assumption | exact znew_eq | rw [znew_ne (by omega)])
  · rw [zfrz_ne (by omega)]
    repeat (first | assumption | exact znew_eq | rw [znew_ne (by omega)])
  · rw [zfrz_ne (by omega)]
    repeat (first | assumption | exact znew_eq | rw [znew_ne (by omega)])
  · rw [zfrz_ne (by omega)]
    repeat (first | assumption | exact znew_eq | rw [znew_ne (by omega)])
  · rw [zfrz_ne (by omega)]
    repeat (first | assumption | exact znew_eq | rw [znew_ne (by omega)])
  · rw [zfrz_ne (by omega)]
    repeat (first | assumption | exact znew_eq | rw [znew_ne (by omega)])
  · rw [zfrz_ne (by omega)]
    repeat (first | assumption | exact znew_eq | rw [znew_ne (by omega)])
  · rw [zfrz_ne (by omega)]
    repeat (first | assumption | exact znew_eq | rw [znew_ne (by omega)])
  · rw [zfrz_ne (by omega)]
    repeat (first | assumption | exact znew_eq | rw [znew_ne (by omega)])
  · rw [zfrz_ne (by omega)]
    repeat (first | assumption | exact znew_eq | rw [znew_ne (by omega)])
  · rw [zfrz_ne (by omega)]
    repeat (first | assumption | exact znew_eq | rw [znew_ne (by omega)])
  · rw [zfrz_ne (by omega)]
    repeat (first | assumption | exact znew_eq | rw [znew_ne (by omega)])
  · rw [zfrz_ne (by omega)]
    repeat (first | assumption | exact znew_eq | rw [znew_ne (by omega)])
  · rw [zfrz_ne (by omega)]
    repeat (first | assumption | exact znew_eq | rw [znew_ne (by omega)])
  · rw [zfrz_ne (by omega)]
    repeat (first | assumption | exact znew_eq | rw [znew_ne (by omega)])
  · rw [zfrz_ne (by omega)]
    repeat (first | assumption | exact znew_eq | rw [znew_ne (by omega)])
  · rw [zfrz_ne (by omega)]
    repeat (first | assumption | exact znew_eq | rw [znew_ne (by omega)])
  · rw [zfrz_ne (by omega)]
    repeat (first | assumption | exact znew_eq | rw [znew_ne (by omega)])
  · rw [zfrz_ne (by omega)]
    repeat (first | assumption | exact znew_eq | rw [znew_ne (by omega)])
  · replace hi : ([] : List Int)[i]? = some c := hi
    simp at hi
  · replace hj : ([] : List (List Row))[j]? = some l := hj
    simp at hj
  · replace hj : ([] : List IT)[j]? = some it := hj
    simp at hj
  · replace hi : ([] : List PT)[i]? = some q := hi
    simp at hi
  · replace hi : ([] : List Int)[i]? = some c := hi
    simp at hi

end C43
