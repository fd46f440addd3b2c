section C4
variable {D : va_G} {M : zM} {d k n : Nat} {L : List (Nat × zV)} {st : List zV} {ty : zT} {sz : Nat} {h : zH} {Q : zQ}
theorem sw_X0_tell_15 {a : Int} (k0 : w32 a = 0 → zX D mX0_tell d k n 40 L st ty sz h Q) (k1 : w32 a = 1 → zX D mX0_tell d k n 49 L st ty sz h Q) (k2 : w32 a = 2 → zX D mX0_tell d k n 58 L st ty sz h Q) (kd : (w32 a ≠ 0 ∧ w32 a ≠ 1 ∧ w32 a ≠ 2) → zX D mX0_tell d k n 67 L st ty sz h Q) : zX D mX0_tell d k n 15 L (iV a :: st) ty sz h Q := by
  by_cases h0 : w32 a = 0
  · exact x_tswIn 40 dX0_tell_15 (by omega) (by omega) (by rw [h0]; rfl) rfl (k0 h0)
  by_cases h1 : w32 a = 1
  · exact x_tswIn 49 dX0_tell_15 (by omega) (by omega) (by rw [h1]; rfl) rfl (k1 h1)
  by_cases h2 : w32 a = 2
  · exact x_tswIn 58 dX0_tell_15 (by omega) (by omega) (by rw [h2]; rfl) rfl (k2 h2)
  exact x_tswOut 67 dX0_tell_15 (by omega) rfl (kd (by omega))

theorem sw_X5_numbersOf_1 {a : Int} (k0 : w32 a = 68 → zX D mX5_numbersOf d k n 46 L st ty sz h Q) (k1 : w32 a = 75 → zX D mX5_numbersOf d k n 44 L st ty sz h Q) (k2 : w32 a = 77 → zX D mX5_numbersOf d k n 44 L st ty sz h Q) (k3 : w32 a = 82 → zX D mX5_numbersOf d k n 44 L st ty sz h Q) (kd : (w32 a ≠ 68 ∧ w32 a ≠ 75 ∧ w32 a ≠ 77 ∧ w32 a ≠ 82) → zX D mX5_numbersOf d k n 48 L st ty sz h Q) : zX D mX5_numbersOf d k n 1 L (iV a :: st) ty sz h Q := by
  by_cases h0 : w32 a = 68
  · exact x_lsw 46 dX5_numbersOf_1 (by decide) (by rw [h0] <;> rfl) rfl (k0 h0)
  by_cases h1 : w32 a = 75
  · exact x_lsw 44 dX5_numbersOf_1 (by decide) (by rw [h1] <;> rfl) rfl (k1 h1)
  by_cases h2 : w32 a = 77
  · exact x_lsw 44 dX5_numbersOf_1 (by decide) (by rw [h2] <;> rfl) rfl (k2 h2)
  by_cases h3 : w32 a = 82
  · exact x_lsw 44 dX5_numbersOf_1 (by decide) (by rw [h3] <;> rfl) rfl (k3 h3)
  have f0 : ¬ (68 : Int) = w32 a := fun q => h0 q.symm
  have f1 : ¬ (75 : Int) = w32 a := fun q => h1 q.symm
  have f2 : ¬ (77 : Int) = w32 a := fun q => h2 q.symm
  have f3 : ¬ (82 : Int) = w32 a := fun q => h3 q.symm
  exact x_lsw (off := 47) 48 dX5_numbersOf_1 (by decide) (by simp [Op.lookupswitch.offset, f0, f1, f2, f3]) rfl (kd ⟨h0, h1, h2, h3⟩)

theorem sw_X5_mayBegin_20 {a : Int} (k0 : w32 a = 68 → zX D mX5_mayBegin d k n 182 L st ty sz h Q) (k1 : w32 a = 69 → zX D mX5_mayBegin d k n 164 L st ty sz h Q) (k2 : w32 a = 70 → zX D mX5_mayBegin d k n 216 L st ty sz h Q) (k3 : w32 a = 75 → zX D mX5_mayBegin d k n 128 L st ty sz h Q) (k4 : w32 a = 77 → zX D mX5_mayBegin d k n 199 L st ty sz h Q) (k5 : w32 a = 82 → zX D mX5_mayBegin d k n 233 L st ty sz h Q) (k6 : w32 a = 83 → zX D mX5_mayBegin d k n 144 L st ty sz h Q) (k7 : w32 a = 88 → zX D mX5_mayBegin d k n 162 L st ty sz h Q) (k8 : w32 a = 90 → zX D mX5_mayBegin d k n 162 L st ty sz h Q) (kd : (w32 a ≠ 68 ∧ w32 a ≠ 69 ∧ w32 a ≠ 70 ∧ w32 a ≠ 75 ∧ w32 a ≠ 77 ∧ w32 a ≠ 82 ∧ w32 a ≠ 83 ∧ w32 a ≠ 88 ∧ w32 a ≠ 90) → zX D mX5_mayBegin d k n 250 L st ty sz h Q) : zX D mX5_mayBegin d k n 20 L (iV a :: st) ty sz h Q := by
  by_cases h0 : w32 a = 68
  · exact x_tswIn 182 dX5_mayBegin_20 (by omega) (by omega) (by rw [h0]; rfl) rfl (k0 h0)
  by_cases h1 : w32 a = 69
  · exact x_tswIn 164 dX5_mayBegin_20 (by omega) (by omega) (by rw [h1]; rfl) rfl (k1 h1)
  by_cases h2 : w32 a = 70
  · exact x_tswIn 216 dX5_mayBegin_20 (by omega) (by omega) (by rw [h2]; rfl) rfl (k2 h2)
  by_cases h3 : w32 a = 75
  · exact x_tswIn 128 dX5_mayBegin_20 (by omega) (by omega) (by rw [h3]; rfl) rfl (k3 h3)
  by_cases h4 : w32 a = 77
  · exact x_tswIn 199 dX5_mayBegin_20 (by omega) (by omega) (by rw [h4]; rfl) rfl (k4 h4)
  by_cases h5 : w32 a = 82
  · exact x_tswIn 233 dX5_mayBegin_20 (by omega) (by omega) (by rw [h5]; rfl) rfl (k5 h5)
  by_cases h6 : w32 a = 83
  · exact x_tswIn 144 dX5_mayBegin_20 (by omega) (by omega) (by rw [h6]; rfl) rfl (k6 h6)
  by_cases h7 : w32 a = 88
  · exact x_tswIn 162 dX5_mayBegin_20 (by omega) (by omega) (by rw [h7]; rfl) rfl (k7 h7)
  by_cases h8 : w32 a = 90
  · exact x_tswIn 162 dX5_mayBegin_20 (by omega) (by omega) (by rw [h8]; rfl) rfl (k8 h8)
  by_cases g3 : w32 a = 71
  · exact x_tswIn 250 dX5_mayBegin_20 (by omega) (by omega) (by rw [g3]; rfl) rfl (kd (by omega))
  by_cases g4 : w32 a = 72
  · exact x_tswIn 250 dX5_mayBegin_20 (by omega) (by omega) (by rw [g4]; rfl) rfl (kd (by omega))
  by_cases g5 : w32 a = 73
  · exact x_tswIn 250 dX5_mayBegin_20 (by omega) (by omega) (by rw [g5]; rfl) rfl (kd (by omega))
  by_cases g6 : w32 a = 74
  · exact x_tswIn 250 dX5_mayBegin_20 (by omega) (by omega) (by rw [g6]; rfl) rfl (kd (by omega))
  by_cases g8 : w32 a = 76
  · exact x_tswIn 250 dX5_mayBegin_20 (by omega) (by omega) (by rw [g8]; rfl) rfl (kd (by omega))
  by_cases g10 : w32 a = 78
  · exact x_tswIn 250 dX5_mayBegin_20 (by omega) (by omega) (by rw [g10]; rfl) rfl (kd (by omega))
  by_cases g11 : w32 a = 79
  · exact x_tswIn 250 dX5_mayBegin_20 (by omega) (by omega) (by rw [g11]; rfl) rfl (kd (by omega))
  by_cases g12 : w32 a = 80
  · exact x_tswIn 250 dX5_mayBegin_20 (by omega) (by omega) (by rw [g12]; rfl) rfl (kd (by omega))
  by_cases g13 : w32 a = 81
  · exact x_tswIn 250 dX5_mayBegin_20 (by omega) (by omega) (by rw [g13]; rfl) rfl (kd (by omega))
  by_cases g16 : w32 a = 84
  · exact x_tswIn 250 dX5_mayBegin_20 (by omega) (by omega) (by rw [g16]; rfl) rfl (kd (by omega))
  by_cases g17 : w32 a = 85
  · exact x_tswIn 250 dX5_mayBegin_20 (by omega) (by omega) (by rw [g17]; rfl) rfl (kd (by omega))
  by_cases g18 : w32 a = 86
  · exact x_tswIn 250 dX5_mayBegin_20 (by omega) (by omega) (by rw [g18]; rfl) rfl (kd (by omega))
  by_cases g19 : w32 a = 87
  · exact x_tswIn 250 dX5_mayBegin_20 (by omega) (by omega) (by rw [g19]; rfl) rfl (kd (by omega))
  by_cases g21 : w32 a = 89
  · exact x_tswIn 250 dX5_mayBegin_20 (by omega) (by omega) (by rw [g21]; rfl) rfl (kd (by omega))
  exact x_tswOut 250 dX5_mayBegin_20 (by omega) rfl (kd (by omega))

theorem sw_X5_isAsSaid_40 {a : Int} (k0 : w32 a = 69 → zX D mX5_isAsSaid d k n 200 L st ty sz h Q) (k1 : w32 a = 70 → zX D mX5_isAsSaid d k n 207 L st ty sz h Q) (k2 : w32 a = 82 → zX D mX5_isAsSaid d k n 229 L st ty sz h Q) (k3 : w32 a = 83 → zX D mX5_isAsSaid d k n 100 L st ty sz h Q) (k4 : w32 a = 88 → zX D mX5_isAsSaid d k n 168 L st ty sz h Q) (k5 : w32 a = 90 → zX D mX5_isAsSaid d k n 121 L st ty sz h Q) (kd : (w32 a ≠ 69 ∧ w32 a ≠ 70 ∧ w32 a ≠ 82 ∧ w32 a ≠ 83 ∧ w32 a ≠ 88 ∧ w32 a ≠ 90) → zX D mX5_isAsSaid d k n 238 L st ty sz h Q) : zX D mX5_isAsSaid d k n 40 L (iV a :: st) ty sz h Q := by
  by_cases h0 : w32 a = 69
  · exact x_lsw 200 dX5_isAsSaid_40 (by decide) (by rw [h0] <;> rfl) rfl (k0 h0)
  by_cases h1 : w32 a = 70
  · exact x_lsw 207 dX5_isAsSaid_40 (by decide) (by rw [h1] <;> rfl) rfl (k1 h1)
  by_cases h2 : w32 a = 82
  · exact x_lsw 229 dX5_isAsSaid_40 (by decide) (by rw [h2] <;> rfl) rfl (k2 h2)
  by_cases h3 : w32 a = 83
  · exact x_lsw 100 dX5_isAsSaid_40 (by decide) (by rw [h3] <;> rfl) rfl (k3 h3)
  by_cases h4 : w32 a = 88
  · exact x_lsw 168 dX5_isAsSaid_40 (by decide) (by rw [h4] <;> rfl) rfl (k4 h4)
  by_cases h5 : w32 a = 90
  · exact x_lsw 121 dX5_isAsSaid_40 (by decide) (by rw [h5] <;> rfl) rfl (k5 h5)
  have f0 : ¬ (69 : Int) = w32 a := fun q => h0 q.symm
  have f1 : ¬ (70 : Int) = w32 a := fun q => h1 q.symm
  have f2 : ¬ (82 : Int) = w32 a := fun q => h2 q.symm
  have f3 : ¬ (83 : Int) = w32 a := fun q => h3 q.symm
  have f4 : ¬ (88 : Int) = w32 a := fun q => h4 q.symm
  have f5 : ¬ (90 : Int) = w32 a := fun q => h5 q.symm
  exact x_lsw (off := 198) 238 dX5_isAsSaid_40 (by decide) (by simp [Op.lookupswitch.offset, f0, f1, f2, f3, f4, f5]) rfl (kd ⟨h0, h1, h2, h3, h4, h5⟩)

theorem sw_X5_takeOf_1 {a : Int} (k0 : w32 a = 68 → zX D mX5_takeOf d k n 154 L st ty sz h Q) (k1 : w32 a = 69 → zX D mX5_takeOf d k n 144 L st ty sz h Q) (k2 : w32 a = 70 → zX D mX5_takeOf d k n 188 L st ty sz h Q) (k3 : w32 a = 77 → zX D mX5_takeOf d k n 180 L st ty sz h Q) (k4 : w32 a = 82 → zX D mX5_takeOf d k n 202 L st ty sz h Q) (k5 : w32 a = 83 → zX D mX5_takeOf d k n 108 L st ty sz h Q) (k6 : w32 a = 88 → zX D mX5_takeOf d k n 131 L st ty sz h Q) (k7 : w32 a = 90 → zX D mX5_takeOf d k n 118 L st ty sz h Q) (kd : (w32 a ≠ 68 ∧ w32 a ≠ 69 ∧ w32 a ≠ 70 ∧ w32 a ≠ 77 ∧ w32 a ≠ 82 ∧ w32 a ≠ 83 ∧ w32 a ≠ 88 ∧ w32 a ≠ 90) → zX D mX5_takeOf d k n 210 L st ty sz h Q) : zX D mX5_takeOf d k n 1 L (iV a :: st) ty sz h Q := by
  by_cases h0 : w32 a = 68
  · exact x_tswIn 154 dX5_takeOf_1 (by omega) (by omega) (by rw [h0]; rfl) rfl (k0 h0)
  by_cases h1 : w32 a = 69
  · exact x_tswIn 144 dX5_takeOf_1 (by omega) (by omega) (by rw [h1]; rfl) rfl (k1 h1)
  by_cases h2 : w32 a = 70
  · exact x_tswIn 188 dX5_takeOf_1 (by omega) (by omega) (by rw [h2]; rfl) rfl (k2 h2)
  by_cases h3 : w32 a = 77
  · exact x_tswIn 180 dX5_takeOf_1 (by omega) (by omega) (by rw [h3]; rfl) rfl (k3 h3)
  by_cases h4 : w32 a = 82
  · exact x_tswIn 202 dX5_takeOf_1 (by omega) (by omega) (by rw [h4]; rfl) rfl (k4 h4)
  by_cases h5 : w32 a = 83
  · exact x_tswIn 108 dX5_takeOf_1 (by omega) (by omega) (by rw [h5]; rfl) rfl (k5 h5)
  by_cases h6 : w32 a = 88
  · exact x_tswIn 131 dX5_takeOf_1 (by omega) (by omega) (by rw [h6]; rfl) rfl (k6 h6)
  by_cases h7 : w32 a = 90
  · exact x_tswIn 118 dX5_takeOf_1 (by omega) (by omega) (by rw [h7]; rfl) rfl (k7 h7)
  by_cases g3 : w32 a = 71
  · exact x_tswIn 210 dX5_takeOf_1 (by omega) (by omega) (by rw [g3]; rfl) rfl (kd (by omega))
  by_cases g4 : w32 a = 72
  · exact x_tswIn 210 dX5_takeOf_1 (by omega) (by omega) (by rw [g4]; rfl) rfl (kd (by omega))
  by_cases g5 : w32 a = 73
  · exact x_tswIn 210 dX5_takeOf_1 (by omega) (by omega) (by rw [g5]; rfl) rfl (kd (by omega))
  by_cases g6 : w32 a = 74
  · exact x_tswIn 210 dX5_takeOf_1 (by omega) (by omega) (by rw [g6]; rfl) rfl (kd (by omega))
  by_cases g7 : w32 a = 75
  · exact x_tswIn 210 dX5_takeOf_1 (by omega) (by omega) (by rw [g7]; rfl) rfl (kd (by omega))
  by_cases g8 : w32 a = 76
  · exact x_tswIn 210 dX5_takeOf_1 (by omega) (by omega) (by rw [g8]; rfl) rfl (kd (by omega))
  by_cases g10 : w32 a = 78
  · exact x_tswIn 210 dX5_takeOf_1 (by omega) (by omega) (by rw [g10]; rfl) rfl (kd (by omega))
  by_cases g11 : w32 a = 79
  · exact x_tswIn 210 dX5_takeOf_1 (by omega) (by omega) (by rw [g11]; rfl) rfl (kd (by omega))
  by_cases g12 : w32 a = 80
  · exact x_tswIn 210 dX5_takeOf_1 (by omega) (by omega) (by rw [g12]; rfl) rfl (kd (by omega))
  by_cases g13 : w32 a = 81
  · exact x_tswIn 210 dX5_takeOf_1 (by omega) (by omega) (by rw [g13]; rfl) rfl (kd (by omega))
  by_cases g16 : w32 a = 84
  · exact x_tswIn 210 dX5_takeOf_1 (by omega) (by omega) (by rw [g16]; rfl) rfl (kd (by omega))
  by_cases g17 : w32 a = 85
  · exact x_tswIn 210 dX5_takeOf_1 (by omega) (by omega) (by rw [g17]; rfl) rfl (kd (by omega))
  by_cases g18 : w32 a = 86
  · exact x_tswIn 210 dX5_takeOf_1 (by omega) (by omega) (by rw [g18]; rfl) rfl (kd (by omega))
  by_cases g19 : w32 a = 87
  · exact x_tswIn 210 dX5_takeOf_1 (by omega) (by omega) (by rw [g19]; rfl) rfl (kd (by omega))
  by_cases g21 : w32 a = 89
  · exact x_tswIn 210 dX5_takeOf_1 (by omega) (by omega) (by rw [g21]; rfl) rfl (kd (by omega))
  exact x_tswOut 210 dX5_takeOf_1 (by omega) rfl (kd (by omega))

theorem sw_L_law_40 {M : zM} (hM : M.2.1 = cL_law) {a : Int} (k0 : w32 a = 0 → zX D M d k n 100 L st ty sz h Q) (k1 : w32 a = 1 → zX D M d k n 123 L st ty sz h Q) (k2 : w32 a = 2 → zX D M d k n 136 L st ty sz h Q) (k3 : w32 a = 3 → zX D M d k n 209 L st ty sz h Q) (k4 : w32 a = 4 → zX D M d k n 246 L st ty sz h Q) (k5 : w32 a = 5 → zX D M d k n 328 L st ty sz h Q) (k6 : w32 a = 6 → zX D M d k n 409 L st ty sz h Q) (k7 : w32 a = 7 → zX D M d k n 446 L st ty sz h Q) (k8 : w32 a = 8 → zX D M d k n 577 L st ty sz h Q) (k9 : w32 a = 9 → zX D M d k n 602 L st ty sz h Q) (k10 : w32 a = 10 → zX D M d k n 615 L st ty sz h Q) (kd : (w32 a ≠ 0 ∧ w32 a ≠ 1 ∧ w32 a ≠ 2 ∧ w32 a ≠ 3 ∧ w32 a ≠ 4 ∧ w32 a ≠ 5 ∧ w32 a ≠ 6 ∧ w32 a ≠ 7 ∧ w32 a ≠ 8 ∧ w32 a ≠ 9 ∧ w32 a ≠ 10) → zX D M d k n 640 L st ty sz h Q) : zX D M d k n 40 L (iV a :: st) ty sz h Q := by
  by_cases h0 : w32 a = 0
  · exact x_tswIn 100 (by rw [hM]; exact dL_law_40) (by omega) (by omega) (by rw [h0]; rfl) rfl (k0 h0)
  by_cases h1 : w32 a = 1
  · exact x_tswIn 123 (by rw [hM]; exact dL_law_40) (by omega) (by omega) (by rw [h1]; rfl) rfl (k1 h1)
  by_cases h2 : w32 a = 2
  · exact x_tswIn 136 (by rw [hM]; exact dL_law_40) (by omega) (by omega) (by rw [h2]; rfl) rfl (k2 h2)
  by_cases h3 : w32 a = 3
  · exact x_tswIn 209 (by rw [hM]; exact dL_law_40) (by omega) (by omega) (by rw [h3]; rfl) rfl (k3 h3)
  by_cases h4 : w32 a = 4
  · exact x_tswIn 246 (by rw [hM]; exact dL_law_40) (by omega) (by omega) (by rw [h4]; rfl) rfl (k4 h4)
  by_cases h5 : w32 a = 5
  · exact x_tswIn 328 (by rw [hM]; exact dL_law_40) (by omega) (by omega) (by rw [h5]; rfl) rfl (k5 h5)
  by_cases h6 : w32 a = 6
  · exact x_tswIn 409 (by rw [hM]; exact dL_law_40) (by omega) (by omega) (by rw [h6]; rfl) rfl (k6 h6)
  by_cases h7 : w32 a = 7
  · exact x_tswIn 446 (by rw [hM]; exact dL_law_40) (by omega) (by omega) (by rw [h7]; rfl) rfl (k7 h7)
  by_cases h8 : w32 a = 8
  · exact x_tswIn 577 (by rw [hM]; exact dL_law_40) (by omega) (by omega) (by rw [h8]; rfl) rfl (k8 h8)
  by_cases h9 : w32 a = 9
  · exact x_tswIn 602 (by rw [hM]; exact dL_law_40) (by omega) (by omega) (by rw [h9]; rfl) rfl (k9 h9)
  by_cases h10 : w32 a = 10
  · exact x_tswIn 615 (by rw [hM]; exact dL_law_40) (by omega) (by omega) (by rw [h10]; rfl) rfl (k10 h10)
  exact x_tswOut 640 (by rw [hM]; exact dL_law_40) (by omega) rfl (kd (by omega))

def isET (ty : zT) (e : Int) : Prop := 0 ≤ e ∧ ty e = some (1, 1, fun i => if i = 0 then some (e + 1) else none) ∧ ty (e + 1) = some (13, 10, fun i => if 0 ≤ i ∧ i < 10 then some (e + 2 + 6 * i) else none) ∧ ∀ k, 0 ≤ k → k < 10 → isKT ty (e + 2 + 6 * k)
def isBT (ty : zT) (b : Int) : Prop := 0 ≤ b ∧ ty b = some (0, 5, fun i => if i = 0 then some (b + 1) else if i = 1 then some (b + 2) else if i = 2 then some (b + 3) else none) ∧ ty (b + 1) = some (8, 13, zn) ∧ ty (b + 2) = some (8, 13, zn) ∧ ty (b + 3) = some (8, 13, zn)
def isPT (ty : zT) (p : Int) : Prop := 0 ≤ p ∧ ty p = some (4, 2, fun i => if i = 0 then some (p + 1) else none) ∧ ty (p + 1) = some (8, 1500, zn)
def isRT (ty : zT) (r : Int) : Prop := 0 ≤ r ∧ ty r = some (5, 7, fun i => if i = 0 then some (r + 1) else if i = 6 then some (r + 2) else none) ∧ ty (r + 1) = some (8, 1500, zn) ∧ ty (r + 2) = some (8, 3, zn)
/-- the class's object, with all that never moves -/
def isXT (ty : zT) (x : Int) : Prop := 0 ≤ x ∧ ty x = some (6, 8, fun i => if i = 0 then some (x + 1) else if i = 1 then some (x + 4) else if i = 2 then some (x + 6) else if i = 3 then some (x + 10) else if i = 4 then some (x + 14) else if i = 6 then some (x + 15) else none)
  ∧ isRT ty (x + 1) ∧ isPT ty (x + 4) ∧ isBT ty (x + 6) ∧ isBT ty (x + 10) ∧ ty (x + 14) = some (11, 100, zn) ∧ ty (x + 15) = some (12, 6, fun i => if 0 ≤ i ∧ i < 6 then some (x + 16 + 62 * i) else none) ∧ ∀ e, 0 ≤ e → e < 6 → isET ty (x + 16 + 62 * e)
theorem kClr_fr {h h' : zH} {a : Int} (hc : kClr h a) (hf : ∀ q, a ≤ q → q ≤ a + 5 → h' q = h q) : kClr h' a := by
  unfold kClr at *
  rw [hf a (by omega) (by omega), hf (a + 3) (by omega) (by omega), hf (a + 4) (by omega) (by omega), hf (a + 5) (by omega) (by omega)]
  exact hc

set_option maxHeartbeats 4000000 in
set_option maxRecDepth 100000 in
theorem c_k_clear {a : Int} (hK : isKT ty a) (hq : ∀ h', Fr a (a + 5) h h' → kClr h' a → Q none ty sz h') : zXM D mX3_clear (d + 1) 0 0 [rV a] ty sz h Q := by
  obtain ⟨k9, k0, k1, k2, k3, k4, k5⟩ := hK
  refine x_aload_n (pc := 0) dX3_clear_0 rfl ?_
  refine x_iconst (pc := 1) dX3_clear_1 ?_
  refine y_putZ 0 (pc := 2) dX3_clear_2 f_RX3_27 (by assumption) rfl (Or.inl rfl) (by rfl) rfl ?_
  refine x_aload_n (pc := 5) dX3_clear_5 rfl ?_
  refine x_iconst (pc := 6) dX3_clear_6 ?_
  refine y_putI 1 (pc := 7) dX3_clear_7 f_RX3_31 (by assumption) rfl (by rfl) (by omega) rfl ?_
  refine x_aload_n (pc := 10) dX3_clear_10 rfl ?_
  refine x_getF (pc := 11) dX3_clear_11 f_RX3_18 (by assumption) (by rfl) ?_
  refine x_iconst (pc := 14) dX3_clear_14 ?_
  refine x_callS2 (pc := 15) dX3_clear_15 (k_RX3_35 _ rfl) tms_X6_fill rfl rfl ?_
  refine c_fill (N := 10) (by omega) (by assumption) (by decide) (by omega) ?_
  dsimp only [Option.toList, List.cons_append, List.nil_append]
  refine x_aload_n (pc := 18) dX3_clear_18 rfl ?_
  refine x_getF (pc := 19) dX3_clear_19 f_RX3_21 (by assumption) (by rfl) ?_
  refine x_iconst (pc := 22) dX3_clear_22 ?_
  refine x_callS2 (pc := 23) dX3_clear_23 (k_RX3_35 _ rfl) tms_X6_fill rfl rfl ?_
  refine c_fill (N := 10) (by omega) (by assumption) (by decide) (by omega) ?_
  dsimp only [Option.toList, List.cons_append, List.nil_append]
  refine x_aload_n (pc := 26) dX3_clear_26 rfl ?_
  refine x_getF (pc := 27) dX3_clear_27 f_RX3_24 (by assumption) (by rfl) ?_
  refine x_iconst (pc := 30) dX3_clear_30 ?_
  refine x_callS2 (pc := 31) dX3_clear_31 (k_RX3_35 _ rfl) tms_X6_fill rfl rfl ?_
  refine c_fill (N := 10) (by omega) (by assumption) (by decide) (by omega) ?_
  dsimp only [Option.toList, List.cons_append, List.nil_append]
  refine x_aload_n (pc := 34) dX3_clear_34 rfl ?_
  refine x_iconst (pc := 35) dX3_clear_35 ?_
  refine y_putI 7 (pc := 36) dX3_clear_36 f_RX3_39 (by assumption) rfl (by rfl) (by omega) rfl ?_
  refine x_aload_n (pc := 39) dX3_clear_39 rfl ?_
  refine x_iconst (pc := 40) dX3_clear_40 ?_
  refine y_putI 8 (pc := 41) dX3_clear_41 f_RX3_42 (by assumption) rfl (by rfl) (by omega) rfl ?_
  refine x_aload_n (pc := 44) dX3_clear_44 rfl ?_
  refine x_iconst (pc := 45) dX3_clear_45 ?_
  refine y_putI 9 (pc := 46) dX3_clear_46 f_RX3_45 (by assumption) rfl (by rfl) (by omega) rfl ?_
  refine x_aload_n (pc := 49) dX3_clear_49 rfl ?_
  refine x_iconst (pc := 50) dX3_clear_50 ?_
  refine y_putI 10 (pc := 51) dX3_clear_51 f_RX3_48 (by assumption) rfl (by rfl) (by omega) rfl ?_
  refine x_aload_n (pc := 54) dX3_clear_54 rfl ?_
  refine x_iconst (pc := 55) dX3_clear_55 ?_
  refine y_putI 11 (pc := 56) dX3_clear_56 f_RX3_51 (by assumption) rfl (by rfl) (by omega) rfl ?_
  refine x_aload_n (pc := 59) dX3_clear_59 rfl ?_
  refine x_iconst (pc := 60) dX3_clear_60 ?_
  refine y_putI 12 (pc := 61) dX3_clear_61 f_RX3_54 (by assumption) rfl (by rfl) (by omega) rfl ?_
  refine x_aload_n (pc := 64) dX3_clear_64 rfl ?_
  refine x_iconst (pc := 65) dX3_clear_65 ?_
  refine y_putI 13 (pc := 66) dX3_clear_66 f_RX3_57 (by assumption) rfl (by rfl) (by omega) rfl ?_
  refine x_aload_n (pc := 69) dX3_clear_69 rfl ?_
  refine x_iconst (pc := 70) dX3_clear_70 ?_
  refine y_putI 14 (pc := 71) dX3_clear_71 f_RX3_60 (by assumption) rfl (by rfl) (by omega) rfl ?_
  refine x_ret (pc := 74) ⟨dX3_clear_74, rfl⟩ ?_
  refine hq _ (fun q hq2 => ?_) ?_
  · funext j
    simp only [zup_app, zfil]
    have e0 : ¬ q = a := by omega
    have e3 : ¬ q = a + 3 := by omega
    have e4 : ¬ q = a + 4 := by omega
    have e5 : ¬ q = a + 5 := by omega
    simp only [e0, e3, e4, e5, false_and, if_false]
  · have e3 : ¬ a + 3 = a := by omega
    have e4 : ¬ a + 4 = a := by omega
    have e5 : ¬ a + 5 = a := by omega
    have e34 : ¬ a + 3 = a + 4 := by omega
    have e35 : ¬ a + 3 = a + 5 := by omega
    have e45 : ¬ a + 4 = a + 5 := by omega
    have S0 : ∀ u : Int, ¬ a = a + 3 ∧ ¬ a = a + 4 ∧ ¬ a = a + 5 := fun u => by omega
    refine ⟨?_, ?_, ?_, ⟨?_, ?_, ?_, ?_, ?_, ?_, ?_⟩, fun z h0 h1 => ?_⟩
    all_goals try (simp [zup_app, zfil, (S0 0).1, (S0 0).2.1, (S0 0).2.2]; done)
    refine ⟨?_, ?_, ?_⟩ <;> simp [zup_app, zfil, e3, e4, e5, e34, e35, e45, h0, h1]

set_option maxHeartbeats 4000000 in
set_option maxRecDepth 100000 in
theorem c_e_place {e k : Int} (hE : isET ty e) (hk : 0 ≤ k ∧ k < 10) (hq : Q (some (rV (e + 2 + 6 * k))) ty sz h) : zXM D mX1_place d 0 0 [rV e, iV k] ty sz h Q := by
  obtain ⟨e9, e0, e1, e2⟩ := hE
  refine x_iload_n (pc := 0) dX1_place_0 rfl ?_
  refine x_if_lt (pc := 1) 22 dX1_place_1 rfl (fun c_1 => ?_) (fun c_1 => ?_)
  · (try simp (disch := omega) only [zb_e0, zb_n0, w32_id, w64_id, ne_eq, Classical.not_not] at c_1)
    omega
  · (try simp (disch := omega) only [zb_e0, zb_n0, w32_id, w64_id, ne_eq, Classical.not_not] at c_1)
    refine x_iload_n (pc := 4) dX1_place_4 rfl ?_
    refine x_aload_n (pc := 5) dX1_place_5 rfl ?_
    refine x_getF (pc := 6) dX1_place_6 f_RX1_11 (by assumption) (by rfl) ?_
    refine x_alen (pc := 9) dX1_place_9 (by assumption) (by decide) ?_
    refine x_icmp_ge (pc := 10) 22 dX1_place_10 rfl (fun c_10 => ?_) (fun c_10 => ?_)
    · (try simp (disch := omega) only [zb_e0, zb_n0, w32_id, w64_id, ne_eq, Classical.not_not] at c_10)
      omega
    · (try simp (disch := omega) only [zb_e0, zb_n0, w32_id, w64_id, ne_eq, Classical.not_not] at c_10)
      refine x_aload_n (pc := 13) dX1_place_13 rfl ?_
      refine x_getF (pc := 14) dX1_place_14 f_RX1_11 (by assumption) (by rfl) ?_
      refine x_iload_n (pc := 17) dX1_place_17 rfl ?_
      refine x_aaldF (pc := 18) dX1_place_18 (by assumption) (by decide) (by omega) (by omega) (by exact if_pos ⟨by omega, by omega⟩) ?_
      refine x_goto (pc := 19) 23 dX1_place_19 rfl ?_
      refine x_retv (pc := 23) ⟨dX1_place_23, _, rfl⟩ ?_
      exact hq

set_option maxHeartbeats 4000000 in
set_option maxRecDepth 100000 in
theorem c_e_clear_l {e : Int} (hE : isET ty e) (hq : ∀ h', Fr e (e + 61) h h' → (∀ k, 0 ≤ k → k < 10 → kClr h' (e + 2 + 6 * k)) → Q none ty sz h') : ∀ (n : Nat) (i : Int) (g : zH), 0 ≤ i ∧ i ≤ 10 → Fr e (e + 61) h g → (∀ k, 0 ≤ k → k < i → kClr g (e + 2 + 6 * k)) → 10 - i < n → zX D mX1_clear (d + 2) 0 0 2 [(1, iV i), (0, rV e)] [] ty sz g Q := by
  intro n
  induction n with
  | zero =>
    intro i g h1 hF h2 hm
    exfalso
    omega
  | succ n ih =>
    intro i g h1 hF h2 hm
    obtain ⟨e9, e0, e1, e2⟩ := hE
    refine x_iload_n (pc := 2) dX1_clear_2 rfl ?_
    refine x_aload_n (pc := 3) dX1_clear_3 rfl ?_
    refine x_getF (pc := 4) dX1_clear_4 f_RX1_11 (by assumption) (by rfl) ?_
    refine x_alen (pc := 7) dX1_clear_7 (by assumption) (by decide) ?_
    refine x_icmp_ge (pc := 8) 32 dX1_clear_8 rfl (fun c_8 => ?_) (fun c_8 => ?_)
    · (try simp (disch := omega) only [zb_e0, zb_n0, w32_id, w64_id, ne_eq, Classical.not_not] at c_8)
      refine x_ret (pc := 32) ⟨dX1_clear_32, rfl⟩ ?_
      exact hq g hF (fun k hk1 hk2 => h2 k hk1 (by omega))
    · (try simp (disch := omega) only [zb_e0, zb_n0, w32_id, w64_id, ne_eq, Classical.not_not] at c_8)
      refine x_aload_n (pc := 11) dX1_clear_11 rfl ?_
      refine x_getF (pc := 12) dX1_clear_12 f_RX1_11 (by assumption) (by rfl) ?_
      refine x_iload_n (pc := 15) dX1_clear_15 rfl ?_
      refine x_aaldF (pc := 16) dX1_clear_16 (by assumption) (by decide) (by omega) (by omega) (by exact if_pos ⟨by omega, by omega⟩) ?_
      refine x_astore_n (pc := 17) dX1_clear_17 (by decide) ?_
      refine x_aload_n (pc := 18) dX1_clear_18 rfl ?_
      refine x_ifnull (pc := 19) 26 dX1_clear_19 rfl (fun c_19 => ?_) (fun c_19 => ?_)
      · (try simp (disch := omega) only [zb_e0, zb_n0, w32_id, w64_id, ne_eq, Classical.not_not] at c_19)
        omega
      · (try simp (disch := omega) only [zb_e0, zb_n0, w32_id, w64_id, ne_eq, Classical.not_not] at c_19)
        refine x_aload_n (pc := 22) dX1_clear_22 rfl ?_
        refine x_callV0 (pc := 23) dX1_clear_23 (k_RX1_18 _ rfl) tmv_X3_clear (e2 i (by omega) (by omega)).2.1 rfl rfl rfl ?_
        refine c_k_clear (e2 i (by omega) (by omega)) (fun g' hF2 hc2 => ?_)
        dsimp only [Option.toList, List.cons_append, List.nil_append]
        refine x_iinc (pc := 26) dX1_clear_26 rfl (by decide) ?_
        refine x_goto (pc := 29) 2 dX1_clear_29 rfl ?_
        refine x_loc [(1, iV (i + 1)), (0, rV e)] ⟨rfl, rfl, trivial⟩ (ih (i + 1) g' (by omega) (Fr.tr hF hF2 (by omega) (by omega) (by omega) (by omega)) (fun k hk1 hk2 => ?_) (by omega))
        by_cases ek : k = i
        · subst ek
          exact hc2
        · exact kClr_fr (h2 k hk1 (by omega)) (fun q q1 q2 => hF2 q (by omega))

set_option maxHeartbeats 4000000 in
set_option maxRecDepth 100000 in
theorem c_e_clear {e : Int} (hE : isET ty e) (hq : ∀ h', Fr e (e + 61) h h' → (∀ k, 0 ≤ k → k < 10 → kClr h' (e + 2 + 6 * k)) → Q none ty sz h') : zXM D mX1_clear (d + 2) 0 0 [rV e] ty sz h Q := by
  refine x_iconst (pc := 0) dX1_clear_0 ?_
  refine x_istore_n (pc := 1) dX1_clear_1 (by decide) ?_
  exact x_loc _ (by exact ⟨rfl, rfl, trivial⟩) (c_e_clear_l hE hq 11 0 h (by omega) (Fr.rf _ _ _) (fun u h1 h2 => by omega) (by omega))

set_option maxHeartbeats 4000000 in
set_option maxRecDepth 100000 in
theorem c_kindOf {e k : Int} (hE : isET ty e) (hk : 0 ≤ k ∧ k < 10) (hn : h (e + 2 + 6 * k) 0 = 0 → Q (some (rV (-1))) ty sz h) (hy : h (e + 2 + 6 * k) 0 ≠ 0 → Q (some (rV (e + 2 + 6 * k))) ty sz h) : zXM D mX6_kindOf (d + 1) 0 0 [rV e, iV k] ty sz h Q := by
  have hE0 := hE
  obtain ⟨e9, e0, e1, e2⟩ := hE
  refine x_aload_n (pc := 0) dX6_kindOf_0 rfl ?_
  refine x_ifnonnull (pc := 1) 8 dX6_kindOf_1 rfl (fun c_1 => ?_) (fun c_1 => ?_)
  · (try simp (disch := omega) only [zb_e0, zb_n0, w32_id, w64_id, ne_eq, Classical.not_not] at c_1)
    refine x_aload_n (pc := 8) dX6_kindOf_8 rfl ?_
    refine x_iload_n (pc := 9) dX6_kindOf_9 rfl ?_
    refine x_callV1 (pc := 10) dX6_kindOf_10 (k_RX6_170 _ rfl) tmv_X1_place (by assumption) rfl rfl rfl ?_
    refine c_e_place hE0 hk ?_
    dsimp only [Option.toList, List.cons_append, List.nil_append]
    refine x_astore_n (pc := 13) dX6_kindOf_13 (by decide) ?_
    refine x_aload_n (pc := 14) dX6_kindOf_14 rfl ?_
    refine x_ifnull (pc := 15) 29 dX6_kindOf_15 rfl (fun c_15 => ?_) (fun c_15 => ?_)
    · (try simp (disch := omega) only [zb_e0, zb_n0, w32_id, w64_id, ne_eq, Classical.not_not] at c_15)
      omega
    · (try simp (disch := omega) only [zb_e0, zb_n0, w32_id, w64_id, ne_eq, Classical.not_not] at c_15)
      refine x_aload_n (pc := 18) dX6_kindOf_18 rfl ?_
      refine y_getI 0 (pc := 19) dX6_kindOf_19 f_RX6_174 (e2 k (by omega) (by omega)).2.1 rfl (fun b_19 => ?_)
      refine x_if_eq (pc := 22) 29 dX6_kindOf_22 rfl (fun c_22 => ?_) (fun c_22 => ?_)
      · (try simp (disch := omega) only [zb_e0, zb_n0, w32_id, w64_id, ne_eq, Classical.not_not] at c_22)
        refine x_null (pc := 29) dX6_kindOf_29 ?_
        refine x_retv (pc := 30) ⟨dX6_kindOf_30, _, rfl⟩ ?_
        first | exact hn (by assumption) | exact hy (by assumption)
      · (try simp (disch := omega) only [zb_e0, zb_n0, w32_id, w64_id, ne_eq, Classical.not_not] at c_22)
        refine x_aload_n (pc := 25) dX6_kindOf_25 rfl ?_
        refine x_goto (pc := 26) 30 dX6_kindOf_26 rfl ?_
        refine x_retv (pc := 30) ⟨dX6_kindOf_30, _, rfl⟩ ?_
        first | exact hn (by assumption) | exact hy (by assumption)
  · (try simp (disch := omega) only [zb_e0, zb_n0, w32_id, w64_id, ne_eq, Classical.not_not] at c_1)
    omega

set_option maxHeartbeats 4000000 in
set_option maxRecDepth 100000 in
theorem c_slot {x i : Int} (hX : isXT ty x) (hi : i32 i) (hn : ¬ (0 ≤ i ∧ i < 6) → Q (some (rV (-1))) ty sz h) (hy : 0 ≤ i ∧ i < 6 → Q (some (rV (x + 16 + 62 * i))) ty sz h) : zXM D mX6_slot d 0 0 [rV x, iV i] ty sz h Q := by
  have hX0 := hX
  obtain ⟨x9, x0, hR, hP, hB, hB2, x14, x15, hEd⟩ := hX
  refine x_iload_n (pc := 0) dX6_slot_0 rfl ?_
  refine x_if_lt (pc := 1) 22 dX6_slot_1 rfl (fun c_1 => ?_) (fun c_1 => ?_)
  · (try simp (disch := omega) only [zb_e0, zb_n0, w32_id, w64_id, ne_eq, Classical.not_not] at c_1)
    refine x_null (pc := 22) dX6_slot_22 ?_
    refine x_retv (pc := 23) ⟨dX6_slot_23, _, rfl⟩ ?_
    first | exact hn (by omega) | exact hy (by omega)
  · (try simp (disch := omega) only [zb_e0, zb_n0, w32_id, w64_id, ne_eq, Classical.not_not] at c_1)
    refine x_iload_n (pc := 4) dX6_slot_4 rfl ?_
    refine x_aload_n (pc := 5) dX6_slot_5 rfl ?_
    refine x_getF (pc := 6) dX6_slot_6 f_RX6_41 (by assumption) (by rfl) ?_
    refine x_alen (pc := 9) dX6_slot_9 (by assumption) (by decide) ?_
    refine x_icmp_ge (pc := 10) 22 dX6_slot_10 rfl (fun c_10 => ?_) (fun c_10 => ?_)
    · (try simp (disch := omega) only [zb_e0, zb_n0, w32_id, w64_id, ne_eq, Classical.not_not] at c_10)
      refine x_null (pc := 22) dX6_slot_22 ?_
      refine x_retv (pc := 23) ⟨dX6_slot_23, _, rfl⟩ ?_
      first | exact hn (by omega) | exact hy (by omega)
    · (try simp (disch := omega) only [zb_e0, zb_n0, w32_id, w64_id, ne_eq, Classical.not_not] at c_10)
      refine x_aload_n (pc := 13) dX6_slot_13 rfl ?_
      refine x_getF (pc := 14) dX6_slot_14 f_RX6_41 (by assumption) (by rfl) ?_
      refine x_iload_n (pc := 17) dX6_slot_17 rfl ?_
      refine x_aaldF (pc := 18) dX6_slot_18 (by assumption) (by decide) (by omega) (by omega) (by exact if_pos ⟨by omega, by omega⟩) ?_
      refine x_goto (pc := 19) 23 dX6_slot_19 rfl ?_
      refine x_retv (pc := 23) ⟨dX6_slot_23, _, rfl⟩ ?_
      first | exact hn (by omega) | exact hy (by omega)

set_option maxHeartbeats 4000000 in
set_option maxRecDepth 100000 in
theorem c_latest {x : Int} (hX : isXT ty x) (hc : 0 ≤ h x 7 ∧ h x 7 ≤ 5) (hn : h x 7 = 0 → Q (some (rV (-1))) ty sz h) (hy : 0 < h x 7 → Q (some (rV (x + 16 + 62 * (h x 7 - 1)))) ty sz h) : zXM D mX6_latest (d + 1) 0 0 [rV x] ty sz h Q := by
  have hX0 := hX
  obtain ⟨x9, x0, hR, hP, hB, hB2, x14, x15, hEd⟩ := hX
  refine x_aload_n (pc := 0) dX6_latest_0 rfl ?_
  refine x_aload_n (pc := 1) dX6_latest_1 rfl ?_
  refine y_getI 7 (pc := 2) dX6_latest_2 f_RX6_54 (by assumption) rfl (fun b_2 => ?_)
  refine x_iconst (pc := 5) dX6_latest_5 ?_
  refine x_isub (pc := 6) dX6_latest_6 ?_
  refine x_callV1 (pc := 7) dX6_latest_7 (k_RX6_58 _ rfl) tmv_X6_slot (by assumption) rfl rfl rfl ?_
  refine c_slot hX0 (by omega) (fun c => ?_) (fun c => ?_)

  · refine x_retv (pc := 10) ⟨dX6_latest_10, _, rfl⟩ ?_
    exact hn (by omega)
  · refine x_retv (pc := 10) ⟨dX6_latest_10, _, rfl⟩ ?_
    exact hy (by omega)

set_option maxHeartbeats 4000000 in
set_option maxRecDepth 100000 in
theorem c_itemOf {x i : Int} (hX : isXT ty x) (hi : i32 i) (hc : 0 ≤ h x 5 ∧ h x 5 ≤ 100) (hn : ¬ (0 ≤ i ∧ i < h x 5) → Q (some (rV (-1))) ty sz h) (hy : 0 ≤ i ∧ i < h x 5 → Q (some (rV (h (x + 14) i))) ty sz h) : zXM D mX6_itemOf d 0 0 [rV x, iV i] ty sz h Q := by
  have hX0 := hX
  obtain ⟨x9, x0, hR, hP, hB, hB2, x14, x15, hEd⟩ := hX
  refine x_iload_n (pc := 0) dX6_itemOf_0 rfl ?_
  refine x_if_lt (pc := 1) 30 dX6_itemOf_1 rfl (fun c_1 => ?_) (fun c_1 => ?_)
  · (try simp (disch := omega) only [zb_e0, zb_n0, w32_id, w64_id, ne_eq, Classical.not_not] at c_1)
    refine x_null (pc := 30) dX6_itemOf_30 ?_
    refine x_retv (pc := 31) ⟨dX6_itemOf_31, _, rfl⟩ ?_
    first | exact hn (by omega) | exact hy (by omega)
  · (try simp (disch := omega) only [zb_e0, zb_n0, w32_id, w64_id, ne_eq, Classical.not_not] at c_1)
    refine x_iload_n (pc := 4) dX6_itemOf_4 rfl ?_
    refine x_aload_n (pc := 5) dX6_itemOf_5 rfl ?_
    refine y_getI 5 (pc := 6) dX6_itemOf_6 f_RX6_78 (by assumption) rfl (fun b_6 => ?_)
    refine x_icmp_ge (pc := 9) 30 dX6_itemOf_9 rfl (fun c_9 => ?_) (fun c_9 => ?_)
    · (try simp (disch := omega) only [zb_e0, zb_n0, w32_id, w64_id, ne_eq, Classical.not_not] at c_9)
      refine x_null (pc := 30) dX6_itemOf_30 ?_
      refine x_retv (pc := 31) ⟨dX6_itemOf_31, _, rfl⟩ ?_
      first | exact hn (by omega) | exact hy (by omega)
    · (try simp (disch := omega) only [zb_e0, zb_n0, w32_id, w64_id, ne_eq, Classical.not_not] at c_9)
      refine x_iload_n (pc := 12) dX6_itemOf_12 rfl ?_
      refine x_aload_n (pc := 13) dX6_itemOf_13 rfl ?_
      refine x_getF (pc := 14) dX6_itemOf_14 f_RX6_35 (by assumption) (by rfl) ?_
      refine x_alen (pc := 17) dX6_itemOf_17 (by assumption) (by decide) ?_
      refine x_icmp_ge (pc := 18) 30 dX6_itemOf_18 rfl (fun c_18 => ?_) (fun c_18 => ?_)
      · (try simp (disch := omega) only [zb_e0, zb_n0, w32_id, w64_id, ne_eq, Classical.not_not] at c_18)
        omega
      · (try simp (disch := omega) only [zb_e0, zb_n0, w32_id, w64_id, ne_eq, Classical.not_not] at c_18)
        refine x_aload_n (pc := 21) dX6_itemOf_21 rfl ?_
        refine x_getF (pc := 22) dX6_itemOf_22 f_RX6_35 (by assumption) (by rfl) ?_
        refine x_iload_n (pc := 25) dX6_itemOf_25 rfl ?_
        refine x_aald (pc := 26) dX6_itemOf_26 (by assumption) (by decide) (by omega) (by omega) ?_
        refine x_goto (pc := 27) 31 dX6_itemOf_27 rfl ?_
        refine x_retv (pc := 31) ⟨dX6_itemOf_31, _, rfl⟩ ?_
        first | exact hn (by omega) | exact hy (by omega)

end C4
