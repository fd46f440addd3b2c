section NA3
/-! exclusions on paper, one by one -/
theorem gL_up {F G : Nat → List PR} {z W : Nat} (h : ∀ i : Nat, i ≠ z → G i = F i) (hz : wS (G z) ≤ wS (F z) + W) : ∀ n : Nat, wS (gL G n) ≤ wS (gL F n) + (if z < n then W else 0)
  | 0 => Nat.zero_le _
  | n + 1 => by
    have ih := gL_up h hz n
    rw [gL_s, gL_s, wS_app, wS_app]
    by_cases e : n = z
    · subst e
      rw [if_neg (by omega)] at ih
      rw [if_pos (by omega)]
      omega
    · rw [h n e]
      by_cases hz2 : z < n
      · rw [if_pos hz2] at ih
        rw [if_pos (by omega)]
        omega
      · rw [if_neg hz2] at ih
        rw [if_neg (by omega)]
        omega
/-- the pair s, t (s < t) stands in the rows -/
noncomputable def apF (kr : List Row) (s t : Nat) : List PR := @ite _ (s < t ∧ apL s t kr) (Classical.propDecidable _) [(69, (s : Int), (t : Int), -1)] []
theorem apF_eq {kr : List Row} (hB : ∀ r ∈ kr, rowB r) (s t : Nat) (ht : t < 10) : exF1 (fun z => (exM kr z : Int)) s t = apF kr s t := by
  unfold exF1 apF
  have e : zand ((fun z => (exM kr z : Int)) (s : Int)) (zshl 1 t) ≠ 0 ↔ apL s t kr := by
    show zand ((exM kr s : Nat) : Int) (zshl 1 t) ≠ 0 ↔ _
    rw [zbit (exM_lt _ _ hB) (by omega) (by omega), Int.toNat_natCast]
    have := ap_ex (s := (s : Int)) (t := (t : Int)) (by omega) kr hB
    rw [Int.toNat_natCast] at this
    exact this
  by_cases h : s < t ∧ apL s t kr
  · rw [if_pos h, if_pos ⟨h.1, e.mpr h.2⟩]
  · rw [if_neg h, if_neg (fun z => h ⟨z.1, e.mp z.2⟩)]
theorem apF_le (kr : List Row) (s t : Nat) : wS (apF kr s t) ≤ wR (69, (s : Int), (t : Int), -1) := by
  unfold apF
  split
  · rw [wS_1]; exact Nat.le_refl _
  · exact Nat.zero_le _
/-- one more exclusion of a and b: only the place of the lesser and the greater differs -/
theorem apF_up {kr : List Row} {r : Row} {a b : Nat} (e : r.1 = 69) (hab : a < b) (hr : (r.2.1 = a ∧ r.2.2.1 = b) ∨ (r.2.1 = b ∧ r.2.2.1 = a)) : wS (gL (fun s => gL (apF (kr ++ [r]) s) 10) 10) ≤ wS (gL (fun s => gL (apF kr s) 10) 10) + wR (69, (a : Int), (b : Int), -1) := by
  have ne : ∀ s t : Nat, (s ≠ a ∨ t ≠ b) → apF (kr ++ [r]) s t = apF kr s t := by
    intro s t hst
    unfold apF
    by_cases h : s < t ∧ apL s t kr
    · rw [if_pos h, if_pos ⟨h.1, (apL_snoc _ _ _ _).mpr (Or.inl h.2)⟩]
    · rw [if_neg h, if_neg (fun z => h ⟨z.1, by
        rcases (apL_snoc _ _ _ _).mp z.2 with y | y
        · exact y
        · omega⟩)]
  have h1 := gL_up (F := apF kr a) (G := apF (kr ++ [r]) a) (z := b) (W := wR (69, (a : Int), (b : Int), -1)) (fun t ht => ne a t (Or.inr ht)) (by have := apF_le (kr ++ [r]) a b; omega) 10
  have h2 := gL_up (F := fun s => gL (apF kr s) 10) (G := fun s => gL (apF (kr ++ [r]) s) 10) (z := a) (W := wR (69, (a : Int), (b : Int), -1)) (fun s hs => gL_cong 10 (fun t _ => ne s t (Or.inl hs))) (by
    show wS (gL (apF (kr ++ [r]) a) 10) ≤ wS (gL (apF kr a) 10) + _
    split at h1 <;> omega) 10
  split at h2 <;> omega
end NA3
