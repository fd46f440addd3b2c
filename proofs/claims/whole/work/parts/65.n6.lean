section NA6
/-! a kind's weight on paper -/
noncomputable def exW (kr : List Row) : Nat := wS (gL (fun s => gL (apF kr s) 10) 10)
theorem wR_sym (a b : Int) (ha : 0 ≤ a) (hb : 0 ≤ b) : wR (69, a, b, -1) = wR (69, b, a, -1) := by
  simp [wR, rT, show ¬ a = -1 by omega, show ¬ b = -1 by omega]
  omega
theorem exW_up {kr : List Row} {r : Row} (hb : rowB r) : exW (kr ++ [r]) ≤ exW kr + (if r.1 = 69 then wR (prO r) else 0) := by
  unfold exW
  by_cases e : r.1 = 69
  · rw [if_pos e]
    obtain ⟨r1, r2, r3⟩ := hb.2.2.2.2.2.2.2.1 e
    have hp : prO r = (69, r.2.1, r.2.2.1, -1) := by
      unfold prO
      rw [e]
      rfl
    rw [hp]
    by_cases h : r.2.1 < r.2.2.1
    · have := apF_up (kr := kr) (r := r) (a := r.2.1.toNat) (b := r.2.2.1.toNat) e (by omega) (Or.inl ⟨by omega, by omega⟩)
      rwa [show ((r.2.1.toNat : Nat) : Int) = r.2.1 by omega, show ((r.2.2.1.toNat : Nat) : Int) = r.2.2.1 by omega] at this
    · have := apF_up (kr := kr) (r := r) (a := r.2.2.1.toNat) (b := r.2.1.toNat) e (by omega) (Or.inr ⟨by omega, by omega⟩)
      rw [show ((r.2.1.toNat : Nat) : Int) = r.2.1 by omega, show ((r.2.2.1.toNat : Nat) : Int) = r.2.2.1 by omega] at this
      rwa [wR_sym _ _ r1.1 r2.1]
  · rw [if_neg e]
    have hf : ∀ s t, apF (kr ++ [r]) s t = apF kr s t := by
      intro s t
      unfold apF
      have : apL s t (kr ++ [r]) ↔ apL s t kr := by
        rw [apL_snoc]
        exact ⟨fun z => z.elim id (fun y => absurd y.1 e), fun z => Or.inl z⟩
      by_cases h : s < t ∧ apL s t kr
      · rw [if_pos h, if_pos ⟨h.1, this.mpr h.2⟩]
      · rw [if_neg h, if_neg (fun z => h ⟨z.1, this.mp z.2⟩)]
    have hg : gL (fun s => gL (apF (kr ++ [r]) s) 10) 10 = gL (fun s => gL (apF kr s) 10) 10 := gL_cong 10 (fun s _ => gL_cong 10 (fun t _ => hf s t))
    rw [hg]
    exact Nat.le_add_right _ _
noncomputable def kW (kr : List Row) : Nat := wS (stL kr) + nmW 90 kr + nmW 88 kr + exW kr + wS (liL 68 kr) + wS (liL 77 kr) + wS (liL 70 kr) + wS (liL 82 kr)
theorem kW_up {kr : List Row} {r : Row} (hb : rowB r) (h75 : r.1 ≠ 75) : kW (kr ++ [r]) ≤ kW kr + wR (prO r) := by
  have s1 := stL_up kr r
  have s2 := nmW_up (c := 90) (kr := kr) (r := r) (fun e => (hb.2.2.2.2.2.1 e).1)
  have s3 := nmW_up (c := 88) (kr := kr) (r := r) (fun e => hb.2.2.2.2.2.2.1 e)
  have s4 := exW_up (kr := kr) hb
  have s5 := liL_up 68 kr r
  have s6 := liL_up 77 kr r
  have s7 := liL_up 70 kr r
  have s8 := liL_up 82 kr r
  have p2 : (r.1 = 83 ∨ r.1 = 90 ∨ r.1 = 88) → prO r = (r.1, r.2.1, r.2.2.1, -1) := by
    intro e
    unfold prO
    rcases e with e | e | e <;> rw [e] <;> rfl
  unfold kW
  rcases hb.1 with e | e | e | e | e | e | e | e | e
  · exact absurd e h75
  · rw [p2 (by omega)]
    simp [e] at s1 s2 s3 s4 s5 s6 s7 s8 ⊢
    omega
  · rw [p2 (by omega)]
    simp [e] at s1 s2 s3 s4 s5 s6 s7 s8 ⊢
    omega
  · rw [p2 (by omega)]
    simp [e] at s1 s2 s3 s4 s5 s6 s7 s8 ⊢
    omega
  all_goals
    simp [e] at s1 s2 s3 s4 s5 s6 s7 s8
    omega
end NA6
