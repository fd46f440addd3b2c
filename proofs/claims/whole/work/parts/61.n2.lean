section NA2
/-! names on paper, one by one -/
theorem wS_nil : wS [] = 0 := rfl
theorem wS_1 (r : PR) : wS [r] = wR r := by simp [wS]
theorem nmF_le (f : Int → Int) (c : Int) (i : Nat) : wS (nmF f c i) ≤ wR (c, (i : Int), f i, -1) := by
  unfold nmF
  split
  · exact Nat.zero_le _
  · rw [wS_1]
    exact Nat.le_refl _
theorem nmF_up {f g : Int → Int} {c : Int} {z : Nat} (h : ∀ i : Nat, i ≠ z → g i = f i) : ∀ n : Nat, wS (gL (nmF g c) n) ≤ wS (gL (nmF f c) n) + (if z < n then wR (c, (z : Int), g z, -1) else 0)
  | 0 => Nat.zero_le _
  | n + 1 => by
    have ih := nmF_up (c := c) h n
    rw [gL_s, gL_s, wS_app, wS_app]
    by_cases e : n = z
    · subst e
      rw [if_neg (by omega)] at ih
      rw [if_pos (by omega)]
      have := nmF_le g c n
      omega
    · have hn : nmF g c n = nmF f c n := by unfold nmF; rw [h n e]
      rw [hn]
      by_cases hz : z < n
      · rw [if_pos hz] at ih
        rw [if_pos (by omega)]
        omega
      · rw [if_neg hz] at ih
        rw [if_neg (by omega)]
        omega
/-- the weight of rows as they were read -/
def wK (l : List Row) : Nat := (l.map (fun R => wR (prO R))).sum
theorem wK_snoc (l : List Row) (r : Row) : wK (l ++ [r]) = wK l + wR (prO r) := by
  unfold wK
  rw [List.map_append, List.sum_append]
  simp
def sK (l : List Row) : Nat → Nat
  | 0 => 0
  | n + 1 => sK l n + wK (kR n l)
theorem sK_snoc (l : List Row) (r : Row) : ∀ n : Nat, sK (l ++ [r]) n ≤ sK l n + (if ck (l ++ [r]) < n then wR (prO r) else 0)
  | 0 => Nat.zero_le _
  | n + 1 => by
    have ih := sK_snoc l r n
    show sK (l ++ [r]) n + wK (kR n (l ++ [r])) ≤ sK l n + wK (kR n l) + _
    rw [kR_snoc]
    by_cases e : ck (l ++ [r]) = n
    · rw [if_pos e, wK_snoc]
      rw [if_neg (by omega)] at ih
      rw [if_pos (by omega)]
      omega
    · rw [if_neg e]
      by_cases hz : ck (l ++ [r]) < n
      · rw [if_pos hz] at ih
        rw [if_pos (by omega)]
        omega
      · rw [if_neg hz] at ih
        rw [if_neg (by omega)]
        omega
/-- the kinds' rows are rows of the edition -/
theorem sK_le : ∀ l : List Row, sK l 10 ≤ wK l := by
  refine snoc_ind (by decide) ?_
  intro l r ih
  have := sK_snoc l r 10
  rw [wK_snoc]
  split at this <;> omega
end NA2
