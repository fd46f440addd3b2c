section NA5
/-! a kind on paper is not longer than its rows -/
def nmW (c : Int) (kr : List Row) : Nat := wS (gL (nmF (fun z => lk c z kr) c) 10)
theorem nmW_up {c : Int} {kr : List Row} {r : Row} (h : r.1 = c → 0 ≤ r.2.1 ∧ r.2.1 ≤ 9) : nmW c (kr ++ [r]) ≤ nmW c kr + (if r.1 = c then wR (c, r.2.1, r.2.2.1, -1) else 0) := by
  unfold nmW
  by_cases e : r.1 = c
  · have hr := h e
    rw [if_pos e]
    have hz : ((r.2.1.toNat : Nat) : Int) = r.2.1 := by omega
    have := nmF_up (f := fun z => lk c z kr) (g := fun z => lk c z (kr ++ [r])) (c := c) (z := r.2.1.toNat) (fun i hi => by
      show lk c i (kr ++ [r]) = lk c i kr
      rw [lk_snoc, if_neg (by omega)]) 10
    have hv : lk c ((r.2.1.toNat : Nat) : Int) (kr ++ [r]) = r.2.2.1 := by rw [lk_snoc, if_pos ⟨e, hz.symm⟩]
    rw [if_pos (by omega)] at this
    simp only [hv] at this
    rw [hz] at this
    exact this
  · rw [if_neg e]
    have hf : (fun z => lk c z (kr ++ [r])) = fun z => lk c z kr := by
      funext z
      rw [lk_snoc, if_neg (fun y => e y.1)]
    rw [hf]
    exact Nat.le_refl _
def liL (c : Int) (kr : List Row) : List PR := if fl c (fun r => r.2.1) kr = -1 then [] else [(c, fl c (fun r => r.2.1) kr, (if nms c = 1 then -1 else fl c (fun r => r.2.2.1) kr), (if nms c = 3 then fl c (fun r => r.2.2.2) kr else -1))]
theorem liL_up (c : Int) (kr : List Row) (r : Row) : wS (liL c (kr ++ [r])) ≤ wS (liL c kr) + (if r.1 = c then wR (prO r) else 0) := by
  unfold liL
  simp only [fl_snoc]
  by_cases e : r.1 = c
  · simp only [e, if_true]
    split
    · exact Nat.zero_le _
    · rw [wS_1]
      have : prO r = (c, r.2.1, (if nms c = 1 then -1 else r.2.2.1), (if nms c = 3 then r.2.2.2 else -1)) := by
        unfold prO
        rw [e]
      rw [this]
      exact Nat.le_add_left _ _
  · simp only [e, if_false]
    exact Nat.le_refl _
end NA5
