section NA4
/-! steps on paper -/
abbrev I0 : IT := (0, 0, 0, 0, 0, 0)
def stL (kr : List Row) : List PR := (stp kr).map (fun q => ((83 : Int), q.1, q.2, (-1 : Int)))
theorem stL_take (kr : List Row) : ∀ n : Nat, n ≤ (stp kr).length → gL (stF (vH kr I0 1) (vH kr I0 2)) n = ((stp kr).take n).map (fun q => ((83 : Int), q.1, q.2, (-1 : Int)))
  | 0, _ => by simp [gL]
  | n + 1, h => by
    have hl : n < (stp kr).length := by omega
    rw [gL_s, stL_take kr n (by omega), List.take_add_one, List.getElem?_eq_getElem hl, List.map_append]
    congr 1
    simp [stF, vH, List.getElem?_eq_getElem hl]
theorem stL_eq (kr : List Row) : gL (stF (vH kr I0 1) (vH kr I0 2)) (nL 83 kr) = stL kr := by
  rw [← stp_len, stL_take kr _ (Nat.le_refl _), List.take_length]
  rfl
theorem stL_up (kr : List Row) (r : Row) : wS (stL (kr ++ [r])) ≤ wS (stL kr) + (if r.1 = 83 then wR (83, r.2.1, r.2.2.1, -1) else 0) := by
  unfold stL
  rw [stp_snoc]
  by_cases e : r.1 = 83
  · rw [if_pos e, if_pos e, List.map_append, wS_app]
    simp [wS_1]
  · rw [if_neg e, if_neg e]
    exact Nat.le_refl _
end NA4
