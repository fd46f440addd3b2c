section MA9
/-! a number on paper is not longer than it was read -/
theorem dgF_0 (n : Nat) (v : Int) : dgF n v 0 = [] := by
  cases n with
  | zero => rfl
  | succ n => exact if_neg (by decide)
theorem p10_pos (j : Nat) : (1 : Int) ≤ 10 ^ j := by
  induction j with
  | zero => decide
  | succ j ih => rw [Int.pow_succ]; omega
theorem dgF_len (v : Int) : ∀ (j n : Nat), j < n → (dgF n v (10 ^ j)).length = j + 1
  | 0, n + 1, _ => by
    have h : dgF (n + 1) v (10 ^ 0) = (48 + v / 10 ^ 0 % 10) :: dgF n v (10 ^ 0 / 10) := if_pos (by decide)
    rw [h, show (10 : Int) ^ 0 / 10 = 0 by decide, dgF_0]
    rfl
  | j + 1, n + 1, hj => by
    have hp := p10_pos (j + 1)
    have h : dgF (n + 1) v (10 ^ (j + 1)) = (48 + v / 10 ^ (j + 1) % 10) :: dgF n v (10 ^ (j + 1) / 10) := if_pos (by omega)
    have e : (10 : Int) ^ (j + 1) / 10 = 10 ^ j := by
      rw [Int.pow_succ]
      exact Int.mul_ediv_cancel _ (by decide)
    rw [h, e, List.length_cons, dgF_len v j n (by omega)]
theorem utF_pow (v : Int) : ∀ (n j : Nat), ∃ k : Nat, utF n v (10 ^ j) = 10 ^ k ∧ j ≤ k ∧ k ≤ j + n ∧ (k = j ∨ (10 : Int) ^ k ≤ v)
  | 0, j => ⟨j, rfl, Nat.le_refl _, Nat.le_refl _, Or.inl rfl⟩
  | n + 1, j => by
    have e : (10 : Int) * 10 ^ j = 10 ^ (j + 1) := by rw [Int.pow_succ, Int.mul_comm]
    by_cases h : 10 * (10 : Int) ^ j ≤ v
    · have hu : utF (n + 1) v (10 ^ j) = utF n v (10 * 10 ^ j) := if_pos h
      rw [hu, e]
      obtain ⟨k, k1, k2, k3, k4⟩ := utF_pow v n (j + 1)
      refine ⟨k, k1, by omega, by omega, Or.inr ?_⟩
      rcases k4 with k4 | k4
      · rw [k4, ← e]; exact h
      · exact k4
    · have hu : utF (n + 1) v (10 ^ j) = 10 ^ j := if_neg h
      exact ⟨j, hu, Nat.le_refl _, by omega, Or.inl rfl⟩
theorem p10_lt {j n : Nat} {v : Int} (h1 : (10 : Int) ^ j ≤ v) (h2 : v < 10 ^ n) : j < n := by
  rcases Nat.lt_or_ge j n with h | h
  · exact h
  · exfalso
    obtain ⟨d, rfl⟩ := Nat.exists_eq_add_of_le h
    have hp := p10_pos n
    have hd := p10_pos d
    have : (10 : Int) ^ n * 1 ≤ 10 ^ n * 10 ^ d := Int.mul_le_mul_of_nonneg_left hd (by omega)
    rw [Int.pow_add] at h1
    omega
theorem numT_len {v : Int} {n : Nat} (hv : v < 10 ^ n) (hn : 1 ≤ n) : (numT v).length ≤ n := by
  obtain ⟨k, k1, k2, k3, k4⟩ := utF_pow v 6 0
  have e : numT v = dgF 8 v (10 ^ k) := by
    unfold numT
    rw [show (1 : Int) = 10 ^ 0 by decide, k1]
  rw [e, dgF_len v k 8 (by omega)]
  rcases k4 with k4 | k4
  · omega
  · have := p10_lt k4 hv
    omega
theorem numT_pos (v : Int) : 1 ≤ (numT v).length := by
  obtain ⟨k, k1, k2, k3, k4⟩ := utF_pow v 6 0
  have e : numT v = dgF 8 v (10 ^ k) := by
    unfold numT
    rw [show (1 : Int) = 10 ^ 0 by decide, k1]
  rw [e, dgF_len v k 8 (by omega)]
  omega
theorem numS_lt (T : List Int) : ∀ (n : Nat) (p v : Int) (a : Nat), v < 10 ^ a → ∃ q : Nat, (numS T n p v).2 = p + q ∧ (numS T n p v).1 < 10 ^ (a + q)
  | 0, p, v, a, h => ⟨0, by show p = p + 0; omega, h⟩
  | n + 1, p, v, a, h => by
    by_cases hc : 48 ≤ lookT T p ∧ lookT T p ≤ 57
    · rw [numS_y hc]
      obtain ⟨q, q1, q2⟩ := numS_lt T n (p + 1) (10 * v + lookT T p - 48) (a + 1) (by
        rw [Int.pow_succ]
        omega)
      refine ⟨q + 1, by rw [q1]; omega, ?_⟩
      rw [show a + (q + 1) = a + 1 + q by omega]
      exact q2
    · rw [numS_n hc]
      exact ⟨0, by show p = p + 0; omega, h⟩
/-- a number that was read, on paper -/
theorem numR_len (T : List Int) {p : Int} (h : (numR T p).2 ≠ p) : ((numT (numR T p).1).length : Int) ≤ (numR T p).2 - p := by
  obtain ⟨q, q1, q2⟩ := numS_lt T 7 p 0 0 (by decide)
  unfold numR at *
  have hq : 1 ≤ q := by
    rcases Nat.eq_zero_or_pos q with z | z
    · subst z
      exact absurd (by rw [q1]; omega) h
    · exact z
  have := numT_len (n := q) (by rwa [Nat.zero_add] at q2) hq
  rw [q1]
  omega
end MA9
