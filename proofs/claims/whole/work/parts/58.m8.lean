section MA8
/-! how many rows a text may have -/
theorem prsS_rows {T : List Int} : ∀ (f : Nat) (p : Int) (l l' : List Row), 0 ≤ p → 3 * (l.length : Int) ≤ p → prsS T f p l = .inr l' → 3 * (l'.length : Int) ≤ T.length + 1
  | 0, p, l, l', h0, h1, hr => by unfold prsS at hr; cases hr
  | f + 1, p, l, l', h0, h1, hr => by
    cases hw : rowS T p l with
    | inl q => rw [prsS_f hw] at hr; cases hr
    | inr q =>
      obtain ⟨p', R⟩ := q
      obtain ⟨g1, g2, g3⟩ := rowS_good h0 hw
      have hll : ((l ++ [R]).length : Int) = l.length + 1 := by simp
      rw [prsS_r hw] at hr
      split at hr
      · split at hr
        · cases hr
        · cases hr
          omega
      · split at hr
        · cases hr
        · exact prsS_rows f (p' + 1) (l ++ [R]) l' (by omega) (by omega) hr
theorem parse_rows {T : List Int} {l : List Row} (h : parse T = .inr l) : 3 * (l.length : Int) ≤ T.length + 1 := by
  unfold parse at h
  split at h
  · cases h
    simp
    omega
  · exact prsS_rows _ 0 [] l (by omega) (by decide) h
/-- the weight of a row on paper -/
def wR (r : PR) : Nat := (59 :: rT r).length
def wS (rs : List PR) : Nat := (rs.map wR).sum
theorem semT_w : ∀ rs : List PR, (semT rs).length = wS rs
  | [] => rfl
  | r :: rs => by
    have h := semT_app [r] rs
    rw [List.singleton_append] at h
    rw [h, List.length_append, semT_1, semT_w rs]
    unfold wS
    rw [List.map_cons, List.sum_cons]
    rfl
theorem wS_app (l k : List PR) : wS (l ++ k) = wS l + wS k := by
  unfold wS
  rw [List.map_append, List.sum_append]
end MA8
