section MA6
/-! a kind's rows stand together -/
/-- what a walk over rows from b on for the last one that fits has found -/
def PK (p : Row → Bool) (b : Int) (kr : List Row) (i : Nat) (res : Int) : Prop := (res = -1 ∧ lastR p (kr.take i) = none) ∨ ∃ (j : Nat) (R : Row), res = b + j ∧ kr[j]? = some R ∧ lastR p (kr.take i) = some R
theorem PK_0 (p : Row → Bool) (b : Int) (kr : List Row) : PK p b kr 0 (-1) := Or.inl ⟨rfl, rfl⟩
theorem PK_y {p : Row → Bool} {b : Int} {kr : List Row} {i : Nat} {r : Row} (hr : kr[i]? = some r) (hp : p r = true) : PK p b kr (i + 1) (b + i) := by
  refine Or.inr ⟨i, r, rfl, hr, ?_⟩
  rw [take_snoc hr, lastR_snoc, if_pos hp]
theorem PK_n {p : Row → Bool} {b : Int} {kr : List Row} {i : Nat} {r : Row} {res : Int} (hr : kr[i]? = some r) (hp : ¬ p r = true) (h : PK p b kr i res) : PK p b kr (i + 1) res := by
  unfold PK at *
  rw [take_snoc hr, lastR_snoc, if_neg hp]
  exact h
theorem tw_self {p : Row → Bool} : ∀ {t : List Row}, (∀ q ∈ t, p q = true) → t.takeWhile p = t
  | [], _ => rfl
  | a :: t, h => by
    rw [List.takeWhile_cons, if_pos (h a (by simp)), tw_self (fun q hq => h q (List.mem_cons_of_mem _ hq))]
theorem tw_mem {p : Row → Bool} {q : Row} : ∀ {t : List Row}, q ∈ t.takeWhile p → p q = true
  | [], h => by simp at h
  | a :: t, h => by
    rw [List.takeWhile_cons] at h
    split at h
    · rename_i ha
      rcases List.mem_cons.mp h with z | z
      · rw [z]; exact ha
      · exact tw_mem z
    · simp at h
theorem kR_seg (k : Int) : ∀ l, WF l → ∀ (j : Nat) (R : Row), l[j]? = some R → R.1 = 75 → R.2.1 = k → kR k l = R :: (l.drop (j + 1)).takeWhile (fun r => r.1 != 75) ∧ (ck l = k ↔ ∀ q ∈ l.drop (j + 1), q.1 ≠ 75) := by
  refine snoc_ind (fun _ j R hj => by simp at hj) ?_
  intro l r ih h j R hj h75 hk
  obtain ⟨h1, h2⟩ := WF_snoc.mp h
  by_cases hjl : j < l.length
  · rw [List.getElem?_append_left hjl] at hj
    obtain ⟨i1, i2⟩ := ih h1 j R hj h75 hk
    have hne : kR k l ≠ [] := by rw [i1]; simp
    rw [kR_snoc, ck_snoc, List.drop_append_of_le_length (by omega)]
    by_cases e : r.1 = 75
    · have hrk : r.2.1 ≠ k := fun z => hne (by rw [← z]; exact curK_K h2 e)
      rw [if_pos e, if_neg hrk, i1]
      refine ⟨?_, ⟨fun z => absurd z hrk, fun z => absurd e (z r (by simp))⟩⟩
      congr 1
      rw [List.takeWhile_append]
      split
      · rename_i hl
        simp [e]
        exact (List.takeWhile_prefix _).eq_of_length hl
      · rfl
    · rw [if_neg e]
      have hall : (∀ q ∈ l.drop (j + 1) ++ [r], q.1 ≠ 75) ↔ ∀ q ∈ l.drop (j + 1), q.1 ≠ 75 := by
        constructor
        · exact fun z q hq => z q (List.mem_append_left _ hq)
        · intro z q hq
          rcases List.mem_append.mp hq with y | y
          · exact z q y
          · rw [List.mem_singleton.mp y]; exact e
      refine ⟨?_, by rw [hall]; exact i2⟩
      by_cases ec : ck l = k
      · rw [if_pos ec, i1]
        have ha := i2.mp ec
        have ht : (l.drop (j + 1)).takeWhile (fun r => r.1 != 75) = l.drop (j + 1) := by
          refine tw_self ?_
          intro q hq
          simpa using ha q hq
        rw [List.takeWhile_append, if_pos (by rw [ht]), ht]
        simp [e]
      · rw [if_neg ec, i1]
        congr 1
        rw [List.takeWhile_append]
        split
        · rename_i hl
          exfalso
          apply ec
          rw [i2]
          have ht := (List.takeWhile_prefix (fun r : Row => r.1 != 75) (l := l.drop (j + 1))).eq_of_length hl
          intro q hq
          rw [← ht] at hq
          simpa using tw_mem hq
        · rfl
  · rw [List.getElem?_append_right (by omega)] at hj
    have h0 : j - l.length = 0 := by
      have := (List.getElem?_eq_some_iff.mp hj).1
      simp at this
      omega
    rw [h0] at hj
    cases hj
    have ej : j = l.length := by omega
    subst ej
    rw [kR_snoc, ck_snoc, if_pos h75, if_pos hk]
    have : kR k l = [] := by rw [← hk]; exact curK_K h2 h75
    rw [this]
    simp [hk]
theorem tw_take {t : List Row} {p : Row → Bool} {i : Nat} (hi : i ≤ t.length) (h1 : ∀ q ∈ t.take i, p q = true) (h2 : i = t.length ∨ ∃ r, t[i]? = some r ∧ ¬ p r = true) : t.takeWhile p = t.take i := by
  have h3 : t.takeWhile p = t.take i ++ (t.drop i).takeWhile p := by
    conv => lhs; rw [← List.take_append_drop i t]
    rw [List.takeWhile_append, if_pos (by rw [tw_self h1])]
  rw [h3]
  rcases h2 with h2 | ⟨r, hr, hp⟩
  · rw [h2]; simp
  · have hl := (List.getElem?_eq_some_iff.mp hr).1
    have hd : t.drop i = r :: t.drop (i + 1) := by
      rw [List.drop_eq_getElem_cons hl]
      congr 1
      have := List.getElem?_eq_getElem hl
      rw [hr] at this
      exact (Option.some.inj this).symm
    rw [hd, List.takeWhile_cons, if_neg hp, List.append_nil]
theorem kR_len {k : Int} {l : List Row} (hW : WF l) {j : Nat} {R : Row} (hj : l[j]? = some R) (h75 : R.1 = 75) (hk : R.2.1 = k) {i : Nat} (hi : i ≤ (l.drop (j + 1)).length) (h1 : ∀ q ∈ (l.drop (j + 1)).take i, q.1 ≠ 75) (h2 : i = (l.drop (j + 1)).length ∨ ∃ r, (l.drop (j + 1))[i]? = some r ∧ r.1 = 75) : kR k l = (l.drop j).take (i + 1) ∧ (kR k l).length = i + 1 := by
  have h3 := (kR_seg k l hW j R hj h75 hk).1
  have h4 : (l.drop (j + 1)).takeWhile (fun r => r.1 != 75) = (l.drop (j + 1)).take i := by
    refine tw_take hi (fun q hq => by simpa using h1 q hq) ?_
    rcases h2 with h2 | ⟨r, hr, e⟩
    · exact Or.inl h2
    · exact Or.inr ⟨r, hr, by simp [e]⟩
  rw [h4] at h3
  have hl := (List.getElem?_eq_some_iff.mp hj).1
  have hd : l.drop j = R :: l.drop (j + 1) := by
    rw [List.drop_eq_getElem_cons hl]
    congr 1
    have := List.getElem?_eq_getElem hl
    rw [hj] at this
    exact (Option.some.inj this).symm
  rw [h3, hd]
  refine ⟨rfl, ?_⟩
  simp only [List.length_cons, List.length_take]
  omega
end MA6
