section MA5
/-! the reading of a row, case by case; the rows of the kind that is read -/
section RS
variable {T : List Int} {p : Int} {l : List Row} {c : Int}
theorem rs_b1 (hc : lookT T p = c) (hm : mayB l c) (hb : (numR T (p + 1)).2 = p + 1 ∨ ¬ okN l c 0 (numR T (p + 1)).1 0) : rowS T p l = .inl (p + 1) := by
  subst hc
  obtain ⟨k, hk⟩ : ∃ k, (nms (lookT T p)).toNat = k + 1 := ⟨(nms (lookT T p)).toNat - 1, by have := nms_v (lookT T p); omega⟩
  refine rowS_f hm ?_
  rw [hk]
  exact rdN_bad (q := p + 1) (fun z => absurd z.1 (by decide)) rfl hb
theorem rs_1 (hm : mayB l c) (hc : lookT T p = c) (hb : ¬ ((numR T (p + 1)).2 = p + 1 ∨ ¬ okN l c 0 (numR T (p + 1)).1 0)) (k : Nat) : rdN T l c (k + 1) 0 (p + 1) 0 [] = rdN T l c k 1 (numR T (p + 1)).2 (numR T (p + 1)).1 [(numR T (p + 1)).1] := by
  rw [rdN_ok (q := p + 1) (fun z => absurd z.1 (by decide)) rfl hb]
  rfl
theorem rs_k1 (hc : lookT T p = c) (hm : mayB l c) (hn : nms c = 1) (hb : ¬ ((numR T (p + 1)).2 = p + 1 ∨ ¬ okN l c 0 (numR T (p + 1)).1 0)) : rowS T p l = .inr ((numR T (p + 1)).2, (c, (numR T (p + 1)).1, 0, 0)) := by
  subst hc
  rw [rowS_k (p' := (numR T (p + 1)).2) (acc := [(numR T (p + 1)).1]) hm (by rw [hn]; exact rs_1 hm rfl hb 0)]
  unfold cRow
  rw [hn]
  simp
theorem rs_s2 (hc : lookT T p = c) (hm : mayB l c) (hn : nms c = 2 ∨ nms c = 3) (hb : ¬ ((numR T (p + 1)).2 = p + 1 ∨ ¬ okN l c 0 (numR T (p + 1)).1 0)) (hs : lookT T (numR T (p + 1)).2 ≠ 32) : rowS T p l = .inl (numR T (p + 1)).2 := by
  subst hc
  obtain ⟨k, hk⟩ : ∃ k, (nms (lookT T p)).toNat = k + 1 + 1 := ⟨(nms (lookT T p)).toNat - 2, by omega⟩
  refine rowS_f hm ?_
  rw [hk, rs_1 hm rfl hb]
  exact rdN_sep ⟨by decide, hs⟩
theorem rs_b2 (hc : lookT T p = c) (hm : mayB l c) (hn : nms c = 2 ∨ nms c = 3) (hb : ¬ ((numR T (p + 1)).2 = p + 1 ∨ ¬ okN l c 0 (numR T (p + 1)).1 0)) (hs : lookT T (numR T (p + 1)).2 = 32) (h2 : (numR T ((numR T (p + 1)).2 + 1)).2 = (numR T (p + 1)).2 + 1 ∨ ¬ okN l c 1 (numR T ((numR T (p + 1)).2 + 1)).1 (numR T (p + 1)).1) : rowS T p l = .inl ((numR T (p + 1)).2 + 1) := by
  subst hc
  obtain ⟨k, hk⟩ : ∃ k, (nms (lookT T p)).toNat = k + 1 + 1 := ⟨(nms (lookT T p)).toNat - 2, by omega⟩
  refine rowS_f hm ?_
  rw [hk, rs_1 hm rfl hb]
  exact rdN_bad (fun z => z.2 hs) (by rw [if_pos (by decide)]) h2
theorem rs_2 (hs : lookT T (numR T (p + 1)).2 = 32) (h2 : ¬ ((numR T ((numR T (p + 1)).2 + 1)).2 = (numR T (p + 1)).2 + 1 ∨ ¬ okN l c 1 (numR T ((numR T (p + 1)).2 + 1)).1 (numR T (p + 1)).1)) (k : Nat) : rdN T l c (k + 1) 1 (numR T (p + 1)).2 (numR T (p + 1)).1 [(numR T (p + 1)).1] = rdN T l c k 2 (numR T ((numR T (p + 1)).2 + 1)).2 (numR T (p + 1)).1 [(numR T (p + 1)).1, (numR T ((numR T (p + 1)).2 + 1)).1] := by
  rw [rdN_ok (q := (numR T (p + 1)).2 + 1) (fun z => z.2 hs) (by rw [if_pos (by decide)]) h2]
  rfl
theorem rs_k2 (hc : lookT T p = c) (hm : mayB l c) (hn : nms c = 2) (hb : ¬ ((numR T (p + 1)).2 = p + 1 ∨ ¬ okN l c 0 (numR T (p + 1)).1 0)) (hs : lookT T (numR T (p + 1)).2 = 32) (h2 : ¬ ((numR T ((numR T (p + 1)).2 + 1)).2 = (numR T (p + 1)).2 + 1 ∨ ¬ okN l c 1 (numR T ((numR T (p + 1)).2 + 1)).1 (numR T (p + 1)).1)) : rowS T p l = .inr ((numR T ((numR T (p + 1)).2 + 1)).2, (c, (numR T (p + 1)).1, (numR T ((numR T (p + 1)).2 + 1)).1, 0)) := by
  subst hc
  rw [rowS_k (p' := (numR T ((numR T (p + 1)).2 + 1)).2) (acc := [(numR T (p + 1)).1, (numR T ((numR T (p + 1)).2 + 1)).1]) hm (by rw [hn]; exact (rs_1 hm rfl hb 1).trans (rs_2 hs h2 0))]
  unfold cRow
  rw [hn]
  simp
theorem rs_s3 (hc : lookT T p = c) (hm : mayB l c) (hn : nms c = 3) (hb : ¬ ((numR T (p + 1)).2 = p + 1 ∨ ¬ okN l c 0 (numR T (p + 1)).1 0)) (hs : lookT T (numR T (p + 1)).2 = 32) (h2 : ¬ ((numR T ((numR T (p + 1)).2 + 1)).2 = (numR T (p + 1)).2 + 1 ∨ ¬ okN l c 1 (numR T ((numR T (p + 1)).2 + 1)).1 (numR T (p + 1)).1)) {q : Int} (hq : q = (numR T ((numR T (p + 1)).2 + 1)).2) (hs3 : lookT T q ≠ 32) : rowS T p l = .inl q := by
  subst hc
  refine rowS_f hm ?_
  rw [hn]
  refine ((rs_1 hm rfl hb 2).trans (rs_2 hs h2 1)).trans ?_
  rw [← hq]
  exact rdN_sep ⟨by decide, hs3⟩
theorem rs_b3 (hc : lookT T p = c) (hm : mayB l c) (hn : nms c = 3) (hb : ¬ ((numR T (p + 1)).2 = p + 1 ∨ ¬ okN l c 0 (numR T (p + 1)).1 0)) (hs : lookT T (numR T (p + 1)).2 = 32) (h2 : ¬ ((numR T ((numR T (p + 1)).2 + 1)).2 = (numR T (p + 1)).2 + 1 ∨ ¬ okN l c 1 (numR T ((numR T (p + 1)).2 + 1)).1 (numR T (p + 1)).1)) {q : Int} (hq : q = (numR T ((numR T (p + 1)).2 + 1)).2) (hs3 : lookT T q = 32) (h3 : (numR T (q + 1)).2 = q + 1 ∨ ¬ okN l c 2 (numR T (q + 1)).1 (numR T (p + 1)).1) : rowS T p l = .inl (q + 1) := by
  subst hc
  refine rowS_f hm ?_
  rw [hn]
  refine ((rs_1 hm rfl hb 2).trans (rs_2 hs h2 1)).trans ?_
  rw [← hq]
  exact rdN_bad (fun z => z.2 hs3) (by rw [if_pos (by decide)]) h3
theorem rs_k3 (hc : lookT T p = c) (hm : mayB l c) (hn : nms c = 3) (hb : ¬ ((numR T (p + 1)).2 = p + 1 ∨ ¬ okN l c 0 (numR T (p + 1)).1 0)) (hs : lookT T (numR T (p + 1)).2 = 32) (h2 : ¬ ((numR T ((numR T (p + 1)).2 + 1)).2 = (numR T (p + 1)).2 + 1 ∨ ¬ okN l c 1 (numR T ((numR T (p + 1)).2 + 1)).1 (numR T (p + 1)).1)) {q : Int} (hq : q = (numR T ((numR T (p + 1)).2 + 1)).2) (hs3 : lookT T q = 32) (h3 : ¬ ((numR T (q + 1)).2 = q + 1 ∨ ¬ okN l c 2 (numR T (q + 1)).1 (numR T (p + 1)).1)) : rowS T p l = .inr ((numR T (q + 1)).2, (c, (numR T (p + 1)).1, (numR T ((numR T (p + 1)).2 + 1)).1, (numR T (q + 1)).1)) := by
  subst hc
  have h4 : rdN T l (lookT T p) (nms (lookT T p)).toNat 0 (p + 1) 0 [] = .inr ((numR T (q + 1)).2, [(numR T (p + 1)).1, (numR T ((numR T (p + 1)).2 + 1)).1, (numR T (q + 1)).1]) := by
    rw [hn]
    refine ((rs_1 hm rfl hb 2).trans (rs_2 hs h2 1)).trans ?_
    rw [← hq, rdN_ok (q := q + 1) (fun z => z.2 hs3) (by rw [if_pos (by decide)]) h3]
    rfl
  rw [rowS_k hm h4]
  unfold cRow
  rw [hn]
  simp
end RS
theorem curK_s (l : List Row) (r : Row) : curK (l ++ [r]) = if r.1 = 75 then kR r.2.1 l ++ [r] else curK l ++ [r] := by
  unfold curK
  rw [kR_snoc, if_pos rfl, ck_snoc]
  by_cases h : r.1 = 75 <;> simp [h]
theorem curK_75 {l : List Row} {r : Row} (h : okRow l r) (e : r.1 = 75) : curK (l ++ [r]) = [r] := by
  rw [curK_s, if_pos e, curK_K h e]
  rfl
theorem curK_o {l : List Row} {r : Row} (e : r.1 ≠ 75) : curK (l ++ [r]) = curK l ++ [r] := by rw [curK_s, if_neg e]
theorem curK_drop : ∀ l, WF l → l.drop (l.length - (curK l).length) = curK l ∧ (curK l).length ≤ l.length := by
  refine snoc_ind (fun _ => ⟨rfl, Nat.le_refl _⟩) ?_
  intro l r ih h
  obtain ⟨h1, h2⟩ := WF_snoc.mp h
  obtain ⟨i1, i2⟩ := ih h1
  by_cases e : r.1 = 75
  · rw [curK_75 h2 e]
    simp
  · rw [curK_o e]
    simp only [List.length_append, List.length_singleton]
    refine ⟨?_, by omega⟩
    rw [show l.length + 1 - ((curK l).length + 1) = l.length - (curK l).length by omega, List.drop_append_of_le_length (by omega), i1]
theorem kR_ne (k : Int) : ∀ l, WF l → (kR k l ≠ [] ↔ ∃ r ∈ l, r.1 = 75 ∧ r.2.1 = k) := by
  refine snoc_ind (fun _ => ⟨fun h => absurd rfl h, fun ⟨r, hr, _⟩ => by simp at hr⟩) ?_
  intro l a ih h
  obtain ⟨h1, h2⟩ := WF_snoc.mp h
  have i1 := ih h1
  rw [kR_snoc, ck_snoc]
  by_cases e : a.1 = 75
  · rw [if_pos e]
    by_cases ek : a.2.1 = k
    · rw [if_pos ek]
      exact ⟨fun _ => ⟨a, by simp, e, ek⟩, fun _ => by simp⟩
    · rw [if_neg ek, i1]
      constructor
      · intro ⟨r, hr, q⟩
        exact ⟨r, List.mem_append_left _ hr, q⟩
      · intro ⟨r, hr, q⟩
        rcases List.mem_append.mp hr with y | y
        · exact ⟨r, y, q⟩
        · rw [List.mem_singleton.mp y] at q; exact absurd q.2 ek
  · rw [if_neg e]
    have hrest : (∃ r ∈ l ++ [a], r.1 = 75 ∧ r.2.1 = k) ↔ ∃ r ∈ l, r.1 = 75 ∧ r.2.1 = k := by
      constructor
      · intro ⟨r, hr, q⟩
        rcases List.mem_append.mp hr with y | y
        · exact ⟨r, y, q⟩
        · rw [List.mem_singleton.mp y] at q; exact absurd q.1 e
      · intro ⟨r, hr, q⟩
        exact ⟨r, List.mem_append_left _ hr, q⟩
    rw [hrest, ← i1]
    by_cases ek : ck l = k
    · rw [if_pos ek]
      refine ⟨fun _ => ?_, fun _ => by simp⟩
      have hl : l ≠ [] := by
        intro z
        subst z
        have := h2.1
        unfold mayB at this
        simp at this
        exact e this
      have := kR_cur_ne l hl h1
      unfold curK at this
      rwa [ek] at this
    · rw [if_neg ek]
theorem lk_ex {c z : Int} {l : List Row} (hB : ∀ r ∈ l, rowB r) : lk c z l ≠ -1 ↔ exL c z l := by
  constructor
  · intro h
    rcases lk_val c z l with q | ⟨r, hr, h1, h2, -⟩
    · exact absurd q h
    · exact ⟨r, hr, h1, h2⟩
  · intro ⟨r, hr, h1, h2⟩ h
    rcases hq : lastR (fun r => r.1 == c && r.2.1 == z) l with _ | q
    · have := (lastR_none l).mp hq r hr
      simp [h1, h2] at this
    · unfold lk at h
      rw [hq] at h
      have := (hB q (lastR_mem l hq).1).2.2.1
      simp only at h
      omega
theorem ap_ex {s t : Int} (ht : 0 ≤ t ∧ t ≤ 9) : ∀ l : List Row, (∀ r ∈ l, rowB r) → ((exM l s).testBit t.toNat = true ↔ apL s t l) := by
  refine snoc_ind (fun _ => ⟨fun h => by simp [exM] at h, fun h => absurd h (apL_nil s t)⟩) ?_
  intro l r ih hB
  have i1 := ih (fun q hq => hB q (List.mem_append_left _ hq))
  have hb := hB r (by simp)
  rw [exM_snoc, apL_snoc, ← i1]
  unfold exS
  by_cases e : r.1 = 69
  · rw [if_pos e]
    obtain ⟨r1, r2, r3⟩ := hb.2.2.2.2.2.2.2.1 e
    by_cases h1 : r.2.1 = s
    · rw [if_pos h1, Nat.testBit_or, Bool.or_eq_true, Nat.testBit_two_pow]
      simp only [decide_eq_true_eq]
      constructor
      · intro q
        rcases q with q | q
        · exact Or.inl q
        · exact Or.inr ⟨e, Or.inl ⟨h1, by omega⟩⟩
      · intro q
        rcases q with q | ⟨-, q | q⟩
        · exact Or.inl q
        · exact Or.inr (by rw [q.2])
        · omega
    · rw [if_neg h1]
      by_cases h2 : r.2.2.1 = s
      · rw [if_pos h2, Nat.testBit_or, Bool.or_eq_true, Nat.testBit_two_pow]
        simp only [decide_eq_true_eq]
        constructor
        · intro q
          rcases q with q | q
          · exact Or.inl q
          · exact Or.inr ⟨e, Or.inr ⟨by omega, h2⟩⟩
        · intro q
          rcases q with q | ⟨-, q | q⟩
          · exact Or.inl q
          · exact absurd q.1 h1
          · exact Or.inr (by rw [q.1])
      · rw [if_neg h2]
        constructor
        · exact fun q => Or.inl q
        · intro q
          rcases q with q | ⟨-, q | q⟩
          · exact q
          · exact absurd q.1 h1
          · exact absurd q.2 h2
  · rw [if_neg e]
    exact ⟨fun q => Or.inl q, fun q => q.elim id (fun z => absurd z.1 e)⟩
theorem lw_lw : ∀ l : List Row, lwL l = lastW l := by
  refine snoc_ind rfl ?_
  intro l r ih
  rw [lwL_snoc]
  unfold lastW at *
  rw [stp_snoc]
  by_cases e : r.1 = 83
  · rw [if_pos e, if_pos e, List.getLast?_append]
    rfl
  · rw [if_neg e, if_neg e, ih]
end MA5
