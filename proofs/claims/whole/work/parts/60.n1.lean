section NA1
/-! a row on paper is not longer than it was read -/
def prO (R : Row) : PR := (R.1, R.2.1, if nms R.1 = 1 then -1 else R.2.2.1, if nms R.1 = 3 then R.2.2.2 else -1)
theorem look_lt {T : List Int} {p c : Int} (h : lookT T p = c) (hc : c ≠ -1) : p < T.length := by
  rcases Int.lt_or_le p T.length with z | z
  · exact z
  · rw [lookT_out z] at h
    exact absurd h.symm hc
theorem rowS_len {T : List Int} {p p' : Int} {l : List Row} {R : Row} (h0 : 0 ≤ p) (hr : rowS T p l = .inr (p', R)) : ((rT (prO R)).length : Int) ≤ p' - p := by
  generalize hc : lookT T p = c
  have hm : mayB l c := Classical.byContradiction (fun z => by
    rw [rowS_n (by rw [hc]; exact z)] at hr
    cases hr)
  have hcl := mayB_l hm
  have hp : p < T.length := look_lt hc (by unfold isRowL at hcl; omega)
  have hb1 : ¬ ((numR T (p + 1)).2 = p + 1 ∨ ¬ okN l c 0 (numR T (p + 1)).1 0) := fun z => by
    rw [rs_b1 hc hm z] at hr
    cases hr
  have n1 := numR_r T (p := p + 1) (by omega) (by omega)
  have l1 := numR_len T (p := p + 1) (fun z => hb1 (Or.inl z))
  rcases nms_v c with e | e | e
  · rw [rs_k1 hc hm e hb1] at hr
    cases hr
    have hrT : rT (prO (c, (numR T (p + 1)).1, 0, 0)) = c :: numT (numR T (p + 1)).1 := by simp [prO, rT, e]
    rw [hrT, List.length_cons]
    omega
  all_goals
    have hs2 : lookT T (numR T (p + 1)).2 = 32 := Classical.byContradiction (fun z => by
      rw [rs_s2 hc hm (by omega) hb1 z] at hr
      cases hr)
    have hq1 := look_lt hs2 (by decide)
    have hb2 : ¬ ((numR T ((numR T (p + 1)).2 + 1)).2 = (numR T (p + 1)).2 + 1 ∨ ¬ okN l c 1 (numR T ((numR T (p + 1)).2 + 1)).1 (numR T (p + 1)).1) := fun z => by
      rw [rs_b2 hc hm (by omega) hb1 hs2 z] at hr
      cases hr
    have n2 := numR_r T (p := (numR T (p + 1)).2 + 1) (by omega) (by omega)
    have l2 := numR_len T (p := (numR T (p + 1)).2 + 1) (fun z => hb2 (Or.inl z))
  · rw [rs_k2 hc hm e hb1 hs2 hb2] at hr
    cases hr
    have hrT : rT (prO (c, (numR T (p + 1)).1, (numR T ((numR T (p + 1)).2 + 1)).1, 0)) = c :: (numT (numR T (p + 1)).1 ++ 32 :: numT (numR T ((numR T (p + 1)).2 + 1)).1) := by
      simp [prO, rT, e, show ¬ (numR T ((numR T (p + 1)).2 + 1)).1 = -1 by omega]
    rw [hrT, List.length_cons, List.length_append, List.length_cons]
    omega
  · have hs3 : lookT T (numR T ((numR T (p + 1)).2 + 1)).2 = 32 := Classical.byContradiction (fun z => by
      rw [rs_s3 hc hm e hb1 hs2 hb2 rfl z] at hr
      cases hr)
    have hq2 := look_lt hs3 (by decide)
    have hb3 : ¬ ((numR T ((numR T ((numR T (p + 1)).2 + 1)).2 + 1)).2 = (numR T ((numR T (p + 1)).2 + 1)).2 + 1 ∨ ¬ okN l c 2 (numR T ((numR T ((numR T (p + 1)).2 + 1)).2 + 1)).1 (numR T (p + 1)).1) := fun z => by
      rw [rs_b3 hc hm e hb1 hs2 hb2 rfl hs3 z] at hr
      cases hr
    have n3 := numR_r T (p := (numR T ((numR T (p + 1)).2 + 1)).2 + 1) (by omega) (by omega)
    have l3 := numR_len T (p := (numR T ((numR T (p + 1)).2 + 1)).2 + 1) (fun z => hb3 (Or.inl z))
    rw [rs_k3 hc hm e hb1 hs2 hb2 rfl hs3 hb3] at hr
    cases hr
    have hrT : rT (prO (c, (numR T (p + 1)).1, (numR T ((numR T (p + 1)).2 + 1)).1, (numR T ((numR T ((numR T (p + 1)).2 + 1)).2 + 1)).1)) = c :: (numT (numR T (p + 1)).1 ++ (32 :: numT (numR T ((numR T (p + 1)).2 + 1)).1 ++ 32 :: numT (numR T ((numR T ((numR T (p + 1)).2 + 1)).2 + 1)).1)) := by
      simp [prO, rT, e, show ¬ (numR T ((numR T (p + 1)).2 + 1)).1 = -1 by omega, show ¬ (numR T ((numR T ((numR T (p + 1)).2 + 1)).2 + 1)).1 = -1 by omega]
    rw [hrT]
    simp only [List.length_cons, List.length_append]
    omega
/-- a text is as long as its rows on paper, and longer -/
theorem prsS_len {T : List Int} : ∀ (f : Nat) (p : Int) (l l' : List Row), 0 ≤ p → ((l.map (fun R => wR (prO R))).sum : Int) ≤ p → prsS T f p l = .inr l' → ((l'.map (fun R => wR (prO R))).sum : Int) ≤ T.length + 1
  | 0, p, l, l', h0, h1, hr => by unfold prsS at hr; cases hr
  | f + 1, p, l, l', h0, h1, hr => by
    cases hw : rowS T p l with
    | inl q => rw [prsS_f hw] at hr; cases hr
    | inr q =>
      obtain ⟨p', R⟩ := q
      obtain ⟨g1, g2, g3⟩ := rowS_good h0 hw
      have hlen := rowS_len h0 hw
      have hww : (wR (prO R) : Int) = (rT (prO R)).length + 1 := by unfold wR; rw [List.length_cons]; omega
      have hs : (((l ++ [R]).map (fun R => wR (prO R))).sum : Int) = (l.map (fun R => wR (prO R))).sum + wR (prO R) := by
        rw [List.map_append, List.sum_append]
        simp
      rw [prsS_r hw] at hr
      split at hr
      · split at hr
        · cases hr
        · cases hr
          rw [hs]
          omega
      · split at hr
        · cases hr
        · exact prsS_len f (p' + 1) (l ++ [R]) l' (by omega) (by rw [hs]; omega) hr
theorem parse_len {T : List Int} {l : List Row} (h : parse T = .inr l) : ((l.map (fun R => wR (prO R))).sum : Int) ≤ T.length + 1 := by
  unfold parse at h
  split at h
  · cases h
    simp
    omega
  · exact prsS_len _ 0 [] l (by omega) (by decide) h
end NA1
