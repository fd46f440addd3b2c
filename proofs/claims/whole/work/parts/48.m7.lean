section MA7
/-! the step that reaches a weight; rounding up -/
theorem zfst_at {p : Int → Prop} : ∀ (n : Nat) (i j : Int), i ≤ j → j < i + n → p j → (∀ t, i ≤ t → t < j → ¬ p t) → zfst p n i = j
  | 0, i, j, h1, h2, _, _ => by omega
  | n + 1, i, j, h1, h2, h3, h4 => by
    by_cases e : i = j
    · subst e
      exact zfst_y h3
    · rw [zfst_n (h4 i (by omega) (by omega))]
      exact zfst_at n (i + 1) j (by omega) (by omega) h3 (fun t t1 t2 => h4 t (by omega) t2)
theorem zfst_no {p : Int → Prop} : ∀ (n : Nat) (i : Int), (∀ t, i ≤ t → t < i + n → ¬ p t) → zfst p n i = -1
  | 0, i, _ => rfl
  | n + 1, i, h => by
    rw [zfst_n (h i (by omega) (by omega))]
    exact zfst_no n (i + 1) (fun t t1 t2 => h t (by omega) (by omega))
theorem stp_app (l k : List Row) : stp (l ++ k) = stp l ++ stp k := by
  unfold stp
  rw [List.filter_append, List.map_append]
/-- what a walk for the step has found -/
def PS (kr : List Row) (b wt : Int) (u : Nat) (row step : Int) : Prop := (row = -1 ∧ step = nL 83 (kr.take u) ∧ ∀ r ∈ kr.take u, r.1 = 83 → r.2.1 < wt) ∨ ∃ (j : Nat) (R : Row), row = b + j ∧ kr[j]? = some R ∧ R.1 = 83 ∧ wt ≤ R.2.1 ∧ step = nL 83 (kr.take j) ∧ ∀ r ∈ kr.take j, r.1 = 83 → r.2.1 < wt
theorem PS_none {kr : List Row} {it : IT} {wt : Int} (h : ∀ r ∈ kr, r.1 = 83 → r.2.1 < wt) : kStep (vH kr it) 0 wt = -1 := by
  unfold kStep
  refine zfst_no _ _ (fun t t1 t2 => ?_)
  obtain ⟨r, hr, e, e1, e2⟩ := KI_stp (vH_K kr it) (i := t) t1 (by omega)
  have := h r hr e
  have e1' : vH kr it (0 + 1) t = r.2.1 := e1
  rw [e1']
  omega
theorem PS_some {kr : List Row} {it : IT} {wt : Int} {j : Nat} {R : Row} (hj : kr[j]? = some R) (h83 : R.1 = 83) (hw : wt ≤ R.2.1) (h : ∀ r ∈ kr.take j, r.1 = 83 → r.2.1 < wt) : kStep (vH kr it) 0 wt = nL 83 (kr.take j) ∧ vH kr it 2 (nL 83 (kr.take j)) = R.2.2.1 ∧ nL 83 (kr.take j) < nL 83 kr := by
  have hl := (List.getElem?_eq_some_iff.mp hj).1
  have hk : kr = kr.take j ++ ([R] ++ kr.drop (j + 1)) := by
    conv => lhs; rw [← List.take_append_drop j kr]
    congr 1
    rw [List.drop_eq_getElem_cons hl]
    have := List.getElem?_eq_getElem hl
    rw [hj] at this
    rw [← Option.some.inj this]
    rfl
  have hs : stp kr = stp (kr.take j) ++ ((R.2.1, R.2.2.1) :: stp (kr.drop (j + 1))) := by
    conv => lhs; rw [hk]
    rw [stp_app, stp_app]
    congr 1
    simp [stp, h83]
  have hn : nL 83 (kr.take j) < nL 83 kr := by
    rw [← stp_len, ← stp_len, hs]
    simp
  have hg : (stp kr)[nL 83 (kr.take j)]? = some (R.2.1, R.2.2.1) := by
    rw [hs, List.getElem?_append_right (by rw [stp_len]; exact Nat.le_refl _), stp_len]
    simp
  have hK := vH_K kr it
  have hv := hK.2.2.1 _ _ hg
  refine ⟨?_, hv.2, hn⟩
  unfold kStep
  refine zfst_at _ _ _ (by omega) ?_ ?_ (fun t t1 t2 => ?_)
  · rw [hK.2.1]; omega
  · have e1 : vH kr it (0 + 1) (nL 83 (kr.take j)) = R.2.1 := hv.1
    show wt ≤ vH kr it (0 + 1) (nL 83 (kr.take j))
    rw [e1]; exact hw
  · have htl : t.toNat < (stp (kr.take j)).length := by rw [stp_len]; omega
    have hg2 : (stp kr)[t.toNat]? = some (stp (kr.take j))[t.toNat] := by
      rw [hs, List.getElem?_append_left htl, List.getElem?_eq_getElem htl]
    have hv2 := (hK.2.2.1 _ _ hg2).1
    rw [show ((t.toNat : Nat) : Int) = t by omega] at hv2
    obtain ⟨r, hr, e, eq⟩ := stp_val (List.getElem_mem htl)
    rw [eq] at hv2
    have := h r hr e
    show ¬ wt ≤ vH kr it (0 + 1) t
    rw [hv2]
    show ¬ wt ≤ r.2.1
    omega
/-- rounding up, one by one -/
theorem up_ok {t n up : Int} (ht : 0 ≤ t) (hn : 1 ≤ n) (h1 : t ≤ up) (h2 : up ≤ zdu t n * n) : (up.tmod n = 0 → up = zdu t n * n) ∧ (up.tmod n ≠ 0 → up + 1 ≤ zdu t n * n) := by
  have hz := zdu_up ht hn
  generalize zdu t n = q at *
  constructor
  · intro h
    rw [Int.tmod_eq_emod_of_nonneg (by omega)] at h
    obtain ⟨k, hk⟩ := Int.dvd_of_emod_eq_zero h
    rw [Int.mul_comm] at hk
    have h3 : k * n ≤ q * n := by omega
    have h4 : (q - 1) * n < k * n := by rw [Int.sub_mul]; omega
    have h5 : k ≤ q := Int.le_of_mul_le_mul_right h3 (by omega)
    have h6 : q - 1 < k := Int.lt_of_mul_lt_mul_right h4 (by omega)
    have : k = q := by omega
    rw [hk, this]
  · intro h
    have : up ≠ q * n := fun e => h (by rw [e]; exact Int.mul_tmod_left q n)
    omega
theorem zdu_w {v n : Int} (hv : 0 ≤ v) (hn : 1 ≤ n) : zdu v n = if v.tdiv n * n < v then v.tdiv n + 1 else v.tdiv n := by
  have hz := zdu_up hv hn
  have e : v.tdiv n = v / n := Int.tdiv_eq_ediv_of_nonneg hv
  rw [e]
  have h1 := Int.emod_add_mul_ediv v n
  have h2 := Int.emod_nonneg v (show n ≠ 0 by omega)
  have h3 := Int.emod_lt_of_pos v (show 0 < n by omega)
  rw [Int.mul_comm] at h1
  generalize zdu v n = q at *
  generalize v / n = k at *
  have key : ∀ a c : Int, a * n < c * n + n → c * n < a * n + n → a = c := by
    intro a c x y
    have x2 : a * n < (c + 1) * n := by rw [Int.add_mul]; omega
    have y2 : c * n < (a + 1) * n := by rw [Int.add_mul]; omega
    have := Int.lt_of_mul_lt_mul_right x2 (by omega)
    have := Int.lt_of_mul_lt_mul_right y2 (by omega)
    omega
  split
  · refine key q (k + 1) ?_ ?_
    · rw [Int.add_mul]; omega
    · rw [Int.add_mul]; omega
  · refine key q k ?_ ?_ <;> omega
end MA7
