section NB3
/-! a pair stands in one row at most -/
def mEx (s t : Int) (r : Row) : Bool := r.1 == 69 && (r.2.1 == s && r.2.2.1 == t || r.2.1 == t && r.2.2.1 == s)
theorem mEx_iff (s t : Int) (r : Row) : mEx s t r = true ↔ r.1 = 69 ∧ ((r.2.1 = s ∧ r.2.2.1 = t) ∨ (r.2.1 = t ∧ r.2.2.1 = s)) := by
  simp [mEx]
theorem mEx_ap {s t : Int} {l : List Row} {r : Row} (hr : r ∈ l) (h : mEx s t r = true) : apL s t l := by
  obtain ⟨e, h⟩ := (mEx_iff s t r).mp h
  exact ⟨r, hr, e, h⟩
theorem ex_new {l : List Row} {r : Row} (hW : WF l) (h : okRow l r) (e : r.1 = 69) : ¬ apL r.2.1 r.2.2.1 (curK l) := by
  intro ha
  have hb := okRow_B h
  have h69 := hb.2.2.2.2.2.2.2.1 e
  have h6 := h.2.2.2.2.2.1
  rw [e, if_neg (by decide)] at h6
  have h7 := (okN_69 l 1 r.2.2.1 r.2.1).mp h6
  have hB : ∀ q ∈ curK l, rowB q := fun q hq => WF_B l hW q (kR_sub _ l q hq)
  have h8 := (ap_ex (s := r.2.1) (t := r.2.2.1) h69.2.1 (curK l) hB).mpr ha
  rcases h7.2.2 with z | ⟨-, z⟩
  · omega
  · rw [z] at h8
    cases h8
theorem ex_one (s t : Int) : ∀ l, WF l → ∀ k, ((kR k l).filter (mEx s t)).length ≤ 1 := by
  refine snoc_ind (fun _ k => by simp [kR_nil]) ?_
  intro l r ih h k
  obtain ⟨h1, h2⟩ := WF_snoc.mp h
  have i1 := ih h1 k
  rw [kR_snoc]
  by_cases e : ck (l ++ [r]) = k
  · rw [if_pos e, List.filter_append, List.length_append]
    by_cases hm : mEx s t r = true
    · obtain ⟨e69, hst⟩ := (mEx_iff s t r).mp hm
      rw [ck_snoc, if_neg (by omega)] at e
      have hn := ex_new h1 h2 e69
      have h0 : (kR k l).filter (mEx s t) = [] := List.filter_eq_nil_iff.mpr (fun q hq hq2 => hn (by
        obtain ⟨e2, hst2⟩ := (mEx_iff s t q).mp hq2
        refine ⟨q, by unfold curK; rw [e]; exact hq, e2, by omega⟩))
      rw [h0]
      simp
      exact List.length_filter_le _ _
    · have h0 : [r].filter (mEx s t) = [] := List.filter_eq_nil_iff.mpr (fun q hq => by rw [List.mem_singleton.mp hq]; exact hm)
      rw [h0]
      exact i1
  · rw [if_neg e]
    exact i1
/-- the rows of a pair, on paper -/
def exP (s t : Int) (l : List Row) : List PR := (l.filter (mEx s t)).map (fun _ => ((69 : Int), s, t, (-1 : Int)))
theorem exP_nil (s t : Int) : exP s t [] = [] := rfl
theorem exP_y {s t : Int} {l : List Row} {r : Row} (h : mEx s t r = true) : exP s t (l ++ [r]) = exP s t l ++ [(69, s, t, -1)] := by
  unfold exP
  rw [List.filter_append, List.map_append, List.filter_cons_of_pos h]
  rfl
theorem exP_n {s t : Int} {l : List Row} {r : Row} (h : ¬ mEx s t r = true) : exP s t (l ++ [r]) = exP s t l := by
  unfold exP
  rw [List.filter_append, List.filter_cons_of_neg h]
  simp
theorem exP_ap {kr : List Row} (h1 : ∀ s t : Int, (kr.filter (mEx s t)).length ≤ 1) {s t : Nat} (hst : s < t) : exP s t kr = apF kr s t := by
  unfold exP apF
  have h := h1 s t
  cases hf : kr.filter (mEx s t) with
  | nil =>
    rw [if_neg (fun z => ?_)]
    · rfl
    · obtain ⟨-, r, hr, e, hh⟩ := z
      exact List.filter_eq_nil_iff.mp hf r hr ((mEx_iff _ _ r).mpr ⟨e, hh⟩)
  | cons a as =>
    rw [hf] at h
    have ha : a ∈ kr.filter (mEx s t) := by rw [hf]; exact List.mem_cons_self
    obtain ⟨m1, m2⟩ := List.mem_filter.mp ha
    have h0 : as = [] := List.eq_nil_of_length_eq_zero (by rw [List.length_cons] at h; omega)
    rw [if_pos ⟨hst, mEx_ap m1 m2⟩, h0]
    rfl
theorem apF_0 {kr : List Row} {s t : Nat} (h : t ≤ s) : apF kr s t = [] := if_neg (fun z => by omega)
theorem gL_apF0 (kr : List Row) (s : Nat) : ∀ n, n ≤ s + 1 → gL (apF kr s) n = []
  | 0, _ => rfl
  | n + 1, h => by rw [gL_s, gL_apF0 kr s n (by omega), apF_0 (by omega)]; rfl
/-- lengths on paper -/
theorem gL_wle {f : Nat → List PR} {n m : Nat} (h : n ≤ m) : wS (gL f n) ≤ wS (gL f m) := by
  have := gL_le (f := f) [] h
  rw [List.nil_append, List.nil_append, semT_w, semT_w] at this
  exact this
theorem wS_filter {p : Row → Bool} (g : Row → PR) (l : List Row) (n : Nat) : wS (((l.take n).filter p).map g) ≤ wS ((l.filter p).map g) := by
  have h : l.filter p = (l.take n).filter p ++ (l.drop n).filter p := by rw [← List.filter_append, List.take_append_drop]
  rw [h, List.map_append, wS_app]
  exact Nat.le_add_right _ _
/-- the steps of rows, as they are printed -/
theorem stL_snoc (kr : List Row) (r : Row) : stL (kr ++ [r]) = if r.1 = 83 then stL kr ++ [(83, r.2.1, r.2.2.1, -1)] else stL kr := by
  unfold stL
  rw [stp_snoc]
  split
  · rw [List.map_append]; rfl
  · rfl
theorem stL_wle (kr : List Row) (n : Nat) : wS (stL (kr.take n)) ≤ wS (stL kr) := by
  have h : stp kr = stp (kr.take n) ++ stp (kr.drop n) := by rw [← stp_app, List.take_append_drop]
  unfold stL
  rw [h, List.map_append, wS_app]
  exact Nat.le_add_right _ _
end NB3
