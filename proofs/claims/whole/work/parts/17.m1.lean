section MA1
/-! rows of an edition, and what they tell -/
abbrev Row := Int × Int × Int × Int
theorem snoc_ind {α : Type} {P : List α → Prop} (h0 : P []) (hs : ∀ l a, P l → P (l ++ [a])) : ∀ l, P l := by
  have : ∀ l : List α, P l.reverse := by
    intro l
    induction l with
    | nil => exact h0
    | cons a l ih => rw [List.reverse_cons]; exact hs _ _ ih
  intro l
  have h := this l.reverse
  rwa [List.reverse_reverse] at h
def lastR (p : Row → Bool) (l : List Row) : Option Row := l.foldl (fun acc r => if p r then some r else acc) none
theorem lastR_snoc (p : Row → Bool) (l : List Row) (r : Row) : lastR p (l ++ [r]) = if p r = true then some r else lastR p l := by
  unfold lastR
  rw [List.foldl_append]
  rfl
theorem lastR_mem {p : Row → Bool} {r : Row} : ∀ l : List Row, lastR p l = some r → r ∈ l ∧ p r = true := by
  refine snoc_ind ?_ ?_
  · intro h; cases h
  · intro l a ih h
    rw [lastR_snoc] at h
    by_cases hp : p a = true
    · rw [if_pos hp] at h
      cases h
      exact ⟨by simp, hp⟩
    · rw [if_neg hp] at h
      have := ih h
      exact ⟨List.mem_append_left _ this.1, this.2⟩
theorem lastR_none {p : Row → Bool} : ∀ l : List Row, lastR p l = none ↔ ∀ r ∈ l, ¬ p r = true := by
  refine snoc_ind ?_ ?_
  · exact ⟨fun _ r hr => by simp at hr, fun _ => rfl⟩
  · intro l a ih
    rw [lastR_snoc]
    by_cases hp : p a = true
    · rw [if_pos hp]
      exact ⟨fun h => (by cases h), fun h => absurd hp (h a (by simp))⟩
    · rw [if_neg hp, ih]
      refine ⟨fun h r hr => ?_, fun h r hr => h r (List.mem_append_left _ hr)⟩
      rcases List.mem_append.mp hr with q | q
      · exact h r q
      · rw [List.mem_singleton.mp q]; exact hp
def nL (c : Int) (l : List Row) : Nat := (l.filter (fun r => r.1 == c)).length
theorem nL_snoc (c : Int) (l : List Row) (r : Row) : nL c (l ++ [r]) = if r.1 = c then nL c l + 1 else nL c l := by
  unfold nL
  rw [List.filter_append, List.length_append]
  by_cases h : r.1 = c <;> simp [h]
theorem nL_nil (c : Int) : nL c [] = 0 := rfl
def stp (l : List Row) : List (Int × Int) := (l.filter (fun r => r.1 == 83)).map (fun r => (r.2.1, r.2.2.1))
theorem stp_len (l : List Row) : (stp l).length = nL 83 l := by unfold stp nL; rw [List.length_map]
theorem stp_snoc (l : List Row) (r : Row) : stp (l ++ [r]) = if r.1 = 83 then stp l ++ [(r.2.1, r.2.2.1)] else stp l := by
  unfold stp
  rw [List.filter_append, List.map_append]
  by_cases h : r.1 = 83 <;> simp [h]
def lk (c z : Int) (l : List Row) : Int := match lastR (fun r => r.1 == c && r.2.1 == z) l with
  | some r => r.2.2.1
  | none => -1
theorem lk_snoc (c z : Int) (l : List Row) (r : Row) : lk c z (l ++ [r]) = if r.1 = c ∧ r.2.1 = z then r.2.2.1 else lk c z l := by
  unfold lk
  rw [lastR_snoc]
  by_cases h : r.1 = c ∧ r.2.1 = z
  · rw [if_pos h, if_pos (by simp [h.1, h.2])]
  · rw [if_neg h, if_neg (by simpa using h)]
def fl (c : Int) (f : Row → Int) (l : List Row) : Int := match lastR (fun r => r.1 == c) l with
  | some r => f r
  | none => -1
theorem fl_snoc (c : Int) (f : Row → Int) (l : List Row) (r : Row) : fl c f (l ++ [r]) = if r.1 = c then f r else fl c f l := by
  unfold fl
  rw [lastR_snoc]
  by_cases h : r.1 = c
  · rw [if_pos h, if_pos (by simp [h])]
  · rw [if_neg h, if_neg (by simpa using h)]
def exS (s : Int) (m : Nat) (r : Row) : Nat := if r.1 = 69 then (if r.2.1 = s then m ||| 2 ^ r.2.2.1.toNat else if r.2.2.1 = s then m ||| 2 ^ r.2.1.toNat else m) else m
def exM (l : List Row) (s : Int) : Nat := l.foldl (exS s) 0
theorem exM_snoc (l : List Row) (r : Row) (s : Int) : exM (l ++ [r]) s = exS s (exM l s) r := by
  unfold exM
  rw [List.foldl_append]
  rfl
/-- the number of the kind that is read; the rows of a kind -/
def ck (l : List Row) : Int := fl 75 (fun r => r.2.1) l
theorem ck_snoc (l : List Row) (r : Row) : ck (l ++ [r]) = if r.1 = 75 then r.2.1 else ck l := fl_snoc 75 _ l r
def kRs (k : Int) (s : Int × List Row) (r : Row) : Int × List Row := (if r.1 = 75 then r.2.1 else s.1, if (if r.1 = 75 then r.2.1 else s.1) = k then s.2 ++ [r] else s.2)
def kS (k : Int) (l : List Row) : Int × List Row := l.foldl (kRs k) (-1, [])
def kR (k : Int) (l : List Row) : List Row := (kS k l).2
theorem kS_snoc (k : Int) (l : List Row) (r : Row) : kS k (l ++ [r]) = kRs k (kS k l) r := by
  unfold kS
  rw [List.foldl_append]
  rfl
theorem kS_ck (k : Int) : ∀ l, (kS k l).1 = ck l := by
  refine snoc_ind rfl ?_
  intro l r ih
  rw [kS_snoc, ck_snoc]
  unfold kRs
  rw [ih]
theorem kR_snoc (k : Int) (l : List Row) (r : Row) : kR k (l ++ [r]) = if ck (l ++ [r]) = k then kR k l ++ [r] else kR k l := by
  unfold kR
  rw [kS_snoc, ck_snoc]
  unfold kRs
  rw [kS_ck]
theorem kR_nil (k : Int) : kR k [] = [] := rfl
theorem ck_nil : ck [] = -1 := rfl
def curK (l : List Row) : List Row := kR (ck l) l
def lastW (kr : List Row) : Int := match (stp kr).getLast? with
  | some q => q.1
  | none => 0
/-- may a row with this letter come now -/
def mayB (l : List Row) (c : Int) : Prop := (c = 75 ∧ (l = [] ∨ 0 < nL 83 (curK l))) ∨ (l ≠ [] ∧ ((c = 83 ∧ nL 83 (curK l) < 10) ∨ c = 90 ∨ c = 88 ∨ (c = 69 ∧ nL 69 (curK l) < 10) ∨ ((c = 68 ∨ c = 77 ∨ c = 70 ∨ c = 82) ∧ nL c (curK l) = 0)))
/-- may a row's n-th number be v (a0: its first one) -/
def okN (l : List Row) (c n v a0 : Int) : Prop :=
  (c = 75 ∧ (0 ≤ v ∧ v ≤ 9) ∧ kR v l = []) ∨ (c = 83 ∧ (0 < n ∨ lastW (curK l) < v)) ∨ (c = 90 ∧ ((0 < n ∧ v ≤ 1000) ∨ (n = 0 ∧ (0 ≤ v ∧ v ≤ 9) ∧ lk 90 v (curK l) = -1))) ∨ (c = 88 ∧ (0 < n ∨ (n = 0 ∧ (0 ≤ v ∧ v ≤ 9) ∧ lk 88 v (curK l) = -1))) ∨ (c = 69 ∧ (0 ≤ v ∧ v ≤ 9) ∧ lk 88 v (curK l) ≠ -1 ∧ (n = 0 ∨ (v ≠ a0 ∧ (exM (curK l) a0).testBit v.toNat = false))) ∨ (c = 70 ∧ (n = 0 ∨ a0 ≤ v)) ∨ (c = 82 ∧ 1 ≤ v ∧ v ≤ 1000) ∨ ((c = 68 ∨ c = 77) ∧ 1 ≤ v)
def nms (c : Int) : Int := if c = 75 ∨ c = 77 ∨ c = 82 then 1 else if c = 68 then 3 else 2
/-- a row that may come behind l -/
def okRow (l : List Row) (r : Row) : Prop := mayB l r.1 ∧ i10 r.2.1 ∧ i10 r.2.2.1 ∧ i10 r.2.2.2 ∧ okN l r.1 0 r.2.1 0 ∧ (if nms r.1 = 1 then r.2.2.1 = 0 else okN l r.1 1 r.2.2.1 r.2.1) ∧ (if nms r.1 = 3 then okN l r.1 2 r.2.2.2 r.2.1 else r.2.2.2 = 0)
def WF (l : List Row) : Prop := ∀ (i : Nat) (r : Row), l[i]? = some r → okRow (l.take i) r
theorem WF_nil : WF [] := fun i r h => by simp at h
theorem WF_snoc {l : List Row} {r : Row} : WF (l ++ [r]) ↔ WF l ∧ okRow l r := by
  constructor
  · intro h
    refine ⟨fun i q hi => ?_, ?_⟩
    · have hl := (List.getElem?_eq_some_iff.mp hi).1
      have := h i q (by rw [List.getElem?_append_left hl]; exact hi)
      rwa [List.take_append_of_le_length (by omega)] at this
    · have := h l.length r (by simp)
      rwa [List.take_append_of_le_length (by omega), List.take_length] at this
  · intro ⟨h1, h2⟩ i q hi
    by_cases hl : i < l.length
    · rw [List.getElem?_append_left hl] at hi
      rw [List.take_append_of_le_length (by omega)]
      exact h1 i q hi
    · rw [List.getElem?_append_right (by omega)] at hi
      have h0 : i - l.length = 0 := by
        have := (List.getElem?_eq_some_iff.mp hi).1
        simp at this
        omega
      rw [h0] at hi
      cases hi
      rw [show i = l.length by omega, List.take_append_of_le_length (by omega), List.take_length]
      exact h2
def isRowL (c : Int) : Prop := c = 75 ∨ c = 83 ∨ c = 90 ∨ c = 88 ∨ c = 69 ∨ c = 68 ∨ c = 77 ∨ c = 70 ∨ c = 82
theorem mayB_l {l : List Row} {c : Int} (h : mayB l c) : isRowL c := by
  unfold mayB at h
  unfold isRowL
  omega
/-- what a row's numbers are, whatever stands before it -/
def rowB (r : Row) : Prop := isRowL r.1 ∧ i10 r.2.1 ∧ i10 r.2.2.1 ∧ i10 r.2.2.2 ∧ (r.1 = 75 → 0 ≤ r.2.1 ∧ r.2.1 ≤ 9) ∧ (r.1 = 90 → (0 ≤ r.2.1 ∧ r.2.1 ≤ 9) ∧ r.2.2.1 ≤ 1000) ∧ (r.1 = 88 → 0 ≤ r.2.1 ∧ r.2.1 ≤ 9) ∧ (r.1 = 69 → (0 ≤ r.2.1 ∧ r.2.1 ≤ 9) ∧ (0 ≤ r.2.2.1 ∧ r.2.2.1 ≤ 9) ∧ r.2.1 ≠ r.2.2.1) ∧ (r.1 = 68 → 1 ≤ r.2.1 ∧ 1 ≤ r.2.2.1 ∧ 1 ≤ r.2.2.2) ∧ (r.1 = 77 → 1 ≤ r.2.1) ∧ (r.1 = 70 → r.2.1 ≤ r.2.2.1) ∧ (r.1 = 82 → 1 ≤ r.2.1 ∧ r.2.1 ≤ 1000)
theorem okRow_B {l : List Row} {r : Row} (h : okRow l r) : rowB r := by
  obtain ⟨h1, h2, h3, h4, h5, h6, h7⟩ := h
  have hl := mayB_l h1
  unfold okN nms at *
  refine ⟨hl, h2, h3, h4, ?_, ?_, ?_, ?_, ?_, ?_, ?_, ?_⟩ <;> intro e <;> simp [e] at h5 h6 h7 <;> omega
theorem WF_B : ∀ l, WF l → ∀ r ∈ l, rowB r := by
  refine snoc_ind (fun _ r hr => by simp at hr) ?_
  intro l a ih h r hr
  obtain ⟨h1, h2⟩ := WF_snoc.mp h
  rcases List.mem_append.mp hr with q | q
  · exact ih h1 r q
  · rw [List.mem_singleton.mp q]; exact okRow_B h2
theorem ck_rng : ∀ l, WF l → l ≠ [] → 0 ≤ ck l ∧ ck l ≤ 9 := by
  refine snoc_ind (fun _ h => absurd rfl h) ?_
  intro l r ih h _
  obtain ⟨h1, h2⟩ := WF_snoc.mp h
  rw [ck_snoc]
  by_cases e : r.1 = 75
  · rw [if_pos e]
    exact (okRow_B h2).2.2.2.2.1 e
  · rw [if_neg e]
    refine ih h1 ?_
    intro q
    subst q
    have := h2.1
    unfold mayB at this
    simp at this
    exact e this
theorem kR_sub (k : Int) : ∀ l, ∀ r ∈ kR k l, r ∈ l := by
  refine snoc_ind (fun r hr => by simp [kR, kS] at hr) ?_
  intro l a ih r hr
  rw [kR_snoc] at hr
  split at hr
  · rcases List.mem_append.mp hr with q | q
    · exact List.mem_append_left _ (ih r q)
    · exact List.mem_append_right _ q
  · exact List.mem_append_left _ (ih r hr)
theorem kR_cur_ne : ∀ l, l ≠ [] → WF l → curK l ≠ [] := by
  refine snoc_ind (fun h => absurd rfl h) ?_
  intro l r ih _ _
  unfold curK
  rw [kR_snoc, if_pos rfl]
  simp
/-- the counts of a kind -/
def cntOK (kr : List Row) : Prop := nL 83 kr ≤ 10 ∧ nL 69 kr ≤ 10 ∧ nL 68 kr ≤ 1 ∧ nL 77 kr ≤ 1 ∧ nL 70 kr ≤ 1 ∧ nL 82 kr ≤ 1
theorem curK_K {l : List Row} {r : Row} (h : okRow l r) (e : r.1 = 75) : kR r.2.1 l = [] := by
  have h5 := h.2.2.2.2.1
  unfold okN at h5
  rcases h5 with ⟨-, -, q⟩ | q | q | q | q | q | q | q <;> first | exact q | omega
theorem kR_cnt : ∀ l, WF l → ∀ k, cntOK (kR k l) := by
  refine snoc_ind (fun _ k => by simp [cntOK, kR, kS, nL]) ?_
  intro l r ih h k
  obtain ⟨h1, h2⟩ := WF_snoc.mp h
  have i1 := ih h1 k
  rw [kR_snoc]
  by_cases e : ck (l ++ [r]) = k
  · rw [if_pos e]
    rw [ck_snoc] at e
    unfold cntOK at *
    simp only [nL_snoc]
    by_cases e75 : r.1 = 75
    · simp [e75]; omega
    · rw [if_neg e75] at e
      have hm := h2.1
      unfold mayB curK at hm
      rw [e] at hm
      rcases hm with hm | ⟨-, hm⟩
      · omega
      · rcases hm with ⟨hc, hn⟩ | hc | hc | ⟨hc, hn⟩ | ⟨hc | hc | hc | hc, hn⟩ <;> (try rw [hc] at hn) <;> simp [hc] <;> omega
  · rw [if_neg e]
    exact i1
end MA1
