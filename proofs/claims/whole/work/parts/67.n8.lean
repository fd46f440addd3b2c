section NA8
theorem gL_nil (F : Nat → List PR) (h : ∀ i, F i = []) : ∀ n : Nat, gL F n = []
  | 0 => rfl
  | n + 1 => by rw [gL_s, gL_nil F h n, h n]; rfl
theorem kW_K {R : Row} (e : R.1 = 75) : kW [R] = 0 := by
  have hl : ∀ c z, c ≠ 75 → lk c z [R] = -1 := fun c z hc => by
    have := lk_snoc c z [] R
    rw [List.nil_append, if_neg (fun y => hc (by omega))] at this
    rw [this]
    rfl
  have hf : ∀ c f, c ≠ 75 → fl c f [R] = -1 := fun c f hc => by
    have := fl_snoc c f [] R
    rw [List.nil_append, if_neg (fun y => hc (by omega))] at this
    rw [this]
    rfl
  have hn : ∀ c, c ≠ 75 → nmW c [R] = 0 := fun c hc => by
    unfold nmW
    rw [gL_nil _ (fun i => by
      show (if lk c i [R] = -1 then [] else _) = []
      rw [if_pos (hl c i hc)])]
    rfl
  have hi : ∀ c, c ≠ 75 → wS (liL c [R]) = 0 := fun c hc => by
    unfold liL
    rw [if_pos (hf c _ hc)]
    rfl
  have hx : exW [R] = 0 := by
    unfold exW
    rw [gL_nil _ (fun s => gL_nil _ (fun t => by
      unfold apF
      refine if_neg (fun z => ?_)
      obtain ⟨r, hr, h1, -⟩ := z.2
      rw [List.mem_singleton.mp hr] at h1
      omega) 10)]
    rfl
  have hs : wS (stL [R]) = 0 := by
    have := stp_snoc [] R
    rw [List.nil_append, if_neg (by omega)] at this
    unfold stL
    rw [this]
    rfl
  unfold kW
  rw [hs, hn 90 (by decide), hn 88 (by decide), hx, hi 68 (by decide), hi 77 (by decide), hi 70 (by decide), hi 82 (by decide)]
theorem kW_le {R : Row} (e : R.1 = 75) : ∀ l : List Row, (∀ r ∈ l, rowB r ∧ r.1 ≠ 75) → kW ([R] ++ l) ≤ wK l := by
  refine snoc_ind (fun _ => by rw [List.append_nil, kW_K e]; exact Nat.zero_le _) ?_
  intro l r ih h
  have h1 := ih (fun q hq => h q (List.mem_append_left _ hq))
  obtain ⟨hb, h75⟩ := h r (by simp)
  have := kW_up (kr := [R] ++ l) hb h75
  rw [List.append_assoc] at this
  rw [wK_snoc]
  omega
end NA8
