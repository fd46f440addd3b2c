section NA9
/-- an edition on paper is not longer than its rows -/
theorem krPR_le {l : List Row} (hW : WF l) {k : Int} (hne : kR k l ≠ []) : wS (krPR k (kR k l)) ≤ wK (kR k l) := by
  have hB : ∀ r ∈ kR k l, rowB r := fun r hr => WF_B l hW r (kR_sub k l r hr)
  obtain ⟨R, hR, h75, hk⟩ := (kR_ne k l hW).mp hne
  obtain ⟨j, hj⟩ := List.getElem?_of_mem hR
  have hs := (kR_seg k l hW j R hj h75 hk).1
  rw [krPR_w hB]
  generalize ht : (l.drop (j + 1)).takeWhile (fun r => r.1 != 75) = t at hs
  rw [hs] at hB ⊢
  have h1 := kW_le h75 t (fun r hr => ⟨hB r (List.mem_cons_of_mem _ hr), by
    rw [← ht] at hr
    simpa using tw_mem hr⟩)
  have h2 : wK (R :: t) = wR (prO R) + wK t := by unfold wK; rw [List.map_cons, List.sum_cons]
  have h3 : prO R = (75, k, -1, -1) := by
    unfold prO
    rw [h75, hk]
    rfl
  rw [h2, h3]
  rw [List.singleton_append] at h1
  omega
theorem edPR_le {l : List Row} (hW : WF l) : ∀ n : Nat, wS (gL (fun k => if kR k l = [] then [] else krPR k (kR k l)) n) ≤ sK l n
  | 0 => Nat.zero_le _
  | n + 1 => by
    have ih := edPR_le hW n
    rw [edPR_s, wS_app]
    show _ ≤ sK l n + wK (kR n l)
    by_cases h : kR n l = []
    · rw [if_pos h, wS_nil]; omega
    · rw [if_neg h]
      have := krPR_le hW h
      omega
/-- what C_read wants of a text that was read -/
theorem parse_OK {T : List Int} {l : List Row} (hT : TxOK T) (hp : parse T = .inr l) (hW : WF l) : OKE l ∧ (l.length : Int) ≤ 1501 := by
  have h1 := parse_rows hp
  have h2 := parse_len hp
  have h3 := edPR_le hW 10
  have h4 := sK_le l
  have h5 := hT.1
  refine ⟨⟨hW, ?_⟩, by omega⟩
  rw [semT_w]
  have h6 : ((wK l : Nat) : Int) ≤ T.length + 1 := h2
  have h7 : wS (edPR l) ≤ sK l 10 := h3
  omega
end NA9
