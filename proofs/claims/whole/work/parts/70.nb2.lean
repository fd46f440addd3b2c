section NB2
/-! two kinds are printed alike where their rows say the same -/
noncomputable def exL9 (kr : List Row) : List PR := gL (fun s => gL (apF kr s) 10) 10
def nmL (c : Int) (kr : List Row) : List PR := gL (nmF (fun z => lk c z kr) c) 10
/-- a kind's rows on paper behind its first -/
noncomputable def krT (kr : List Row) : List PR := stL kr ++ (nmL 90 kr ++ (nmL 88 kr ++ (exL9 kr ++ (liL 68 kr ++ (liL 77 kr ++ (liL 70 kr ++ liL 82 kr))))))
theorem krPR_eq {k : Int} {kr : List Row} (hB : ∀ r ∈ kr, rowB r) : krPR k kr = (75, k, -1, -1) :: krT kr := by
  have hK := vH_K kr I0
  have e1 : (vH kr I0 0 1).toNat = nL 83 kr := by rw [hK.2.1]; omega
  have e3 : vH kr I0 3 = fun z => lk 90 z kr := by funext z; simp [vH]
  have e4 : vH kr I0 4 = fun z => lk 88 z kr := by funext z; simp [vH]
  have e5 : vH kr I0 5 = fun z => (exM kr z : Int) := by funext z; simp [vH]
  have x5 : gL (exF (fun z => (exM kr z : Int))) 10 = gL (fun s => gL (apF kr s) 10) 10 := gL_cong 10 (fun s _ => gL_cong 10 (fun t ht => apF_eq hB s t ht))
  have l1 : lmF1 (vH kr I0 0) = liL 68 kr := by simp [lmF1, liL, vH, nms]
  have l2 : lmF2 (vH kr I0 0) = liL 77 kr := by simp [lmF2, liL, vH, nms]
  have l3 : lmF3 (vH kr I0 0) = liL 70 kr := by simp [lmF3, liL, vH, nms]
  have l4 : lmF4 (vH kr I0 0) = liL 82 kr := by simp [lmF4, liL, vH, nms]
  have h : krPR k kr = [(75, k, -1, -1)] ++ (gL (stF (vH kr I0 1) (vH kr I0 2)) (vH kr I0 0 1).toNat ++ (gL (nmF (vH kr I0 3) 90) 10 ++ (gL (nmF (vH kr I0 4) 88) 10 ++ (gL (exF (vH kr I0 5)) 10 ++ (lmF1 (vH kr I0 0) ++ (lmF2 (vH kr I0 0) ++ (lmF3 (vH kr I0 0) ++ lmF4 (vH kr I0 0)))))))) := rfl
  rw [h, e1, stL_eq, e3, e4, e5, x5, l1, l2, l3, l4]
  rfl
theorem mem_gL {α : Type} {f : Nat → List α} {x : α} : ∀ n : Nat, x ∈ gL f n ↔ ∃ i, i < n ∧ x ∈ f i
  | 0 => ⟨fun h => (by cases h), fun ⟨i, h, _⟩ => (by omega)⟩
  | n + 1 => by
    rw [gL_s, List.mem_append, mem_gL n]
    constructor
    · rintro (⟨i, h1, h2⟩ | h)
      · exact ⟨i, by omega, h2⟩
      · exact ⟨n, by omega, h⟩
    · rintro ⟨i, h1, h2⟩
      by_cases e : i = n
      · subst e; exact Or.inr h2
      · exact Or.inl ⟨i, by omega, h2⟩
theorem nmF_cg {f g : Int → Int} {c : Int} {i : Nat} (h : f i = g i) : nmF f c i = nmF g c i := by
  unfold nmF
  rw [h]
theorem mem_nmL {c : Int} {kr : List Row} {x : PR} : x ∈ nmL c kr ↔ ∃ i : Nat, i < 10 ∧ lk c i kr ≠ -1 ∧ x = (c, (i : Int), lk c i kr, -1) := by
  unfold nmL
  rw [mem_gL]
  constructor
  · rintro ⟨i, h1, h2⟩
    unfold nmF at h2
    split at h2
    · cases h2
    · rename_i hn
      exact ⟨i, h1, hn, List.mem_singleton.mp h2⟩
  · rintro ⟨i, h1, h2, h3⟩
    refine ⟨i, h1, ?_⟩
    unfold nmF
    rw [if_neg h2, h3]
    exact List.mem_singleton.mpr rfl
theorem mem_exL9 {kr : List Row} {x : PR} : x ∈ exL9 kr ↔ ∃ s t : Nat, s < 10 ∧ t < 10 ∧ (s < t ∧ apL s t kr) ∧ x = (69, (s : Int), (t : Int), -1) := by
  unfold exL9
  rw [mem_gL]
  constructor
  · rintro ⟨s, h1, h2⟩
    obtain ⟨t, h3, h4⟩ := (mem_gL 10).mp h2
    unfold apF at h4
    split at h4
    · rename_i hp
      exact ⟨s, t, h1, h3, hp, List.mem_singleton.mp h4⟩
    · cases h4
  · rintro ⟨s, t, h1, h3, hp, h4⟩
    refine ⟨s, h1, (mem_gL 10).mpr ⟨t, h3, ?_⟩⟩
    unfold apF
    rw [if_pos hp, h4]
    exact List.mem_singleton.mpr rfl
theorem mem_liL {c : Int} {kr : List Row} {x : PR} : x ∈ liL c kr ↔ fl c (fun r => r.2.1) kr ≠ -1 ∧ x = (c, fl c (fun r => r.2.1) kr, (if nms c = 1 then -1 else fl c (fun r => r.2.2.1) kr), (if nms c = 3 then fl c (fun r => r.2.2.2) kr else -1)) := by
  by_cases h : fl c (fun r => r.2.1) kr = -1
  · have e : liL c kr = [] := if_pos h
    rw [e]
    exact ⟨fun z => (by cases z), fun z => absurd h z.1⟩
  · have e : liL c kr = [(c, fl c (fun r => r.2.1) kr, (if nms c = 1 then -1 else fl c (fun r => r.2.2.1) kr), (if nms c = 3 then fl c (fun r => r.2.2.2) kr else -1))] := if_neg h
    rw [e, List.mem_singleton]
    exact ⟨fun z => ⟨h, z⟩, fun z => z.2⟩
theorem mem_stL {kr : List Row} {x : PR} (h : x ∈ stL kr) : ∃ q ∈ stp kr, x = (83, q.1, q.2, -1) := by
  obtain ⟨q, h1, h2⟩ := List.mem_map.mp h
  exact ⟨q, h1, h2.symm⟩
theorem mem_krT {kr : List Row} {x : PR} : x ∈ krT kr ↔ x ∈ stL kr ∨ x ∈ nmL 90 kr ∨ x ∈ nmL 88 kr ∨ x ∈ exL9 kr ∨ x ∈ liL 68 kr ∨ x ∈ liL 77 kr ∨ x ∈ liL 70 kr ∨ x ∈ liL 82 kr := by
  unfold krT
  simp only [List.mem_append]
theorem nmL_c {c : Int} {kr : List Row} {x : PR} (h : x ∈ nmL c kr) : x.1 = c := by
  obtain ⟨i, -, -, e⟩ := mem_nmL.mp h
  rw [e]
theorem exL9_c {kr : List Row} {x : PR} (h : x ∈ exL9 kr) : x.1 = 69 := by
  obtain ⟨s, t, -, -, -, e⟩ := mem_exL9.mp h
  rw [e]
theorem liL_c {c : Int} {kr : List Row} {x : PR} (h : x ∈ liL c kr) : x.1 = c := by
  rw [(mem_liL.mp h).2]
theorem stL_c {kr : List Row} {x : PR} (h : x ∈ stL kr) : x.1 = 83 := by
  obtain ⟨q, -, e⟩ := mem_stL h
  rw [e]
/-- which letter stands where -/
theorem krT_at {kr : List Row} {x : PR} (h : x ∈ krT kr) : (x.1 = 90 → x ∈ nmL 90 kr) ∧ (x.1 = 88 → x ∈ nmL 88 kr) ∧ (x.1 = 69 → x ∈ exL9 kr) ∧ (x.1 = 68 → x ∈ liL 68 kr) ∧ (x.1 = 77 → x ∈ liL 77 kr) ∧ (x.1 = 70 → x ∈ liL 70 kr) ∧ (x.1 = 82 → x ∈ liL 82 kr) := by
  rcases mem_krT.mp h with z | z | z | z | z | z | z | z
  · have := stL_c z
    refine ⟨fun e => ?_, fun e => ?_, fun e => ?_, fun e => ?_, fun e => ?_, fun e => ?_, fun e => ?_⟩ <;> omega
  · have := nmL_c z
    refine ⟨fun e => z, fun e => ?_, fun e => ?_, fun e => ?_, fun e => ?_, fun e => ?_, fun e => ?_⟩ <;> omega
  · have := nmL_c z
    refine ⟨fun e => ?_, fun e => z, fun e => ?_, fun e => ?_, fun e => ?_, fun e => ?_, fun e => ?_⟩ <;> omega
  · have := exL9_c z
    refine ⟨fun e => ?_, fun e => ?_, fun e => z, fun e => ?_, fun e => ?_, fun e => ?_, fun e => ?_⟩ <;> omega
  · have := liL_c z
    refine ⟨fun e => ?_, fun e => ?_, fun e => ?_, fun e => z, fun e => ?_, fun e => ?_, fun e => ?_⟩ <;> omega
  · have := liL_c z
    refine ⟨fun e => ?_, fun e => ?_, fun e => ?_, fun e => ?_, fun e => z, fun e => ?_, fun e => ?_⟩ <;> omega
  · have := liL_c z
    refine ⟨fun e => ?_, fun e => ?_, fun e => ?_, fun e => ?_, fun e => ?_, fun e => z, fun e => ?_⟩ <;> omega
  · have := liL_c z
    refine ⟨fun e => ?_, fun e => ?_, fun e => ?_, fun e => ?_, fun e => ?_, fun e => ?_, fun e => z⟩ <;> omega
theorem stL_f (kr : List Row) : (krT kr).filter (fun r => r.1 == 83) = stL kr := by
  unfold krT
  simp only [List.filter_append]
  have h0 : ∀ l : List PR, (∀ x ∈ l, x.1 ≠ 83) → l.filter (fun r => r.1 == 83) = [] := fun l hl => List.filter_eq_nil_iff.mpr (fun x hx => by simpa using hl x hx)
  have h1 : (stL kr).filter (fun r => r.1 == 83) = stL kr := List.filter_eq_self.mpr (fun x hx => by simpa using stL_c hx)
  rw [h1, h0 _ (fun x hx => by rw [nmL_c hx]; decide), h0 _ (fun x hx => by rw [nmL_c hx]; decide), h0 _ (fun x hx => by rw [exL9_c hx]; decide), h0 _ (fun x hx => by rw [liL_c hx]; decide), h0 _ (fun x hx => by rw [liL_c hx]; decide), h0 _ (fun x hx => by rw [liL_c hx]; decide), h0 _ (fun x hx => by rw [liL_c hx]; decide)]
  simp
theorem map_inj9 {α β : Type} {f : α → β} (hf : ∀ a b, f a = f b → a = b) : ∀ {l m : List α}, l.map f = m.map f → l = m
  | [], [], _ => rfl
  | [], b :: m, h => by simp at h
  | a :: l, [], h => by simp at h
  | a :: l, b :: m, h => by
    rw [List.map_cons, List.map_cons] at h
    injection h with h1 h2
    rw [hf a b h1, map_inj9 hf h2]
theorem stL_inj {k1 k2 : List Row} (h : stL k1 = stL k2) : stp k1 = stp k2 := by
  unfold stL at h
  refine map_inj9 (fun a b e => ?_) h
  injection e with _ e
  injection e with e1 e
  injection e with e2 _
  exact Prod.ext e1 e2
/-- the names of a letter -/
theorem nm_half {c : Int} {k1 k2 : List Row} (h : ∀ x, x.1 = c → x ∈ nmL c k1 → x ∈ nmL c k2) (z : Int) (z0 : 0 ≤ z) (z1 : z < 10) (hn : lk c z k1 ≠ -1) : lk c z k2 = lk c z k1 := by
  have hz : ((z.toNat : Nat) : Int) = z := by omega
  have h1 : ((c, z, lk c z k1, -1) : PR) ∈ nmL c k1 := mem_nmL.mpr ⟨z.toNat, by omega, by rw [hz]; exact hn, by rw [hz]⟩
  obtain ⟨i, i1, i2, e⟩ := mem_nmL.mp (h _ rfl h1)
  injection e with _ e
  injection e with e1 e
  injection e with e2 _
  rw [e1]
  rw [e1] at e2
  exact e2.symm
theorem nm_both {c : Int} {k1 k2 : List Row} (h1 : ∀ x, x.1 = c → x ∈ nmL c k1 → x ∈ nmL c k2) (h2 : ∀ x, x.1 = c → x ∈ nmL c k2 → x ∈ nmL c k1) (z : Int) (z0 : 0 ≤ z) (z1 : z < 10) : lk c z k1 = lk c z k2 := by
  by_cases e : lk c z k1 = -1
  · by_cases e2 : lk c z k2 = -1
    · rw [e, e2]
    · exact nm_half h2 z z0 z1 e2
  · exact (nm_half h1 z z0 z1 e).symm
theorem apL_sym {s t : Int} {l : List Row} (h : apL s t l) : apL t s l := by
  obtain ⟨r, hr, e, h⟩ := h
  exact ⟨r, hr, e, by omega⟩
theorem apL_irr {s : Int} {l : List Row} (hB : ∀ r ∈ l, rowB r) (h : apL s s l) : False := by
  obtain ⟨r, hr, e, h⟩ := h
  have := ((hB r hr).2.2.2.2.2.2.2.1 e).2.2
  omega
theorem ex_half {k1 k2 : List Row} (hB : ∀ r ∈ k1, rowB r) (h : ∀ x, x.1 = 69 → x ∈ exL9 k1 → x ∈ exL9 k2) (s t : Int) (s0 : 0 ≤ s ∧ s < 10) (t0 : 0 ≤ t ∧ t < 10) (ha : apL s t k1) : apL s t k2 := by
  have key : ∀ a b : Int, 0 ≤ a → a < b → b < 10 → apL a b k1 → apL a b k2 := by
    intro a b a0 ab b1 hab
    have e1 : ((a.toNat : Nat) : Int) = a := by omega
    have e2 : ((b.toNat : Nat) : Int) = b := by omega
    have m1 : ((69, a, b, -1) : PR) ∈ exL9 k1 := mem_exL9.mpr ⟨a.toNat, b.toNat, by omega, by omega, ⟨by omega, by rw [e1, e2]; exact hab⟩, by rw [e1, e2]⟩
    obtain ⟨i, j, -, -, ⟨-, hp⟩, e⟩ := mem_exL9.mp (h _ rfl m1)
    injection e with _ e
    injection e with e3 e
    injection e with e4 _
    rw [e3, e4]
    exact hp
  rcases Int.lt_trichotomy s t with z | z | z
  · exact key s t s0.1 z t0.2 ha
  · subst z
    exact (apL_irr hB ha).elim
  · exact apL_sym (key t s t0.1 z s0.2 (apL_sym ha))
theorem ex_both {k1 k2 : List Row} (hB1 : ∀ r ∈ k1, rowB r) (hB2 : ∀ r ∈ k2, rowB r) (h1 : ∀ x, x.1 = 69 → x ∈ exL9 k1 → x ∈ exL9 k2) (h2 : ∀ x, x.1 = 69 → x ∈ exL9 k2 → x ∈ exL9 k1) (z : Int) (z0 : 0 ≤ z) (z1 : z < 10) : exM k1 z = exM k2 z := by
  apply Nat.eq_of_testBit_eq
  intro i
  by_cases hi : i < 10
  · have a1 := ap_ex (s := z) (t := (i : Int)) (by omega) k1 hB1
    have a2 := ap_ex (s := z) (t := (i : Int)) (by omega) k2 hB2
    rw [Int.toNat_natCast] at a1 a2
    have hh : apL z i k1 ↔ apL z i k2 := ⟨ex_half hB1 h1 z i ⟨z0, z1⟩ ⟨by omega, by omega⟩, ex_half hB2 h2 z i ⟨z0, z1⟩ ⟨by omega, by omega⟩⟩
    rw [Bool.eq_iff_iff, a1, a2]
    exact hh
  · rw [Nat.testBit_lt_two_pow (Nat.lt_of_lt_of_le (exM_lt z k1 hB1) (Nat.pow_le_pow_right (n := 2) (by decide) (show 10 ≤ i by omega))), Nat.testBit_lt_two_pow (Nat.lt_of_lt_of_le (exM_lt z k2 hB2) (Nat.pow_le_pow_right (n := 2) (by decide) (show 10 ≤ i by omega)))]
theorem fl_m1 {c : Int} {l : List Row} (hB : ∀ r ∈ l, rowB r) (h : fl c (fun r => r.2.1) l = -1) (f : Row → Int) : fl c f l = -1 := by
  rcases fl_val c l with e | ⟨r, hr, -, e⟩
  · exact e f
  · have := (hB r hr).2.1
    rw [e] at h
    omega
theorem li_half {c : Int} {k1 k2 : List Row} (h : ∀ x, x.1 = c → x ∈ liL c k1 → x ∈ liL c k2) (hn : fl c (fun r => r.2.1) k1 ≠ -1) : fl c (fun r => r.2.1) k1 = fl c (fun r => r.2.1) k2 ∧ (nms c ≠ 1 → fl c (fun r => r.2.2.1) k1 = fl c (fun r => r.2.2.1) k2) ∧ (nms c = 3 → fl c (fun r => r.2.2.2) k1 = fl c (fun r => r.2.2.2) k2) := by
  have h1 := (mem_liL.mp (h _ rfl (mem_liL.mpr ⟨hn, rfl⟩))).2
  injection h1 with _ e
  injection e with e1 e
  injection e with e2 e3
  refine ⟨e1, fun z => ?_, fun z => ?_⟩
  · rw [if_neg z, if_neg z] at e2; exact e2
  · rw [if_pos z, if_pos z] at e3; exact e3
theorem li_both {c : Int} {k1 k2 : List Row} (hB1 : ∀ r ∈ k1, rowB r) (hB2 : ∀ r ∈ k2, rowB r) (h1 : ∀ x, x.1 = c → x ∈ liL c k1 → x ∈ liL c k2) (h2 : ∀ x, x.1 = c → x ∈ liL c k2 → x ∈ liL c k1) : fl c (fun r => r.2.1) k1 = fl c (fun r => r.2.1) k2 ∧ (nms c ≠ 1 → fl c (fun r => r.2.2.1) k1 = fl c (fun r => r.2.2.1) k2) ∧ (nms c = 3 → fl c (fun r => r.2.2.2) k1 = fl c (fun r => r.2.2.2) k2) := by
  by_cases e : fl c (fun r => r.2.1) k1 = -1
  · by_cases e2 : fl c (fun r => r.2.1) k2 = -1
    · exact ⟨by rw [e, e2], fun _ => by rw [fl_m1 hB1 e, fl_m1 hB2 e2], fun _ => by rw [fl_m1 hB1 e, fl_m1 hB2 e2]⟩
    · obtain ⟨q1, q2, q3⟩ := li_half h2 e2
      exact ⟨q1.symm, fun z => (q2 z).symm, fun z => (q3 z).symm⟩
  · exact li_half h1 e
theorem krT_same {k1 k2 : List Row} (hB1 : ∀ r ∈ k1, rowB r) (hB2 : ∀ r ∈ k2, rowB r) : krT k1 = krT k2 ↔ sameR k1 k2 := by
  constructor
  · intro h
    have m12 : ∀ x, x ∈ krT k1 → x ∈ krT k2 := fun x hx => by rw [← h]; exact hx
    have m21 : ∀ x, x ∈ krT k2 → x ∈ krT k1 := fun x hx => by rw [h]; exact hx
    have hs : stp k1 = stp k2 := stL_inj (by rw [← stL_f, ← stL_f, h])
    have n90 := nm_both (c := 90) (k1 := k1) (k2 := k2) (fun x e hx => (krT_at (m12 x (mem_krT.mpr (by simp [hx])))).1 e) (fun x e hx => (krT_at (m21 x (mem_krT.mpr (by simp [hx])))).1 e)
    have n88 := nm_both (c := 88) (k1 := k1) (k2 := k2) (fun x e hx => (krT_at (m12 x (mem_krT.mpr (by simp [hx])))).2.1 e) (fun x e hx => (krT_at (m21 x (mem_krT.mpr (by simp [hx])))).2.1 e)
    have x69 := ex_both hB1 hB2 (fun x e hx => (krT_at (m12 x (mem_krT.mpr (by simp [hx])))).2.2.1 e) (fun x e hx => (krT_at (m21 x (mem_krT.mpr (by simp [hx])))).2.2.1 e)
    have l68 := li_both (c := 68) hB1 hB2 (fun x e hx => (krT_at (m12 x (mem_krT.mpr (by simp [hx])))).2.2.2.1 e) (fun x e hx => (krT_at (m21 x (mem_krT.mpr (by simp [hx])))).2.2.2.1 e)
    have l77 := li_both (c := 77) hB1 hB2 (fun x e hx => (krT_at (m12 x (mem_krT.mpr (by simp [hx])))).2.2.2.2.1 e) (fun x e hx => (krT_at (m21 x (mem_krT.mpr (by simp [hx])))).2.2.2.2.1 e)
    have l70 := li_both (c := 70) hB1 hB2 (fun x e hx => (krT_at (m12 x (mem_krT.mpr (by simp [hx])))).2.2.2.2.2.1 e) (fun x e hx => (krT_at (m21 x (mem_krT.mpr (by simp [hx])))).2.2.2.2.2.1 e)
    have l82 := li_both (c := 82) hB1 hB2 (fun x e hx => (krT_at (m12 x (mem_krT.mpr (by simp [hx])))).2.2.2.2.2.2 e) (fun x e hx => (krT_at (m21 x (mem_krT.mpr (by simp [hx])))).2.2.2.2.2.2 e)
    exact ⟨hs, fun z z0 z1 => ⟨n90 z z0 z1, n88 z z0 z1, x69 z z0 z1⟩, l68.1, l68.2.1 (by decide), l68.2.2 (by decide), l77.1, l70.1, l70.2.1 (by decide), l82.1⟩
  · rintro ⟨hs, hn, f1, f2, f3, f4, f5, f6, f7⟩
    have e1 : stL k1 = stL k2 := by unfold stL; rw [hs]
    have e2 : nmL 90 k1 = nmL 90 k2 := gL_cong 10 (fun i hi => nmF_cg (hn i (by omega) (by omega)).1)
    have e3 : nmL 88 k1 = nmL 88 k2 := gL_cong 10 (fun i hi => nmF_cg (hn i (by omega) (by omega)).2.1)
    have e4 : exL9 k1 = exL9 k2 := gL_cong 10 (fun s hs => gL_cong 10 (fun t ht => by
      have q1 := ap_ex (s := (s : Int)) (t := (t : Int)) (by omega) k1 hB1
      have q2 := ap_ex (s := (s : Int)) (t := (t : Int)) (by omega) k2 hB2
      rw [(hn s (by omega) (by omega)).2.2, q2] at q1
      unfold apF
      by_cases h : s < t ∧ apL s t k1
      · rw [if_pos h, if_pos ⟨h.1, q1.mpr h.2⟩]
      · rw [if_neg h, if_neg (fun z => h ⟨z.1, q1.mp z.2⟩)]))
    have e5 : liL 68 k1 = liL 68 k2 := by unfold liL; rw [f1, f2, f3]
    have e6 : liL 77 k1 = liL 77 k2 := by unfold liL; rw [f4]; rfl
    have e7 : liL 70 k1 = liL 70 k2 := by unfold liL; rw [f5, f6]; rfl
    have e8 : liL 82 k1 = liL 82 k2 := by unfold liL; rw [f7]; rfl
    unfold krT
    rw [e1, e2, e3, e4, e5, e6, e7, e8]
theorem krT_ok {kr : List Row} (hB : ∀ r ∈ kr, rowB r) : ∀ x ∈ krT kr, PRok x := by
  intro x hx
  have hli : ∀ c, isRowL c → x ∈ liL c kr → PRok x := by
    intro c hc h
    obtain ⟨h1, h2⟩ := mem_liL.mp h
    rcases fl_val c kr with e | ⟨r, hr, -, e⟩
    · exact absurd (e _) h1
    · have hb := hB r hr
      rw [h2, e, e, e]
      refine ⟨hc, hb.2.1, ?_⟩
      show ((if nms c = 1 then -1 else r.2.2.1) = -1 ∧ (if nms c = 3 then r.2.2.2 else -1) = -1) ∨ _
      have h3 := hb.2.2.1
      have h4 := hb.2.2.2.1
      rcases nms_v c with z | z | z
      · rw [z]; exact Or.inl ⟨rfl, rfl⟩
      · rw [z]; exact Or.inr ⟨h3, Or.inl rfl⟩
      · rw [z]; exact Or.inr ⟨h3, Or.inr h4⟩
  have hnm : ∀ c, isRowL c → x ∈ nmL c kr → PRok x := by
    intro c hc h
    obtain ⟨i, i1, i2, e⟩ := mem_nmL.mp h
    rcases lk_val c i kr with z | ⟨r, hr, -, -, z⟩
    · exact absurd z i2
    · rw [e, z]
      exact ⟨hc, by show i10 (i : Int); omega, Or.inr ⟨(hB r hr).2.2.1, Or.inl rfl⟩⟩
  rcases mem_krT.mp hx with z | z | z | z | z | z | z | z
  · obtain ⟨q, hq, e⟩ := mem_stL z
    obtain ⟨r, hr, -, e2⟩ := stp_val hq
    rw [e, e2]
    exact ⟨by unfold isRowL; omega, (hB r hr).2.1, Or.inr ⟨(hB r hr).2.2.1, Or.inl rfl⟩⟩
  · exact hnm 90 (by unfold isRowL; omega) z
  · exact hnm 88 (by unfold isRowL; omega) z
  · obtain ⟨s, t, s1, t1, -, e⟩ := mem_exL9.mp z
    rw [e]
    exact ⟨by unfold isRowL; omega, by show i10 (s : Int); omega, Or.inr ⟨by show i10 (t : Int); omega, Or.inl rfl⟩⟩
  · exact hli 68 (by unfold isRowL; omega) z
  · exact hli 77 (by unfold isRowL; omega) z
  · exact hli 70 (by unfold isRowL; omega) z
  · exact hli 82 (by unfold isRowL; omega) z
/-- two kinds' papers are the same just where their rows say the same -/
theorem paper_same {k : Int} (hk : 0 ≤ k ∧ k ≤ 9) {k1 k2 : List Row} (hB1 : ∀ r ∈ k1, rowB r) (hB2 : ∀ r ∈ k2, rowB r) : (semT (krPR k k1)).tail = (semT (krPR k k2)).tail ↔ sameR k1 k2 := by
  rw [krPR_eq hB1, krPR_eq hB2, ← krT_same hB1 hB2]
  constructor
  · intro h
    have h0 : PRok (75, k, -1, -1) := ⟨by unfold isRowL; omega, by show i10 k; omega, Or.inl ⟨rfl, rfl⟩⟩
    have := semT_injt (fun z hz => by
      rcases List.mem_cons.mp hz with e | e
      · rw [e]; exact h0
      · exact krT_ok hB1 z e) (fun z hz => by
      rcases List.mem_cons.mp hz with e | e
      · rw [e]; exact h0
      · exact krT_ok hB2 z e) h
    injection this
  · intro h
    rw [h]
/-- a kind's paper is never empty -/
theorem paper_pos (k : Int) {kr : List Row} (hB : ∀ r ∈ kr, rowB r) : 0 < (semT (krPR k kr)).tail.length := by
  rw [krPR_eq hB, semT_c, List.tail_cons, rT_s]
  simp
end NB2
