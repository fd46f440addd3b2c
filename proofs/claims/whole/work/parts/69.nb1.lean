section NB1
/-! what stands on paper tells its rows -/
theorem spl {p : Int → Prop} : ∀ {a b s t : List Int}, (∀ x ∈ a, p x) → (∀ x ∈ b, p x) → (∀ x, s.head? = some x → ¬ p x) → (∀ x, t.head? = some x → ¬ p x) → a ++ s = b ++ t → a = b ∧ s = t
  | [], [], s, t, _, _, _, _, h => ⟨rfl, h⟩
  | [], y :: b, s, t, _, hb, hs, _, h => by
    rw [List.nil_append, List.cons_append] at h
    exact absurd (hb y List.mem_cons_self) (hs y (by rw [h]; rfl))
  | x :: a, [], s, t, ha, _, _, ht, h => by
    rw [List.nil_append, List.cons_append] at h
    exact absurd (ha x List.mem_cons_self) (ht x (by rw [← h]; rfl))
  | x :: a, y :: b, s, t, ha, hb, hs, ht, h => by
    rw [List.cons_append, List.cons_append] at h
    injection h with h1 h2
    obtain ⟨e1, e2⟩ := spl (fun z hz => ha z (List.mem_cons_of_mem _ hz)) (fun z hz => hb z (List.mem_cons_of_mem _ hz)) hs ht h2
    exact ⟨by rw [h1, e1], e2⟩
def dig (c : Int) : Prop := 48 ≤ c ∧ c ≤ 57
theorem dgF_dig (v : Int) : ∀ (n : Nat) (u : Int), ∀ c ∈ dgF n v u, dig c
  | 0, u, c, h => by simp [dgF] at h
  | n + 1, u, c, h => by
    unfold dgF at h
    split at h
    · rcases List.mem_cons.mp h with e | e
      · subst e
        unfold dig
        generalize v / u = q
        omega
      · exact dgF_dig v n _ c e
    · simp at h
def valD (l : List Int) (a : Int) : Int := l.foldl (fun acc c => 10 * acc + (c - 48)) a
theorem p10_s (j : Nat) : (10 : Int) ^ (j + 1) / 10 = 10 ^ j := by
  rw [Int.pow_succ]
  exact Int.mul_ediv_cancel _ (by decide)
theorem dgF_s (v : Int) (j n : Nat) : dgF (n + 1) v (10 ^ j) = (48 + v / 10 ^ j % 10) :: dgF n v (10 ^ j / 10) := if_pos (by have := p10_pos j; omega)
theorem valD_dg (v : Int) : ∀ (j n : Nat), j < n → valD (dgF n v (10 ^ j)) (v / 10 ^ (j + 1)) = v
  | 0, n + 1, _ => by
    rw [dgF_s, show (10 : Int) ^ 0 / 10 = 0 by decide, dgF_0]
    show 10 * (v / 10 ^ (0 + 1)) + (48 + v / 10 ^ 0 % 10 - 48) = v
    rw [show (10 : Int) ^ (0 + 1) = 10 by decide, show (10 : Int) ^ 0 = 1 by decide]
    omega
  | j + 1, n + 1, h => by
    have ih := valD_dg v j n (by omega)
    rw [dgF_s, p10_s]
    show valD (dgF n v (10 ^ j)) (10 * (v / 10 ^ (j + 1 + 1)) + (48 + v / 10 ^ (j + 1) % 10 - 48)) = v
    have e : v / 10 ^ (j + 1 + 1) = v / 10 ^ (j + 1) / 10 := by
      rw [Int.pow_succ (10 : Int) (j + 1), Int.ediv_ediv_of_nonneg (by have := p10_pos (j + 1); omega)]
    rw [e]
    generalize v / 10 ^ (j + 1) = q at *
    rw [show 10 * (q / 10) + (48 + q % 10 - 48) = q by omega]
    exact ih
theorem utF_ub (v : Int) : ∀ (n j : Nat), v < 10 ^ (j + n + 1) → v < 10 * utF n v (10 ^ j)
  | 0, j, h => by
    show v < 10 * 10 ^ j
    rw [show j + 0 + 1 = j + 1 from rfl, Int.pow_succ] at h
    omega
  | n + 1, j, h => by
    have e : (10 : Int) * 10 ^ j = 10 ^ (j + 1) := by rw [Int.pow_succ, Int.mul_comm]
    by_cases hc : 10 * (10 : Int) ^ j ≤ v
    · have hu : utF (n + 1) v (10 ^ j) = utF n v (10 * 10 ^ j) := if_pos hc
      rw [hu, e]
      exact utF_ub v n (j + 1) (by rw [show j + 1 + n + 1 = j + (n + 1) + 1 by omega]; exact h)
    · have hu : utF (n + 1) v (10 ^ j) = 10 ^ j := if_neg hc
      rw [hu]
      omega
theorem numT_val {v : Int} (hv : i10 v) : valD (numT v) 0 = v := by
  obtain ⟨k, k1, k2, k3, k4⟩ := utF_pow v 6 0
  have hu := utF_ub v 6 0 (by rw [show (10 : Int) ^ (0 + 6 + 1) = 10000000 by decide]; omega)
  have e : numT v = dgF 8 v (10 ^ k) := by
    unfold numT
    rw [show (1 : Int) = 10 ^ 0 by decide, k1]
  rw [k1] at hu
  have h0 : v / 10 ^ (k + 1) = 0 := Int.ediv_eq_zero_of_lt hv.1 (by rw [Int.pow_succ]; omega)
  have := valD_dg v k 8 (by omega)
  rw [h0, ← e] at this
  exact this
theorem numT_inj {a b : Int} (ha : i10 a) (hb : i10 b) (h : numT a = numT b) : a = b := by
  rw [← numT_val ha, ← numT_val hb, h]
theorem numT_dig (v : Int) : ∀ c ∈ numT v, dig c := dgF_dig v _ _
/-- what stands behind a row's first number -/
def sfx (b : Int) : List Int := if b = -1 then [] else 32 :: numT b
theorem sfx_n {b : Int} (h : b = -1) : sfx b = [] := if_pos h
theorem sfx_y {b : Int} (h : i10 b) : sfx b = 32 :: numT b := if_neg (by omega)
theorem sfx_h (b : Int) (s : List Int) (hs : ∀ x, s.head? = some x → ¬ dig x) : ∀ x, (sfx b ++ s).head? = some x → ¬ dig x := by
  intro x hx
  unfold sfx at hx
  split at hx
  · exact hs x hx
  · cases hx
    unfold dig
    omega
theorem sfx_0 (b : Int) : ∀ x, (sfx b).head? = some x → ¬ dig x := by
  have := sfx_h b [] (fun x hx => by cases hx)
  rwa [List.append_nil] at this
theorem rT_s (r : PR) : rT r = r.1 :: (numT r.2.1 ++ (sfx r.2.2.1 ++ sfx r.2.2.2)) := rfl
def PRok (r : PR) : Prop := isRowL r.1 ∧ i10 r.2.1 ∧ ((r.2.2.1 = -1 ∧ r.2.2.2 = -1) ∨ (i10 r.2.2.1 ∧ (r.2.2.2 = -1 ∨ i10 r.2.2.2)))
theorem sfx_inj {a b : Int} {s t : List Int} (ha : a = -1 ∨ i10 a) (hb : b = -1 ∨ i10 b) (ha0 : a = -1 → s = []) (hb0 : b = -1 → t = []) (hs : ∀ x, s.head? = some x → ¬ dig x) (ht : ∀ x, t.head? = some x → ¬ dig x) (h : sfx a ++ s = sfx b ++ t) : a = b ∧ s = t := by
  rcases ha with ea | ea <;> rcases hb with eb | eb
  · exact ⟨by omega, by rw [ha0 ea, hb0 eb]⟩
  · rw [sfx_n ea, ha0 ea, sfx_y eb] at h
    cases h
  · rw [sfx_n eb, hb0 eb, sfx_y ea] at h
    cases h
  · rw [sfx_y ea, sfx_y eb, List.cons_append, List.cons_append] at h
    injection h with _ h
    obtain ⟨h1, h2⟩ := spl (numT_dig a) (numT_dig b) hs ht h
    exact ⟨numT_inj ea eb h1, h2⟩
theorem rT_inj {r q : PR} (hr : PRok r) (hq : PRok q) (h : rT r = rT q) : r = q := by
  obtain ⟨c, a, b, e⟩ := r
  obtain ⟨c', a', b', e'⟩ := q
  obtain ⟨-, h2, h3⟩ := hr
  obtain ⟨-, g2, g3⟩ := hq
  dsimp only at h2 h3 g2 g3
  rw [rT_s, rT_s] at h
  injection h with k1 k2
  dsimp only at k1 k2
  obtain ⟨k3, k4⟩ := spl (numT_dig a) (numT_dig a') (sfx_h b _ (sfx_0 e)) (sfx_h b' _ (sfx_0 e')) k2
  have k5 := numT_inj h2 g2 k3
  obtain ⟨k6, k7⟩ := sfx_inj (a := b) (b := b') (by omega) (by omega) (fun z => sfx_n (by omega)) (fun z => sfx_n (by omega)) (sfx_0 e) (sfx_0 e') k4
  have k8 := (sfx_inj (a := e) (b := e') (s := []) (t := []) (by omega) (by omega) (fun _ => rfl) (fun _ => rfl) (fun x hx => by cases hx) (fun x hx => by cases hx) (by rw [List.append_nil, List.append_nil]; exact k7)).1
  rw [k1, k5, k6, k8]
theorem rT_59 {r : PR} (hr : PRok r) : ∀ x ∈ rT r, x ≠ 59 := by
  intro x hx
  have hd : ∀ v : Int, ∀ c ∈ numT v, c ≠ 59 := fun v c hc => by have := numT_dig v c hc; unfold dig at this; omega
  have hs : ∀ b : Int, ∀ c ∈ sfx b, c ≠ 59 := fun b c hc => by
    unfold sfx at hc
    split at hc
    · cases hc
    · rcases List.mem_cons.mp hc with e | e
      · omega
      · exact hd b c e
  rw [rT_s] at hx
  rcases List.mem_cons.mp hx with e | e
  · have := hr.1
    unfold isRowL at this
    omega
  · rcases List.mem_append.mp e with e | e
    · exact hd _ x e
    · rcases List.mem_append.mp e with e | e
      · exact hs _ x e
      · exact hs _ x e
theorem semT_c (r : PR) (rs : List PR) : semT (r :: rs) = 59 :: (rT r ++ semT rs) := rfl
theorem semT_h : ∀ rs : List PR, ∀ x, (semT rs).head? = some x → ¬ x ≠ 59
  | [], x, h => by cases h
  | r :: rs, x, h => by
    rw [semT_c] at h
    cases h
    exact fun z => z rfl
theorem semT_inj : ∀ {rs qs : List PR}, (∀ r ∈ rs, PRok r) → (∀ r ∈ qs, PRok r) → semT rs = semT qs → rs = qs
  | [], [], _, _, _ => rfl
  | [], q :: qs, _, _, h => by rw [semT_c] at h; cases h
  | r :: rs, [], _, _, h => by rw [semT_c] at h; cases h
  | r :: rs, q :: qs, hr, hq, h => by
    rw [semT_c, semT_c] at h
    injection h with _ h
    have h1 := hr r List.mem_cons_self
    have h2 := hq q List.mem_cons_self
    obtain ⟨k1, k2⟩ := spl (p := fun x => x ≠ 59) (rT_59 h1) (rT_59 h2) (semT_h rs) (semT_h qs) h
    rw [rT_inj h1 h2 k1, semT_inj (fun z hz => hr z (List.mem_cons_of_mem _ hz)) (fun z hz => hq z (List.mem_cons_of_mem _ hz)) k2]
theorem semT_injt {r q : PR} {rs qs : List PR} (hr : ∀ z ∈ r :: rs, PRok z) (hq : ∀ z ∈ q :: qs, PRok z) (h : (semT (r :: rs)).tail = (semT (q :: qs)).tail) : r :: rs = q :: qs := by
  refine semT_inj hr hq ?_
  rw [semT_c, semT_c] at h ⊢
  rw [List.tail_cons, List.tail_cons] at h
  rw [h]
end NB1
