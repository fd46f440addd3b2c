section C29
variable {D : va_G} {d : Nat} {ty : zT} {sz : Nat} {h : zH} {Q : zQ}
set_option maxHeartbeats 4000000 in
set_option maxRecDepth 100000 in
theorem C_m_read {m : Int} {S : CS} (hA : mAbs ty h m S) (hq : ∀ h', FrM m h h' → mAbs ty h' m ((S_read S).1) → Q (some (iV (S_read S).2)) ty sz h') : zXM D mX7_read (d + 6) 0 0 [rV m] ty sz h Q := by
  have hA0 := hA
  obtain ⟨hM, hT, hE, hI, hB, hP⟩ := hA
  have hM0 := hM
  obtain ⟨m9, m0, a1, a2, a3, a4, a5, a6, a7, a8, a9, a10, a11, a12, a13, a14, a15, a16, a17, a18, a19, a20, a21⟩ := hM
  have hE1 := hE.1
  have hE2 := hE.2.1
  have hT1 := hT.2.1
  refine x_aload_n (pc := 0) dX7_read_0 rfl ?_
  refine x_iconst (pc := 1) dX7_read_1 ?_
  refine y_putI 0 (pc := 2) dX7_read_2 f_RX7_75 (by assumption) rfl (by rfl) (by omega) rfl ?_
  refine x_aload_n (pc := 5) dX7_read_5 rfl ?_
  refine x_iconst (pc := 6) dX7_read_6 ?_
  refine y_putI 3 (pc := 7) dX7_read_7 f_RX7_82 (by assumption) rfl (by rfl) (by omega) rfl ?_
  refine x_aload_n (pc := 10) dX7_read_10 rfl ?_
  refine x_iconst (pc := 11) dX7_read_11 ?_
  refine y_putI 4 (pc := 12) dX7_read_12 f_RX7_85 (by assumption) rfl (by rfl) (by omega) rfl ?_
  refine x_aload_n (pc := 15) dX7_read_15 rfl ?_
  refine x_iconst (pc := 16) dX7_read_16 ?_
  refine y_putI 11 (pc := 17) dX7_read_17 f_RX7_107 (by assumption) rfl (by rfl) (by omega) rfl ?_
  refine x_aload_n (pc := 20) dX7_read_20 rfl ?_
  refine x_getF (pc := 21) dX7_read_21 f_RX7_25 (by assumption) (by rfl) ?_
  refine x_iconst (pc := 24) dX7_read_24 ?_
  refine x_iconst (pc := 25) dX7_read_25 ?_
  refine x_iast (pc := 26) dX7_read_26 (by assumption) (by omega) (by omega) (by rfl) (by omega) ?_
  generalize hG : zup (zup (zup (zup (zup h m 0 0) m 3 0) m 4 (-1)) m 11 (-1)) (m + 6) 5 0 = G
  have G3 : G m 3 = 0 := by rw [← hG, zup_ne (by omega)]; simp [zup_app]
  have G4 : G m 4 = -1 := by rw [← hG, zup_ne (by omega)]; simp [zup_app]
  have G11 : G m 11 = -1 := by rw [← hG, zup_ne (by omega)]; simp [zup_app]
  have G65 : G (m + 6) 5 = 0 := by rw [← hG, zup_app, if_pos ⟨rfl, rfl⟩]
  have GM : ∀ k, k ≠ 0 → k ≠ 3 → k ≠ 4 → k ≠ 11 → G m k = h m k := fun k k0 k3 k4 k11 => by
    rw [← hG, zup_ne (by omega), zup_app, if_neg (by omega), zup_app, if_neg (by omega), zup_app, if_neg (by omega), zup_app, if_neg (by omega)]
  have G6 : ∀ k, k ≠ 5 → G (m + 6) k = h (m + 6) k := fun k hk => by
    rw [← hG, zup_app, if_neg (by omega), zup_ne (by omega), zup_ne (by omega), zup_ne (by omega), zup_ne (by omega)]
  have GO : ∀ a, a ≠ m → a ≠ m + 6 → G a = h a := fun a a1 a2 => by
    rw [← hG, zup_ne a2, zup_ne a1, zup_ne a1, zup_ne a1, zup_ne a1]
  have GT : MTx G m (cT S) := hT.1.fr (GM 2 (by decide) (by decide) (by decide) (by decide)) (GO _ (by omega) (by omega))
  have GR : RS G m 0 [] := ⟨G3, G4, G65, fun i r hi => by simp at hi, by rw [if_pos rfl]; exact G11, WF_nil⟩
  -- the state behind a reading
  have AB : ∀ g, FrR m G g → FrM m h (zup g m 2 0) ∧ (∀ E2, mE (zup g m 2 0) m E2 → mAbs ty (zup g m 2 0) m ([], E2, S.2.2)) ∧ mE (zup g m 2 0) m (cE S) := by
    intro g hF
    have gm : ∀ k, k ≠ 2 → k ≠ 0 → k ≠ 3 → k ≠ 4 → k ≠ 11 → zup g m 2 0 m k = h m k := fun k k2 k0 k3 k4 k11 => by
      rw [zup_app, if_neg (by omega), hF.2.2.2 k k3 k4 k11, GM k k0 k3 k4 k11]
    have go : ∀ a, a ≠ m → (a < m + 2 ∨ m + 6 < a) → zup g m 2 0 a = h a := fun a a1 a2 => by
      rw [zup_ne a1, hF.1 a a1 a2, GO a a1 (by omega)]
    refine ⟨fun a ha => go a (by omega) (by omega), fun E2 hE2 => ⟨hM0, ⟨⟨(by show zup g m 2 0 m 2 = ((([] : List Int).length : Nat) : Int); simp [zup_app]), fun i c hi => by replace hi : ([] : List Int)[i]? = some c := hi; simp at hi⟩, by show (0 : Nat) ≤ 1500; decide, fun c hc => absurd hc (by show ¬ c ∈ ([] : List Int); simp)⟩, hE2, hI.fr (gm 12 (by decide) (by decide) (by decide) (by decide) (by decide)) (fun a a1 a2 => go a (by omega) (by omega)), hB.fr (gm 19 (by decide) (by decide) (by decide) (by decide) (by decide)) (fun a a1 a2 => go a (by omega) (by omega)), hP.fr (gm 23 (by decide) (by decide) (by decide) (by decide) (by decide)) (go _ (by omega) (by omega))⟩, ?_⟩
    exact hE.fr (gm 10 (by decide) (by decide) (by decide) (by decide) (by decide)) (fun a k a1 a2 a3 => by rw [zup_ne (by omega), hF.2.1 a k a1 a2 a3, GO a (by omega) (by omega)]) (fun k hk => by rw [zup_ne (by omega), hF.2.2.1 k hk, G6 k hk])
  have G10 : ∀ g, FrR m G g → g m 10 = (cE S).length := fun g hF => by rw [hF.2.2.2 10 (by decide) (by decide) (by decide), GM 10 (by decide) (by decide) (by decide) (by decide)]; exact hE1
  have KF : ∀ f, parse (cT S) = .inl f → 0 ≤ f ∧ f ≤ 1500 → ∀ g, FrR m G g → g m 4 = f → zX D mX7_read (d + 6) 0 0 171 [(0, rV m)] [] ty sz g Q := by
    intro f hpf hf g hF hg4
    obtain ⟨b1, b2, b3⟩ := AB g hF
    refine c_m_read171F hM0 hg4 (by omega) ?_
    rw [S_read_f hpf] at hq
    exact hq _ b1 (b2 _ b3)
  have KK : ∀ l, parse (cT S) = .inr l → 3 * (l.length : Int) ≤ (cT S).length + 1 → ∀ g, FrR m G g → g m 4 = -1 → g (m + 6) 5 = l.length → MR g m 2600 l → WF l → zX D mX7_read (d + 6) 0 0 171 [(0, rV m)] [] ty sz g Q := by
    intro l hpl hl3 g hF hg4 hg5 hgR hWF
    obtain ⟨b1, b2, b3⟩ := AB g hF
    have hl5 : l.length ≤ 510 := by omega
    refine c_m_read171 (N := (cE S).length) hM0 hgR hg4 hg5 hl5 ⟨G10 g hF, by omega, by omega⟩ (fun e5 => ?_) (fun e5 g2 c1 c2 c3 => ?_)
    · rw [S_read_r hpl, if_pos (by omega)] at hq
      exact hq _ b1 (b2 _ b3)
    · rw [S_read_r hpl, if_neg (by omega)] at hq
      have F1 : ∀ a, a ≠ m → a ≠ m + 6 → zup (zup g2 (m + 6) ((cE S).length : Int) (l.length : Int)) m 10 ((cE S).length + 1) a = g2 a := fun a a1 a2 => by rw [zup_ne a1, zup_ne a2]
      have hll : (cE S ++ [l]).length = (cE S).length + 1 := by simp
      have M1 : ∀ k, k ≠ 10 → zup (zup g2 (m + 6) ((cE S).length : Int) (l.length : Int)) m 10 ((cE S).length + 1) m k = zup g m 2 0 m k := fun k hk => by rw [zup_app, if_neg (by omega), zup_ne (by omega), c1 m (by omega)]
      obtain ⟨-, hT9, -, hI9, hB9, hP9⟩ := b2 _ b3
      refine hq _ (b1.t (fun a ha => by rw [F1 a (by omega) (by omega), c1 a (by omega)])) ⟨hM0, ⟨hT9.1.fr (M1 2 (by decide)) (by rw [F1 _ (by omega) (by omega), c1 _ (by omega)]), hT9.2⟩, ⟨?_, by show (cE S ++ [l]).length ≤ 5; omega, fun j l2 hj => ?_⟩, hI9.fr (M1 12 (by decide)) (fun a a1 a2 => by rw [F1 _ (by omega) (by omega), c1 _ (by omega)]), hB9.fr (M1 19 (by decide)) (fun a a1 a2 => by rw [F1 _ (by omega) (by omega), c1 _ (by omega)]), hP9.fr (M1 23 (by decide)) (by rw [F1 _ (by omega) (by omega), c1 _ (by omega)])⟩
      · rw [zup_app, if_pos ⟨rfl, rfl⟩]
        show _ = ((cE S ++ [l]).length : Int)
        omega
      · replace hj : (cE S ++ [l])[j]? = some l2 := hj
        have hFr : ∀ (b : Int) (l3 : List Row), MR g2 m b l3 → MR (zup (zup g2 (m + 6) ((cE S).length : Int) (l.length : Int)) m 10 ((cE S).length + 1)) m b l3 := fun b l3 h3 => h3.fr (fun q q1 q2 => F1 q (by omega) (by omega))
        by_cases hjl : j < (cE S).length
        · rw [List.getElem?_append_left hjl] at hj
          obtain ⟨q1, q2, q3, q4⟩ := b3.2.2 j l2 hj
          refine ⟨hFr _ _ (fun i r hi => ?_), ?_, q3, q4⟩
          · have hil := (List.getElem?_eq_some_iff.mp hi).1
            have := q1 i r hi
            simp only [zup_app, zo1, zo2, show ¬ (m + 2 = m) by omega, show ¬ (m + 3 = m) by omega, show ¬ (m + 4 = m) by omega, show ¬ (m + 5 = m) by omega, false_and, if_false] at this
            rw [c2 _ _ (by omega) (by omega) (by omega), c2 _ _ (by omega) (by omega) (by omega), c2 _ _ (by omega) (by omega) (by omega), c2 _ _ (by omega) (by omega) (by omega)]
            exact this
          · rw [zup_ne (by omega), zup_app, if_neg (by omega), c1 _ (by omega)]
            exact q2
        · rw [List.getElem?_append_right (by omega)] at hj
          have h0 : j - (cE S).length = 0 := by
            have := (List.getElem?_eq_some_iff.mp hj).1
            simp at this
            omega
          rw [h0] at hj
          cases hj
          have ej : j = (cE S).length := by omega
          subst ej
          refine ⟨hFr _ _ c3, ?_, hWF, hl5⟩
          rw [zup_ne (by omega), zup_app, if_pos ⟨rfl, rfl⟩]
  by_cases hT0 : cT S = []
  · have hp0 : parse (cT S) = .inr [] := by unfold parse; rw [if_pos hT0]
    refine c_m_read27E hM0 GT hT.2 GR (by decide) (by rw [hT0]; rfl) (fun z => absurd rfl z) (fun _ => ?_)
    exact KK [] hp0 (by simp; omega) G (FrR.rf _ _) G4 G65 GR.2.2.2.1 WF_nil
  · have hlp := List.length_pos_iff.mpr hT0
    exact c_m_read27 hM0 GT hT.2 KF KK ((cT S).length + 1) 0 [] G (by omega) (by omega) (by omega) (by decide) (by unfold parse; rw [if_neg hT0]) (FrR.rf _ _) GR

end C29
