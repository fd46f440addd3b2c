section C45
variable {D : va_G} {d : Nat} {ty : zT} {sz : Nat} {h : zH} {Q : zQ}
/-- an edition's kind on paper: its rows -/
noncomputable def ekF (l : List Row) (k : Nat) : List PR := if kR k l = [] then [] else krPR k (kR k l)
theorem edPR_ek (l : List Row) : edPR l = gL (ekF l) 10 := rfl
theorem krPR_ne (k : Int) {kr : List Row} (hB : ∀ r ∈ kr, rowB r) : krPR k kr ≠ [] := by rw [krPR_eq hB]; simp
theorem ek_w {l : List Row} (hO : OKE l) (k : Nat) (hk : k < 10) : wS (gL (ekF l) k) + wS (ekF l k) ≤ 1501 := by
  have h1 : wS (gL (ekF l) (k + 1)) ≤ wS (gL (ekF l) 10) := gL_wle (by omega)
  have h2 := hO.2
  rw [semT_w, edPR_ek] at h2
  rw [gL_s, wS_app] at h1
  omega
theorem join_y {A B : List PR} (hB : B ≠ []) (h : 0 < (semT A).tail.length) : (semT (A ++ B)).tail = (semT A).tail ++ [59] ++ (semT B).tail := by
  cases A with
  | nil => simp [semT] at h
  | cons a A =>
    cases B with
    | nil => exact absurd rfl hB
    | cons b B =>
      rw [semT_app, semT_c, semT_c b, List.cons_append, List.tail_cons, List.tail_cons, List.tail_cons]
      simp
theorem join_n {A B : List PR} (h : (semT A).tail.length = 0) : (semT (A ++ B)).tail = (semT B).tail := by
  cases A with
  | nil => rfl
  | cons a A =>
    rw [semT_c, List.tail_cons, rT_s] at h
    simp at h
theorem PA_0 {m : Int} (h : zH) : PA (zup h m 25 0) m [] := ⟨by simp [zup_app], fun i c hi => by simp at hi⟩
/-- a kind of an edition on paper, or nothing -/
noncomputable def pp (k : Int) (l : List Row) : List Int := if kR k l = [] then [] else (semT (krPR k (kR k l))).tail
theorem pp_len {l : List Row} (hO : OKE l) {k : Int} (hk : 0 ≤ k ∧ k ≤ 9) : (pp k l).length ≤ 1500 ∧ (kR k l ≠ [] → (semT (krPR k (kR k l))).length ≤ 2001) := by
  have h := ek_w hO k.toNat (by omega)
  unfold ekF at h
  rw [show ((k.toNat : Nat) : Int) = k by omega] at h
  unfold pp
  by_cases e : kR k l = []
  · rw [if_pos e]
    exact ⟨by simp, fun z => absurd e z⟩
  · rw [if_neg e] at h ⊢
    rw [List.length_tail, semT_w]
    exact ⟨by omega, fun _ => by omega⟩
theorem pp_same {l1 l2 : List Row} (h1 : WF l1) (h2 : WF l2) {k : Int} (hk : 0 ≤ k ∧ k ≤ 9) : pp k l1 = pp k l2 ↔ ((kR k l1 = [] ∧ kR k l2 = []) ∨ (kR k l1 ≠ [] ∧ kR k l2 ≠ [] ∧ sameR (kR k l1) (kR k l2))) := by
  have B1 : ∀ r ∈ kR k l1, rowB r := fun r hr => WF_B l1 h1 r (kR_sub k l1 r hr)
  have B2 : ∀ r ∈ kR k l2, rowB r := fun r hr => WF_B l2 h2 r (kR_sub k l2 r hr)
  have p1 := paper_pos k B1
  have p2 := paper_pos k B2
  unfold pp
  by_cases e1 : kR k l1 = [] <;> by_cases e2 : kR k l2 = []
  · rw [if_pos e1, if_pos e2]
    exact ⟨fun _ => Or.inl ⟨e1, e2⟩, fun _ => rfl⟩
  · rw [if_pos e1, if_neg e2]
    exact ⟨fun z => by rw [← z] at p2; simp at p2, fun z => z.elim (fun z => absurd z.2 e2) (fun z => absurd e1 z.1)⟩
  · rw [if_neg e1, if_pos e2]
    exact ⟨fun z => by rw [z] at p1; simp at p1, fun z => z.elim (fun z => absurd z.1 e1) (fun z => absurd e2 z.2.1)⟩
  · rw [if_neg e1, if_neg e2, paper_same hk B1 B2]
    exact ⟨fun z => Or.inr ⟨e1, e2, z⟩, fun z => z.elim (fun z => absurd z.1 e1) (fun z => z.2.2)⟩
theorem c_m_putKind0 {m : Int} (hM : isMT ty m) {e k : Int} {l : List Row} (hk : 0 ≤ k ∧ k ≤ 9) (he : 0 ≤ e ∧ e ≤ 4) (hR : MR h m (520 * e) l) (hn : h (m + 6) e = l.length ∧ l.length ≤ 510) (hO : OKE l) (hP : PA h m []) (hq : ∀ h' z, z = 0 ∨ z = 1 → FrQ m h h' → PA h' m (pp k l) → Q (some (iV z)) ty sz h') : zXM D mX7_putKind (d + 4) 0 0 [rV m, iV e, iV k] ty sz h Q := by
  refine c_m_putKind hM hk he hR hn hO.1 hP (fun hne => by have := (pp_len hO hk).2 hne; simp only [List.length_nil]; omega) (fun e0 => ?_) (fun e0 g F P => ?_)
  · exact hq h 0 (Or.inl rfl) (FrQ.rf _ _) (by unfold pp; rw [if_pos e0]; exact hP)
  · exact hq g 1 (Or.inr rfl) F (by unfold pp; rw [if_neg e0]; rw [List.nil_append] at P; exact P)

set_option maxHeartbeats 4000000 in
set_option maxRecDepth 100000 in
theorem c_m_pr84 {m : Int} (hM : isMT ty m) {P : List Int} (hl : P.length ≤ 1500) (hP : PA h m P) (h23 : h m 23 = P.length) (hq : ∀ g, (∀ q, q ≠ m + 16 → g q = h q) → (∀ (i : Nat) (c : Int), P[i]? = some c → g (m + 16) i = c) → Q (some (iV P.length)) ty sz g) : ∀ (n : Nat) (i : Nat) (g : zH), i ≤ P.length → (∀ q, q ≠ m + 16 → g q = h q) → (∀ (j : Nat) (c : Int), j < i → P[j]? = some c → g (m + 16) j = c) → P.length - i < n → zX D mX7_print (d + 5) 0 0 84 [(1, iV (i : Int)), (0, rV m)] [] ty sz g Q := by
  intro n
  induction n with
  | zero =>
    intro i g h1 F hC hm9
    exfalso
    omega
  | succ n ih =>
    intro i g h1 F hC hm9
    have hM0 := hM
    obtain ⟨m9, m0, a1, a2, a3, a4, a5, a6, a7, a8, a9, a10, a11, a12, a13, a14, a15, a16, a17, a18, a19, a20, a21⟩ := hM
    have g25 : g m 25 = P.length := by rw [F m (by omega)]; exact hP.1
    have g23 : g m 23 = P.length := by rw [F m (by omega)]; exact h23
    refine x_iload_n (pc := 84) dX7_print_84 rfl ?_
    refine x_aload_n (pc := 85) dX7_print_85 rfl ?_
    refine y_getI 25 (pc := 86) dX7_print_86 f_RX7_220 (by assumption) rfl (fun b_86 => ?_)
    rw [g25]
    refine x_icmp_ge (pc := 89) 110 dX7_print_89 rfl (fun c_89 => ?_) (fun c_89 => ?_)
    · (try simp (disch := omega) only [zb_e0, zb_n0, w32_id, w64_id, ne_eq, Classical.not_not] at c_89)
      refine x_aload_n (pc := 110) dX7_print_110 rfl ?_
      refine y_getI 23 (pc := 111) dX7_print_111 f_RX7_243 (by assumption) rfl (fun b_111 => ?_)
      rw [g23]
      refine x_retv (pc := 114) ⟨dX7_print_114, Or.inl rfl⟩ ?_
      refine hq g F (fun j c hj => hC j c ?_ hj)
      have := (List.getElem?_eq_some_iff.mp hj).1
      omega
    · (try simp (disch := omega) only [zb_e0, zb_n0, w32_id, w64_id, ne_eq, Classical.not_not] at c_89)
      refine x_aload_n (pc := 92) dX7_print_92 rfl ?_
      refine x_getF (pc := 93) dX7_print_93 f_RX7_57 (by assumption) (by rfl) ?_
      refine x_iload_n (pc := 96) dX7_print_96 rfl ?_
      refine x_aload_n (pc := 97) dX7_print_97 rfl ?_
      refine x_getF (pc := 98) dX7_print_98 f_RX7_60 (by assumption) (by rfl) ?_
      refine x_iload_n (pc := 101) dX7_print_101 rfl ?_
      refine x_iald (pc := 102) dX7_print_102 (by assumption) (by omega) (by omega) (fun b_102 => ?_)
      have hil : i < P.length := by omega
      have hv : g (m + 17) (i : Int) = P[i] := by rw [F _ (by omega)]; exact hP.2 i _ (List.getElem?_eq_getElem hil)
      rw [hv] at b_102 ⊢
      refine x_iast (pc := 103) dX7_print_103 (by assumption) (by omega) (by omega) (by rfl) (by omega) ?_
      refine x_iinc (pc := 104) dX7_print_104 rfl (by decide) ?_
      refine x_goto (pc := 107) 84 dX7_print_107 rfl ?_
      refine x_loc _ (by exact ⟨rfl, rfl, trivial⟩) (ih (i + 1) _ (by omega) (fun q hq1 => by rw [zup_ne hq1]; exact F q hq1) (fun j c hj hc => ?_) (by omega))
      rw [zup_app]
      by_cases e : j = i
      · subst e
        rw [if_pos ⟨rfl, rfl⟩]
        rw [List.getElem?_eq_getElem hil] at hc
        exact Option.some.inj hc
      · rw [if_neg (by omega)]
        exact hC j c (by omega) hc

set_option maxHeartbeats 4000000 in
set_option maxRecDepth 100000 in
theorem c_m_pr22 {m : Int} (hM : isMT ty m) {E : List (List Row)} {l : List Row} (hE : mE h m E) (hl : E[E.length - 1]? = some l) (hne : E ≠ []) (hO : OKE l) (hk : ∀ g, FrQ m h g → PA g m (semT (edPR l)).tail → zX D mX7_print (d + 5) 0 0 74 [(0, rV m)] [] ty sz g Q) : ∀ (n : Nat) (k : Nat) (g : zH), k ≤ 10 → FrQ m h g → PA g m (semT (gL (ekF l) k)).tail → 10 - k < n → zX D mX7_print (d + 5) 0 0 22 [(1, iV (k : Int)), (0, rV m)] [] ty sz g Q := by
  intro n
  induction n with
  | zero =>
    intro k g h1 F hP hm9
    exfalso
    omega
  | succ n ih =>
    intro k g h1 F hP hm9
    have hM0 := hM
    obtain ⟨m9, m0, a1, a2, a3, a4, a5, a6, a7, a8, a9, a10, a11, a12, a13, a14, a15, a16, a17, a18, a19, a20, a21⟩ := hM
    have hE1 := hE.1
    have hE2 := hE.2.1
    have hlen := List.length_pos_iff.mpr hne
    obtain ⟨e1, e2, e3, e4⟩ := hE.2.2 _ _ hl
    rw [show ((E.length - 1 : Nat) : Int) = E.length - 1 by omega] at e1 e2
    have g10 : g m 10 = E.length := by rw [F.2 10 (by decide)]; exact hE1
    have g6 : g (m + 6) = h (m + 6) := F.1 _ (by omega) (by omega)
    have hRg := e1.frq F
    have g25 := hP.1
    refine x_iload_n (pc := 22) dX7_print_22 rfl ?_
    refine x_bipush (pc := 23) dX7_print_23 (by decide) ?_
    refine x_icmp_ge (pc := 25) 74 dX7_print_25 rfl (fun c_25 => ?_) (fun c_25 => ?_)
    · (try simp (disch := omega) only [zb_e0, zb_n0, w32_id, w64_id, ne_eq, Classical.not_not] at c_25)
      rw [show k = 10 by omega] at hP
      exact x_loc _ (by exact ⟨rfl, trivial⟩) (hk g F hP)
    · (try simp (disch := omega) only [zb_e0, zb_n0, w32_id, w64_id, ne_eq, Classical.not_not] at c_25)
      refine x_aload_n (pc := 28) dX7_print_28 rfl ?_
      refine x_aload_n (pc := 29) dX7_print_29 rfl ?_
      refine y_getI 10 (pc := 30) dX7_print_30 f_RX7_155 (by assumption) rfl (fun b_30 => ?_)
      rw [g10]
      refine x_iconst (pc := 33) dX7_print_33 ?_
      refine x_isub (pc := 34) dX7_print_34 ?_
      refine x_iload_n (pc := 35) dX7_print_35 rfl ?_
      refine x_callV2 (pc := 36) dX7_print_36 (k_RX7_187 _ rfl) tmv_X7_kindRow (by assumption) rfl rfl rfl ?_
      refine x_room (d' := d) (by omega) (Nat.le_refl _) (Nat.le_refl _) (c_m_kindRow hM0 (by omega) (by omega) hRg ⟨by rw [g6]; exact e2, e4⟩ e3 (fun res hres => ?_))
      have hrs : -1 ≤ res ∧ res ≤ 4000 := by
        rcases hres with ⟨z, -⟩ | ⟨j, R, z1, z2, -⟩
        · omega
        · have := (List.getElem?_eq_some_iff.mp z2).1
          omega
      dsimp only [Option.toList, List.cons_append, List.nil_append]
      refine x_iconst (pc := 39) dX7_print_39 ?_
      refine x_icmp_eq (pc := 40) 68 dX7_print_40 rfl (fun c_40 => ?_) (fun c_40 => ?_)
      · (try simp (disch := omega) only [zb_e0, zb_n0, w32_id, w64_id, ne_eq, Classical.not_not] at c_40)
        refine x_iinc (pc := 68) dX7_print_68 rfl (by decide) ?_
        refine x_goto (pc := 71) 22 dX7_print_71 rfl ?_
        have hk0 : kR (k : Int) l = [] := by
          rcases hres with ⟨-, z⟩ | ⟨j, R, z1, -⟩
          · exact z
          · omega
        have hf : ekF l k = [] := if_pos hk0
        exact x_loc _ (by exact ⟨rfl, rfl, trivial⟩) (ih (k + 1) g (by omega) F (by rw [gL_s, hf, List.append_nil]; exact hP) (by omega))
      · (try simp (disch := omega) only [zb_e0, zb_n0, w32_id, w64_id, ne_eq, Classical.not_not] at c_40)
        --
        have hkn : kR (k : Int) l ≠ [] := by
          rcases hres with ⟨z, -⟩ | ⟨j, R, z1, z2, z3, z4⟩
          · exact absurd z c_40
          · exact (kR_ne k l e3).mpr ⟨R, List.mem_of_getElem? z2, z3, z4⟩
        have hf : ekF l k = krPR k (kR k l) := if_neg hkn
        have hB9 : ∀ r ∈ kR (k : Int) l, rowB r := fun r hr => WF_B l e3 r (kR_sub _ l r hr)
        have hw9 := ek_w hO k (by omega)
        have hPl : (semT (gL (ekF l) k)).tail.length ≤ wS (gL (ekF l) k) := by
          rw [List.length_tail, semT_w]
          omega
        refine x_aload_n (pc := 43) dX7_print_43 rfl ?_
        refine y_getI 25 (pc := 44) dX7_print_44 f_RX7_220 (by assumption) rfl (fun b_44 => ?_)
        rw [g25]
        refine x_if_le (pc := 47) 56 dX7_print_47 rfl (fun c_47 => ?_) (fun c_47 => ?_)
        · (try simp (disch := omega) only [zb_e0, zb_n0, w32_id, w64_id, ne_eq, Classical.not_not] at c_47)
          refine x_aload_n (pc := 56) dX7_print_56 rfl ?_
          refine x_aload_n (pc := 57) dX7_print_57 rfl ?_
          refine y_getI 10 (pc := 58) dX7_print_58 f_RX7_155 (by assumption) rfl (fun b_58 => ?_)
          first
          | rw [g10]
          | rw [show g1 m 10 = E.length by rw [F1.2 10 (by decide)]; exact g10]
          refine x_iconst (pc := 61) dX7_print_61 ?_
          refine x_isub (pc := 62) dX7_print_62 ?_
          refine x_iload_n (pc := 63) dX7_print_63 rfl ?_
          refine x_callV2 (pc := 64) dX7_print_64 (k_RX7_240 _ rfl) tmv_X7_putKind (by assumption) rfl rfl rfl ?_
          refine x_room (d' := d + 4) (by omega) (Nat.le_refl _) (Nat.le_refl _) (c_m_putKind (T := (semT (gL (ekF l) k)).tail) hM0 (by omega) (by omega) hRg ⟨by rw [g6]; exact e2, e4⟩ e3 hP (fun _ => by rw [hf] at hw9; simp only [semT_w]; omega) (fun z => absurd z hkn) (fun _ g2 F2 P2 => ?_))
          have h00 : (semT (gL (ekF l) k)).tail.length = 0 := by omega
          have hj := join_n (A := gL (ekF l) k) (B := krPR k (kR k l)) h00
          rw [← hf, ← gL_s] at hj
          rw [List.eq_nil_of_length_eq_zero h00, List.nil_append, ← hf, ← hj] at P2
          have F3 := F.t F2
          dsimp only [Option.toList, List.cons_append, List.nil_append]
          refine x_istore_n (pc := 67) dX7_print_67 (by decide) ?_
          refine x_iinc (pc := 68) dX7_print_68 rfl (by decide) ?_
          refine x_goto (pc := 71) 22 dX7_print_71 rfl ?_
          exact x_loc _ (by exact ⟨rfl, rfl, trivial⟩) (ih (k + 1) g2 (by omega) F3 P2 (by omega))
        · (try simp (disch := omega) only [zb_e0, zb_n0, w32_id, w64_id, ne_eq, Classical.not_not] at c_47)
          refine x_aload_n (pc := 50) dX7_print_50 rfl ?_
          refine x_bipush (pc := 51) dX7_print_51 (by decide) ?_
          refine x_callV1 (pc := 53) dX7_print_53 (k_RX7_223 _ rfl) tmv_X7_put (by assumption) rfl rfl rfl ?_
          refine x_room (d' := d) (by omega) (Nat.le_refl _) (Nat.le_refl _) (c_m_put hM0 (by omega) hP (by omega) (fun g1 F1 P1 => ?_))
          dsimp only [Option.toList, List.cons_append, List.nil_append]
          refine x_aload_n (pc := 56) dX7_print_56 rfl ?_
          refine x_aload_n (pc := 57) dX7_print_57 rfl ?_
          refine y_getI 10 (pc := 58) dX7_print_58 f_RX7_155 (by assumption) rfl (fun b_58 => ?_)
          first
          | rw [g10]
          | rw [show g1 m 10 = E.length by rw [F1.2 10 (by decide)]; exact g10]
          refine x_iconst (pc := 61) dX7_print_61 ?_
          refine x_isub (pc := 62) dX7_print_62 ?_
          refine x_iload_n (pc := 63) dX7_print_63 rfl ?_
          refine x_callV2 (pc := 64) dX7_print_64 (k_RX7_240 _ rfl) tmv_X7_putKind (by assumption) rfl rfl rfl ?_
          refine x_room (d' := d + 4) (by omega) (Nat.le_refl _) (Nat.le_refl _) (c_m_putKind (T := (semT (gL (ekF l) k)).tail ++ [59]) hM0 (by omega) (by omega) (hRg.frq F1) ⟨by rw [F1.1 _ (by omega) (by omega), g6]; exact e2, e4⟩ e3 P1 (fun _ => by rw [hf] at hw9; simp only [List.length_append, List.length_cons, List.length_nil, semT_w]; omega) (fun z => absurd z hkn) (fun _ g2 F2 P2 => ?_))
          have hj := join_y (A := gL (ekF l) k) (krPR_ne k hB9) (by omega)
          rw [← hf, ← gL_s] at hj
          rw [← hf, ← hj] at P2
          have F3 := F.t (F1.t F2)
          dsimp only [Option.toList, List.cons_append, List.nil_append]
          refine x_istore_n (pc := 67) dX7_print_67 (by decide) ?_
          refine x_iinc (pc := 68) dX7_print_68 rfl (by decide) ?_
          refine x_goto (pc := 71) 22 dX7_print_71 rfl ?_
          exact x_loc _ (by exact ⟨rfl, rfl, trivial⟩) (ih (k + 1) g2 (by omega) F3 P2 (by omega))

set_option maxHeartbeats 4000000 in
set_option maxRecDepth 100000 in
theorem c_m_pr74 {m : Int} (hM : isMT ty m) {P : List Int} (hP : PA h m P) (hl : P.length ≤ 1500) (hq : ∀ g, (∀ q, q ≠ m + 16 → g q = zup h m 23 P.length q) → (∀ (i : Nat) (c : Int), P[i]? = some c → g (m + 16) i = c) → Q (some (iV P.length)) ty sz g) : zX D mX7_print (d + 5) 0 0 74 [(0, rV m)] [] ty sz h Q := by
  have hM0 := hM
  obtain ⟨m9, m0, a1, a2, a3, a4, a5, a6, a7, a8, a9, a10, a11, a12, a13, a14, a15, a16, a17, a18, a19, a20, a21⟩ := hM
  have h25 := hP.1
  refine x_aload_n (pc := 74) dX7_print_74 rfl ?_
  refine x_aload_n (pc := 75) dX7_print_75 rfl ?_
  refine y_getI 25 (pc := 76) dX7_print_76 f_RX7_220 (by assumption) rfl (fun b_76 => ?_)
  rw [h25]
  refine y_putI 23 (pc := 79) dX7_print_79 f_RX7_243 (by assumption) rfl (by rfl) (by omega) rfl ?_
  refine x_iconst (pc := 82) dX7_print_82 ?_
  refine x_istore_n (pc := 83) dX7_print_83 (by decide) ?_
  have hP2 : PA (zup h m 23 P.length) m P := ⟨by rw [zup_app, if_neg (by omega)]; exact h25, fun i c hi => by rw [zup_ne (by omega)]; exact hP.2 i c hi⟩
  exact x_loc _ (by exact ⟨by show _ = some (iV ((0 : Nat) : Int)); rfl, rfl, trivial⟩) (c_m_pr84 hM0 hl hP2 (by simp [zup_app]) hq (P.length + 1) 0 _ (by omega) (fun _ _ => rfl) (fun j c hj _ => by omega) (by omega))
set_option maxHeartbeats 4000000 in
set_option maxRecDepth 100000 in
theorem C_m_print {m : Int} {S : CS} (hA : mAbs ty h m S) (hO : ∀ l ∈ cE S, OKE l) (hq : ∀ h', FrM m h h' → mAbs ty h' m ((S_print S).1) → Q (some (iV (S_print S).2)) ty sz h') : zXM D mX7_print (d + 5) 0 0 [rV m] ty sz h Q := by
  have hA0 := hA
  obtain ⟨hM, hT, hE, hI, hB, hP⟩ := hA
  have hM0 := hM
  obtain ⟨m9, m0, a1, a2, a3, a4, a5, a6, a7, a8, a9, a10, a11, a12, a13, a14, a15, a16, a17, a18, a19, a20, a21⟩ := hM
  have hE1 := hE.1
  have hE2 := hE.2.1
  have hI1 := hI.1
  have hI2 := hI.2.1
  have hB1 := hB.1
  have hB2 := hB.2.1
  have hP1 := hP.1
  have hP2 := hP.2.1
  have z10 : zup h m 0 0 m 10 = (cE S).length := by rw [zup_app, if_neg (by omega)]; exact hE1
  have z12 : zup h m 0 0 m 12 = (cI S).length := by rw [zup_app, if_neg (by omega)]; exact hI1
  have z19 : zup h m 0 0 m 19 = (cB S).length := by rw [zup_app, if_neg (by omega)]; exact hB1
  have z23 : zup h m 0 0 m 23 = (cP S).length := by rw [zup_app, if_neg (by omega)]; exact hP1
  have hA1 : mAbs ty (zup h m 0 0) m S := mAbs_0 hA0
  have hF1 : FrM m h (zup h m 0 0) := FrM.up h ⟨by omega, by omega⟩
  refine x_aload_n (pc := 0) dX7_print_0 rfl ?_
  refine x_iconst (pc := 1) dX7_print_1 ?_
  refine y_putI 0 (pc := 2) dX7_print_2 f_RX7_75 (by assumption) rfl (by rfl) (by omega) rfl ?_
  refine x_aload_n (pc := 5) dX7_print_5 rfl ?_
  refine y_getI 10 (pc := 6) dX7_print_6 f_RX7_155 (by assumption) rfl (fun b_6 => ?_)
  rw [z10]
  refine x_if_ne (pc := 9) 15 dX7_print_9 rfl (fun c_9 => ?_) (fun c_9 => ?_)
  · (try simp (disch := omega) only [zb_e0, zb_n0, w32_id, w64_id, ne_eq, Classical.not_not] at c_9)
    refine x_aload_n (pc := 15) dX7_print_15 rfl ?_
    refine x_iconst (pc := 16) dX7_print_16 ?_
    refine y_putI 25 (pc := 17) dX7_print_17 f_RX7_220 (by assumption) rfl (by rfl) (by omega) rfl ?_
    refine x_iconst (pc := 20) dX7_print_20 ?_
    refine x_istore_n (pc := 21) dX7_print_21 (by decide) ?_
    have hne : cE S ≠ [] := fun z => by rw [z] at c_9; exact c_9 rfl
    rw [S_print_in hne] at hq
    have hA2 : mAbs ty (zup (zup h m 0 0) m 25 0) m S := mAbs_up ⟨by decide, by decide, by decide, by decide, by decide⟩ hA1
    have hF2 : FrM m h (zup (zup h m 0 0) m 25 0) := hF1.t (FrM.up _ ⟨by omega, by omega⟩)
    have hl9 := S_last_get hne
    have hO9 := hO _ (List.mem_of_getElem? hl9)
    have hlP : (semT (edPR (S_last S))).tail.length ≤ 1500 := by have := hO9.2; rw [List.length_tail]; omega
    generalize hG : zup (zup h m 0 0) m 25 0 = G at *
    have hPG : PA G m [] := by rw [← hG]; exact PA_0 _
    refine x_loc _ (by exact ⟨by show _ = some (iV ((0 : Nat) : Int)); rfl, rfl, trivial⟩) (c_m_pr22 hM0 hA2.2.2.1 hl9 hne hO9 (fun g F P => ?_) 11 0 G (by omega) (FrQ.rf _ _) hPG (by omega))
    refine c_m_pr74 hM0 P (by omega) (fun g2 F2 C2 => ?_)
    refine hq g2 (hF2.t (fun a ha => ?_)) ?_
    · rw [F2 a (by omega) , zup_ne (by omega), F.1 a (by omega) (by omega)]
    · obtain ⟨-, hT9, hE9, hI9, hB9, -⟩ := hA2
      have go : ∀ a, a ≠ m → a ≠ m + 17 → a ≠ m + 16 → g2 a = G a := fun a a1 a2 a3 => by rw [F2 a a3, zup_ne a1, F.1 a a1 a2]
      have gm : ∀ k, k ≠ 23 → k ≠ 25 → g2 m k = G m k := fun k k1 k2 => by rw [F2 m (by omega), zup_app, if_neg (by omega), F.2 k k2]
      refine ⟨hM0, ⟨hT9.1.fr (gm 2 (by decide) (by decide)) (go _ (by omega) (by omega) (by omega)), hT9.2⟩, hE9.fr (gm 10 (by decide) (by decide)) (fun a k a1 a2 _ => by rw [go a (by omega) (by omega) (by omega)]) (fun k _ => by rw [go _ (by omega) (by omega) (by omega)]), hI9.fr (gm 12 (by decide) (by decide)) (fun a a1 a2 => go a (by omega) (by omega) (by omega)), hB9.fr (gm 19 (by decide) (by decide)) (fun a a1 a2 => go a (by omega) (by omega) (by omega)), ?_, hlP, C2⟩
      rw [F2 m (by omega), zup_app, if_pos ⟨rfl, rfl⟩]
  · (try simp (disch := omega) only [zb_e0, zb_n0, w32_id, w64_id, ne_eq, Classical.not_not] at c_9)
    refine x_ldc (pc := 12) dX7_print_12 (-1000003) tc_RX7_207 (by decide) ?_
    refine x_retv (pc := 14) ⟨dX7_print_14, Or.inl rfl⟩ ?_
    rw [S_print_no (S := S) (List.eq_nil_of_length_eq_zero (by omega))] at hq
    exact hq _ hF1 hA1

def FrC (m : Int) (h h' : zH) : Prop := (∀ q, q ≠ m → q ≠ m + 17 → q ≠ m + 18 → h' q = h q) ∧ ∀ k, k ≠ 25 → h' m k = h m k
theorem FrC.rf (m : Int) (h : zH) : FrC m h h := ⟨fun _ _ _ _ => rfl, fun _ _ => rfl⟩
theorem FrC.t {m : Int} {h h' h2 : zH} (a : FrC m h h') (b : FrC m h' h2) : FrC m h h2 := ⟨fun q q1 q2 q3 => (b.1 q q1 q2 q3).trans (a.1 q q1 q2 q3), fun k hk => (b.2 k hk).trans (a.2 k hk)⟩
theorem FrC.q {m : Int} {h h' : zH} (a : FrQ m h h') : FrC m h h' := ⟨fun q q1 q2 _ => a.1 q q1 q2, a.2⟩
theorem FrC.z {m v : Int} (h : zH) : FrC m h (zup h m 25 v) := ⟨fun q q1 _ _ => zup_ne q1, fun k hk => by rw [zup_app, if_neg (by omega)]⟩
theorem FrC.o {m : Int} {h h' : zH} (a : ∀ q, q ≠ m + 18 → h' q = h q) : FrC m h h' := ⟨fun q _ _ q3 => a q q3, fun k _ => by rw [a m (by omega)]⟩
theorem MR.frc {h g : zH} {m b : Int} {kr : List Row} (hR : MR h m b kr) (F : FrC m h g) : MR g m b kr := hR.fr (fun q q1 q2 => F.1 q (by omega) (by omega) (by omega))

set_option maxHeartbeats 4000000 in
set_option maxRecDepth 100000 in
theorem c_m_cp52 {m : Int} (hM : isMT ty m) {P : List Int} {z4 cn k e : Int} (hl : P.length ≤ 1500) (hP : PA h m P) (hk : ∀ g, (∀ q, q ≠ m + 18 → g q = h q) → (∀ (i : Nat) (c : Int), P[i]? = some c → g (m + 18) i = c) → zX D mX7_compare (d + 5) 0 0 79 [(5, iV P.length), (4, iV z4), (2, iV cn), (3, iV k), (1, iV e), (0, rV m)] [] ty sz g Q) : ∀ (n : Nat) (i : Nat) (g : zH), i ≤ P.length → (∀ q, q ≠ m + 18 → g q = h q) → (∀ (j : Nat) (c : Int), j < i → P[j]? = some c → g (m + 18) j = c) → P.length - i < n → zX D mX7_compare (d + 5) 0 0 52 [(6, iV (i : Int)), (5, iV P.length), (4, iV z4), (2, iV cn), (3, iV k), (1, iV e), (0, rV m)] [] ty sz g Q := by
  intro n
  induction n with
  | zero =>
    intro i g h1 F hC hm9
    exfalso
    omega
  | succ n ih =>
    intro i g h1 F hC hm9
    have hM0 := hM
    obtain ⟨m9, m0, a1, a2, a3, a4, a5, a6, a7, a8, a9, a10, a11, a12, a13, a14, a15, a16, a17, a18, a19, a20, a21⟩ := hM
    refine x_iload (pc := 52) dX7_compare_52 rfl ?_
    refine x_iload (pc := 54) dX7_compare_54 rfl ?_
    refine x_icmp_ge (pc := 56) 79 dX7_compare_56 rfl (fun c_56 => ?_) (fun c_56 => ?_)
    · (try simp (disch := omega) only [zb_e0, zb_n0, w32_id, w64_id, ne_eq, Classical.not_not] at c_56)
      refine x_loc _ (by exact ⟨rfl, rfl, rfl, rfl, rfl, rfl, trivial⟩) (hk g F (fun j c hj => hC j c ?_ hj))
      have := (List.getElem?_eq_some_iff.mp hj).1
      omega
    · (try simp (disch := omega) only [zb_e0, zb_n0, w32_id, w64_id, ne_eq, Classical.not_not] at c_56)
      refine x_aload_n (pc := 59) dX7_compare_59 rfl ?_
      refine x_getF (pc := 60) dX7_compare_60 f_RX7_63 (by assumption) (by rfl) ?_
      refine x_iload (pc := 63) dX7_compare_63 rfl ?_
      refine x_aload_n (pc := 65) dX7_compare_65 rfl ?_
      refine x_getF (pc := 66) dX7_compare_66 f_RX7_60 (by assumption) (by rfl) ?_
      refine x_iload (pc := 69) dX7_compare_69 rfl ?_
      refine x_iald (pc := 71) dX7_compare_71 (by assumption) (by omega) (by omega) (fun b_71 => ?_)
      have hil : i < P.length := by omega
      have hv : g (m + 17) (i : Int) = P[i] := by rw [F _ (by omega)]; exact hP.2 i _ (List.getElem?_eq_getElem hil)
      rw [hv] at b_71 ⊢
      refine x_iast (pc := 72) dX7_compare_72 (by assumption) (by omega) (by omega) (by rfl) (by omega) ?_
      refine x_iinc (pc := 73) dX7_compare_73 rfl (by decide) ?_
      refine x_goto (pc := 76) 52 dX7_compare_76 rfl ?_
      refine x_loc _ (by exact ⟨rfl, rfl, rfl, rfl, rfl, rfl, rfl, trivial⟩) (ih (i + 1) _ (by omega) (fun q hq1 => by rw [zup_ne hq1]; exact F q hq1) (fun j c hj hc => ?_) (by omega))
      rw [zup_app]
      by_cases e : j = i
      · subst e
        rw [if_pos ⟨rfl, rfl⟩]
        rw [List.getElem?_eq_getElem hil] at hc
        exact Option.some.inj hc
      · rw [if_neg (by omega)]
        exact hC j c (by omega) hc

set_option maxHeartbeats 4000000 in
set_option maxRecDepth 100000 in
theorem c_m_cp116 {m : Int} (hM : isMT ty m) {P1 P2 : List Int} {cn k e : Int} (hl : P1.length ≤ 1500 ∧ P2.length ≤ 1500) (h1p : ∀ (i : Nat) (c : Int), P1[i]? = some c → h (m + 18) i = c) (h2p : PA h m P2) (hk : zX D mX7_compare (d + 5) 0 0 158 [(7, iV (zb (P1 = P2))), (2, iV cn), (3, iV k), (1, iV e), (0, rV m)] [] ty sz h Q) : ∀ (n : Nat) (i : Nat), i ≤ P1.length → P1.length - i < n → zX D mX7_compare (d + 5) 0 0 116 [(8, iV (i : Int)), (7, iV (zb (P1.length = P2.length ∧ ∀ j : Nat, j < i → P1[j]? = P2[j]?))), (5, iV P1.length), (2, iV cn), (3, iV k), (1, iV e), (0, rV m)] [] ty sz h Q := by
  intro n
  induction n with
  | zero =>
    intro i h1 hm9
    exfalso
    omega
  | succ n ih =>
    intro i h1 hm9
    have hM0 := hM
    obtain ⟨m9, m0, a1, a2, a3, a4, a5, a6, a7, a8, a9, a10, a11, a12, a13, a14, a15, a16, a17, a18, a19, a20, a21⟩ := hM
    refine x_iload (pc := 116) dX7_compare_116 rfl ?_
    refine x_iload (pc := 118) dX7_compare_118 rfl ?_
    refine x_icmp_ge (pc := 120) 158 dX7_compare_120 rfl (fun c_120 => ?_) (fun c_120 => ?_)
    · (try simp (disch := omega) only [zb_e0, zb_n0, w32_id, w64_id, ne_eq, Classical.not_not] at c_120)
      have hc9 : zb (P1.length = P2.length ∧ ∀ j : Nat, j < i → P1[j]? = P2[j]?) = zb (P1 = P2) := zb_c ⟨fun z => List.ext_getElem? (fun j => by
          by_cases hj : j < i
          · exact z.2 j hj
          · rw [List.getElem?_eq_none (by omega), List.getElem?_eq_none (by omega)]), fun z => by rw [z]; exact ⟨rfl, fun _ _ => rfl⟩⟩
      rw [hc9]
      exact x_loc _ (by exact ⟨rfl, rfl, rfl, rfl, rfl, trivial⟩) hk
    · (try simp (disch := omega) only [zb_e0, zb_n0, w32_id, w64_id, ne_eq, Classical.not_not] at c_120)
      refine x_iload (pc := 123) dX7_compare_123 rfl ?_
      refine x_if_eq (pc := 125) 158 dX7_compare_125 rfl (fun c_125 => ?_) (fun c_125 => ?_)
      · (try simp (disch := omega) only [zb_e0, zb_n0, w32_id, w64_id, ne_eq, Classical.not_not] at c_125)
        have hne : ¬ P1 = P2 := fun z => c_125 (by rw [z]; exact ⟨rfl, fun _ _ => rfl⟩)
        rw [zb_f c_125]
        rw [zb_f hne] at hk
        exact x_loc _ (by exact ⟨rfl, rfl, rfl, rfl, rfl, trivial⟩) hk
      · (try simp (disch := omega) only [zb_e0, zb_n0, w32_id, w64_id, ne_eq, Classical.not_not] at c_125)
        refine x_aload_n (pc := 128) dX7_compare_128 rfl ?_
        refine x_getF (pc := 129) dX7_compare_129 f_RX7_63 (by assumption) (by rfl) ?_
        refine x_iload (pc := 132) dX7_compare_132 rfl ?_
        refine x_iald (pc := 134) dX7_compare_134 (by assumption) (by omega) (by omega) (fun b_134 => ?_)
        have hil : i < P1.length := by omega
        have hil2 : i < P2.length := by omega
        have hv1 : h (m + 18) (i : Int) = P1[i] := h1p i _ (List.getElem?_eq_getElem hil)
        rw [hv1] at b_134 ⊢
        refine x_aload_n (pc := 135) dX7_compare_135 rfl ?_
        refine x_getF (pc := 136) dX7_compare_136 f_RX7_60 (by assumption) (by rfl) ?_
        refine x_iload (pc := 139) dX7_compare_139 rfl ?_
        refine x_iald (pc := 141) dX7_compare_141 (by assumption) (by omega) (by omega) (fun b_141 => ?_)
        have hv2 : h (m + 17) (i : Int) = P2[i] := h2p.2 i _ (List.getElem?_eq_getElem hil2)
        rw [hv2] at b_141 ⊢
        refine x_icmp_ne (pc := 142) 149 dX7_compare_142 rfl (fun c_142 => ?_) (fun c_142 => ?_)
        · (try simp (disch := omega) only [zb_e0, zb_n0, w32_id, w64_id, ne_eq, Classical.not_not] at c_142)
          refine x_iconst (pc := 149) dX7_compare_149 ?_
          refine x_istore (pc := 150) dX7_compare_150 (by decide) ?_
          refine x_iinc (pc := 152) dX7_compare_152 rfl (by decide) ?_
          refine x_goto (pc := 155) 116 dX7_compare_155 rfl ?_
          have hN : ¬ (P1.length = P2.length ∧ ∀ j : Nat, j < (i + 1) → P1[j]? = P2[j]?) := fun z => by
            have := z.2 i (by omega)
            rw [List.getElem?_eq_getElem hil, List.getElem?_eq_getElem hil2] at this
            exact c_142 (Option.some.inj this)
          exact x_loc _ (by exact ⟨rfl, by rw [zb_f hN]; rfl, rfl, rfl, rfl, rfl, rfl, trivial⟩) (ih (i + 1) (by omega) (by omega))
        · (try simp (disch := omega) only [zb_e0, zb_n0, w32_id, w64_id, ne_eq, Classical.not_not] at c_142)
          refine x_iconst (pc := 145) dX7_compare_145 ?_
          refine x_goto (pc := 146) 150 dX7_compare_146 rfl ?_
          refine x_istore (pc := 150) dX7_compare_150 (by decide) ?_
          refine x_iinc (pc := 152) dX7_compare_152 rfl (by decide) ?_
          refine x_goto (pc := 155) 116 dX7_compare_155 rfl ?_
          have hN : (P1.length = P2.length ∧ ∀ j : Nat, j < (i + 1) → P1[j]? = P2[j]?) := ⟨c_125.1, fun j hj => by
            by_cases e : j = i
            · subst e
              rw [List.getElem?_eq_getElem hil, List.getElem?_eq_getElem hil2, c_142]
            · exact c_125.2 j (by omega)⟩
          exact x_loc _ (by exact ⟨rfl, by rw [zb_t hN]; rfl, rfl, rfl, rfl, rfl, rfl, trivial⟩) (ih (i + 1) (by omega) (by omega))

set_option maxHeartbeats 4000000 in
set_option maxRecDepth 100000 in
theorem c_m_cp158 {m : Int} (hM : isMT ty m) {l1 l2 : List Row} {e : Int} {k : Nat} (hW1 : WF l1) (hW2 : WF l2) (hk9 : k < 10) (kk : zX D mX7_compare (d + 5) 0 0 24 [(3, iV ((k + 1 : Nat) : Int)), (2, iV (cmpS l1 l2 (k + 1))), (1, iV e), (0, rV m)] [] ty sz h Q) : zX D mX7_compare (d + 5) 0 0 158 [(7, iV (zb (pp k l1 = pp k l2))), (2, iV (cmpS l1 l2 k)), (3, iV (k : Int)), (1, iV e), (0, rV m)] [] ty sz h Q := by
  have hM0 := hM
  obtain ⟨m9, m0, a1, a2, a3, a4, a5, a6, a7, a8, a9, a10, a11, a12, a13, a14, a15, a16, a17, a18, a19, a20, a21⟩ := hM
  have hps := pp_same hW1 hW2 (k := (k : Int)) (by omega)
  refine x_iload (pc := 158) dX7_compare_158 rfl ?_
  refine x_if_eq (pc := 160) 167 dX7_compare_160 rfl (fun c_160 => ?_) (fun c_160 => ?_)
  · (try simp (disch := omega) only [zb_e0, zb_n0, w32_id, w64_id, ne_eq, Classical.not_not] at c_160)
    refine x_iload_n (pc := 167) dX7_compare_167 rfl ?_
    refine x_iconst (pc := 168) dX7_compare_168 ?_
    refine x_iadd (pc := 169) dX7_compare_169 ?_
    refine x_istore_n (pc := 170) dX7_compare_170 (by decide) ?_
    refine x_iinc (pc := 171) dX7_compare_171 rfl (by decide) ?_
    refine x_goto (pc := 174) 24 dX7_compare_174 rfl ?_
    rw [cmpS_n (fun z => c_160 (hps.mpr z))] at kk
    exact x_loc _ (by exact ⟨rfl, rfl, rfl, rfl, trivial⟩) kk
  · (try simp (disch := omega) only [zb_e0, zb_n0, w32_id, w64_id, ne_eq, Classical.not_not] at c_160)
    refine x_iload_n (pc := 163) dX7_compare_163 rfl ?_
    refine x_goto (pc := 164) 170 dX7_compare_164 rfl ?_
    refine x_istore_n (pc := 170) dX7_compare_170 (by decide) ?_
    refine x_iinc (pc := 171) dX7_compare_171 rfl (by decide) ?_
    refine x_goto (pc := 174) 24 dX7_compare_174 rfl ?_
    rw [cmpS_y (hps.mp c_160)] at kk
    exact x_loc _ (by exact ⟨rfl, rfl, rfl, rfl, trivial⟩) kk
set_option maxHeartbeats 4000000 in
set_option maxRecDepth 100000 in
theorem c_m_cp79 {m : Int} (hM : isMT ty m) {E : List (List Row)} {l1 l2 : List Row} {e : Int} (hE : mE h m E) (hl1 : E[e.toNat]? = some l1) (he : 0 ≤ e) (hl2 : E[E.length - 1]? = some l2) (hO1 : OKE l1) (hO2 : OKE l2) {k : Nat} {z4 : Int} (hk9 : k < 10) {g2 : zH} (F2 : FrC m h g2) (C2 : ∀ (i : Nat) (c : Int), (pp k l1)[i]? = some c → g2 (m + 18) i = c) (kk : ∀ g, FrC m h g → zX D mX7_compare (d + 5) 0 0 24 [(3, iV ((k + 1 : Nat) : Int)), (2, iV (cmpS l1 l2 (k + 1))), (1, iV e), (0, rV m)] [] ty sz g Q) : zX D mX7_compare (d + 5) 0 0 79 [(5, iV (pp k l1).length), (4, iV z4), (2, iV (cmpS l1 l2 k)), (3, iV (k : Int)), (1, iV e), (0, rV m)] [] ty sz g2 Q := by
  have hM0 := hM
  obtain ⟨m9, m0, a1, a2, a3, a4, a5, a6, a7, a8, a9, a10, a11, a12, a13, a14, a15, a16, a17, a18, a19, a20, a21⟩ := hM
  have hE1 := hE.1
  have hE2 := hE.2.1
  have heL := (List.getElem?_eq_some_iff.mp hl1).1
  obtain ⟨f1, f2, f3, f4⟩ := hE.2.2 _ _ hl2
  rw [show ((E.length - 1 : Nat) : Int) = E.length - 1 by omega] at f1 f2
  have hcr := cmpS_rng (l1 := l1) (l2 := l2) k
  have F3 : FrC m h (zup g2 m 25 0) := F2.t (FrC.z _)
  have hp1 := (pp_len hO1 (k := (k : Int)) (by omega)).1
  have hp2 := (pp_len hO2 (k := (k : Int)) (by omega)).1
  refine x_aload_n (pc := 79) dX7_compare_79 rfl ?_
  refine x_iconst (pc := 80) dX7_compare_80 ?_
  refine y_putI 25 (pc := 81) dX7_compare_81 f_RX7_220 (by assumption) rfl (by rfl) (by omega) rfl ?_
  refine x_aload_n (pc := 84) dX7_compare_84 rfl ?_
  refine x_aload_n (pc := 85) dX7_compare_85 rfl ?_
  refine y_getI 10 (pc := 86) dX7_compare_86 f_RX7_155 (by assumption) rfl (fun b_86 => ?_)
  rw [show zup g2 m 25 0 m 10 = E.length by rw [F3.2 10 (by decide)]; exact hE1]
  refine x_iconst (pc := 89) dX7_compare_89 ?_
  refine x_isub (pc := 90) dX7_compare_90 ?_
  refine x_iload_n (pc := 91) dX7_compare_91 rfl ?_
  refine x_callV2 (pc := 92) dX7_compare_92 (k_RX7_240 _ rfl) tmv_X7_putKind (by assumption) rfl rfl rfl ?_
  refine x_room (d' := d + 4) (by omega) (Nat.le_refl _) (Nat.le_refl _) (c_m_putKind0 hM0 (by omega) (by omega) (f1.frc F3) ⟨by rw [F3.1 _ (by omega) (by omega) (by omega)]; exact f2, f4⟩ hO2 (PA_0 _) (fun g4 z5 hz5 F4 P4 => ?_))
  have C4 : ∀ (i : Nat) (c : Int), (pp k l1)[i]? = some c → g4 (m + 18) i = c := fun i c hi => by rw [F4.1 _ (by omega) (by omega), zup_ne (by omega)]; exact C2 i c hi
  have F5 : FrC m h g4 := F3.t (FrC.q F4)
  dsimp only [Option.toList, List.cons_append, List.nil_append]
  refine x_istore (pc := 95) dX7_compare_95 (by decide) ?_
  refine x_iload (pc := 97) dX7_compare_97 rfl ?_
  refine x_aload_n (pc := 99) dX7_compare_99 rfl ?_
  refine y_getI 25 (pc := 100) dX7_compare_100 f_RX7_220 (by assumption) rfl (fun b_100 => ?_)
  rw [P4.1]
  refine x_icmp_ne (pc := 103) 110 dX7_compare_103 rfl (fun c_103 => ?_) (fun c_103 => ?_)
  · (try simp (disch := omega) only [zb_e0, zb_n0, w32_id, w64_id, ne_eq, Classical.not_not] at c_103)
    refine x_iconst (pc := 110) dX7_compare_110 ?_
    refine x_istore (pc := 111) dX7_compare_111 (by decide) ?_
    refine x_iconst (pc := 113) dX7_compare_113 ?_
    refine x_istore (pc := 114) dX7_compare_114 (by decide) ?_
    have hN : ¬ ((pp k l1).length = (pp k l2).length ∧ ∀ j : Nat, j < 0 → (pp k l1)[j]? = (pp k l2)[j]?) := fun z => by omega
    refine x_loc _ (by exact ⟨by show _ = some (iV ((0 : Nat) : Int)); rfl, by rw [zb_f hN]; rfl, rfl, rfl, rfl, rfl, rfl, trivial⟩) (c_m_cp116 hM0 ⟨hp1, hp2⟩ C4 P4 (c_m_cp158 hM0 hO1.1 hO2.1 hk9 (kk g4 F5)) ((pp k l1).length + 1) 0 (by omega) (by omega))
  · (try simp (disch := omega) only [zb_e0, zb_n0, w32_id, w64_id, ne_eq, Classical.not_not] at c_103)
    refine x_iconst (pc := 106) dX7_compare_106 ?_
    refine x_goto (pc := 107) 111 dX7_compare_107 rfl ?_
    refine x_istore (pc := 111) dX7_compare_111 (by decide) ?_
    refine x_iconst (pc := 113) dX7_compare_113 ?_
    refine x_istore (pc := 114) dX7_compare_114 (by decide) ?_
    have hN : (pp k l1).length = (pp k l2).length ∧ ∀ j : Nat, j < 0 → (pp k l1)[j]? = (pp k l2)[j]? := ⟨by omega, fun j hj => by omega⟩
    refine x_loc _ (by exact ⟨by show _ = some (iV ((0 : Nat) : Int)); rfl, by rw [zb_t hN]; rfl, rfl, rfl, rfl, rfl, rfl, trivial⟩) (c_m_cp116 hM0 ⟨hp1, hp2⟩ C4 P4 (c_m_cp158 hM0 hO1.1 hO2.1 hk9 (kk g4 F5)) ((pp k l1).length + 1) 0 (by omega) (by omega))
set_option maxHeartbeats 4000000 in
set_option maxRecDepth 100000 in
theorem c_m_cp24 {m : Int} (hM : isMT ty m) {E : List (List Row)} {l1 l2 : List Row} {e : Int} (hE : mE h m E) (hl1 : E[e.toNat]? = some l1) (he : 0 ≤ e) (hl2 : E[E.length - 1]? = some l2) (hO1 : OKE l1) (hO2 : OKE l2) (hq : ∀ g, FrC m h g → Q (some (iV (cmpS l1 l2 10))) ty sz g) : ∀ (n : Nat) (k : Nat) (g : zH), k ≤ 10 → FrC m h g → 10 - k < n → zX D mX7_compare (d + 5) 0 0 24 [(3, iV (k : Int)), (2, iV (cmpS l1 l2 k)), (1, iV e), (0, rV m)] [] ty sz g Q := by
  intro n
  induction n with
  | zero =>
    intro k g h1 F hm9
    exfalso
    omega
  | succ n ih =>
    intro k g h1 F hm9
    have hM0 := hM
    obtain ⟨m9, m0, a1, a2, a3, a4, a5, a6, a7, a8, a9, a10, a11, a12, a13, a14, a15, a16, a17, a18, a19, a20, a21⟩ := hM
    have hE1 := hE.1
    have hE2 := hE.2.1
    have heL := (List.getElem?_eq_some_iff.mp hl1).1
    obtain ⟨e1, e2, e3, e4⟩ := hE.2.2 _ _ hl1
    obtain ⟨f1, f2, f3, f4⟩ := hE.2.2 _ _ hl2
    rw [show ((e.toNat : Nat) : Int) = e by omega] at e1 e2
    rw [show ((E.length - 1 : Nat) : Int) = E.length - 1 by omega] at f1 f2
    have hcr := cmpS_rng (l1 := l1) (l2 := l2) k
    have F0 : FrC m h (zup g m 25 0) := F.t (FrC.z _)
    have g6 : zup g m 25 0 (m + 6) = h (m + 6) := F0.1 _ (by omega) (by omega) (by omega)
    refine x_iload_n (pc := 24) dX7_compare_24 rfl ?_
    refine x_bipush (pc := 25) dX7_compare_25 (by decide) ?_
    refine x_icmp_ge (pc := 27) 177 dX7_compare_27 rfl (fun c_27 => ?_) (fun c_27 => ?_)
    · (try simp (disch := omega) only [zb_e0, zb_n0, w32_id, w64_id, ne_eq, Classical.not_not] at c_27)
      refine x_iload_n (pc := 177) dX7_compare_177 rfl ?_
      refine x_retv (pc := 178) ⟨dX7_compare_178, Or.inl rfl⟩ ?_
      rw [show k = 10 by omega]
      exact hq g F
    · (try simp (disch := omega) only [zb_e0, zb_n0, w32_id, w64_id, ne_eq, Classical.not_not] at c_27)
      refine x_aload_n (pc := 30) dX7_compare_30 rfl ?_
      refine x_iconst (pc := 31) dX7_compare_31 ?_
      refine y_putI 25 (pc := 32) dX7_compare_32 f_RX7_220 (by assumption) rfl (by rfl) (by omega) rfl ?_
      refine x_aload_n (pc := 35) dX7_compare_35 rfl ?_
      refine x_iload_n (pc := 36) dX7_compare_36 rfl ?_
      refine x_iload_n (pc := 37) dX7_compare_37 rfl ?_
      refine x_callV2 (pc := 38) dX7_compare_38 (k_RX7_240 _ rfl) tmv_X7_putKind (by assumption) rfl rfl rfl ?_
      refine x_room (d' := d + 4) (by omega) (Nat.le_refl _) (Nat.le_refl _) (c_m_putKind0 hM0 (by omega) (by omega) (e1.frc F0) ⟨by rw [g6]; exact e2, e4⟩ hO1 (PA_0 _) (fun g1 z4 hz4 F1 P1 => ?_))
      have hp1 := (pp_len hO1 (k := (k : Int)) (by omega)).1
      have hp2 := (pp_len hO2 (k := (k : Int)) (by omega)).1
      dsimp only [Option.toList, List.cons_append, List.nil_append]
      refine x_istore (pc := 41) dX7_compare_41 (by decide) ?_
      refine x_aload_n (pc := 43) dX7_compare_43 rfl ?_
      refine y_getI 25 (pc := 44) dX7_compare_44 f_RX7_220 (by assumption) rfl (fun b_44 => ?_)
      rw [P1.1]
      refine x_istore (pc := 47) dX7_compare_47 (by decide) ?_
      refine x_iconst (pc := 49) dX7_compare_49 ?_
      refine x_istore (pc := 50) dX7_compare_50 (by decide) ?_
      exact x_loc _ (by exact ⟨by show _ = some (iV ((0 : Nat) : Int)); rfl, rfl, rfl, rfl, rfl, rfl, rfl, trivial⟩) (c_m_cp52 hM0 hp1 P1 (fun g2 F2 C2 => c_m_cp79 hM0 hE hl1 he hl2 hO1 hO2 (by omega) ((F0.t (FrC.q F1)).t (FrC.o F2)) C2 (fun g5 F5 => x_loc _ (by exact ⟨rfl, rfl, rfl, rfl, trivial⟩) (ih (k + 1) g5 (by omega) F5 (by omega)))) ((pp k l1).length + 1) 0 g1 (by omega) (fun _ _ => rfl) (fun j c hj _ => by omega) (by omega))

set_option maxHeartbeats 4000000 in
set_option maxRecDepth 100000 in
theorem C_m_compare {e : Int} {m : Int} {S : CS} (hA : mAbs ty h m S) (hO : ∀ l ∈ cE S, OKE l) (hi : i32 e) (hq : ∀ h', FrM m h h' → mAbs ty h' m (S) → Q (some (iV (S_compare S e))) ty sz h') : zXM D mX7_compare (d + 5) 0 0 [rV m, iV e] ty sz h Q := by
  have hA0 := hA
  obtain ⟨hM, hT, hE, hI, hB, hP⟩ := hA
  have hM0 := hM
  obtain ⟨m9, m0, a1, a2, a3, a4, a5, a6, a7, a8, a9, a10, a11, a12, a13, a14, a15, a16, a17, a18, a19, a20, a21⟩ := hM
  have hE1 := hE.1
  have hE2 := hE.2.1
  have hI1 := hI.1
  have hI2 := hI.2.1
  have hB1 := hB.1
  have hB2 := hB.2.1
  have hP1 := hP.1
  have hP2 := hP.2.1
  have z10 : zup h m 0 0 m 10 = (cE S).length := by rw [zup_app, if_neg (by omega)]; exact hE1
  have z12 : zup h m 0 0 m 12 = (cI S).length := by rw [zup_app, if_neg (by omega)]; exact hI1
  have z19 : zup h m 0 0 m 19 = (cB S).length := by rw [zup_app, if_neg (by omega)]; exact hB1
  have z23 : zup h m 0 0 m 23 = (cP S).length := by rw [zup_app, if_neg (by omega)]; exact hP1
  have hA1 : mAbs ty (zup h m 0 0) m S := mAbs_0 hA0
  have hF1 : FrM m h (zup h m 0 0) := FrM.up h ⟨by omega, by omega⟩
  refine x_aload_n (pc := 0) dX7_compare_0 rfl ?_
  refine x_iconst (pc := 1) dX7_compare_1 ?_
  refine y_putI 0 (pc := 2) dX7_compare_2 f_RX7_75 (by assumption) rfl (by rfl) (by omega) rfl ?_
  refine x_iload_n (pc := 5) dX7_compare_5 rfl ?_
  refine x_if_lt (pc := 6) 17 dX7_compare_6 rfl (fun c_6 => ?_) (fun c_6 => ?_)
  · (try simp (disch := omega) only [zb_e0, zb_n0, w32_id, w64_id, ne_eq, Classical.not_not] at c_6)
    refine x_ldc (pc := 17) dX7_compare_17 (-1000001) tc_RX7_171 (by decide) ?_
    refine x_retv (pc := 19) ⟨dX7_compare_19, Or.inl rfl⟩ ?_
    rw [S_compare_out (S := S) (e := e) (by omega)] at hq
    exact hq _ hF1 hA1
  · (try simp (disch := omega) only [zb_e0, zb_n0, w32_id, w64_id, ne_eq, Classical.not_not] at c_6)
    refine x_iload_n (pc := 9) dX7_compare_9 rfl ?_
    refine x_aload_n (pc := 10) dX7_compare_10 rfl ?_
    refine y_getI 10 (pc := 11) dX7_compare_11 f_RX7_155 (by assumption) rfl (fun b_11 => ?_)
    rw [z10]
    refine x_icmp_lt (pc := 14) 20 dX7_compare_14 rfl (fun c_14 => ?_) (fun c_14 => ?_)
    · (try simp (disch := omega) only [zb_e0, zb_n0, w32_id, w64_id, ne_eq, Classical.not_not] at c_14)
      refine x_iconst (pc := 20) dX7_compare_20 ?_
      refine x_istore_n (pc := 21) dX7_compare_21 (by decide) ?_
      refine x_iconst (pc := 22) dX7_compare_22 ?_
      refine x_istore_n (pc := 23) dX7_compare_23 (by decide) ?_
      obtain ⟨l1, hl1⟩ : ∃ l, (cE S)[e.toNat]? = some l := ⟨_, List.getElem?_eq_getElem (by omega)⟩
      rw [S_compare_in (S := S) (by omega) hl1] at hq
      have hne : cE S ≠ [] := fun z => by rw [z] at hl1; simp at hl1
      have hl2 := S_last_get hne
      refine x_loc _ (by exact ⟨by show _ = some (iV ((0 : Nat) : Int)); rfl, rfl, rfl, rfl, trivial⟩) (c_m_cp24 hM0 hA1.2.2.1 hl1 (by omega) hl2 (hO _ (List.mem_of_getElem? hl1)) (hO _ (List.mem_of_getElem? hl2)) (fun g F => ?_) 11 0 _ (by omega) (FrC.rf _ _) (by omega))
      refine hq g (hF1.t (fun a ha => F.1 a (by omega) (by omega) (by omega))) ?_
      obtain ⟨-, hT9, hE9, hI9, hB9, hP9⟩ := hA1
      exact ⟨hM0, ⟨hT9.1.fr (F.2 2 (by decide)) (F.1 _ (by omega) (by omega) (by omega)), hT9.2⟩, hE9.fr (F.2 10 (by decide)) (fun a k a1 a2 _ => by rw [F.1 a (by omega) (by omega) (by omega)]) (fun k _ => by rw [F.1 _ (by omega) (by omega) (by omega)]), hI9.fr (F.2 12 (by decide)) (fun a a1 a2 => F.1 a (by omega) (by omega) (by omega)), hB9.fr (F.2 19 (by decide)) (fun a a1 a2 => F.1 a (by omega) (by omega) (by omega)), hP9.fr (F.2 23 (by decide)) (F.1 _ (by omega) (by omega) (by omega))⟩
    · (try simp (disch := omega) only [zb_e0, zb_n0, w32_id, w64_id, ne_eq, Classical.not_not] at c_14)
      refine x_ldc (pc := 17) dX7_compare_17 (-1000001) tc_RX7_171 (by decide) ?_
      refine x_retv (pc := 19) ⟨dX7_compare_19, Or.inl rfl⟩ ?_
      rw [S_compare_out (S := S) (e := e) (by omega)] at hq
      exact hq _ hF1 hA1

end C45
