section C39
variable {D : va_G} {d : Nat} {ty : zT} {sz : Nat} {h : zH} {Q : zQ}
theorem rBill_pos {kr : List Row} {it : IT} {zone day : Int} (hB : ∀ r ∈ kr, rowB r) (hc : cntOK kr) (hb : itB it) (hz : 0 ≤ zone ∧ zone ≤ 9) : (rBill kr it zone day).2 = -1 ∨ (0 ≤ (rBill kr it zone day).2 ∧ (rBill kr it zone day).2 ≤ 400000000) := by
  unfold rBill
  split
  · exact Or.inl rfl
  · by_cases hp : kBillP (vH kr it) 0 10 zone day
    · rw [kBill_y hp]
      right
      have hK := vH_K kr it
      have hst := kStep_r hK hp.2.2
      have hok := kOK_M hB hc hb hz hp.2.1 (step := kStep (vH kr it) 0 (kWeight (vH kr it) 0 10)) ⟨hst.1, by have := hK.2.1; omega⟩
      obtain ⟨p1, p2, p3⟩ := kPart_b hok 10 (Nat.le_refl _)
      generalize kStep (vH kr it) 0 (kWeight (vH kr it) 0 10) = step at *
      obtain ⟨-, -, -, -, h14⟩ := hok
      show 0 ≤ sumP (kPl (vH kr it) 0 10 zone step) ∧ sumP (kPl (vH kr it) 0 10 zone step) ≤ 400000000
      unfold kPl
      have p2' : 0 ≤ sumP (kPl0 (vH kr it) 0 10 zone step) := p2
      have p3' : sumP (kPl0 (vH kr it) 0 10 zone step) ≤ 110000000 + 10000000 * 10 := p3
      split
      · rw [sumP_app, sumP_1]
        rcases h14 with z | z
        · omega
        · have := zdu_up p2' z.1
          omega
      · omega
    · rw [kBill_n hp]
      exact Or.inl rfl

set_option maxHeartbeats 4000000 in
set_option maxRecDepth 100000 in
theorem c_m_least31 {m : Int} (hM : isMT ty m) {i zone day had : Int} (hk : ∀ g, (∀ q, (q < m + 19 ∨ m + 21 < q) → g q = h q) → (∀ t : Int, 0 ≤ t → t < 16 → g (m + 19) t = h (m + 13) t ∧ g (m + 20) t = h (m + 14) t ∧ g (m + 21) t = h (m + 15) t) → zX D mX7_least (d + 4) 0 0 86 [(6, iV had), (1, iV i), (2, iV zone), (3, lV day), (0, rV m)] [] ty sz g Q) : ∀ (n : Nat) (p : Nat) (g : zH), p ≤ 16 → ((∀ q, (q < m + 19 ∨ m + 21 < q) → g q = h q) ∧ ∀ t : Int, 0 ≤ t → t < p → g (m + 19) t = h (m + 13) t ∧ g (m + 20) t = h (m + 14) t ∧ g (m + 21) t = h (m + 15) t) → 16 - p < n → zX D mX7_least (d + 4) 0 0 31 [(7, iV (p : Int)), (6, iV had), (1, iV i), (2, iV zone), (3, lV day), (0, rV m)] [] ty sz g Q := by
  intro n
  induction n with
  | zero =>
    intro p g h1 hC hm
    exfalso
    omega
  | succ n ih =>
    intro p g h1 hC hm
    have hM0 := hM
    obtain ⟨m9, m0, a1, a2, a3, a4, a5, a6, a7, a8, a9, a10, a11, a12, a13, a14, a15, a16, a17, a18, a19, a20, a21⟩ := hM
    obtain ⟨c1, c2⟩ := hC
    refine x_iload (pc := 31) dX7_least_31 rfl ?_
    refine x_bipush (pc := 33) dX7_least_33 (by decide) ?_
    refine x_icmp_ge (pc := 35) 86 dX7_least_35 rfl (fun c_35 => ?_) (fun c_35 => ?_)
    · (try simp (disch := omega) only [zb_e0, zb_n0, w32_id, w64_id, ne_eq, Classical.not_not] at c_35)
      exact x_loc _ (by exact ⟨rfl, rfl, rfl, rfl, rfl, trivial⟩) (hk g c1 (fun t t0 t1 => c2 t t0 (by omega)))
    · (try simp (disch := omega) only [zb_e0, zb_n0, w32_id, w64_id, ne_eq, Classical.not_not] at c_35)
      refine x_aload_n (pc := 38) dX7_least_38 rfl ?_
      refine x_getF (pc := 39) dX7_least_39 f_RX7_66 (by assumption) (by rfl) ?_
      refine x_iload (pc := 42) dX7_least_42 rfl ?_
      refine x_aload_n (pc := 44) dX7_least_44 rfl ?_
      refine x_getF (pc := 45) dX7_least_45 f_RX7_47 (by assumption) (by rfl) ?_
      refine x_iload (pc := 48) dX7_least_48 rfl ?_
      refine x_iald (pc := 50) dX7_least_50 (by assumption) (by omega) (by omega) (fun b_50 => ?_)
      refine x_iast (pc := 51) dX7_least_51 (by assumption) (by omega) (by omega) (by rfl) (by omega) ?_
      refine x_aload_n (pc := 52) dX7_least_52 rfl ?_
      refine x_getF (pc := 53) dX7_least_53 f_RX7_69 (by assumption) (by rfl) ?_
      refine x_iload (pc := 56) dX7_least_56 rfl ?_
      refine x_aload_n (pc := 58) dX7_least_58 rfl ?_
      refine x_getF (pc := 59) dX7_least_59 f_RX7_50 (by assumption) (by rfl) ?_
      refine x_iload (pc := 62) dX7_least_62 rfl ?_
      refine x_lald (pc := 64) dX7_least_64 (by assumption) (by omega) (by omega) (fun b_64 => ?_)
      refine x_last (pc := 65) dX7_least_65 (by assumption) (by omega) (by omega) (by rfl) (by omega) ?_
      refine x_aload_n (pc := 66) dX7_least_66 rfl ?_
      refine x_getF (pc := 67) dX7_least_67 f_RX7_72 (by assumption) (by rfl) ?_
      refine x_iload (pc := 70) dX7_least_70 rfl ?_
      refine x_aload_n (pc := 72) dX7_least_72 rfl ?_
      refine x_getF (pc := 73) dX7_least_73 f_RX7_54 (by assumption) (by rfl) ?_
      refine x_iload (pc := 76) dX7_least_76 rfl ?_
      refine x_iald (pc := 78) dX7_least_78 (by assumption) (by omega) (by omega) (fun b_78 => ?_)
      refine x_iast (pc := 79) dX7_least_79 (by assumption) (by omega) (by omega) (by rfl) (by omega) ?_
      refine x_iinc (pc := 80) dX7_least_80 rfl (by decide) ?_
      refine x_goto (pc := 83) 31 dX7_least_83 rfl ?_
      refine x_loc _ (by exact ⟨rfl, rfl, rfl, rfl, rfl, rfl, trivial⟩) (ih (p + 1) _ (by omega) ⟨fun q hq1 => ?_, fun t t0 t1 => ?_⟩ (by omega))
      · rw [zup_ne (by omega), zup_ne (by omega), zup_ne (by omega)]
        exact c1 q hq1
      · by_cases e : t = p
        · subst e
          simp [zup_app, zo1, c1 (m + 13) (by omega), c1 (m + 14) (by omega), c1 (m + 15) (by omega)]
        · have := c2 t t0 (by omega)
          simp only [zup_app, zo1, e, and_false, if_false]
          exact this

set_option maxHeartbeats 4000000 in
set_option maxRecDepth 100000 in
theorem c_m_least157 {m : Int} (hM : isMT ty m) {best : Int} (hk : ∀ g, (∀ q, (q < m + 13 ∨ m + 15 < q) → g q = h q) → (∀ t : Int, 0 ≤ t → t < 16 → g (m + 13) t = h (m + 19) t ∧ g (m + 14) t = h (m + 20) t ∧ g (m + 15) t = h (m + 21) t) → Q (some (iV best)) ty sz g) : ∀ (n : Nat) (p : Nat) (g : zH), p ≤ 16 → ((∀ q, (q < m + 13 ∨ m + 15 < q) → g q = h q) ∧ ∀ t : Int, 0 ≤ t → t < p → g (m + 13) t = h (m + 19) t ∧ g (m + 14) t = h (m + 20) t ∧ g (m + 15) t = h (m + 21) t) → 16 - p < n → zX D mX7_least (d + 4) 0 0 157 [(10, iV (p : Int)), (7, iV best), (0, rV m)] [] ty sz g Q := by
  intro n
  induction n with
  | zero =>
    intro p g h1 hC hm
    exfalso
    omega
  | succ n ih =>
    intro p g h1 hC hm
    have hM0 := hM
    obtain ⟨m9, m0, a1, a2, a3, a4, a5, a6, a7, a8, a9, a10, a11, a12, a13, a14, a15, a16, a17, a18, a19, a20, a21⟩ := hM
    obtain ⟨c1, c2⟩ := hC
    refine x_iload (pc := 157) dX7_least_157 rfl ?_
    refine x_bipush (pc := 159) dX7_least_159 (by decide) ?_
    refine x_icmp_ge (pc := 161) 212 dX7_least_161 rfl (fun c_161 => ?_) (fun c_161 => ?_)
    · (try simp (disch := omega) only [zb_e0, zb_n0, w32_id, w64_id, ne_eq, Classical.not_not] at c_161)
      refine x_iload (pc := 212) dX7_least_212 rfl ?_
      refine x_retv (pc := 214) ⟨dX7_least_214, Or.inl rfl⟩ ?_
      exact hk g c1 (fun t t0 t1 => c2 t t0 (by omega))
    · (try simp (disch := omega) only [zb_e0, zb_n0, w32_id, w64_id, ne_eq, Classical.not_not] at c_161)
      refine x_aload_n (pc := 164) dX7_least_164 rfl ?_
      refine x_getF (pc := 165) dX7_least_165 f_RX7_47 (by assumption) (by rfl) ?_
      refine x_iload (pc := 168) dX7_least_168 rfl ?_
      refine x_aload_n (pc := 170) dX7_least_170 rfl ?_
      refine x_getF (pc := 171) dX7_least_171 f_RX7_66 (by assumption) (by rfl) ?_
      refine x_iload (pc := 174) dX7_least_174 rfl ?_
      refine x_iald (pc := 176) dX7_least_176 (by assumption) (by omega) (by omega) (fun b_176 => ?_)
      refine x_iast (pc := 177) dX7_least_177 (by assumption) (by omega) (by omega) (by rfl) (by omega) ?_
      refine x_aload_n (pc := 178) dX7_least_178 rfl ?_
      refine x_getF (pc := 179) dX7_least_179 f_RX7_50 (by assumption) (by rfl) ?_
      refine x_iload (pc := 182) dX7_least_182 rfl ?_
      refine x_aload_n (pc := 184) dX7_least_184 rfl ?_
      refine x_getF (pc := 185) dX7_least_185 f_RX7_69 (by assumption) (by rfl) ?_
      refine x_iload (pc := 188) dX7_least_188 rfl ?_
      refine x_lald (pc := 190) dX7_least_190 (by assumption) (by omega) (by omega) (fun b_190 => ?_)
      refine x_last (pc := 191) dX7_least_191 (by assumption) (by omega) (by omega) (by rfl) (by omega) ?_
      refine x_aload_n (pc := 192) dX7_least_192 rfl ?_
      refine x_getF (pc := 193) dX7_least_193 f_RX7_54 (by assumption) (by rfl) ?_
      refine x_iload (pc := 196) dX7_least_196 rfl ?_
      refine x_aload_n (pc := 198) dX7_least_198 rfl ?_
      refine x_getF (pc := 199) dX7_least_199 f_RX7_72 (by assumption) (by rfl) ?_
      refine x_iload (pc := 202) dX7_least_202 rfl ?_
      refine x_iald (pc := 204) dX7_least_204 (by assumption) (by omega) (by omega) (fun b_204 => ?_)
      refine x_iast (pc := 205) dX7_least_205 (by assumption) (by omega) (by omega) (by rfl) (by omega) ?_
      refine x_iinc (pc := 206) dX7_least_206 rfl (by decide) ?_
      refine x_goto (pc := 209) 157 dX7_least_209 rfl ?_
      refine x_loc _ (by exact ⟨rfl, rfl, rfl, trivial⟩) (ih (p + 1) _ (by omega) ⟨fun q hq1 => ?_, fun t t0 t1 => ?_⟩ (by omega))
      · rw [zup_ne (by omega), zup_ne (by omega), zup_ne (by omega)]
        exact c1 q hq1
      · by_cases e : t = p
        · subst e
          simp [zup_app, zo1, c1 (m + 19) (by omega), c1 (m + 20) (by omega), c1 (m + 21) (by omega)]
        · have := c2 t t0 (by omega)
          simp only [zup_app, zo1, e, and_false, if_false]
          exact this

set_option maxHeartbeats 4000000 in
set_option maxRecDepth 100000 in
theorem c_m_least95 {m : Int} (hM : isMT ty m) {i zone day had : Int} {E : List (List Row)} {l : List Row} {it : IT} (hE : mE h m E) (hl : E[E.length - 1]? = some l) (hne : E ≠ []) (hA : ItA h m i it) (hz : 0 ≤ zone ∧ zone ≤ 9) (hdy : i64 day) (hk : ∀ g, FrP m h g → zX D mX7_least (d + 4) 0 0 148 [(7, iV (lstS l it zone day 10).1), (6, iV had), (0, rV m)] [] ty sz g Q) : ∀ (n : Nat) (k : Nat) (ls : Int) (g : zH), k ≤ 10 → FrP m h g → ((lstS l it zone day k).1 ≠ -1 → ls = (lstS l it zone day k).2) → i64 ls → 10 - k < n → zX D mX7_least (d + 4) 0 0 95 [(10, iV (k : Int)), (8, lV ls), (7, iV (lstS l it zone day k).1), (6, iV had), (1, iV i), (2, iV zone), (3, lV day), (0, rV m)] [] ty sz g Q := by
  intro n
  induction n with
  | zero =>
    intro k ls g h1 F hls hi hm
    exfalso
    omega
  | succ n ih =>
    intro k ls g h1 F hls hi hm
    have hM0 := hM
    obtain ⟨m9, m0, a1, a2, a3, a4, a5, a6, a7, a8, a9, a10, a11, a12, a13, a14, a15, a16, a17, a18, a19, a20, a21⟩ := hM
    have hlr := lstS_rng (l := l) (it := it) (zone := zone) (day := day) k
    have hW := (hE.2.2 _ _ hl).2.2.1
    have hbp := rBill_pos (day := day) (fun r hr => WF_B l hW r (kR_sub k l r hr)) (kR_cnt l hW k) hA.2.2.1 hz
    refine x_iload (pc := 95) dX7_least_95 rfl ?_
    refine x_bipush (pc := 97) dX7_least_97 (by decide) ?_
    refine x_icmp_ge (pc := 99) 148 dX7_least_99 rfl (fun c_99 => ?_) (fun c_99 => ?_)
    · (try simp (disch := omega) only [zb_e0, zb_n0, w32_id, w64_id, ne_eq, Classical.not_not] at c_99)
      rw [show k = 10 by omega]
      exact x_loc _ (by exact ⟨rfl, rfl, rfl, trivial⟩) (hk g F)
    · (try simp (disch := omega) only [zb_e0, zb_n0, w32_id, w64_id, ne_eq, Classical.not_not] at c_99)
      refine x_aload_n (pc := 102) dX7_least_102 rfl ?_
      refine x_iload_n (pc := 103) dX7_least_103 rfl ?_
      refine x_iload (pc := 104) dX7_least_104 rfl ?_
      refine x_iload_n (pc := 106) dX7_least_106 rfl ?_
      refine x_lload_n (pc := 107) dX7_least_107 rfl ?_
      refine x_callV4 (pc := 108) dX7_least_108 (k_RX7_212 _ rfl) tmv_X7_reckon (by assumption) rfl rfl rfl ?_
      refine c_m_reckon hM0 (hE.P F) hl hne (hA.fr F) (by omega) hz hdy (fun g1 F1 _ => ?_)
      generalize hT : (rBill (kR (k : Int) l) it zone day).2 = tot at *
      dsimp only [Option.toList, List.cons_append, List.nil_append]
      refine x_lstore (pc := 111) dX7_least_111 (by decide) ?_
      refine x_lload (pc := 113) dX7_least_113 rfl ?_
      refine x_lconst (pc := 115) dX7_least_115 0 (by decide) ?_
      refine x_lcmp_lt (pc := 116) 142 dX7_least_116 dX7_least_117 rfl (fun c_116 => ?_) (fun c_116 => ?_)
      · (try simp (disch := omega) only [zb_e0, zb_n0, w32_id, w64_id, ne_eq, Classical.not_not] at c_116)
        refine x_iinc (pc := 142) dX7_least_142 rfl (by decide) ?_
        refine x_goto (pc := 145) 95 dX7_least_145 rfl ?_
        have hy := lstS_n (l := l) (it := it) (zone := zone) (day := day) (n := k) (by rw [hT]; omega)
        refine x_loc [(10, iV ((k + 1 : Nat) : Int)), (8, lV ls), (7, iV (lstS l it zone day (k + 1)).1), (6, iV had), (1, iV i), (2, iV zone), (3, lV day), (0, rV m)] (by rw [hy]; exact ⟨rfl, rfl, rfl, rfl, rfl, rfl, rfl, rfl, trivial⟩) (ih (k + 1) ls g1 (by omega) (F.t F1) (by rw [hy]; exact hls) hi (by omega))
      · (try simp (disch := omega) only [zb_e0, zb_n0, w32_id, w64_id, ne_eq, Classical.not_not] at c_116)
        refine x_iload (pc := 120) dX7_least_120 rfl ?_
        refine x_iconst (pc := 122) dX7_least_122 ?_
        refine x_icmp_eq (pc := 123) 134 dX7_least_123 rfl (fun c_123 => ?_) (fun c_123 => ?_)
        · (try simp (disch := omega) only [zb_e0, zb_n0, w32_id, w64_id, ne_eq, Classical.not_not] at c_123)
          refine x_iload (pc := 134) dX7_least_134 rfl ?_
          refine x_istore (pc := 136) dX7_least_136 (by decide) ?_
          refine x_lload (pc := 138) dX7_least_138 rfl ?_
          refine x_lstore (pc := 140) dX7_least_140 (by decide) ?_
          refine x_iinc (pc := 142) dX7_least_142 rfl (by decide) ?_
          refine x_goto (pc := 145) 95 dX7_least_145 rfl ?_
          have hy := lstS_y (l := l) (it := it) (zone := zone) (day := day) (n := k) (by rw [hT]; omega)
          rw [hT] at hy
          refine x_loc [(10, iV ((k + 1 : Nat) : Int)), (8, lV tot), (7, iV (lstS l it zone day (k + 1)).1), (6, iV had), (1, iV i), (2, iV zone), (3, lV day), (0, rV m)] (by rw [hy]; exact ⟨rfl, rfl, rfl, rfl, rfl, rfl, rfl, rfl, trivial⟩) (ih (k + 1) tot g1 (by omega) (F.t F1) (by rw [hy]; exact fun _ => rfl) (by omega) (by omega))
        · (try simp (disch := omega) only [zb_e0, zb_n0, w32_id, w64_id, ne_eq, Classical.not_not] at c_123)
          refine x_lload (pc := 126) dX7_least_126 rfl ?_
          refine x_lload (pc := 128) dX7_least_128 rfl ?_
          refine x_lcmp_ge (pc := 130) 142 dX7_least_130 dX7_least_131 rfl (fun c_130 => ?_) (fun c_130 => ?_)
          · (try simp (disch := omega) only [zb_e0, zb_n0, w32_id, w64_id, ne_eq, Classical.not_not] at c_130)
            refine x_iinc (pc := 142) dX7_least_142 rfl (by decide) ?_
            refine x_goto (pc := 145) 95 dX7_least_145 rfl ?_
            have hy := lstS_n (l := l) (it := it) (zone := zone) (day := day) (n := k) (by rw [hT]; omega)
            refine x_loc [(10, iV ((k + 1 : Nat) : Int)), (8, lV ls), (7, iV (lstS l it zone day (k + 1)).1), (6, iV had), (1, iV i), (2, iV zone), (3, lV day), (0, rV m)] (by rw [hy]; exact ⟨rfl, rfl, rfl, rfl, rfl, rfl, rfl, rfl, trivial⟩) (ih (k + 1) ls g1 (by omega) (F.t F1) (by rw [hy]; exact hls) hi (by omega))
          · (try simp (disch := omega) only [zb_e0, zb_n0, w32_id, w64_id, ne_eq, Classical.not_not] at c_130)
            refine x_iload (pc := 134) dX7_least_134 rfl ?_
            refine x_istore (pc := 136) dX7_least_136 (by decide) ?_
            refine x_lload (pc := 138) dX7_least_138 rfl ?_
            refine x_lstore (pc := 140) dX7_least_140 (by decide) ?_
            refine x_iinc (pc := 142) dX7_least_142 rfl (by decide) ?_
            refine x_goto (pc := 145) 95 dX7_least_145 rfl ?_
            have hy := lstS_y (l := l) (it := it) (zone := zone) (day := day) (n := k) (by rw [hT]; omega)
            rw [hT] at hy
            refine x_loc [(10, iV ((k + 1 : Nat) : Int)), (8, lV tot), (7, iV (lstS l it zone day (k + 1)).1), (6, iV had), (1, iV i), (2, iV zone), (3, lV day), (0, rV m)] (by rw [hy]; exact ⟨rfl, rfl, rfl, rfl, rfl, rfl, rfl, rfl, trivial⟩) (ih (k + 1) tot g1 (by omega) (F.t F1) (by rw [hy]; exact fun _ => rfl) (by omega) (by omega))

set_option maxHeartbeats 4000000 in
set_option maxRecDepth 100000 in
theorem C_m_least {i zone day : Int} {m : Int} {S : CS} (hA : mAbs ty h m S) (hi : i32 i ∧ i32 zone ∧ i64 day) (hq : ∀ h', FrM m h h' → mAbs ty h' m (S) → Q (some (iV (S_least S i zone day))) ty sz h') : zXM D mX7_least (d + 4) 0 0 [rV m, iV i, iV zone, lV day] ty sz h Q := by
  have hA0 := hA
  obtain ⟨hM, hT, hE, hI, hB, hP⟩ := hA
  have hM0 := hM
  obtain ⟨m9, m0, a1, a2, a3, a4, a5, a6, a7, a8, a9, a10, a11, a12, a13, a14, a15, a16, a17, a18, a19, a20, a21⟩ := hM
  have hE1 := hE.1
  have hE2 := hE.2.1
  have hI1 := hI.1
  have hI2 := hI.2.1
  have hB1 := hB.1
  have hB2 := hB.2.1
  have hP1 := hP.1
  have hP2 := hP.2.1
  have z10 : zup h m 0 0 m 10 = (cE S).length := by rw [zup_app, if_neg (by omega)]; exact hE1
  have z12 : zup h m 0 0 m 12 = (cI S).length := by rw [zup_app, if_neg (by omega)]; exact hI1
  have z19 : zup h m 0 0 m 19 = (cB S).length := by rw [zup_app, if_neg (by omega)]; exact hB1
  have z23 : zup h m 0 0 m 23 = (cP S).length := by rw [zup_app, if_neg (by omega)]; exact hP1
  have hA1 : mAbs ty (zup h m 0 0) m S := mAbs_0 hA0
  have hF1 : FrM m h (zup h m 0 0) := FrM.up h ⟨by omega, by omega⟩
  have hrr := S_refuse_rng S zone day
  obtain ⟨-, hT9, hE9, hI9, hB9, hP9⟩ := id hA1
  refine x_aload_n (pc := 0) dX7_least_0 rfl ?_
  refine x_iconst (pc := 1) dX7_least_1 ?_
  refine y_putI 0 (pc := 2) dX7_least_2 f_RX7_75 (by assumption) rfl (by rfl) (by omega) rfl ?_
  refine x_aload_n (pc := 5) dX7_least_5 rfl ?_
  refine x_iload_n (pc := 6) dX7_least_6 rfl ?_
  refine x_iload_n (pc := 7) dX7_least_7 rfl ?_
  refine x_lload_n (pc := 8) dX7_least_8 rfl ?_
  refine x_callV3 (pc := 9) dX7_least_9 (k_RX7_208 _ rfl) tmv_X7_refusal (by assumption) rfl rfl rfl ?_
  refine x_room (d' := d + 1) (by omega) (Nat.le_refl _) (Nat.le_refl _) (c_m_refusal hA1 hi ?_)
  generalize hv : (if S_it S i = none then -1000001 else S_refuse S zone day) = v
  have hvr : -1000003 ≤ v ∧ v ≤ 0 := by rw [← hv]; split <;> omega
  dsimp only [Option.toList, List.cons_append, List.nil_append]
  refine x_istore (pc := 12) dX7_least_12 (by decide) ?_
  refine x_iload (pc := 14) dX7_least_14 rfl ?_
  refine x_if_eq (pc := 16) 22 dX7_least_16 rfl (fun c_16 => ?_) (fun c_16 => ?_)
  · (try simp (disch := omega) only [zb_e0, zb_n0, w32_id, w64_id, ne_eq, Classical.not_not] at c_16)
    try simp (disch := omega) only [w32_id, ne_eq, Classical.not_not] at c_16
    refine x_aload_n (pc := 22) dX7_least_22 rfl ?_
    refine y_getI 19 (pc := 23) dX7_least_23 f_RX7_172 (by assumption) rfl (fun b_23 => ?_)
    rw [z19]
    refine x_istore (pc := 26) dX7_least_26 (by decide) ?_
    refine x_iconst (pc := 28) dX7_least_28 ?_
    refine x_istore (pc := 29) dX7_least_29 (by decide) ?_
    have hsn : S_it S i ≠ none := fun z => by rw [if_pos z] at hv; omega
    obtain ⟨it, hit⟩ := Option.ne_none_iff_exists'.mp hsn
    rw [if_neg hsn] at hv
    have hr0 : S_refuse S zone day = 0 := by omega
    obtain ⟨r1, r2, r3⟩ := S_refuse_0 hr0
    rw [S_least_in hit hr0] at hq
    refine x_loc [(7, iV ((0 : Nat) : Int)), (6, iV ((cB S).length : Int)), (1, iV i), (2, iV zone), (3, lV day), (0, rV m)] ⟨rfl, rfl, rfl, rfl, rfl, rfl, trivial⟩ (c_m_least31 (h := zup h m 0 0) hM0 (fun g c1 c2 => ?_) 17 0 _ (by omega) ⟨fun _ _ => rfl, fun t t0 t1 => absurd t1 (by omega)⟩ (by omega))
    refine x_iconst (pc := 86) dX7_least_86 ?_
    refine x_istore (pc := 87) dX7_least_87 (by decide) ?_
    refine x_lconst (pc := 89) dX7_least_89 0 (by decide) ?_
    refine x_lstore (pc := 90) dX7_least_90 (by decide) ?_
    refine x_iconst (pc := 92) dX7_least_92 ?_
    refine x_istore (pc := 93) dX7_least_93 (by decide) ?_
    have hEg : mE g m (cE S) := hE9.fr (by rw [c1 m (by omega)]) (fun a k a1 a2 _ => by rw [c1 a (by omega)]) (fun k _ => by rw [c1 _ (by omega)])
    have hIg : mI g m (cI S) := hI9.fr (by rw [c1 m (by omega)]) (fun a a1 a2 => c1 a (by omega))
    have hIA := hIg.get hit
    refine x_loc [(10, iV ((0 : Nat) : Int)), (8, lV 0), (7, iV (lstS (S_last S) it zone day 0).1), (6, iV ((cB S).length : Int)), (1, iV i), (2, iV zone), (3, lV day), (0, rV m)] (by exact ⟨rfl, rfl, rfl, rfl, rfl, rfl, rfl, rfl, trivial⟩) (c_m_least95 hM0 hEg (S_last_get r3) r3 hIA r1 hi.2.2 (fun g2 F2 => ?_) 11 0 0 g (by omega) (FrP.rf _ _) (fun z => absurd rfl z) (by omega) (by omega))
    refine x_aload_n (pc := 148) dX7_least_148 rfl ?_
    refine x_iload (pc := 149) dX7_least_149 rfl ?_
    refine y_putI 19 (pc := 151) dX7_least_151 f_RX7_172 (by assumption) rfl (by rfl) (by omega) rfl ?_
    refine x_iconst (pc := 154) dX7_least_154 ?_
    refine x_istore (pc := 155) dX7_least_155 (by decide) ?_
    refine x_loc [(10, iV ((0 : Nat) : Int)), (7, iV (lstS (S_last S) it zone day 10).1), (0, rV m)] (by exact ⟨rfl, rfl, rfl, trivial⟩) (c_m_least157 (h := zup g2 m 19 ((cB S).length : Int)) hM0 (fun g3 k1 k2 => ?_) 17 0 _ (by omega) ⟨fun _ _ => rfl, fun t t0 t1 => absurd t1 (by omega)⟩ (by omega))
    have e3 : ∀ q, q ≠ m → (q < m + 13 ∨ m + 21 < q) → g3 q = zup h m 0 0 q := fun q q1 q2 => by rw [k1 q (by omega), zup_ne q1, F2.1 q q1 (by omega), c1 q (by omega)]
    have e3b : ∀ q, m + 15 < q → q < m + 19 → g3 q = zup h m 0 0 q := fun q q1 q2 => by rw [k1 q (by omega), zup_ne (by omega), F2.1 q (by omega) (by omega), c1 q (by omega)]
    have em : ∀ k, k ≠ 19 → g3 m k = zup h m 0 0 m k := fun k hk => by rw [k1 m (by omega), zup_app, if_neg (by omega), F2.2 k hk, c1 m (by omega)]
    have e19 : g3 m 19 = (cB S).length := by rw [k1 m (by omega), zup_app, if_pos ⟨rfl, rfl⟩]
    have ear : ∀ t : Int, 0 ≤ t → t < 16 → g3 (m + 13) t = zup h m 0 0 (m + 13) t ∧ g3 (m + 14) t = zup h m 0 0 (m + 14) t ∧ g3 (m + 15) t = zup h m 0 0 (m + 15) t := fun t t0 t1 => by
      obtain ⟨y1, y2, y3⟩ := k2 t t0 t1
      obtain ⟨x1, x2, x3⟩ := c2 t t0 t1
      have ez : ∀ q, m + 18 < q → q < m + 22 → zup g2 m 19 ((cB S).length : Int) q = g q := fun q z1 z2 => by rw [zup_ne (by omega), F2.1 q (by omega) (by omega)]
      rw [y1, y2, y3, ez (m + 19) (by omega) (by omega), ez (m + 20) (by omega) (by omega), ez (m + 21) (by omega) (by omega), x1, x2, x3]
      exact ⟨rfl, rfl, rfl⟩
    refine hq g3 (hF1.t (fun a ha => e3 a (by omega) (by omega))) ⟨hM0, ⟨hT9.1.fr (em 2 (by decide)) (e3 _ (by omega) (by omega)), hT9.2⟩, hE9.fr (em 10 (by decide)) (fun a k a1 a2 _ => by rw [e3 a (by omega) (by omega)]) (fun k _ => by rw [e3 _ (by omega) (by omega)]), hI9.fr (em 12 (by decide)) (fun a a1 a2 => e3 a (by omega) (by omega)), ⟨e19, hB2, fun t q ht => ?_⟩, hP9.fr (em 23 (by decide)) (e3b _ (by omega) (by omega))⟩
    have htl := (List.getElem?_eq_some_iff.mp ht).1
    obtain ⟨y1, y2, y3⟩ := ear t (by omega) (by omega)
    rw [y1, y2, y3]
    exact hB9.2.2 t q ht
  · (try simp (disch := omega) only [zb_e0, zb_n0, w32_id, w64_id, ne_eq, Classical.not_not] at c_16)
    try simp (disch := omega) only [w32_id, ne_eq, Classical.not_not] at c_16
    refine x_iload (pc := 19) dX7_least_19 rfl ?_
    refine x_retv (pc := 21) ⟨dX7_least_21, Or.inl rfl⟩ ?_
    by_cases hsn : S_it S i = none
    · rw [if_pos hsn] at hv
      rw [S_least_none hsn, hv] at hq
      exact hq _ hF1 hA1
    · obtain ⟨it, hit⟩ := Option.ne_none_iff_exists'.mp hsn
      rw [if_neg hsn] at hv
      rw [S_least_ref hit (by omega)] at hq
      rw [← hv]
      exact hq _ hF1 hA1

end C39
