section C34
variable {D : va_G} {d : Nat} {ty : zT} {sz : Nat} {h : zH} {Q : zQ}
def ItM (h : zH) (m i : Int) (it : IT) : Prop := h (m + 7) i = it.1 ∧ h (m + 8) i = it.2.1 ∧ h (m + 9) i = it.2.2.1 ∧ h (m + 10) i = it.2.2.2.1 ∧ h (m + 11) i = it.2.2.2.2.1
def hld (kr : List Row) (day : Int) : Prop := fl 70 (fun r => r.2.1) kr = -1 ∨ (fl 70 (fun r => r.2.1) kr ≤ day ∧ day ≤ fl 70 (fun r => r.2.2.1) kr)
def fts (kr : List Row) (it : IT) : Prop := fl 68 (fun r => r.2.1) kr = -1 ∨ (it.2.2.1 ≤ fl 68 (fun r => r.2.1) kr ∧ it.2.2.2.1 ≤ fl 68 (fun r => r.2.2.1) kr ∧ it.2.2.2.2.1 ≤ fl 68 (fun r => r.2.2.2) kr)
theorem kTakes_M {kr : List Row} {it : IT} {zone day : Int} (hB : ∀ r ∈ kr, rowB r) (hb : itB it) (hz : 0 ≤ zone ∧ zone ≤ 9) : kTakes (vH kr it) 0 10 zone day ↔ (hld kr day ∧ fts kr it ∧ exL 90 zone kr ∧ (srv1 kr it.2.2.2.2.2 10 ∧ srv2 it.2.2.2.2.2 kr)) := by
  obtain ⟨c0, c1, c2, c3, c7, c8, c9, c10, c11, c12, c13, c14⟩ := vH_K kr it
  obtain ⟨i0, i1, i2, i3, i4, i5⟩ := vH_I kr it
  unfold kTakes hld fts
  rw [c12, c13, c8, c9, c10, i2, i3, i4, (c3 zone (by omega) (by omega)).1, lk_ex hB, kServ_srv hB hb.2.2.2.2.2]

set_option maxHeartbeats 4000000 in
set_option maxRecDepth 100000 in
theorem c_m_go122 {m : Int} (hM : isMT ty m) {i b to : Int} {kr : List Row} {it : IT} {zone day : Int} (hIt : ItM h m i it) (hb9 : itB it) (hz : 0 ≤ zone ∧ zone ≤ 9) (hdy : i64 day) (hi : 0 ≤ i ∧ i < 100) (hH : HasIs h m i it.2.2.2.2.2) (hR : MR h m b kr) (hto : to = b + kr.length) (hb : 0 ≤ b ∧ b + kr.length ≤ 3120) (hB : ∀ r ∈ kr, rowB r) {P1 P2 : Prop} (hq : Q (some (iV (zb (P1 ∧ P2 ∧ exL 90 zone kr ∧ (srv1 kr it.2.2.2.2.2 10 ∧ srv2 it.2.2.2.2.2 kr))))) ty sz h) : zX D mX7_mayGo (d + 2) 0 0 122 [(10, iV (zb P2)), (9, iV (zb P1)), (0, rV m), (1, iV i), (2, iV b), (3, iV to), (4, iV zone), (5, lV day)] [] ty sz h Q := by
  have hM0 := hM
  obtain ⟨m9, m0, a1, a2, a3, a4, a5, a6, a7, a8, a9, a10, a11, a12, a13, a14, a15, a16, a17, a18, a19, a20, a21⟩ := hM
  refine x_iload (pc := 122) dX7_mayGo_122 rfl ?_
  refine x_if_eq (pc := 124) 160 dX7_mayGo_124 rfl (fun c_124 => ?_) (fun c_124 => ?_)
  · (try simp (disch := omega) only [zb_e0, zb_n0, w32_id, w64_id, ne_eq, Classical.not_not] at c_124)
    refine x_iconst (pc := 160) dX7_mayGo_160 ?_
    refine x_retv (pc := 161) ⟨dX7_mayGo_161, Or.inr ⟨rfl, (by decide)⟩⟩ ?_
    first
    | (rw [zb_f (p := P1 ∧ P2 ∧ exL 90 zone kr ∧ (srv1 kr it.2.2.2.2.2 10 ∧ srv2 it.2.2.2.2.2 kr)) (fun z => c_124 z.1)] at hq
       exact hq)
    | (rw [zb_f (p := P1 ∧ P2 ∧ exL 90 zone kr ∧ (srv1 kr it.2.2.2.2.2 10 ∧ srv2 it.2.2.2.2.2 kr)) (fun z => c_129 z.2.1)] at hq
       exact hq)
    | (rw [zb_f (p := P1 ∧ P2 ∧ exL 90 zone kr ∧ (srv1 kr it.2.2.2.2.2 10 ∧ srv2 it.2.2.2.2.2 kr)) (fun z => c_153 z.2.2.2)] at hq
       exact hq)
    | (rw [zb_t (p := P1 ∧ P2 ∧ exL 90 zone kr ∧ (srv1 kr it.2.2.2.2.2 10 ∧ srv2 it.2.2.2.2.2 kr)) ⟨c_124, c_129, by
         rcases hpk with ⟨q, -, -⟩ | ⟨j, R, -, -, -, -, -, q, -⟩
         · exact absurd q c_143
         · exact q, c_153⟩] at hq
       exact hq)
    | (rw [zb_f (p := P1 ∧ P2 ∧ exL 90 zone kr ∧ (srv1 kr it.2.2.2.2.2 10 ∧ srv2 it.2.2.2.2.2 kr)) (fun z => by
         rcases hpk with ⟨-, q, -⟩ | ⟨j, R, -, q, -⟩
         · exact q z.2.2.1
         · omega)] at hq
       exact hq)
  · (try simp (disch := omega) only [zb_e0, zb_n0, w32_id, w64_id, ne_eq, Classical.not_not] at c_124)
    refine x_iload (pc := 127) dX7_mayGo_127 rfl ?_
    refine x_if_eq (pc := 129) 160 dX7_mayGo_129 rfl (fun c_129 => ?_) (fun c_129 => ?_)
    · (try simp (disch := omega) only [zb_e0, zb_n0, w32_id, w64_id, ne_eq, Classical.not_not] at c_129)
      refine x_iconst (pc := 160) dX7_mayGo_160 ?_
      refine x_retv (pc := 161) ⟨dX7_mayGo_161, Or.inr ⟨rfl, (by decide)⟩⟩ ?_
      first
      | (rw [zb_f (p := P1 ∧ P2 ∧ exL 90 zone kr ∧ (srv1 kr it.2.2.2.2.2 10 ∧ srv2 it.2.2.2.2.2 kr)) (fun z => c_124 z.1)] at hq
         exact hq)
      | (rw [zb_f (p := P1 ∧ P2 ∧ exL 90 zone kr ∧ (srv1 kr it.2.2.2.2.2 10 ∧ srv2 it.2.2.2.2.2 kr)) (fun z => c_129 z.2.1)] at hq
         exact hq)
      | (rw [zb_f (p := P1 ∧ P2 ∧ exL 90 zone kr ∧ (srv1 kr it.2.2.2.2.2 10 ∧ srv2 it.2.2.2.2.2 kr)) (fun z => c_153 z.2.2.2)] at hq
         exact hq)
      | (rw [zb_t (p := P1 ∧ P2 ∧ exL 90 zone kr ∧ (srv1 kr it.2.2.2.2.2 10 ∧ srv2 it.2.2.2.2.2 kr)) ⟨c_124, c_129, by
           rcases hpk with ⟨q, -, -⟩ | ⟨j, R, -, -, -, -, -, q, -⟩
           · exact absurd q c_143
           · exact q, c_153⟩] at hq
         exact hq)
      | (rw [zb_f (p := P1 ∧ P2 ∧ exL 90 zone kr ∧ (srv1 kr it.2.2.2.2.2 10 ∧ srv2 it.2.2.2.2.2 kr)) (fun z => by
           rcases hpk with ⟨-, q, -⟩ | ⟨j, R, -, q, -⟩
           · exact q z.2.2.1
           · omega)] at hq
         exact hq)
    · (try simp (disch := omega) only [zb_e0, zb_n0, w32_id, w64_id, ne_eq, Classical.not_not] at c_129)
      refine x_aload_n (pc := 132) dX7_mayGo_132 rfl ?_
      refine x_iload_n (pc := 133) dX7_mayGo_133 rfl ?_
      refine x_iload_n (pc := 134) dX7_mayGo_134 rfl ?_
      refine x_bipush (pc := 135) dX7_mayGo_135 (by decide) ?_
      refine x_iload (pc := 137) dX7_mayGo_137 rfl ?_
      refine x_callV4 (pc := 139) dX7_mayGo_139 (k_RX7_175 _ rfl) tmv_X7_rowOf (by assumption) rfl rfl rfl ?_
      refine x_room (d' := d) (by omega) (Nat.le_refl _) (Nat.le_refl _) (c_m_rowOf hM0 (by omega) hR hto hb (fun res hpk => ?_))
      replace hpk := PK_lk hb.1 hpk
      dsimp only [Option.toList, List.cons_append, List.nil_append]
      refine x_iconst (pc := 142) dX7_mayGo_142 ?_
      refine x_icmp_eq (pc := 143) 160 dX7_mayGo_143 rfl (fun c_143 => ?_) (fun c_143 => ?_)
      · (try simp (disch := omega) only [zb_e0, zb_n0, w32_id, w64_id, ne_eq, Classical.not_not] at c_143)
        have hrs : -1 ≤ res ∧ res ≤ 4000 := by
          rcases hpk with ⟨q, -⟩ | ⟨j, R, q1, q2, q3, -⟩
          · omega
          · have := (List.getElem?_eq_some_iff.mp q3).1
            omega
        simp (disch := omega) only [w32_id] at c_143
        refine x_iconst (pc := 160) dX7_mayGo_160 ?_
        refine x_retv (pc := 161) ⟨dX7_mayGo_161, Or.inr ⟨rfl, (by decide)⟩⟩ ?_
        first
        | (rw [zb_f (p := P1 ∧ P2 ∧ exL 90 zone kr ∧ (srv1 kr it.2.2.2.2.2 10 ∧ srv2 it.2.2.2.2.2 kr)) (fun z => c_124 z.1)] at hq
           exact hq)
        | (rw [zb_f (p := P1 ∧ P2 ∧ exL 90 zone kr ∧ (srv1 kr it.2.2.2.2.2 10 ∧ srv2 it.2.2.2.2.2 kr)) (fun z => c_129 z.2.1)] at hq
           exact hq)
        | (rw [zb_f (p := P1 ∧ P2 ∧ exL 90 zone kr ∧ (srv1 kr it.2.2.2.2.2 10 ∧ srv2 it.2.2.2.2.2 kr)) (fun z => c_153 z.2.2.2)] at hq
           exact hq)
        | (rw [zb_t (p := P1 ∧ P2 ∧ exL 90 zone kr ∧ (srv1 kr it.2.2.2.2.2 10 ∧ srv2 it.2.2.2.2.2 kr)) ⟨c_124, c_129, by
             rcases hpk with ⟨q, -, -⟩ | ⟨j, R, -, -, -, -, -, q, -⟩
             · exact absurd q c_143
             · exact q, c_153⟩] at hq
           exact hq)
        | (rw [zb_f (p := P1 ∧ P2 ∧ exL 90 zone kr ∧ (srv1 kr it.2.2.2.2.2 10 ∧ srv2 it.2.2.2.2.2 kr)) (fun z => by
             rcases hpk with ⟨-, q, -⟩ | ⟨j, R, -, q, -⟩
             · exact q z.2.2.1
             · omega)] at hq
           exact hq)
      · (try simp (disch := omega) only [zb_e0, zb_n0, w32_id, w64_id, ne_eq, Classical.not_not] at c_143)
        have hrs : -1 ≤ res ∧ res ≤ 4000 := by
          rcases hpk with ⟨q, -⟩ | ⟨j, R, q1, q2, q3, -⟩
          · omega
          · have := (List.getElem?_eq_some_iff.mp q3).1
            omega
        simp (disch := omega) only [w32_id] at c_143
        refine x_aload_n (pc := 146) dX7_mayGo_146 rfl ?_
        refine x_iload_n (pc := 147) dX7_mayGo_147 rfl ?_
        refine x_iload_n (pc := 148) dX7_mayGo_148 rfl ?_
        refine x_iload_n (pc := 149) dX7_mayGo_149 rfl ?_
        refine x_callV3 (pc := 150) dX7_mayGo_150 (k_RX7_183 _ rfl) tmv_X7_mayServe (by assumption) rfl rfl rfl ?_
        refine x_room (d' := d + 1) (by omega) (Nat.le_refl _) (Nat.le_refl _) (c_m_mayServe hM0 hi hH hR hto hb hB ?_)
        dsimp only [Option.toList, List.cons_append, List.nil_append]
        refine x_if_eq (pc := 153) 160 dX7_mayGo_153 rfl (fun c_153 => ?_) (fun c_153 => ?_)
        · (try simp (disch := omega) only [zb_e0, zb_n0, w32_id, w64_id, ne_eq, Classical.not_not] at c_153)
          refine x_iconst (pc := 160) dX7_mayGo_160 ?_
          refine x_retv (pc := 161) ⟨dX7_mayGo_161, Or.inr ⟨rfl, (by decide)⟩⟩ ?_
          first
          | (rw [zb_f (p := P1 ∧ P2 ∧ exL 90 zone kr ∧ (srv1 kr it.2.2.2.2.2 10 ∧ srv2 it.2.2.2.2.2 kr)) (fun z => c_124 z.1)] at hq
             exact hq)
          | (rw [zb_f (p := P1 ∧ P2 ∧ exL 90 zone kr ∧ (srv1 kr it.2.2.2.2.2 10 ∧ srv2 it.2.2.2.2.2 kr)) (fun z => c_129 z.2.1)] at hq
             exact hq)
          | (rw [zb_f (p := P1 ∧ P2 ∧ exL 90 zone kr ∧ (srv1 kr it.2.2.2.2.2 10 ∧ srv2 it.2.2.2.2.2 kr)) (fun z => c_153 z.2.2.2)] at hq
             exact hq)
          | (rw [zb_t (p := P1 ∧ P2 ∧ exL 90 zone kr ∧ (srv1 kr it.2.2.2.2.2 10 ∧ srv2 it.2.2.2.2.2 kr)) ⟨c_124, c_129, by
               rcases hpk with ⟨q, -, -⟩ | ⟨j, R, -, -, -, -, -, q, -⟩
               · exact absurd q c_143
               · exact q, c_153⟩] at hq
             exact hq)
          | (rw [zb_f (p := P1 ∧ P2 ∧ exL 90 zone kr ∧ (srv1 kr it.2.2.2.2.2 10 ∧ srv2 it.2.2.2.2.2 kr)) (fun z => by
               rcases hpk with ⟨-, q, -⟩ | ⟨j, R, -, q, -⟩
               · exact q z.2.2.1
               · omega)] at hq
             exact hq)
        · (try simp (disch := omega) only [zb_e0, zb_n0, w32_id, w64_id, ne_eq, Classical.not_not] at c_153)
          refine x_iconst (pc := 156) dX7_mayGo_156 ?_
          refine x_goto (pc := 157) 161 dX7_mayGo_157 rfl ?_
          refine x_retv (pc := 161) ⟨dX7_mayGo_161, Or.inr ⟨rfl, (by decide)⟩⟩ ?_
          first
          | (rw [zb_f (p := P1 ∧ P2 ∧ exL 90 zone kr ∧ (srv1 kr it.2.2.2.2.2 10 ∧ srv2 it.2.2.2.2.2 kr)) (fun z => c_124 z.1)] at hq
             exact hq)
          | (rw [zb_f (p := P1 ∧ P2 ∧ exL 90 zone kr ∧ (srv1 kr it.2.2.2.2.2 10 ∧ srv2 it.2.2.2.2.2 kr)) (fun z => c_129 z.2.1)] at hq
             exact hq)
          | (rw [zb_f (p := P1 ∧ P2 ∧ exL 90 zone kr ∧ (srv1 kr it.2.2.2.2.2 10 ∧ srv2 it.2.2.2.2.2 kr)) (fun z => c_153 z.2.2.2)] at hq
             exact hq)
          | (rw [zb_t (p := P1 ∧ P2 ∧ exL 90 zone kr ∧ (srv1 kr it.2.2.2.2.2 10 ∧ srv2 it.2.2.2.2.2 kr)) ⟨c_124, c_129, by
               rcases hpk with ⟨q, -, -⟩ | ⟨j, R, -, -, -, -, -, q, -⟩
               · exact absurd q c_143
               · exact q, c_153⟩] at hq
             exact hq)
          | (rw [zb_f (p := P1 ∧ P2 ∧ exL 90 zone kr ∧ (srv1 kr it.2.2.2.2.2 10 ∧ srv2 it.2.2.2.2.2 kr)) (fun z => by
               rcases hpk with ⟨-, q, -⟩ | ⟨j, R, -, q, -⟩
               · exact q z.2.2.1
               · omega)] at hq
             exact hq)

set_option maxHeartbeats 4000000 in
set_option maxRecDepth 100000 in
theorem c_m_go61 {m : Int} (hM : isMT ty m) {i b to : Int} {kr : List Row} {it : IT} {zone day : Int} (hIt : ItM h m i it) (hb9 : itB it) (hz : 0 ≤ zone ∧ zone ≤ 9) (hdy : i64 day) (hi : 0 ≤ i ∧ i < 100) (hH : HasIs h m i it.2.2.2.2.2) (hR : MR h m b kr) (hto : to = b + kr.length) (hb : 0 ≤ b ∧ b + kr.length ≤ 3120) (hB : ∀ r ∈ kr, rowB r) {P1 : Prop} {res x7 : Int} (hpk : ((res = -1 ∧ ∀ f, fl 68 f kr = -1) ∨ ∃ (j : Nat) (R : Row), res = b + j ∧ 0 ≤ res ∧ kr[j]? = some R ∧ R.1 = 68 ∧ ∀ f, fl 68 f kr = f R)) (hq : Q (some (iV (zb (P1 ∧ fts kr it ∧ exL 90 zone kr ∧ (srv1 kr it.2.2.2.2.2 10 ∧ srv2 it.2.2.2.2.2 kr))))) ty sz h) : zX D mX7_mayGo (d + 2) 0 0 61 [(9, iV (zb P1)), (8, iV res), (7, iV x7), (0, rV m), (1, iV i), (2, iV b), (3, iV to), (4, iV zone), (5, lV day)] [] ty sz h Q := by
  have hM0 := hM
  obtain ⟨m9, m0, a1, a2, a3, a4, a5, a6, a7, a8, a9, a10, a11, a12, a13, a14, a15, a16, a17, a18, a19, a20, a21⟩ := hM
  obtain ⟨w1, w2, w3, w4, w5⟩ := hIt
  obtain ⟨v1, v2, v3, v4, v5, v6⟩ := hb9
  have hrs : -1 ≤ res ∧ res ≤ 4000 := by
    rcases hpk with ⟨q, -⟩ | ⟨j, R, q1, q2, q3, -⟩
    · omega
    · have := (List.getElem?_eq_some_iff.mp q3).1
      omega
  refine x_iload (pc := 61) dX7_mayGo_61 rfl ?_
  refine x_iconst (pc := 63) dX7_mayGo_63 ?_
  refine x_icmp_eq (pc := 64) 115 dX7_mayGo_64 rfl (fun c_64 => ?_) (fun c_64 => ?_)
  · (try simp (disch := omega) only [zb_e0, zb_n0, w32_id, w64_id, ne_eq, Classical.not_not] at c_64)
    --
    have hf0 : ∀ f, fl 68 f kr = -1 := by
      rcases hpk with ⟨-, q⟩ | ⟨j, R, -, q, -⟩
      · exact q
      · omega
    refine x_iconst (pc := 115) dX7_mayGo_115 ?_
    refine x_goto (pc := 116) 120 dX7_mayGo_116 rfl ?_
    refine x_topc (b := zb (fts kr it)) (by first | exact (zb_t (Or.inl (hf0 _))).symm | exact (zb_t (Or.inr (by rw [e5, e5, e5]; omega))).symm | exact (zb_f (by unfold fts; rw [e5, e5, e5]; have := hRB.2.1; omega)).symm) ?_
    refine x_istore (pc := 120) dX7_mayGo_120 (by decide) ?_
    exact x_loc _ (by exact ⟨rfl, rfl, rfl, rfl, rfl, rfl, rfl, rfl, trivial⟩) (c_m_go122 hM0 ⟨w1, w2, w3, w4, w5⟩ ⟨v1, v2, v3, v4, v5, v6⟩ hz hdy hi hH hR hto hb hB hq)
  · (try simp (disch := omega) only [zb_e0, zb_n0, w32_id, w64_id, ne_eq, Classical.not_not] at c_64)
    --
    rcases hpk with ⟨q, -⟩ | ⟨j, R, e1, e2, e3, e4, e5⟩
    · exact absurd q c_64
    obtain ⟨R1, R2, R3, R4⟩ := hR j R e3
    have hRB := hB R (List.mem_of_getElem? e3)
    have hjl := (List.getElem?_eq_some_iff.mp e3).1
    refine x_aload_n (pc := 67) dX7_mayGo_67 rfl ?_
    refine x_getF (pc := 68) dX7_mayGo_68 f_RX7_34 (by assumption) (by rfl) ?_
    refine x_iload_n (pc := 71) dX7_mayGo_71 rfl ?_
    refine x_iald (pc := 72) dX7_mayGo_72 (by assumption) (by omega) (by omega) (fun b_72 => ?_)
    rw [w3] at b_72 ⊢
    refine x_aload_n (pc := 73) dX7_mayGo_73 rfl ?_
    refine x_getF (pc := 74) dX7_mayGo_74 f_RX7_16 (by assumption) (by rfl) ?_
    refine x_iload (pc := 77) dX7_mayGo_77 rfl ?_
    refine x_iald (pc := 79) dX7_mayGo_79 (by assumption) (by omega) (by omega) (fun b_79 => ?_)
    first | rw [e1, R2] at b_79 ⊢ | rw [R2] at b_79 ⊢
    refine x_icmp_gt (pc := 80) 119 dX7_mayGo_80 rfl (fun c_80 => ?_) (fun c_80 => ?_)
    · (try simp (disch := omega) only [zb_e0, zb_n0, w32_id, w64_id, ne_eq, Classical.not_not] at c_80)
      refine x_iconst (pc := 119) dX7_mayGo_119 ?_
      refine x_topc (b := zb (fts kr it)) (by first | exact (zb_t (Or.inl (hf0 _))).symm | exact (zb_t (Or.inr (by rw [e5, e5, e5]; omega))).symm | exact (zb_f (by unfold fts; rw [e5, e5, e5]; have := hRB.2.1; omega)).symm) ?_
      refine x_istore (pc := 120) dX7_mayGo_120 (by decide) ?_
      exact x_loc _ (by exact ⟨rfl, rfl, rfl, rfl, rfl, rfl, rfl, rfl, trivial⟩) (c_m_go122 hM0 ⟨w1, w2, w3, w4, w5⟩ ⟨v1, v2, v3, v4, v5, v6⟩ hz hdy hi hH hR hto hb hB hq)
    · (try simp (disch := omega) only [zb_e0, zb_n0, w32_id, w64_id, ne_eq, Classical.not_not] at c_80)
      refine x_aload_n (pc := 83) dX7_mayGo_83 rfl ?_
      refine x_getF (pc := 84) dX7_mayGo_84 f_RX7_37 (by assumption) (by rfl) ?_
      refine x_iload_n (pc := 87) dX7_mayGo_87 rfl ?_
      refine x_iald (pc := 88) dX7_mayGo_88 (by assumption) (by omega) (by omega) (fun b_88 => ?_)
      rw [w4] at b_88 ⊢
      refine x_aload_n (pc := 89) dX7_mayGo_89 rfl ?_
      refine x_getF (pc := 90) dX7_mayGo_90 f_RX7_19 (by assumption) (by rfl) ?_
      refine x_iload (pc := 93) dX7_mayGo_93 rfl ?_
      refine x_iald (pc := 95) dX7_mayGo_95 (by assumption) (by omega) (by omega) (fun b_95 => ?_)
      first | rw [e1, R3] at b_95 ⊢ | rw [R3] at b_95 ⊢
      refine x_icmp_gt (pc := 96) 119 dX7_mayGo_96 rfl (fun c_96 => ?_) (fun c_96 => ?_)
      · (try simp (disch := omega) only [zb_e0, zb_n0, w32_id, w64_id, ne_eq, Classical.not_not] at c_96)
        refine x_iconst (pc := 119) dX7_mayGo_119 ?_
        refine x_topc (b := zb (fts kr it)) (by first | exact (zb_t (Or.inl (hf0 _))).symm | exact (zb_t (Or.inr (by rw [e5, e5, e5]; omega))).symm | exact (zb_f (by unfold fts; rw [e5, e5, e5]; have := hRB.2.1; omega)).symm) ?_
        refine x_istore (pc := 120) dX7_mayGo_120 (by decide) ?_
        exact x_loc _ (by exact ⟨rfl, rfl, rfl, rfl, rfl, rfl, rfl, rfl, trivial⟩) (c_m_go122 hM0 ⟨w1, w2, w3, w4, w5⟩ ⟨v1, v2, v3, v4, v5, v6⟩ hz hdy hi hH hR hto hb hB hq)
      · (try simp (disch := omega) only [zb_e0, zb_n0, w32_id, w64_id, ne_eq, Classical.not_not] at c_96)
        refine x_aload_n (pc := 99) dX7_mayGo_99 rfl ?_
        refine x_getF (pc := 100) dX7_mayGo_100 f_RX7_40 (by assumption) (by rfl) ?_
        refine x_iload_n (pc := 103) dX7_mayGo_103 rfl ?_
        refine x_iald (pc := 104) dX7_mayGo_104 (by assumption) (by omega) (by omega) (fun b_104 => ?_)
        rw [w5] at b_104 ⊢
        refine x_aload_n (pc := 105) dX7_mayGo_105 rfl ?_
        refine x_getF (pc := 106) dX7_mayGo_106 f_RX7_22 (by assumption) (by rfl) ?_
        refine x_iload (pc := 109) dX7_mayGo_109 rfl ?_
        refine x_iald (pc := 111) dX7_mayGo_111 (by assumption) (by omega) (by omega) (fun b_111 => ?_)
        first | rw [e1, R4] at b_111 ⊢ | rw [R4] at b_111 ⊢
        refine x_icmp_gt (pc := 112) 119 dX7_mayGo_112 rfl (fun c_112 => ?_) (fun c_112 => ?_)
        · (try simp (disch := omega) only [zb_e0, zb_n0, w32_id, w64_id, ne_eq, Classical.not_not] at c_112)
          refine x_iconst (pc := 119) dX7_mayGo_119 ?_
          refine x_topc (b := zb (fts kr it)) (by first | exact (zb_t (Or.inl (hf0 _))).symm | exact (zb_t (Or.inr (by rw [e5, e5, e5]; omega))).symm | exact (zb_f (by unfold fts; rw [e5, e5, e5]; have := hRB.2.1; omega)).symm) ?_
          refine x_istore (pc := 120) dX7_mayGo_120 (by decide) ?_
          exact x_loc _ (by exact ⟨rfl, rfl, rfl, rfl, rfl, rfl, rfl, rfl, trivial⟩) (c_m_go122 hM0 ⟨w1, w2, w3, w4, w5⟩ ⟨v1, v2, v3, v4, v5, v6⟩ hz hdy hi hH hR hto hb hB hq)
        · (try simp (disch := omega) only [zb_e0, zb_n0, w32_id, w64_id, ne_eq, Classical.not_not] at c_112)
          refine x_iconst (pc := 115) dX7_mayGo_115 ?_
          refine x_goto (pc := 116) 120 dX7_mayGo_116 rfl ?_
          refine x_topc (b := zb (fts kr it)) (by first | exact (zb_t (Or.inl (hf0 _))).symm | exact (zb_t (Or.inr (by rw [e5, e5, e5]; omega))).symm | exact (zb_f (by unfold fts; rw [e5, e5, e5]; have := hRB.2.1; omega)).symm) ?_
          refine x_istore (pc := 120) dX7_mayGo_120 (by decide) ?_
          exact x_loc _ (by exact ⟨rfl, rfl, rfl, rfl, rfl, rfl, rfl, rfl, trivial⟩) (c_m_go122 hM0 ⟨w1, w2, w3, w4, w5⟩ ⟨v1, v2, v3, v4, v5, v6⟩ hz hdy hi hH hR hto hb hB hq)

set_option maxHeartbeats 4000000 in
set_option maxRecDepth 100000 in
theorem c_m_mayGo {m : Int} (hM : isMT ty m) {i b to : Int} {kr : List Row} {it : IT} {zone day : Int} (hIt : ItM h m i it) (hb9 : itB it) (hz : 0 ≤ zone ∧ zone ≤ 9) (hdy : i64 day) (hi : 0 ≤ i ∧ i < 100) (hH : HasIs h m i it.2.2.2.2.2) (hR : MR h m b kr) (hto : to = b + kr.length) (hb : 0 ≤ b ∧ b + kr.length ≤ 3120) (hB : ∀ r ∈ kr, rowB r) (hq : Q (some (iV (zb (kTakes (vH kr it) 0 10 zone day)))) ty sz h) : zXM D mX7_mayGo (d + 2) 0 0 [rV m, iV i, iV b, iV to, iV zone, lV day] ty sz h Q := by
  have hM0 := hM
  obtain ⟨m9, m0, a1, a2, a3, a4, a5, a6, a7, a8, a9, a10, a11, a12, a13, a14, a15, a16, a17, a18, a19, a20, a21⟩ := hM
  rw [zb_c (kTakes_M hB hb9 hz)] at hq
  refine x_aload_n (pc := 0) dX7_mayGo_0 rfl ?_
  refine x_iload_n (pc := 1) dX7_mayGo_1 rfl ?_
  refine x_iload_n (pc := 2) dX7_mayGo_2 rfl ?_
  refine x_bipush (pc := 3) dX7_mayGo_3 (by decide) ?_
  refine x_callV3 (pc := 5) dX7_mayGo_5 (k_RX7_179 _ rfl) tmv_X7_onlyRow (by assumption) rfl rfl rfl ?_
  refine x_room (d' := d) (by omega) (Nat.le_refl _) (Nat.le_refl _) (c_m_onlyRow hM0 (by omega) hR hto hb (fun res hpk => ?_))
  replace hpk := PK_fl hb.1 hpk
  have hrs : -1 ≤ res ∧ res ≤ 4000 := by
    rcases hpk with ⟨q, -⟩ | ⟨j, R, q1, q2, q3, -⟩
    · omega
    · have := (List.getElem?_eq_some_iff.mp q3).1
      omega
  dsimp only [Option.toList, List.cons_append, List.nil_append]
  refine x_istore (pc := 8) dX7_mayGo_8 (by decide) ?_
  refine x_aload_n (pc := 10) dX7_mayGo_10 rfl ?_
  refine x_iload_n (pc := 11) dX7_mayGo_11 rfl ?_
  refine x_iload_n (pc := 12) dX7_mayGo_12 rfl ?_
  refine x_bipush (pc := 13) dX7_mayGo_13 (by decide) ?_
  refine x_callV3 (pc := 15) dX7_mayGo_15 (k_RX7_179 _ rfl) tmv_X7_onlyRow (by assumption) rfl rfl rfl ?_
  refine x_room (d' := d) (by omega) (Nat.le_refl _) (Nat.le_refl _) (c_m_onlyRow hM0 (by omega) hR hto hb (fun res2 hpk2 => ?_))
  replace hpk2 := PK_fl hb.1 hpk2
  dsimp only [Option.toList, List.cons_append, List.nil_append]
  refine x_istore (pc := 18) dX7_mayGo_18 (by decide) ?_
  refine x_iload (pc := 20) dX7_mayGo_20 rfl ?_
  refine x_iconst (pc := 22) dX7_mayGo_22 ?_
  refine x_icmp_eq (pc := 23) 54 dX7_mayGo_23 rfl (fun c_23 => ?_) (fun c_23 => ?_)
  · (try simp (disch := omega) only [zb_e0, zb_n0, w32_id, w64_id, ne_eq, Classical.not_not] at c_23)
    --
    have hf0 : ∀ f, fl 70 f kr = -1 := by
      rcases hpk with ⟨-, q⟩ | ⟨j, R, -, q, -⟩
      · exact q
      · omega
    refine x_iconst (pc := 54) dX7_mayGo_54 ?_
    refine x_goto (pc := 55) 59 dX7_mayGo_55 rfl ?_
    refine x_topc (b := zb (hld kr day)) (by first | exact (zb_t (Or.inl (hf0 _))).symm | exact (zb_t (Or.inr (by rw [e5, e5]; omega))).symm | exact (zb_f (by unfold hld; rw [e5, e5]; have := hRB.2.1; omega)).symm) ?_
    refine x_istore (pc := 59) dX7_mayGo_59 (by decide) ?_
    exact x_loc _ (by exact ⟨rfl, rfl, rfl, rfl, rfl, rfl, rfl, rfl, rfl, trivial⟩) (c_m_go61 hM0 hIt hb9 hz hdy hi hH hR hto hb hB hpk2 hq)
  · (try simp (disch := omega) only [zb_e0, zb_n0, w32_id, w64_id, ne_eq, Classical.not_not] at c_23)
    --
    rcases hpk with ⟨q, -⟩ | ⟨j, R, e1, e2, e3, e4, e5⟩
    · exact absurd q c_23
    obtain ⟨R1, R2, R3, R4⟩ := hR j R e3
    have hRB := hB R (List.mem_of_getElem? e3)
    have hjl := (List.getElem?_eq_some_iff.mp e3).1
    refine x_lload (pc := 26) dX7_mayGo_26 rfl ?_
    refine x_aload_n (pc := 28) dX7_mayGo_28 rfl ?_
    refine x_getF (pc := 29) dX7_mayGo_29 f_RX7_16 (by assumption) (by rfl) ?_
    refine x_iload (pc := 32) dX7_mayGo_32 rfl ?_
    refine x_iald (pc := 34) dX7_mayGo_34 (by assumption) (by omega) (by omega) (fun b_34 => ?_)
    first | rw [e1, R2] at b_34 ⊢ | rw [R2] at b_34 ⊢
    refine x_i2l (pc := 35) dX7_mayGo_35 ?_
    rw [w32_id (by omega) (by omega)]
    refine x_lcmp_lt (pc := 36) 58 dX7_mayGo_36 dX7_mayGo_37 rfl (fun c_36 => ?_) (fun c_36 => ?_)
    · (try simp (disch := omega) only [zb_e0, zb_n0, w32_id, w64_id, ne_eq, Classical.not_not] at c_36)
      refine x_iconst (pc := 58) dX7_mayGo_58 ?_
      refine x_topc (b := zb (hld kr day)) (by first | exact (zb_t (Or.inl (hf0 _))).symm | exact (zb_t (Or.inr (by rw [e5, e5]; omega))).symm | exact (zb_f (by unfold hld; rw [e5, e5]; have := hRB.2.1; omega)).symm) ?_
      refine x_istore (pc := 59) dX7_mayGo_59 (by decide) ?_
      exact x_loc _ (by exact ⟨rfl, rfl, rfl, rfl, rfl, rfl, rfl, rfl, rfl, trivial⟩) (c_m_go61 hM0 hIt hb9 hz hdy hi hH hR hto hb hB hpk2 hq)
    · (try simp (disch := omega) only [zb_e0, zb_n0, w32_id, w64_id, ne_eq, Classical.not_not] at c_36)
      refine x_lload (pc := 40) dX7_mayGo_40 rfl ?_
      refine x_aload_n (pc := 42) dX7_mayGo_42 rfl ?_
      refine x_getF (pc := 43) dX7_mayGo_43 f_RX7_19 (by assumption) (by rfl) ?_
      refine x_iload (pc := 46) dX7_mayGo_46 rfl ?_
      refine x_iald (pc := 48) dX7_mayGo_48 (by assumption) (by omega) (by omega) (fun b_48 => ?_)
      first | rw [e1, R3] at b_48 ⊢ | rw [R3] at b_48 ⊢
      refine x_i2l (pc := 49) dX7_mayGo_49 ?_
      rw [w32_id (by omega) (by omega)]
      refine x_lcmp_gt (pc := 50) 58 dX7_mayGo_50 dX7_mayGo_51 rfl (fun c_50 => ?_) (fun c_50 => ?_)
      · (try simp (disch := omega) only [zb_e0, zb_n0, w32_id, w64_id, ne_eq, Classical.not_not] at c_50)
        refine x_iconst (pc := 58) dX7_mayGo_58 ?_
        refine x_topc (b := zb (hld kr day)) (by first | exact (zb_t (Or.inl (hf0 _))).symm | exact (zb_t (Or.inr (by rw [e5, e5]; omega))).symm | exact (zb_f (by unfold hld; rw [e5, e5]; have := hRB.2.1; omega)).symm) ?_
        refine x_istore (pc := 59) dX7_mayGo_59 (by decide) ?_
        exact x_loc _ (by exact ⟨rfl, rfl, rfl, rfl, rfl, rfl, rfl, rfl, rfl, trivial⟩) (c_m_go61 hM0 hIt hb9 hz hdy hi hH hR hto hb hB hpk2 hq)
      · (try simp (disch := omega) only [zb_e0, zb_n0, w32_id, w64_id, ne_eq, Classical.not_not] at c_50)
        refine x_iconst (pc := 54) dX7_mayGo_54 ?_
        refine x_goto (pc := 55) 59 dX7_mayGo_55 rfl ?_
        refine x_topc (b := zb (hld kr day)) (by first | exact (zb_t (Or.inl (hf0 _))).symm | exact (zb_t (Or.inr (by rw [e5, e5]; omega))).symm | exact (zb_f (by unfold hld; rw [e5, e5]; have := hRB.2.1; omega)).symm) ?_
        refine x_istore (pc := 59) dX7_mayGo_59 (by decide) ?_
        exact x_loc _ (by exact ⟨rfl, rfl, rfl, rfl, rfl, rfl, rfl, rfl, rfl, trivial⟩) (c_m_go61 hM0 hIt hb9 hz hdy hi hH hR hto hb hB hpk2 hq)

end C34
