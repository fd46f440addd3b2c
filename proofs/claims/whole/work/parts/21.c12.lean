section C12
variable {D : va_G} {d : Nat} {ty : zT} {sz : Nat} {h : zH} {Q : zQ}
def cRow (c n0 n1 n2 : Int) : Row := (c, n0, if nms c = 1 then 0 else n1, if nms c = 3 then n2 else 0)
def Fr2 (r e : Int) (h h' : zH) : Prop := ∀ a, (a < r ∨ r + 2 < a) → (a < e ∨ e + 61 < a) → h' a = h a
theorem Fr2.rf (r e : Int) (h : zH) : Fr2 r e h h := fun _ _ _ => rfl
theorem Fr2.t {r e : Int} {a b c : zH} (x : Fr2 r e a b) (y : Fr2 r e b c) : Fr2 r e a c := fun q h1 h2 => (y q h1 h2).trans (x q h1 h2)
theorem Fr2.l {r e lo hi : Int} {a b : zH} (x : Fr lo hi a b) (h1 : r ≤ lo) (h2 : hi ≤ r + 2) : Fr2 r e a b := fun q h3 _ => x q (by omega)
theorem Fr2.r {r e lo hi : Int} {a b : zH} (x : Fr lo hi a b) (h1 : e ≤ lo) (h2 : hi ≤ e + 61) : Fr2 r e a b := fun q _ h3 => x q (by omega)
theorem zup_self (h : zH) (a k : Int) : zup h a k (h a k) = h := by
  funext a' k'
  rw [zup_app]
  split
  · rename_i q; rw [q.1, q.2]
  · rfl
theorem zup_zup (h : zH) (a k u v : Int) : zup (zup h a k u) a k v = zup h a k v := by
  funext a' k'
  simp only [zup_app]
  split <;> rfl

set_option maxHeartbeats 4000000 in
set_option maxRecDepth 100000 in
theorem c_r_takeOf {r a c n0 n1 n2 : Int} (hR : isRT ty r) (hK : isKT ty a) (hd : a + 5 < r ∨ r + 2 < a) (hc : c ≠ 75) (hi : i10 n0 ∧ i32 n1) (hn2 : h (r + 2) 2 = n2) (hB : rowB (cRow c n0 n1 n2)) (hs : c = 83 → 0 ≤ h a 1 ∧ h a 1 < 10) (hx : c = 69 → 0 ≤ h a 7 ∧ h a 7 ≤ 100) (hq : Q none ty sz (rowAp h a (cRow c n0 n1 n2))) : zXM D mX5_takeOf (d + 2) 0 0 [rV r, rV a, iV c, iV n0, iV n1] ty sz h Q := by
  obtain ⟨r9, r0, r1, r2⟩ := hR
  have hK0 := hK
  obtain ⟨k9, k0, k1, k2, k3, k4, k5⟩ := hK
  obtain ⟨i0, i1⟩ := hi
  have hl := hB.1
  unfold isRowL cRow at hl
  have b90 : c = 90 → (0 ≤ n0 ∧ n0 ≤ 9) := fun q => by have := hB.2.2.2.2.2.1 q; exact this.1
  have b88 : c = 88 → (0 ≤ n0 ∧ n0 ≤ 9) := fun q => by have := hB.2.2.2.2.2.2.1 q; exact this
  have b69 : c = 69 → (0 ≤ n0 ∧ n0 ≤ 9) ∧ (0 ≤ n1 ∧ n1 ≤ 9) ∧ n0 ≠ n1 := fun q => by
    have := hB.2.2.2.2.2.2.2.1 q
    unfold cRow nms at this
    subst q
    simpa using this
  refine x_iload_n (pc := 0) dX5_takeOf_0 rfl ?_
  refine sw_X5_takeOf_1 (fun t_1 => ?_) (fun t_1 => ?_) (fun t_1 => ?_) (fun t_1 => ?_) (fun t_1 => ?_) (fun t_1 => ?_) (fun t_1 => ?_) (fun t_1 => ?_) (fun t_1 => ?_)
  · (try simp (disch := omega) only [zb_e0, zb_n0, w32_id, w64_id, ne_eq, Classical.not_not] at t_1)
    refine x_aload_n (pc := 154) dX5_takeOf_154 rfl ?_
    refine x_iload_n (pc := 155) dX5_takeOf_155 rfl ?_
    refine y_putI 8 (pc := 156) dX5_takeOf_156 f_RX5_90 (by assumption) rfl (by rfl) (by omega) rfl ?_
    refine x_aload_n (pc := 159) dX5_takeOf_159 rfl ?_
    refine x_iload (pc := 160) dX5_takeOf_160 rfl ?_
    refine y_putI 9 (pc := 162) dX5_takeOf_162 f_RX5_146 (by assumption) rfl (by rfl) (by omega) rfl ?_
    refine x_aload_n (pc := 165) dX5_takeOf_165 rfl ?_
    refine x_aload_n (pc := 166) dX5_takeOf_166 rfl ?_
    refine x_getF (pc := 167) dX5_takeOf_167 f_RX5_15 (by assumption) (by rfl) ?_
    refine x_iconst (pc := 170) dX5_takeOf_170 ?_
    refine x_callS2 (pc := 171) dX5_takeOf_171 (k_RX5_76 _ rfl) tms_X6_cell rfl rfl ?_
    refine c_cellIn (N := 3) (by omega) (by omega) (by assumption) (by decide) (by omega) (fun b3 => ?_)
    rw [zup_ne (by omega), zup_ne (by omega), hn2] at b3 ⊢
    dsimp only [Option.toList, List.cons_append, List.nil_append]
    refine y_putI 10 (pc := 174) dX5_takeOf_174 f_RX5_149 (by assumption) rfl (by rfl) (by omega) rfl ?_
    refine x_goto (pc := 177) 210 dX5_takeOf_177 rfl ?_
    refine x_ret (pc := 210) ⟨dX5_takeOf_210, rfl⟩ ?_
    first
      | (subst t_1
         simpa [rowAp, cRow, nms] using hq)
      | omega
  · (try simp (disch := omega) only [zb_e0, zb_n0, w32_id, w64_id, ne_eq, Classical.not_not] at t_1)
    refine x_aload_n (pc := 144) dX5_takeOf_144 rfl ?_
    refine x_iload_n (pc := 145) dX5_takeOf_145 rfl ?_
    refine x_iload (pc := 146) dX5_takeOf_146 rfl ?_
    refine x_callV2 (pc := 148) dX5_takeOf_148 (k_RX5_143 _ rfl) tmv_X3_exclude (by assumption) rfl rfl rfl ?_
    refine c_k_exclude hK0 (by omega) (by omega) (by omega) (by omega) ?_
    dsimp only [Option.toList, List.cons_append, List.nil_append]
    refine x_goto (pc := 151) 210 dX5_takeOf_151 rfl ?_
    refine x_ret (pc := 210) ⟨dX5_takeOf_210, rfl⟩ ?_
    first
      | (subst t_1
         simpa [rowAp, cRow, nms] using hq)
      | omega
  · (try simp (disch := omega) only [zb_e0, zb_n0, w32_id, w64_id, ne_eq, Classical.not_not] at t_1)
    refine x_aload_n (pc := 188) dX5_takeOf_188 rfl ?_
    refine x_iload_n (pc := 189) dX5_takeOf_189 rfl ?_
    refine y_putI 12 (pc := 190) dX5_takeOf_190 f_RX5_96 (by assumption) rfl (by rfl) (by omega) rfl ?_
    refine x_aload_n (pc := 193) dX5_takeOf_193 rfl ?_
    refine x_iload (pc := 194) dX5_takeOf_194 rfl ?_
    refine y_putI 13 (pc := 196) dX5_takeOf_196 f_RX5_152 (by assumption) rfl (by rfl) (by omega) rfl ?_
    refine x_goto (pc := 199) 210 dX5_takeOf_199 rfl ?_
    refine x_ret (pc := 210) ⟨dX5_takeOf_210, rfl⟩ ?_
    first
      | (subst t_1
         simpa [rowAp, cRow, nms] using hq)
      | omega
  · (try simp (disch := omega) only [zb_e0, zb_n0, w32_id, w64_id, ne_eq, Classical.not_not] at t_1)
    refine x_aload_n (pc := 180) dX5_takeOf_180 rfl ?_
    refine x_iload_n (pc := 181) dX5_takeOf_181 rfl ?_
    refine y_putI 11 (pc := 182) dX5_takeOf_182 f_RX5_93 (by assumption) rfl (by rfl) (by omega) rfl ?_
    refine x_goto (pc := 185) 210 dX5_takeOf_185 rfl ?_
    refine x_ret (pc := 210) ⟨dX5_takeOf_210, rfl⟩ ?_
    first
      | (subst t_1
         simpa [rowAp, cRow, nms] using hq)
      | omega
  · (try simp (disch := omega) only [zb_e0, zb_n0, w32_id, w64_id, ne_eq, Classical.not_not] at t_1)
    refine x_aload_n (pc := 202) dX5_takeOf_202 rfl ?_
    refine x_iload_n (pc := 203) dX5_takeOf_203 rfl ?_
    refine y_putI 14 (pc := 204) dX5_takeOf_204 f_RX5_99 (by assumption) rfl (by rfl) (by omega) rfl ?_
    refine x_goto (pc := 207) 210 dX5_takeOf_207 rfl ?_
    refine x_ret (pc := 210) ⟨dX5_takeOf_210, rfl⟩ ?_
    first
      | (subst t_1
         simpa [rowAp, cRow, nms] using hq)
      | omega
  · (try simp (disch := omega) only [zb_e0, zb_n0, w32_id, w64_id, ne_eq, Classical.not_not] at t_1)
    refine x_aload_n (pc := 108) dX5_takeOf_108 rfl ?_
    refine x_iload_n (pc := 109) dX5_takeOf_109 rfl ?_
    refine x_iload (pc := 110) dX5_takeOf_110 rfl ?_
    refine x_callV2 (pc := 112) dX5_takeOf_112 (k_RX5_140 _ rfl) tmv_X3_addStep (by assumption) rfl rfl rfl ?_
    refine c_k_addStep hK0 (by omega) (by omega) (by omega) ?_
    dsimp only [Option.toList, List.cons_append, List.nil_append]
    refine x_goto (pc := 115) 210 dX5_takeOf_115 rfl ?_
    refine x_ret (pc := 210) ⟨dX5_takeOf_210, rfl⟩ ?_
    first
      | (subst t_1
         simpa [rowAp, cRow, nms] using hq)
      | omega
  · (try simp (disch := omega) only [zb_e0, zb_n0, w32_id, w64_id, ne_eq, Classical.not_not] at t_1)
    refine x_aload_n (pc := 131) dX5_takeOf_131 rfl ?_
    refine x_getF (pc := 132) dX5_takeOf_132 f_RX5_115 (by assumption) (by rfl) ?_
    refine x_iload_n (pc := 135) dX5_takeOf_135 rfl ?_
    refine x_iload (pc := 136) dX5_takeOf_136 rfl ?_
    refine x_callS3 (pc := 138) dX5_takeOf_138 (k_RX5_22 _ rfl) tms_X6_put rfl rfl ?_
    refine c_put (N := 10) (by omega) (by omega) (by omega) (by assumption) (by decide) (by omega) ?_
    dsimp only [Option.toList, List.cons_append, List.nil_append]
    refine x_goto (pc := 141) 210 dX5_takeOf_141 rfl ?_
    refine x_ret (pc := 210) ⟨dX5_takeOf_210, rfl⟩ ?_
    first
      | (subst t_1
         simpa [rowAp, cRow, nms] using hq)
      | omega
  · (try simp (disch := omega) only [zb_e0, zb_n0, w32_id, w64_id, ne_eq, Classical.not_not] at t_1)
    refine x_aload_n (pc := 118) dX5_takeOf_118 rfl ?_
    refine x_getF (pc := 119) dX5_takeOf_119 f_RX5_112 (by assumption) (by rfl) ?_
    refine x_iload_n (pc := 122) dX5_takeOf_122 rfl ?_
    refine x_iload (pc := 123) dX5_takeOf_123 rfl ?_
    refine x_callS3 (pc := 125) dX5_takeOf_125 (k_RX5_22 _ rfl) tms_X6_put rfl rfl ?_
    refine c_put (N := 10) (by omega) (by omega) (by omega) (by assumption) (by decide) (by omega) ?_
    dsimp only [Option.toList, List.cons_append, List.nil_append]
    refine x_goto (pc := 128) 210 dX5_takeOf_128 rfl ?_
    refine x_ret (pc := 210) ⟨dX5_takeOf_210, rfl⟩ ?_
    first
      | (subst t_1
         simpa [rowAp, cRow, nms] using hq)
      | omega
  · (try simp (disch := omega) only [zb_e0, zb_n0, w32_id, w64_id, ne_eq, Classical.not_not] at t_1)
    refine x_ret (pc := 210) ⟨dX5_takeOf_210, rfl⟩ ?_
    first
      | (subst t_1
         simpa [rowAp, cRow, nms] using hq)
      | omega

set_option maxHeartbeats 4000000 in
set_option maxRecDepth 100000 in
theorem c_r_begin {r e k : Int} (hR : isRT ty r) (hE : isET ty e) (h4 : h r 4 = e) (hd : e + 61 < r ∨ r + 2 < e) (hk : 0 ≤ k ∧ k ≤ 9) (hq : Q none ty sz (zup (zup h r 5 (e + 2 + 6 * k)) (e + 2 + 6 * k) 0 1)) : zXM D mX5_begin (d + 1) 0 0 [rV r, iV k] ty sz h Q := by
  obtain ⟨r9, r0, r1, r2⟩ := hR
  have hE0 := hE
  obtain ⟨e9, e0, e1, e2⟩ := hE
  refine x_aload_n (pc := 0) dX5_begin_0 rfl ?_
  refine x_aload_n (pc := 1) dX5_begin_1 rfl ?_
  refine y_getR 4 (pc := 2) dX5_begin_2 f_RX5_31 (by assumption) rfl ?_
  rw [h4]
  refine x_ifnonnull (pc := 5) 12 dX5_begin_5 rfl (fun c_5 => ?_) (fun c_5 => ?_)
  · (try simp (disch := omega) only [zb_e0, zb_n0, w32_id, w64_id, ne_eq, Classical.not_not] at c_5)
    refine x_aload_n (pc := 12) dX5_begin_12 rfl ?_
    refine y_getR 4 (pc := 13) dX5_begin_13 f_RX5_31 (by assumption) rfl ?_
    rw [h4]
    refine x_iload_n (pc := 16) dX5_begin_16 rfl ?_
    refine x_callV1 (pc := 17) dX5_begin_17 (k_RX5_132 _ rfl) tmv_X1_place (by assumption) rfl rfl rfl ?_
    refine c_e_place hE0 (by omega) ?_
    dsimp only [Option.toList, List.cons_append, List.nil_append]
    refine y_putR 5 (pc := 20) dX5_begin_20 f_RX5_35 (by assumption) rfl (by rfl) rfl ?_
    refine x_aload_n (pc := 23) dX5_begin_23 rfl ?_
    refine y_getR 5 (pc := 24) dX5_begin_24 f_RX5_35 (by assumption) rfl ?_
    rw [show zup h r 5 (e + 2 + 6 * k) r 5 = e + 2 + 6 * k by simp [zup_app]]
    refine x_ifnull (pc := 27) 38 dX5_begin_27 rfl (fun c_27 => ?_) (fun c_27 => ?_)
    · (try simp (disch := omega) only [zb_e0, zb_n0, w32_id, w64_id, ne_eq, Classical.not_not] at c_27)
      omega
    · (try simp (disch := omega) only [zb_e0, zb_n0, w32_id, w64_id, ne_eq, Classical.not_not] at c_27)
      refine x_aload_n (pc := 30) dX5_begin_30 rfl ?_
      refine y_getR 5 (pc := 31) dX5_begin_31 f_RX5_35 (by assumption) rfl ?_
      rw [show zup h r 5 (e + 2 + 6 * k) r 5 = e + 2 + 6 * k by simp [zup_app]]
      refine x_iconst (pc := 34) dX5_begin_34 ?_
      refine y_putZ 0 (pc := 35) dX5_begin_35 f_RX5_136 (e2 k (by omega) (by omega)).2.1 rfl (Or.inr rfl) (by rfl) rfl ?_
      refine x_ret (pc := 38) ⟨dX5_begin_38, rfl⟩ ?_
      exact hq
  · (try simp (disch := omega) only [zb_e0, zb_n0, w32_id, w64_id, ne_eq, Classical.not_not] at c_5)
    omega

theorem RdK_snoc {h h' : zH} {r e : Int} {l : List Row} {R : Row} (hk : RdK h r e l) (ho : okRow l R) (h4 : h' r 4 = h r 4) (h5 : h' r 5 = e + 2 + 6 * ck (l ++ [R])) (ea : ∀ q, e ≤ q → q ≤ e + 61 → h' q = rowAp h (e + 2 + 6 * ck (l ++ [R])) R q) : RdK h' r e (l ++ [R]) := by
  have hW : WF (l ++ [R]) := WF_snoc.mpr ⟨hk.2.2.2, ho⟩
  have hck := ck_rng _ hW (by simp)
  have hB := okRow_B ho
  refine ⟨fun k k0 k1 => ?_, by rw [h4]; exact hk.2.1, by rw [if_neg (by simp)]; exact h5, hW⟩
  have hK := hk.1 k k0 k1
  rw [kR_snoc]
  by_cases e1 : ck (l ++ [R]) = k
  · rw [if_pos e1]
    rw [e1] at ea
    refine KindIs.fr (h := rowAp h (e + 2 + 6 * k) R) ?_ (fun q q1 q2 => ea q (by omega) (by omega))
    refine KindIs_ap hK hB (fun q hq => WF_B l hk.2.2.2 q (kR_sub k l q hq)) (fun h75 => ?_) (fun h75 => ?_)
    · have := curK_K ho h75
      rw [ck_snoc, if_pos h75] at e1
      rw [← e1]
      exact this
    · rw [ck_snoc, if_neg h75] at e1
      have hl : l ≠ [] := by
        intro q
        subst q
        have := ho.1
        unfold mayB at this
        simp at this
        exact h75 this
      have := kR_cur_ne l hl hk.2.2.2
      unfold curK at this
      rw [e1] at this
      exact this
  · rw [if_neg e1]
    refine hK.fr (fun q q1 q2 => ?_)
    rw [ea q (by omega) (by omega)]
    exact rowAp_fr h _ R q (by omega)

set_option maxHeartbeats 4000000 in
set_option maxRecDepth 100000 in
theorem c_r_take {r e c n0 n1 n2 : Int} {l : List Row} (hR : isRT ty r) (hE : isET ty e) (hd : e + 61 < r ∨ r + 2 < e) (hk : RdK h r e l) (hn : h (r + 2) 0 = n0 ∧ h (r + 2) 1 = n1 ∧ h (r + 2) 2 = n2) (hi : i10 n0) (ho : okRow l (cRow c n0 n1 n2)) (hq : ∀ h', Fr2 r e h h' → RdK h' r e (l ++ [cRow c n0 n1 n2]) → h' r 2 = h r 2 → h' r 3 = h r 3 → h' r 1 = h r 1 → h' (r + 1) = h (r + 1) → Q none ty sz h') : zXM D mX5_take (d + 3) 0 0 [rV r, iV c] ty sz h Q := by
  have hR0 := hR
  obtain ⟨r9, r0, r1, r2⟩ := hR
  have hB := okRow_B ho
  have hB1 := hB.1
  unfold isRowL cRow at hB1
  refine x_aload_n (pc := 0) dX5_take_0 rfl ?_
  refine x_getF (pc := 1) dX5_take_1 f_RX5_15 (by assumption) (by rfl) ?_
  refine x_iconst (pc := 4) dX5_take_4 ?_
  refine x_callS2 (pc := 5) dX5_take_5 (k_RX5_76 _ rfl) tms_X6_cell rfl rfl ?_
  refine c_cellIn (N := 3) (by omega) (by omega) (by assumption) (by decide) (by omega) (fun b3 => ?_)
  rw [hn.1]
  dsimp only [Option.toList, List.cons_append, List.nil_append]
  refine x_istore_n (pc := 8) dX5_take_8 (by decide) ?_
  refine x_aload_n (pc := 9) dX5_take_9 rfl ?_
  refine x_getF (pc := 10) dX5_take_10 f_RX5_15 (by assumption) (by rfl) ?_
  refine x_iconst (pc := 13) dX5_take_13 ?_
  refine x_callS2 (pc := 14) dX5_take_14 (k_RX5_76 _ rfl) tms_X6_cell rfl rfl ?_
  refine c_cellIn (N := 3) (by omega) (by omega) (by assumption) (by decide) (by omega) (fun b4 => ?_)
  rw [hn.2.1] at b4 ⊢
  dsimp only [Option.toList, List.cons_append, List.nil_append]
  refine x_istore_n (pc := 17) dX5_take_17 (by decide) ?_
  refine x_iload_n (pc := 18) dX5_take_18 rfl ?_
  refine x_bipush (pc := 19) dX5_take_19 (by decide) ?_
  refine x_icmp_ne (pc := 21) 32 dX5_take_21 rfl (fun c_21 => ?_) (fun c_21 => ?_)
  · (try simp (disch := omega) only [zb_e0, zb_n0, w32_id, w64_id, ne_eq, Classical.not_not] at c_21)
    refine x_aload_n (pc := 32) dX5_take_32 rfl ?_
    refine y_getR 5 (pc := 33) dX5_take_33 f_RX5_35 (by assumption) rfl ?_
    refine x_ifnull (pc := 36) 50 dX5_take_36 rfl (fun c_36 => ?_) (fun c_36 => ?_)
    · (try simp (disch := omega) only [zb_e0, zb_n0, w32_id, w64_id, ne_eq, Classical.not_not] at c_36)
      have hl : l ≠ [] := by
        intro q
        subst q
        have := ho.1
        unfold mayB at this
        simp [cRow] at this
        omega
      obtain ⟨h5, hck, -⟩ := hk.cur hl
      have := hE.1
      omega
    · (try simp (disch := omega) only [zb_e0, zb_n0, w32_id, w64_id, ne_eq, Classical.not_not] at c_36)
      refine x_aload_n (pc := 39) dX5_take_39 rfl ?_
      refine x_aload_n (pc := 40) dX5_take_40 rfl ?_
      refine y_getR 5 (pc := 41) dX5_take_41 f_RX5_35 (by assumption) rfl ?_
      refine x_iload_n (pc := 44) dX5_take_44 rfl ?_
      refine x_iload_n (pc := 45) dX5_take_45 rfl ?_
      refine x_iload_n (pc := 46) dX5_take_46 rfl ?_
      refine x_callV4 (pc := 47) dX5_take_47 (k_RX5_128 _ rfl) tmv_X5_takeOf (by assumption) rfl rfl rfl ?_
      have hl : l ≠ [] := by
        intro q
        subst q
        have := ho.1
        unfold mayB at this
        simp [cRow] at this
        omega
      obtain ⟨h5, hck, hKI, hcn, hBB, hne⟩ := hk.cur hl
      have hKT := hE.2.2.2 (ck l) (by omega) (by omega)
      rw [h5]
      have hm := ho.1
      have eck : ck (l ++ [cRow c n0 n1 n2]) = ck l := by rw [ck_snoc, if_neg (by exact c_21)]
      refine c_r_takeOf (n2 := n2) hR0 hKT (by omega) c_21 ⟨hi, by omega⟩ hn.2.2 hB (fun q => ?_) (fun q => ?_) ?_
      · have h1 := hKI.2.1
        unfold mayB cRow at hm
        rw [q] at hm
        simp at hm
        omega
      · have h1 := hKI.2.2.2.2.1
        have := hcn.2.1
        omega
      dsimp only [Option.toList, List.cons_append, List.nil_append]
      refine x_ret (pc := 50) ⟨dX5_take_50, rfl⟩ ?_
      first
        | (refine hq _ ?_ (RdK_snoc hk ho ?_ ?_ (fun q q1 q2 => ?_)) ?_ ?_ ?_ ?_
           · exact (Fr2.l (((Fr.rf r r h).up (by omega) (by omega))) (by omega) (by omega)).t (Fr2.r (lo := e) (hi := e + 61) ((Fr.rf _ _ _).up (by omega) (by omega)) (by omega) (by omega))
           · rw [zup_ne (by omega)]; simp [zup_app]
           · rw [zup_ne (by omega), eck]; simp [zup_app]
           · rw [eck]
             have e1 : rowAp h (e + 2 + 6 * n0) (cRow 75 n0 n1 n2) = zup h (e + 2 + 6 * n0) 0 1 := if_pos rfl
             rw [e1]
             funext j
             have : ¬ q = r := by omega
             simp [zup_app, this]
           · rw [zup_ne (by omega)]; simp [zup_app]
           · rw [zup_ne (by omega)]; simp [zup_app]
           · rw [zup_ne (by omega)]; simp [zup_app]
           · rw [zup_ne (by omega), zup_ne (by omega)])
        | (have hf := rowAp_fr h (e + 2 + 6 * ck l) (cRow c n0 n1 n2)
           refine hq _ (Fr2.r hf (by omega) (by omega)) (RdK_snoc hk ho ?_ ?_ (fun q q1 q2 => ?_)) ?_ ?_ ?_ ?_
           · rw [hf r (by omega)]
           · rw [hf r (by omega), eck]; exact h5
           · rw [eck]
           · rw [hf r (by omega)]
           · rw [hf r (by omega)]
           · rw [hf r (by omega)]
           · rw [hf (r + 1) (by omega)])
  · (try simp (disch := omega) only [zb_e0, zb_n0, w32_id, w64_id, ne_eq, Classical.not_not] at c_21)
    refine x_aload_n (pc := 24) dX5_take_24 rfl ?_
    refine x_iload_n (pc := 25) dX5_take_25 rfl ?_
    refine x_callV1 (pc := 26) dX5_take_26 (k_RX5_125 _ rfl) tmv_X5_begin (by assumption) rfl rfl rfl ?_
    subst c_21
    have h75 := hB.2.2.2.2.1 rfl
    refine c_r_begin hR0 hE hk.2.1 hd h75 ?_
    have eck : ck (l ++ [cRow 75 n0 n1 n2]) = n0 := by rw [ck_snoc]; exact if_pos rfl
    have hn0 : 0 ≤ n0 ∧ n0 ≤ 9 := h75
    dsimp only [Option.toList, List.cons_append, List.nil_append]
    refine x_goto (pc := 29) 50 dX5_take_29 rfl ?_
    refine x_ret (pc := 50) ⟨dX5_take_50, rfl⟩ ?_
    first
      | (refine hq _ ?_ (RdK_snoc hk ho ?_ ?_ (fun q q1 q2 => ?_)) ?_ ?_ ?_ ?_
         · exact (Fr2.l (((Fr.rf r r h).up (by omega) (by omega))) (by omega) (by omega)).t (Fr2.r (lo := e) (hi := e + 61) ((Fr.rf _ _ _).up (by omega) (by omega)) (by omega) (by omega))
         · rw [zup_ne (by omega)]; simp [zup_app]
         · rw [zup_ne (by omega), eck]; simp [zup_app]
         · rw [eck]
           have e1 : rowAp h (e + 2 + 6 * n0) (cRow 75 n0 n1 n2) = zup h (e + 2 + 6 * n0) 0 1 := if_pos rfl
           rw [e1]
           funext j
           have : ¬ q = r := by omega
           simp [zup_app, this]
         · rw [zup_ne (by omega)]; simp [zup_app]
         · rw [zup_ne (by omega)]; simp [zup_app]
         · rw [zup_ne (by omega)]; simp [zup_app]
         · rw [zup_ne (by omega), zup_ne (by omega)])
      | (have hf := rowAp_fr h (e + 2 + 6 * ck l) (cRow c n0 n1 n2)
         refine hq _ (Fr2.r hf (by omega) (by omega)) (RdK_snoc hk ho ?_ ?_ (fun q q1 q2 => ?_)) ?_ ?_ ?_ ?_
         · rw [hf r (by omega)]
         · rw [hf r (by omega), eck]; exact h5
         · rw [eck]
         · rw [hf r (by omega)]
         · rw [hf r (by omega)]
         · rw [hf r (by omega)]
         · rw [hf (r + 1) (by omega)])

end C12
